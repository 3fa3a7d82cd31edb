/** The bounds that the first half of section 3 names: links, watches, ends and signals. */
public final class EndsBoundsTest {
    /** It LINKS with the numbers that it is sent. */
    private static final String LINKER = "TAKE 0, LINK, NEXT";

    /** It WATCHES the numbers that it is sent, and keeps the MAIL that comes of that. */
    private static final String WATCHER = "TAKE 0, WATCH, NEXT";

    // None of these is there, if there are two PROCESSES.
    private static final int[] NOT_THERE = {-999, -24, -2, -1, 2, 3, 23, 24, 25, 31, 32, 33, 63, 64, 999};

    private EndsBoundsTest() {
    }

    public static void main(String[] args) {
        oneLinkAtMost();
        linkWithItself();
        linkNotThere();
        linkNotThereTrapped();
        linkFirstAndLast();
        linkOver();
        linkWithSupervisor();
        unlinkWhatIsNotLinked();
        unlinkEitherSide();
        watchNotThere();
        watchOver();
        watchFirstAndLast();
        eachWatchCounts();
        fiftyWatches();
        watchOfItself();
        watchersThatAreOver();
        manyWatchers();
        endLeavesTheRow();
        endOfBoxAndNames();
        watchesAheadOfLinks();
        watchesInTheirOrder();
        linksByNumbers();
        endsInTheirOrder();
        endsAheadOfTheRestOfTheTurn();
        endReasonAlongLinks();
        reasonZeroAlongLinks();
        signalToOrdinary();
        signalToOneThatTraps();
        signalToSupervisor();
        signalToOver();
        signalLines();
        signalLineNotThere();
        signalLineToItself();
        lineOfOneThatEnds();
        Due.end();
    }

    private static void mails(String what, MailDen den, int process, int... due) {
        Due.same(what + ": so many", due.length, den.ofProcess(process, 8));
        for (int k = 0; k < due.length && k < den.ofProcess(process, 8); k++) {
            Due.same(what + ": mail " + k, due[k], den.mail(process, k, 1));
        }
    }

    /** Sends a PROCESS these numbers one by one, with a turn behind each. */
    private static void tell(MailDen den, int process, int... numbers) {
        for (int number : numbers) {
            den.send(process, 0, number);
            den.run(1);
        }
    }

    // ---- links

    private static void oneLinkAtMost() {
        MailDen den = Dens.did("ADD 1, LINK, LINK, TAKE 0", "LINK, LINK, TAKE 0");
        Due.same("one, from both sides and twice", 1, den.many(7));
        Due.same("with 1", 2, den.ofProcess(0, 9));
        Due.same("with 0", 1, den.ofProcess(1, 9));
        MailDen spawned = Dens.did("SPAWN 0 1, LINK, TAKE 0");
        Due.same("one, spawned and linked", 1, spawned.many(7));
        MailDen cut = Dens.did("ADD 1, LINK, LINK, UNLINK, TAKE 0", "TAKE 0");
        Due.same("none behind one UNLINK", 0, cut.many(7));
        cut.signal(1, 4);
        Due.same("so it goes on", Dens.WAITS, cut.ofProcess(0, 2));
        MailDen trap = Dens.did("TRAP 1, ADD 1, LINK, LINK, TAKE 0", "TAKE 0");
        trap.signal(1, 4);
        mails("one signal by it", trap, 0, 14);
    }

    private static void linkWithItself() {
        MailDen den = Dens.did("TRAP 1, LINK, TAKE 0");
        Due.same("nothing", 0, den.many(7));
        Due.same("not with itself", 0, den.ofProcess(0, 9));
        Due.same("no signal", 0, den.ofProcess(0, 8));
        MailDen other = Dens.did("TAKE 0", "ADD 1, LINK, TAKE 0");
        Due.same("it goes on", Dens.WAITS, other.ofProcess(1, 2));
        Due.same("nothing, of 1", 0, other.ofProcess(1, 9));
        Due.same("ENDS alone", 1, other.signal(1, 3));
    }

    private static void linkNotThere() {
        for (int number : NOT_THERE) {
            MailDen den = Dens.did(LINKER, "TAKE 0");
            tell(den, 0, number);
            String what = "LINK with " + number;
            Due.same(what + ": a signal 7", 7, den.ofProcess(0, 3));
            Due.same(what + ": at that line", 1, den.ofProcess(0, 6));
            Due.same(what + ": no link", 0, den.many(7));
            Due.same(what + ": the other one goes on", Dens.WAITS, den.ofProcess(1, 2));
        }
    }

    private static void linkNotThereTrapped() {
        for (int number : NOT_THERE) {
            MailDen den = Dens.did("TRAP 1, TAKE 0, LINK, SLEEP 9", "TAKE 0");
            tell(den, 0, number);
            String what = "trapped LINK with " + number;
            Due.same(what + ": it goes on", Dens.WAITS, den.ofProcess(0, 2));
            mails(what, den, 0, 10 * number + 7);
            Due.same(what + ": tag", 3, den.mail(0, 0, 0));
            Due.same(what + ": no link", 0, den.many(7));
        }
    }

    private static void linkFirstAndLast() {
        MailDen den = new MailDen();
        int m = Dens.written(den, LINKER);
        Dens.fill(den, m, 24);
        den.run(24);
        tell(den, 5, 0, 23, 4, 6);
        Due.same("with the first, the last, and those beside it", 1 | 1 << 23 | 1 << 4 | 1 << 6,
            den.ofProcess(5, 9));
        Due.same("four", 4, den.many(7));
        Due.same("all five fall", 1 | 1 << 23 | 1 << 4 | 1 << 5 | 1 << 6, den.wouldFall(23, 1));
        tell(den, 7, 24);
        Due.same("there is no 24", 7, den.ofProcess(7, 3));
    }

    private static void linkOver() {
        MailDen den = Dens.did(LINKER, "EXIT 2", "TAKE 0");
        tell(den, 0, 1);
        Due.same("a signal 7, not its reason", 7, den.ofProcess(0, 3));
        Due.same("no link", 0, den.many(7));
        MailDen trap = Dens.did("TRAP 1, TAKE 0, LINK, SLEEP 9", "EXIT 2");
        tell(trap, 0, 1);
        mails("from that number", trap, 0, 17);
    }

    private static void linkWithSupervisor() {
        MailDen den = new MailDen();
        Dens.spec(den, 0, 0, 1);
        den.supervise(0);
        den.start(Dens.written(den, "LINK, TAKE 0"));
        den.run(1);
        Due.same("it has it, too", 2, den.ofProcess(0, 9));
        Due.same("nothing to the supervisor", 1, den.signal(1, 5));
        Due.same("it goes on", Dens.WAITS, den.ofProcess(0, 2));
        Due.same("the link is gone", 0, den.ofProcess(0, 9));
        den.start(0);
        den.run(1);
        Due.same("its own end goes along", 2, den.signal(0, 9));
        Due.same("with 8", 8, den.ofProcess(2, 3));
        den.start(0);
        den.run(1);
        Due.same("no link with one that is OVER", 7, den.ofProcess(3, 3));
    }

    private static void unlinkWhatIsNotLinked() {
        for (int number : NOT_THERE) {
            MailDen den = Dens.did("SPAWN 1 1, TAKE 0, UNLINK, SLEEP 9", "TAKE 0");
            den.run(9);
            if (number != 2) {
                tell(den, 0, number);
                Due.same("UNLINK of " + number + " is nothing", Dens.WAITS, den.ofProcess(0, 2));
                Due.same("it did it", 3, den.ofProcess(0, 6));
                Due.same("no mail, none lost", 0, den.many(8) + den.many(9));
                Due.same("the link with another one stays", 4, den.ofProcess(0, 9));
            }
        }
        for (int number : new int[] {0, 1}) {
            MailDen den = Dens.did("SPAWN 1 1, TAKE 0, UNLINK, SLEEP 9", "TAKE 0");
            den.run(9);
            tell(den, 0, number);
            Due.same("UNLINK of itself, or of one that is not linked", 4, den.ofProcess(0, 9));
        }
        MailDen over = Dens.did("TRAP 1, SPAWN 1 1, PUT 0, TAKE 3, GET 0, UNLINK, SLEEP 9", "TAKE 0");
        over.signal(2, 3);
        over.run(9);
        Due.same("of one that is OVER", 6, over.ofProcess(0, 6));
        Due.same("none is left", 0, over.many(7));
    }

    private static void unlinkEitherSide() {
        MailDen den = Dens.did("ADD 1, LINK, TAKE 0", "UNLINK, TAKE 0");
        Due.same("by the other one", 0, den.many(7));
        Due.same("of both", 0, den.ofProcess(0, 9) + den.ofProcess(1, 9));
        Due.same("nor is there a watch", 0, den.ofProcess(0, 12) + den.ofProcess(1, 12));
        Due.same("alone", 1, den.signal(0, 4));
    }

    // ---- watches

    private static void watchNotThere() {
        for (int number : NOT_THERE) {
            MailDen den = Dens.did(WATCHER, "TAKE 0");
            tell(den, 0, number);
            mails("WATCH of " + number, den, 0, 10 * number + 7);
            Due.same("its tag", 2, den.mail(0, 0, 0));
            Due.same("it goes on", Dens.WAITS, den.ofProcess(0, 2));
        }
    }

    private static void watchOver() {
        MailDen den = Dens.did(WATCHER, "EXIT 2", "TAKE 0");
        tell(den, 0, 1, 1);
        mails("at once, each time, with 7", den, 0, 17, 17);
        den.signal(2, 1);
        mails("no other one", den, 0, 17, 17);
    }

    private static void watchFirstAndLast() {
        MailDen den = new MailDen();
        int m = Dens.written(den, WATCHER);
        Dens.fill(den, m, 24);
        den.run(24);
        tell(den, 5, 0, 23);
        mails("both are there", den, 5);
        tell(den, 5, 24);
        mails("there is no 24", den, 5, 247);
        den.signal(23, 3);
        den.signal(0, 4);
        mails("the last, then the first", den, 5, 247, 233, 4);
    }

    private static void eachWatchCounts() {
        for (int times = 0; times <= 9; times++) {
            MailDen den = Dens.did(WATCHER, "TAKE 0");
            for (int k = 0; k < times; k++) {
                tell(den, 0, 1);
            }
            Due.same("so many", times, den.ofProcess(1, 12));
            den.signal(1, 6);
            Due.same("each brings its mail", Math.min(8, times), den.ofProcess(0, 8));
            Due.same("but to a full box", Math.max(0, times - 8), den.many(9));
            Due.same("none of one that is OVER", 0, den.ofProcess(1, 12));
        }
    }

    /** More of them than there can be PROCESSES. */
    private static void fiftyWatches() {
        MailDen den = Dens.did("TAKE 0", "WATCH, LOOP 0 0, TAKE 0, PUT 0, GET 1, NEXT");
        for (int k = 0; k < 10; k++) {
            den.send(1, 0, 4);
            den.run(1);
        }
        Due.same("one, and ten times five", 51, den.ofProcess(0, 12));
        den.signal(0, 3);
        Due.same("eight come", 8, den.ofProcess(1, 8));
        Due.same("all others are lost", 43, den.many(9));
    }

    private static void watchOfItself() {
        MailDen den = Dens.did("WATCH, WATCH, TAKE 0");
        Due.same("it is not OVER", 2, den.ofProcess(0, 12));
        den.signal(0, 3);
        Due.same("no mail to one that is OVER", 0, den.many(8));
        Due.same("nor is any lost", 0, den.many(9));
        Due.same("none is left", 0, den.ofProcess(0, 12));
    }

    private static void watchersThatAreOver() {
        MailDen den = Dens.did("TAKE 0", "WATCH, TAKE 0", "WATCH, WATCH, TAKE 0");
        Due.same("three", 3, den.ofProcess(0, 12));
        den.signal(2, 1);
        Due.same("one by one that is not OVER", 1, den.ofProcess(0, 12));
        den.signal(0, 1);
        Due.same("none to one that is OVER, so none is lost", 0, den.many(9));
        mails("to the other one", den, 1, 1);
    }

    private static void manyWatchers() {
        MailDen den = new MailDen();
        int m = Dens.written(den, "WATCH, TAKE 0");
        Dens.fill(den, m, 24);
        den.run(24);
        Due.same("all, itself too", 24, den.ofProcess(0, 12));
        den.signal(5, 1);
        Due.same("but OVER ones", 23, den.ofProcess(0, 12));
        den.signal(0, 2);
        Due.same("one mail each", 22, den.many(8));
        Due.same("none lost", 0, den.many(9));
        mails("the last one, too", den, 23, 2);
    }

    // ---- ends

    private static void endLeavesTheRow() {
        MailDen den = new MailDen();
        int m = Dens.written(den, "TAKE 0");
        Dens.fill(den, m, 3);
        den.signal(1, 1);
        Due.same("not in the row", -1, den.ofProcess(1, 4));
        Due.same("the one behind moves up", 1, den.ofProcess(2, 4));
        Due.same("two turns", 2, den.run(50));
        MailDen wait = Dens.did("TAKE 0 3");
        wait.signal(0, 1);
        Due.same("it waits no more", -1, wait.ofProcess(0, 7));
        Due.same("nor does it wake", 0, wait.tick(9));
    }

    private static void endOfBoxAndNames() {
        MailDen den = Dens.did("NAME 0, NAME 3, ADD 8, PUT 1, TAKE 1");
        den.send(0, 0, 1);
        den.send(0, 0, 2);
        den.signal(0, 1);
        Due.same("its box is gone", 0, den.ofProcess(0, 8));
        Due.same("that is not lost", 0, den.many(9));
        Due.same("its names, the first", -1, den.named(0));
        Due.same("its names, the last", -1, den.named(3));
        Due.same("its locals stay", 8, den.local(0, 1));
        Due.same("what there was stays", 8, den.ofProcess(0, 5));
    }

    private static void watchesAheadOfLinks() {
        MailDen den = Dens.did("TRAP 1, ADD 1, LINK, WATCH, WATCH, TAKE 0", "TAKE 0");
        den.signal(1, 6);
        mails("two watches, a link", den, 0, 16, 16, 16);
        Due.same("first the watches", 2, den.mail(0, 0, 0));
        Due.same("both", 2, den.mail(0, 1, 0));
        Due.same("then the link", 3, den.mail(0, 2, 0));
        MailDen ends = Dens.did("ADD 1, LINK, WATCH, TAKE 0", "TAKE 0");
        ends.signal(1, 6);
        Due.same("by the link it ENDS, and its box is gone", 0, ends.many(8));
        Due.same("the mail of the watch came ahead of that, and is not lost", 0, ends.many(9));
    }

    private static void watchesInTheirOrder() {
        MailDen den = new MailDen();
        int target = Dens.written(den, "TAKE 0");
        int m = Dens.written(den, "TAKE 0, WATCH, TAKE 2, SLEEP 9");
        den.start(target);
        Dens.fill(den, m, 4);
        den.run(4);
        tell(den, 3, 0);
        tell(den, 1, 0);
        tell(den, 2, 0);
        den.signal(0, 1);
        Due.same("the first that came", 0, den.ofProcess(3, 4));
        Due.same("the second", 1, den.ofProcess(1, 4));
        Due.same("the third", 2, den.ofProcess(2, 4));
    }

    /** 0 is linked with 3, 1 and 2, in this order; 4 watches these. */
    private static void linksByNumbers() {
        MailDen den = Dens.did(LINKER, "TAKE 0", "TAKE 0", "TAKE 0", WATCHER);
        tell(den, 0, 3, 1, 2);
        tell(den, 4, 3, 2, 1);
        Due.same("all four", 4, den.signal(0, 5));
        mails("by the numbers of the others", den, 4, 15, 25, 35);
        Due.same("no link is left", 0, den.many(7));
    }

    /** 0 is linked with 1 and 3, and 1 with 2: 3 is OVER ahead of 2. */
    private static void endsInTheirOrder() {
        MailDen den = Dens.did(LINKER, LINKER, "TAKE 0", "TAKE 0", WATCHER);
        tell(den, 0, 1, 3);
        tell(den, 1, 2);
        tell(den, 4, 3, 2, 1, 0);
        Due.same("it would be all four", 15, den.wouldFall(2, 7));
        Due.same("all four", 4, den.signal(0, 5));
        mails("in the order in which they became OVER", den, 4, 5, 15, 35, 25);
    }

    /** 0 ENDS 1, of which the END comes back to 0 as MAIL, ahead of its next LINE. */
    private static void endsAheadOfTheRestOfTheTurn() {
        MailDen den = Dens.did("TRAP 1, SPAWN 1 1, WATCH, SIGNAL 5, TAKE 2, PUT 0, TAKE 3, PUT 1, SLEEP 9", "TAKE 0");
        Due.same("both are there at once", 8, den.ofProcess(0, 6));
        Due.same("of the watch", 25, den.local(0, 0));
        Due.same("of the link", 25, den.local(0, 1));
        MailDen killed = Dens.did("SPAWN 1 1, SIGNAL 5, ADD 50", "TAKE 0");
        Due.same("it does no further line", 2, killed.ofProcess(0, 5));
        Due.same("two lines, and one of the other", 3, killed.many(12));
    }

    private static void endReasonAlongLinks() {
        for (int reason = 1; reason <= 8; reason++) {
            MailDen den = Dens.did(LINKER, LINKER, "TAKE 0");
            tell(den, 0, 1);
            tell(den, 1, 2);
            Due.same("all three", 3, den.signal(0, reason));
            Due.same("with its reason", reason, den.ofProcess(1, 3));
            Due.same("and so on", reason, den.ofProcess(2, 3));
        }
        MailDen nine = Dens.did(LINKER, "TRAP 1, TAKE 0", "TAKE 0");
        tell(nine, 0, 1, 2);
        Due.same("9 is 8", 2, nine.signal(0, 9));
        Due.same("9 is 8 to itself", 8, nine.ofProcess(0, 3));
        Due.same("and to the other one", 8, nine.ofProcess(2, 3));
        mails("that can be trapped", nine, 1, 8);
    }

    private static void reasonZeroAlongLinks() {
        MailDen den = Dens.did("TAKE 0, LINK, TAKE 1, EXIT 0", "TAKE 0", "TRAP 1, TAKE 0");
        den.send(0, 0, 1);
        den.run(1);
        den.send(0, 1, 0);
        den.run(1);
        Due.same("0", 0, den.ofProcess(0, 3));
        Due.same("is nothing to the other one", Dens.WAITS, den.ofProcess(1, 2));
        Due.same("but the link is gone", 0, den.ofProcess(1, 9));
        MailDen trap = Dens.did("TAKE 0, LINK, TAKE 1, EXIT 0", "TRAP 1, TAKE 0");
        trap.send(0, 0, 1);
        trap.send(0, 1, 0);
        trap.run(2);
        mails("it comes as mail", trap, 1, 0);
        Due.same("with the tag 3", 3, trap.mail(1, 0, 0));
    }

    // ---- signals

    private static void signalToOrdinary() {
        for (int reason = 0; reason <= 9; reason++) {
            MailDen den = Dens.did("ADD 1, TAKE 0");
            int due = reason == 9 ? 8 : reason;
            Due.same("would fall by " + reason, reason == 0 ? 0 : 1, den.wouldFall(0, reason));
            Due.same("falls by " + reason, reason == 0 ? 0 : 1, den.signal(0, reason));
            Due.same("its reason", reason == 0 ? -1 : due, den.ofProcess(0, 3));
            Due.same("at its line", 1, den.ofProcess(0, 6));
            Due.same("no mail", 0, den.many(8) + den.many(9));
        }
    }

    private static void signalToOneThatTraps() {
        for (int reason = 0; reason <= 9; reason++) {
            MailDen den = Dens.did("TAKE 0", "TRAP 1, TAKE 0");
            int fall = reason == 9 ? 1 : 0;
            Due.same("would fall by " + reason, fall << 1, den.wouldFall(1, reason));
            Due.same("falls by " + reason, fall, den.signal(1, reason));
            if (reason == 9) {
                Due.same("9 is not trapped", 8, den.ofProcess(1, 3));
                Due.same("it did trap", 1, den.ofProcess(1, 10));
            } else {
                mails("trapped " + reason, den, 1, 10 + reason);
                Due.same("its tag", 3, den.mail(1, 0, 0));
            }
        }
    }

    private static void signalToSupervisor() {
        for (int reason = 0; reason <= 9; reason++) {
            MailDen den = new MailDen();
            Dens.spec(den, 0, 3, 9, Dens.ofModule(Dens.written(den, "TAKE 0"), 0));
            den.supervise(0);
            Due.same("would fall by " + reason, reason == 9 ? 3 : 0, den.wouldFall(0, reason));
            Due.same("falls by " + reason, reason == 9 ? 2 : 0, den.signal(0, reason));
            Due.same("its reason", reason == 9 ? 8 : -1, den.ofProcess(0, 3));
            Due.same("its child's", reason == 9 ? 5 : -1, den.ofProcess(1, 3));
            Due.same("no mail", 0, den.many(8) + den.many(9));
        }
    }

    private static void signalToOver() {
        for (int reason = 0; reason <= 9; reason++) {
            MailDen den = Dens.did("TRAP 1, EXIT 4", "TAKE 0");
            Due.same("would not fall", 0, den.wouldFall(0, reason));
            Due.same("nothing", 0, den.signal(0, reason));
            Due.same("its reason stays", 4, den.ofProcess(0, 3));
            Due.same("no mail, none lost", 0, den.many(8) + den.many(9));
        }
    }

    private static void signalLines() {
        for (int reason = 1; reason <= 9; reason++) {
            MailDen den = Dens.did("TAKE 0", "SIGNAL " + reason + ", SLEEP 9");
            Due.same("by a line", reason == 9 ? 8 : reason, den.ofProcess(0, 3));
            MailDen trap = Dens.did("TRAP 1, TAKE 0", "SIGNAL " + reason + ", SLEEP 9");
            if (reason == 9) {
                Due.same("not trapped", 8, trap.ofProcess(0, 3));
            } else {
                mails("from its own number", trap, 0, 10 + reason);
            }
            Due.same("who did it goes on", Dens.WAITS, trap.ofProcess(1, 2));
        }
    }

    private static void signalLineNotThere() {
        for (int number : NOT_THERE) {
            MailDen den = Dens.did("TRAP 1, TAKE 0, SIGNAL 9, SLEEP 9", "TAKE 0");
            tell(den, 0, number);
            Due.same("SIGNAL to " + number + " is nothing", 3, den.ofProcess(0, 6));
            Due.same("none is OVER", 0, den.many(5));
            Due.same("no mail, none lost", 0, den.many(8) + den.many(9));
        }
        MailDen over = Dens.did("EXIT 1", "TRAP 1, SIGNAL 9, SLEEP 9");
        Due.same("nor to one that is OVER", Dens.WAITS, over.ofProcess(1, 2));
    }

    private static void signalLineToItself() {
        for (int reason = 1; reason <= 9; reason++) {
            MailDen den = Dens.did("SIGNAL " + reason + ", SLEEP 9");
            Due.same("it ENDS with " + reason, reason == 9 ? 8 : reason, den.ofProcess(0, 3));
            Due.same("at that line", 0, den.ofProcess(0, 6));
            Due.same("one line", 1, den.many(12));
        }
    }

    private static void lineOfOneThatEnds() {
        MailDen waits = Dens.did("ADD 1, TAKE 0");
        waits.signal(0, 1);
        Due.same("at which it waits", 1, waits.ofProcess(0, 6));
        MailDen ready = Dens.did("ADD 1, TAKE 0");
        ready.send(0, 0, 0);
        ready.signal(0, 1);
        Due.same("at which it waited", 1, ready.ofProcess(0, 6));
        MailDen fresh = new MailDen();
        fresh.start(Dens.written(fresh, "ADD 1, TAKE 0"));
        fresh.signal(0, 1);
        Due.same("the next one of one that had no turn", 0, fresh.ofProcess(0, 6));
        Due.same("what there was", 0, fresh.ofProcess(0, 5));
        Due.same("NEXT never ENDS: the line 0 that is not there", 0, empty().ofProcess(0, 6));
        Due.same("EXIT", 2, Dens.did("ADD 0, ADD 0, EXIT 0").ofProcess(0, 6));
        Due.same("NAME", 2, Dens.did("NAME 0, TAKE 0", "ADD 0, ADD 0, NAME 0").ofProcess(1, 6));
        Due.same("CALL", 2, Dens.did("ADD 0, ADD 0, CALL 0 0").ofProcess(0, 6));
        Due.same("SPAWN", 2, Dens.did("ADD 0, ADD 0, SPAWN 1").ofProcess(0, 6));
        Due.same("LINK", 2, Dens.did("ADD 0, ADD 9, LINK").ofProcess(0, 6));
        Due.same("SIGNAL to itself", 2, Dens.did("ADD 0, ADD 0, SIGNAL 1").ofProcess(0, 6));
        Due.same("SIGNAL that comes back along a link", 2,
            Dens.did("ADD 0, SPAWN 0 1, SIGNAL 1").ofProcess(0, 6));
    }

    private static MailDen empty() {
        MailDen den = Dens.did("TAKE 0, NEXT");
        den.load(0);
        den.send(0, 0, 0);
        den.run(1);
        return den;
    }
}
