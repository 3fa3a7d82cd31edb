/** The bounds that the section 2 of the document names: processes, turns, mail and waiting. */
public final class MailBoundsTest {
    private MailBoundsTest() {
    }

    public static void main(String[] args) {
        twentyFour();
        spawnUpTo24();
        supervisorsCount();
        comesToTheEndOfTheRow();
        turnOfNineteen();
        turnOfTwentyThatWaits();
        turnOfTwentyThatEnds();
        turnOfTwentyOne();
        twentyThatWereBegunInIt();
        turnsTillNoneIsReady();
        boxFromOutside();
        boxBySend();
        boxByCall();
        boxByWatchAtOnce();
        boxByWatch();
        boxByTrap();
        fullBoxWakesNone();
        lostNotThere();
        lostOver();
        lostToSupervisor();
        tagsOfSend();
        tagsOfCall();
        sendToItself();
        names();
        callWithout();
        takeByTag();
        takeOfAnEmptyBox();
        takeFromAFullBox();
        takeWithoutALimit();
        takeWithALimit();
        takeAtItsLimit();
        mailOfAnotherTag();
        onceInTheRow();
        sleepBounds();
        sleepIsNotDisturbed();
        wakenByNumbers();
        wakenBehindTheRow();
        nowOverLongTimes();
        Due.end();
    }

    // ---- processes and turns

    private static void twentyFour() {
        MailDen den = new MailDen();
        int m = Dens.written(den, "TAKE 0");
        for (int k = 0; k < 24; k++) {
            Due.same("numbered from 0, as they come", k, den.start(m));
        }
        Due.throwsIt("at most 24", Dens.STATE, () -> den.start(m));
        Due.same("24", 24, den.many(2));
        Due.same("the set of all", (1 << 24) - 1, den.ofModule(m, 2));
        Due.same("all ready", 24, den.many(3));
        Due.same("all have their turn", 24, den.run(50));
        Due.same("all wait", 24, den.many(4));
        for (int k = 0; k < 24; k++) {
            den.signal(k, 9);
        }
        Due.same("all are OVER", 24, den.many(5));
        Due.throwsIt("OVER ones count", Dens.STATE, () -> den.start(m));
        Due.same("none is ready", 0, den.run(1));
    }

    private static void spawnUpTo24() {
        MailDen den = new MailDen();
        int m = Dens.written(den, "TAKE 0, SPAWN 0, PUT 0, SPAWN 0 1, TAKE 0");
        Dens.fill(den, m, 22);
        den.run(22);
        den.send(0, 0, 0);
        den.run(1);
        Due.same("the 23rd", 22, den.local(0, 0));
        Due.same("the 24th", 23, den.ofProcess(0, 5));
        Due.same("linked with it", 1 << 23, den.ofProcess(0, 9));
        den.send(1, 0, 0);
        den.run(9);
        Due.same("there are 24: it ENDS with 5", 5, den.ofProcess(1, 3));
        Due.same("at that line", 1, den.ofProcess(1, 6));
        Due.same("what there was", 0, den.ofProcess(1, 5));
        Due.same("none came", 24, den.many(2));
        MailDen odd = new MailDen();
        int n = Dens.written(odd, "TAKE 0, SPAWN 0, PUT 0, SPAWN 0 1, TAKE 0");
        Dens.fill(odd, n, 23);
        odd.run(23);
        odd.send(5, 0, 0);
        odd.run(1);
        Due.same("one came", 23, odd.local(5, 0));
        Due.same("not the second", 5, odd.ofProcess(5, 3));
        Due.same("at the second line", 3, odd.ofProcess(5, 6));
        Due.same("no link", 0, odd.many(7));
    }

    private static void supervisorsCount() {
        MailDen den = new MailDen();
        int m = Dens.written(den, "TAKE 0, SPAWN 0");
        Dens.spec(den, 0, 0, 1);
        for (int k = 0; k < 23; k++) {
            den.supervise(0);
        }
        Due.same("the 24th", 23, den.start(m));
        Due.throwsIt("no other one", Dens.STATE, () -> den.start(m));
        Due.throwsIt("no supervisor", Dens.STATE, () -> den.supervise(0));
        den.send(23, 0, 0);
        den.run(1);
        Due.same("nor by SPAWN", 5, den.ofProcess(23, 3));
    }

    private static void row(String what, MailDen den, int... due) {
        for (int k = 0; k < due.length; k++) {
            Due.same(what + ": in the row is " + due[k], k, den.ofProcess(due[k], 4));
        }
        Due.same(what + ": so many", due.length, den.many(3));
    }

    private static void comesToTheEndOfTheRow() {
        MailDen den = new MailDen();
        int child = Dens.written(den, "TAKE 0");
        int parent = Dens.written(den, "SPAWN 0, SPAWN 0, ADD 50, PUT 0, LOOP 0 4");
        Dens.spec(den, 0, 3, 9, Dens.ofModule(child, 0), Dens.ofModule(child, 0));
        den.start(parent);
        den.start(child);
        row("started", den, 0, 1);
        den.supervise(0);
        row("a supervisor is not in it, but its children", den, 0, 1, 3, 4);
        den.run(1);
        row("spawned, and behind them the one that did so", den, 1, 3, 4, 5, 6, 0);
        den.signal(3, 1);
        row("a child that was started again", den, 1, 4, 5, 6, 0, 7);
    }

    /** 2 LINES, and a LOOP that is begun so often and once more. */
    private static String linesBehind(int begun, String behind) {
        return "ADD " + (begun - 3) + ", PUT 0, LOOP 0 2" + (behind.isEmpty() ? "" : ", " + behind);
    }

    private static void turnOfNineteen() {
        MailDen den = Dens.did(linesBehind(19, ""));
        Due.same("nineteen", 19, den.many(12));
        Due.same("ENDS in the same turn", 0, den.ofProcess(0, 3));
        MailDen wait = Dens.did(linesBehind(18, "TAKE 0"));
        Due.same("nineteen, with the TAKE", 19, wait.many(12));
        Due.same("it waits", Dens.WAITS, wait.ofProcess(0, 2));
    }

    private static void turnOfTwentyThatWaits() {
        MailDen take = Dens.did(linesBehind(19, "TAKE 0"));
        Due.same("twenty", 20, take.many(12));
        Due.same("the twentieth is a TAKE: it waits", Dens.WAITS, take.ofProcess(0, 2));
        Due.same("not in the row", 0, take.run(1));
        MailDen sleep = Dens.did(linesBehind(19, "SLEEP 1"));
        Due.same("the twentieth is a SLEEP: it waits", Dens.WAITS, sleep.ofProcess(0, 2));
        Due.same("till", 1, sleep.ofProcess(0, 7));
    }

    private static void turnOfTwentyThatEnds() {
        MailDen den = Dens.did(linesBehind(19, "EXIT 3"));
        Due.same("twenty", 20, den.many(12));
        Due.same("the twentieth is an EXIT: it is OVER", 3, den.ofProcess(0, 3));
        Due.same("in one turn", 0, den.run(1));
    }

    private static void turnOfTwentyOne() {
        MailDen den = Dens.did(linesBehind(20, "EXIT 3"));
        Due.same("twenty", 20, den.many(12));
        Due.same("the one behind has to wait", Dens.READY, den.ofProcess(0, 2));
        Due.same("it is the next line", 3, den.ofProcess(0, 6));
        Due.same("a second turn", 1, den.run(50));
        Due.same("twenty-one", 21, den.many(12));
        Due.same("then", 3, den.ofProcess(0, 3));
        MailDen none = Dens.did(linesBehind(20, ""));
        Due.same("no line behind, but ready", Dens.READY, none.ofProcess(0, 2));
        Due.same("at the end of the row", 0, none.ofProcess(0, 4));
        Due.same("its next turn", 1, none.run(50));
        Due.same("ENDS with 0", 0, none.ofProcess(0, 3));
        Due.same("without a line", 20, none.many(12));
        Due.same("two turns", 2, none.many(11));
        MailDen two = new MailDen();
        int m = Dens.written(two, "NEXT");
        two.start(m);
        two.start(m);
        two.run(1);
        row("behind the other one", two, 1, 0);
        Due.same("twenty of it", 20, two.many(12));
    }

    private static void twentyThatWereBegunInIt() {
        MailDen den = Dens.did("SLEEP 1, ADD 16, PUT 0, LOOP 0 3, EXIT 1, EXIT 2");
        den.tick(1);
        den.run(1);
        Due.same("the SLEEP was begun before", 21, den.many(12));
        Due.same("the twentieth of this turn", 1, den.ofProcess(0, 3));
        MailDen more = Dens.did("SLEEP 1, ADD 17, PUT 0, LOOP 0 3, EXIT 1, EXIT 2");
        more.tick(1);
        more.run(1);
        Due.same("not the twenty-first", Dens.READY, more.ofProcess(0, 2));
        MailDen take = Dens.did("TAKE 0, PUT 0, LOOP 0 2, EXIT 1");
        take.send(0, 0, 17);
        take.run(1);
        Due.same("the TAKE was begun before, too", 1, take.ofProcess(0, 3));
        Due.same("twenty, and that", 21, take.many(12));
        MailDen had = new MailDen();
        had.start(Dens.written(had, "TAKE 0, PUT 0, LOOP 0 2, EXIT 1"));
        had.send(0, 0, 17);
        had.run(1);
        Due.same("a TAKE that had its mail is one of them", Dens.READY, had.ofProcess(0, 2));
    }

    private static void turnsTillNoneIsReady() {
        MailDen den = new MailDen();
        Due.same("an empty den", 0, den.run(50));
        int m = Dens.written(den, "TAKE 0");
        den.start(m);
        den.start(m);
        Due.same("as many as there are", 2, den.run(50));
        Due.same("none", 0, den.run(50));
        Due.same("counted so", 2, den.many(11));
        den.send(0, 0, 0);
        den.send(1, 0, 0);
        Due.same("at most", 1, den.run(1));
        Due.same("the other one is ready still", Dens.READY, den.ofProcess(1, 2));
        Due.same("and ends", 1, den.run(1));
    }

    // ---- boxes

    private static void box(String what, MailDen den, int count, int lost) {
        Due.same(what + ": in the box", count, den.ofProcess(0, 8));
        Due.same(what + ": lost", lost, den.many(9));
    }

    private static void last(String what, MailDen den, int k, int tag, int number) {
        Due.same(what + ": tag", tag, den.mail(0, k, 0));
        Due.same(what + ": number", number, den.mail(0, k, 1));
    }

    private static void sendSeven(MailDen den) {
        for (int k = 0; k < 7; k++) {
            Due.same("seven fit", true, den.send(0, k & 1, k));
        }
    }

    private static void boxFromOutside() {
        MailDen den = Dens.did("SLEEP 9");
        box("empty", den, 0, 0);
        sendSeven(den);
        Due.same("the eighth", true, den.send(0, 1, 70));
        box("full", den, 8, 0);
        Due.same("the ninth", false, den.send(0, 0, 80));
        box("still", den, 8, 1);
        Due.same("the tenth", false, den.send(0, 0, 90));
        box("each that is lost counts", den, 8, 2);
        last("the eighth is the last", den, 7, 1, 70);
        last("the first one stays", den, 0, 0, 0);
    }

    private static void boxBySend() {
        MailDen den = Dens.did("SLEEP 9", "TAKE 0, ADD -2, PUT 3, ADD -2, SEND 1, SEND 0, TAKE 0");
        sendSeven(den);
        den.send(1, 0, 4);
        den.run(1);
        box("by SEND", den, 8, 1);
        last("the first that was sent", den, 7, 1, 2);
        Due.same("who sends it goes on", Dens.WAITS, den.ofProcess(1, 2));
    }

    private static void boxByCall() {
        MailDen den = Dens.did("NAME 3, SLEEP 9", "ADD 5, CALL 3 0, ADD 1, CALL 3 0");
        box("by CALL", den, 2, 0);
        for (int k = 2; k < 7; k++) {
            den.send(0, 1, 1);
        }
        den.start(1);
        den.run(1);
        box("full by CALL", den, 8, 1);
        last("the first that was called", den, 7, 0, 5);
        Due.same("who calls goes on", 0, den.ofProcess(2, 3));
    }

    private static void boxByWatchAtOnce() {
        MailDen den = Dens.did("SLEEP 1, ADD 50, WATCH, ADD 1, WATCH, SLEEP 1");
        sendSeven(den);
        den.tick(1);
        den.run(1);
        box("by a WATCH of one that is not there", den, 8, 1);
        last("the first that was watched", den, 7, 2, 507);
    }

    private static void boxByWatch() {
        MailDen den = Dens.did("ADD 1, WATCH, WATCH, SLEEP 9", "TAKE 0");
        sendSeven(den);
        den.signal(1, 4);
        box("by two WATCHES", den, 8, 1);
        last("the first of them", den, 7, 2, 14);
    }

    private static void boxByTrap() {
        MailDen den = Dens.did("TRAP 1, SLEEP 9");
        sendSeven(den);
        Due.same("the eighth", 0, den.signal(0, 4));
        box("by a SIGNAL", den, 8, 0);
        Due.same("the ninth", 0, den.signal(0, 5));
        box("lost", den, 8, 1);
        last("the first of them", den, 7, 3, 4);
        Due.same("a 0 is lost, too", 0, den.signal(0, 0));
        box("lost, too", den, 8, 2);
    }

    private static void fullBoxWakesNone() {
        MailDen den = Dens.did("TAKE 1");
        for (int k = 0; k < 8; k++) {
            den.send(0, 0, k);
        }
        Due.same("such mail, but lost", false, den.send(0, 1, 5));
        Due.same("it waits still", Dens.WAITS, den.ofProcess(0, 2));
        Due.same("passed over", -1, den.passedOver(0, 1));
        MailDen seven = Dens.did("TAKE 1, PUT 0, TAKE 1");
        for (int k = 0; k < 7; k++) {
            seven.send(0, 0, k);
        }
        Due.same("such mail is the eighth", true, seven.send(0, 1, 5));
        Due.same("ready", Dens.READY, seven.ofProcess(0, 2));
        Due.same("it lies there till its turn", 8, seven.ofProcess(0, 8));
        seven.run(1);
        Due.same("then it is taken out", 7, seven.ofProcess(0, 8));
        Due.same("it had it", 5, seven.local(0, 0));
        Due.same("there is room for one", true, seven.send(0, 0, 7));
        Due.same("for one", false, seven.send(0, 0, 8));
    }

    // ---- lost

    private static void lostNotThere() {
        for (int number : new int[] {-9999, -1, 2, 3, 23, 24, 25, 31, 32, 64, 9999}) {
            MailDen den = Dens.did("SLEEP 9", "TAKE 0, SEND 1, TAKE 0");
            String what = "SEND to " + number + " of 2";
            if (Math.abs(number) <= 999) {
                den.send(1, 0, number);
            } else {
                den = Dens.did("SLEEP 9", farAway(number));
                den.run(50);
            }
            den.run(1);
            Due.same(what + ": lost", 1, den.many(9));
            Due.same(what + ": in no box", 0, den.many(8));
            Due.same(what + ": it goes on", Dens.WAITS, den.ofProcess(1, 2));
        }
        MailDen den = Dens.did("SLEEP 9", "ADD 1, SEND 1, TAKE 0");
        Due.same("the last one that is there is itself", 1, den.ofProcess(1, 8));
        Due.same("none lost", 0, den.many(9));
    }

    private static String farAway(int number) {
        String step = number < 0 ? "ADD -99" : "ADD 99";
        return "ADD 99, PUT 0, ADD -99, " + step + ", LOOP 0 3, " + step + ", SEND 1, TAKE 0";
    }

    private static void lostOver() {
        MailDen den = Dens.did("NAME 0, SLEEP 9", "TAKE 0, SEND 1, TAKE 0");
        Due.same("it is there", true, den.send(0, 0, 0));
        den.signal(0, 1);
        Due.same("what lay in its box is not lost", 0, den.many(9));
        Due.same("nor is it there", 0, den.many(8));
        Due.same("from outside", false, den.send(0, 0, 0));
        den.send(1, 0, 0);
        den.run(1);
        Due.same("by a SEND, too", 2, den.many(9));
        Due.same("it has no mail", 0, den.ofProcess(0, 8));
    }

    private static void lostToSupervisor() {
        MailDen den = new MailDen();
        Dens.spec(den, 0, 0, 1);
        den.supervise(0);
        int m = Dens.written(den, "SEND 0, SEND 1");
        den.start(m);
        den.run(1);
        Due.same("by SEND", 2, den.many(9));
        Due.same("from outside", false, den.send(0, 1, 999));
        Due.same("lost", 3, den.many(9));
        Due.same("it has no box", 0, den.ofProcess(0, 8));
        Due.same("it waits still", Dens.WAITS, den.ofProcess(0, 2));
    }

    // ---- SEND, CALL, NAME

    private static void tagsOfSend() {
        MailDen den = Dens.did("SLEEP 9", "SEND 0, SEND 1, ADD 9, PUT 3, ADD -9, SEND 0, SEND 1");
        int[][] due = {{0, 0}, {1, 0}, {0, 9}, {1, 9}};
        for (int k = 0; k < 4; k++) {
            last("SEND of local 3", den, k, due[k][0], due[k][1]);
        }
    }

    private static void tagsOfCall() {
        for (int name = 0; name <= 3; name++) {
            MailDen den = Dens.did("NAME " + name + ", SLEEP 9",
                "ADD 9, PUT 3, ADD 1, CALL " + name + " 0, ADD -20, CALL " + name + " 1");
            last("CALL of what there is", den, 0, 0, 10);
            last("CALL with the tag 1", den, 1, 1, -10);
        }
    }

    private static void sendToItself() {
        MailDen den = Dens.did("SEND 0, TAKE 0 5, ADD 4, NAME 2, CALL 2 1, TAKE 1, TAKE 1");
        Due.same("it had both at once", 6, den.ofProcess(0, 6));
        Due.same("the second", 4, den.ofProcess(0, 5));
        box("both are taken", den, 0, 0);
    }

    private static void names() {
        MailDen den = Dens.did("NAME 0, NAME 1, NAME 2, NAME 3, NAME 0, NAME 3, TAKE 0");
        for (int name = 0; name <= 3; name++) {
            Due.same("all of them", 0, den.named(name));
        }
        Due.same("its own again is nothing", Dens.WAITS, den.ofProcess(0, 2));
        MailDen two = Dens.did("NAME 2, TAKE 0", "NAME 1, NAME 2, NAME 3");
        Due.same("another one has that", 6, two.ofProcess(1, 3));
        Due.same("at that line", 1, two.ofProcess(1, 6));
        Due.same("who has it keeps it", 0, two.named(2));
        Due.same("the names of the other one are gone", -1, two.named(1));
        Due.same("it came to no other", -1, two.named(3));
        two.signal(0, 1);
        Due.same("gone", -1, two.named(2));
        two.start(1);
        two.run(1);
        Due.same("free again", 0, two.ofProcess(2, 3));
        Due.same("and gone", -1, two.named(2));
    }

    private static void callWithout() {
        for (int name = 0; name <= 3; name++) {
            MailDen den = Dens.did("ADD 1, CALL " + name + " 1, EXIT 1");
            Due.same("nobody has it", 6, den.ofProcess(0, 3));
            Due.same("at that line", 1, den.ofProcess(0, 6));
            Due.same("no mail is lost by that", 0, den.many(9));
        }
        MailDen gone = Dens.did("NAME 1", "CALL 1 0");
        Due.same("one that had it is OVER", 6, gone.ofProcess(1, 3));
        MailDen other = Dens.did("NAME 1, TAKE 0", "CALL 2 0");
        Due.same("another name", 6, other.ofProcess(1, 3));
    }

    // ---- TAKE

    /** In the BOX lie the TAGS 0, 1, 2, 3 and again 0, 1. */
    private static MailDen allTags(int tag) {
        MailDen den = Dens.did("TRAP 1, SLEEP 1, ADD 99, WATCH, SLEEP 1, TAKE " + tag + ", SLEEP 9");
        den.send(0, 0, 1);
        den.send(0, 1, 2);
        den.tick(1);
        den.run(1);
        den.signal(0, 4);
        den.send(0, 0, 5);
        den.send(0, 1, 6);
        den.tick(1);
        return den;
    }

    private static void takeByTag() {
        int[] place = {0, 1, 2, 3, 0};
        int[] number = {1, 2, 997, 4, 1};
        for (int tag = 0; tag <= 4; tag++) {
            MailDen den = allTags(tag);
            Due.same("passed over by a TAKE of " + tag, place[tag], den.passedOver(0, tag));
            den.run(1);
            Due.same("taken by a TAKE of " + tag, number[tag], den.ofProcess(0, 5));
            box("one less by a TAKE of " + tag, den, 5, 0);
            Due.same("the one ahead stays", place[tag] == 0 ? 1 : 0, den.mail(0, 0, 0));
            Due.same("the last one stays", 6, den.mail(0, 4, 1));
        }
    }

    private static void takeOfAnEmptyBox() {
        for (int tag = 0; tag <= 4; tag++) {
            MailDen den = Dens.did("ADD 5, TAKE " + tag);
            Due.same("it waits", Dens.WAITS, den.ofProcess(0, 2));
            Due.same("nothing is taken", 5, den.ofProcess(0, 5));
            Due.same("none is passed over", -1, den.passedOver(0, tag));
        }
    }

    private static void takeFromAFullBox() {
        MailDen den = Dens.did("SLEEP 1, TAKE 1, PUT 0, TAKE 4, PUT 1, SLEEP 1");
        for (int k = 0; k < 7; k++) {
            den.send(0, 0, 10 + k);
        }
        den.send(0, 1, 20);
        Due.same("seven are passed over", 7, den.passedOver(0, 1));
        den.tick(1);
        den.run(1);
        Due.same("the eighth", 20, den.local(0, 0));
        Due.same("then the first", 10, den.local(0, 1));
        box("two less", den, 6, 0);
        last("the one behind is the first now", den, 0, 0, 11);
        last("the last one", den, 5, 0, 16);
    }

    private static void takeWithoutALimit() {
        MailDen den = Dens.did("TAKE 0 0, EXIT 1");
        Due.same("without a limit", -1, den.ofProcess(0, 7));
        for (int k = 0; k < 6; k++) {
            Due.same("it waits on", 0, den.tick(20));
        }
        Due.same("it waits still", Dens.WAITS, den.ofProcess(0, 2));
    }

    private static void takeWithALimit() {
        for (int limit = 1; limit <= 9; limit++) {
            MailDen den = Dens.did("ADD 7, TAKE 3 " + limit + ", SLEEP 9");
            Due.same("till", limit, den.ofProcess(0, 7));
            for (int k = 1; k < limit; k++) {
                Due.same("not yet", 0, den.tick(1));
            }
            Due.same("it waits just ahead of it", Dens.WAITS, den.ofProcess(0, 2));
            Due.same("at its limit", 1, den.tick(1));
            Due.same("ready", Dens.READY, den.ofProcess(0, 2));
            Due.same("no limit any more", -1, den.ofProcess(0, 7));
            Due.same("what there is till its turn", 7, den.ofProcess(0, 5));
            Due.same("at that line till its turn", 1, den.ofProcess(0, 6));
            den.run(1);
            Due.same("-1 without one", -1, den.ofProcess(0, 5));
            Due.same("it went on", 2, den.ofProcess(0, 6));
        }
        MailDen later = new MailDen();
        later.tick(20);
        later.start(Dens.written(later, "TAKE 0 9"));
        later.tick(3);
        later.run(1);
        Due.same("from NOW on", 32, later.ofProcess(0, 7));
    }

    /** MAIL that comes as it is READY by its limit, but ahead of its turn, is had. */
    private static void takeAtItsLimit() {
        MailDen den = Dens.did("TAKE 1 2, PUT 0, TAKE 1, PUT 1, TAKE 1");
        den.tick(2);
        den.send(0, 0, 4);
        den.send(0, 1, 5);
        den.send(0, 1, 6);
        den.run(1);
        Due.same("the first such mail", 5, den.local(0, 0));
        Due.same("the second one by the next TAKE", 6, den.local(0, 1));
        MailDen other = Dens.did("TAKE 1 2, PUT 0, TAKE 0, PUT 1, TAKE 1");
        other.tick(2);
        other.send(0, 0, 4);
        other.run(1);
        Due.same("not by other mail", -1, other.local(0, 0));
        Due.same("that stays", 4, other.local(0, 1));
        MailDen early = Dens.did("TAKE 1 2, TAKE 1 9");
        early.tick(1);
        early.send(0, 1, 5);
        Due.same("no limit once it is ready", -1, early.ofProcess(0, 7));
        Due.same("nor is it ready twice", 0, early.tick(1));
        early.run(1);
        Due.same("the next limit is from NOW on", 11, early.ofProcess(0, 7));
    }

    private static void mailOfAnotherTag() {
        for (int tag = 0; tag <= 1; tag++) {
            MailDen den = Dens.did("TAKE " + tag);
            den.send(0, 1 - tag, 1);
            Due.same("another tag", Dens.WAITS, den.ofProcess(0, 2));
            den.send(0, tag, 1);
            Due.same("that tag", Dens.READY, den.ofProcess(0, 2));
            MailDen any = Dens.did("TAKE 4");
            any.send(0, tag, 1);
            Due.same("any tag", Dens.READY, any.ofProcess(0, 2));
        }
        MailDen trap = Dens.did("TRAP 1, TAKE 2");
        trap.signal(0, 1);
        Due.same("a signal is none of a WATCH", Dens.WAITS, trap.ofProcess(0, 2));
        MailDen watch = Dens.did("ADD 1, WATCH, TAKE 3", "TAKE 0");
        watch.signal(1, 1);
        Due.same("nor that of a WATCH one of a signal", Dens.WAITS, watch.ofProcess(0, 2));
        MailDen both = Dens.did("TRAP 1, ADD 1, WATCH, TAKE 2, TAKE 3", "TAKE 0");
        both.signal(1, 3);
        Due.same("that of a WATCH", Dens.READY, both.ofProcess(0, 2));
        both.run(1);
        both.signal(0, 4);
        Due.same("that of a signal", Dens.READY, both.ofProcess(0, 2));
    }

    private static void onceInTheRow() {
        MailDen den = Dens.did("TAKE 4, TAKE 4, TAKE 4", "TAKE 4");
        den.send(0, 0, 0);
        den.send(1, 0, 0);
        den.send(0, 0, 0);
        row("as the first such mail came", den, 0, 1);
    }

    // ---- SLEEP and NOW

    private static void sleepBounds() {
        for (int time = 1; time <= 9; time++) {
            MailDen den = Dens.did("ADD 7, SLEEP " + time + ", SLEEP 9");
            Due.same("till", time, den.ofProcess(0, 7));
            for (int k = 1; k < time; k++) {
                Due.same("not yet", 0, den.tick(1));
            }
            Due.same("it waits just ahead of it", Dens.WAITS, den.ofProcess(0, 2));
            Due.same("then", 1, den.tick(1));
            Due.same("at that line till its turn", 1, den.ofProcess(0, 6));
            Due.same("ready till its turn", 0, den.tick(1));
            den.run(1);
            Due.same("what there is stays", 7, den.ofProcess(0, 5));
            Due.same("from NOW on", time + 1 + 9, den.ofProcess(0, 7));
        }
    }

    private static void sleepIsNotDisturbed() {
        MailDen den = Dens.did("TRAP 1, ADD 1, WATCH, SLEEP 2, TAKE 4, SLEEP 9", "TAKE 0");
        den.send(0, 0, 9);
        den.send(0, 1, 9);
        den.signal(0, 3);
        den.signal(1, 3);
        Due.same("by no mail", Dens.WAITS, den.ofProcess(0, 2));
        Due.same("till", 2, den.ofProcess(0, 7));
        den.tick(2);
        Due.same("what there is stays", 1, den.ofProcess(0, 5));
        box("all is there", den, 4, 0);
        den.run(1);
        box("one is taken", den, 3, 0);
    }

    private static void wakenByNumbers() {
        MailDen den = new MailDen();
        int two = Dens.written(den, "SLEEP 2, SLEEP 9");
        int take = Dens.written(den, "TAKE 0 1, SLEEP 9");
        int one = Dens.written(den, "SLEEP 1, SLEEP 9");
        den.start(two);
        den.start(two);
        den.run(2);
        den.tick(1);
        den.start(one);
        den.start(take);
        den.start(one);
        den.run(3);
        Due.same("all at the same time", 5, den.tick(1));
        row("by numbers, whenever they began", den, 0, 1, 2, 3, 4);
        MailDen times = new MailDen();
        int late = Dens.written(times, "SLEEP 3");
        int early = Dens.written(times, "SLEEP 1");
        times.start(late);
        times.start(early);
        times.start(late);
        times.start(early);
        times.run(4);
        Due.same("by one call", 4, times.tick(3));
        row("first by their times", times, 1, 3, 0, 2);
    }

    private static void wakenBehindTheRow() {
        MailDen den = Dens.did("SLEEP 1, TAKE 0", "TAKE 0, TAKE 0");
        den.start(1);
        den.send(1, 0, 0);
        den.tick(1);
        row("behind those that were ready", den, 2, 1, 0);
    }

    private static void nowOverLongTimes() {
        MailDen den = new MailDen();
        Due.same("0 at first", 0, den.many(10));
        for (int k = 1; k <= 400; k++) {
            den.tick(20);
        }
        Due.same("far on", 8000, den.many(10));
        den.start(Dens.written(den, "SLEEP 9, EXIT 2"));
        den.run(1);
        Due.same("till", 8009, den.ofProcess(0, 7));
        Due.same("it wakes", 1, den.tick(20));
        den.run(1);
        Due.same("and ends", 2, den.ofProcess(0, 3));
    }
}
