/** The bounds that the second half of section 3 names: supervisors, their children and restarts. */
public final class SupervisorBoundsTest {
    private static final int ONE = 0;
    private static final int ALL = 1;
    private static final int REST = 2;
    private static final int ALWAYS = 0;
    private static final int FAILED = 1;
    private static final int ONCE = 2;

    /** It LINKS with the numbers that it is sent. */
    private static final String LINKER = "TAKE 0, LINK, NEXT";

    /** It WATCHES the numbers that it is sent, and keeps the MAIL that comes of that. */
    private static final String WATCHER = "TAKE 0, WATCH, NEXT";

    private SupervisorBoundsTest() {
    }

    public static void main(String[] args) {
        withoutPlaces();
        oneToFourPlaces();
        fiveLevels();
        noLinks();
        current();
        startAt24();
        startJustFits();
        startOneTooMany();
        startNestedOneTooMany();
        startComesWholeFirst();
        startInnerByItsMode();
        mostByStrategy();
        withinBounds();
        withinOfSeveral();
        latelyOfOneThatIsOver();
        modesByReason();
        emptyForEver();
        one();
        allButTheEmptyOnes();
        allLastPlaceFirst();
        restFromEachPlace();
        restLastPlaceFirst();
        restWithOneAheadThatIsOver();
        restWithOneBehindThatIsOver();
        childThatIsNoneAnyMore();
        restartJustFits();
        restartWithoutRoom();
        restartOfAllWithRoomForSome();
        restartOfNestedWithRoomForSome();
        tooOftenUpwards();
        childrenAheadOfWatchesAndLinks();
        supervisorBehindWatchesAndLinks();
        eachEndWhole();
        twentyTwoRestarts();
        Due.end();
    }

    private static void children(MailDen den, String what, int supervisor, int... due) {
        for (int k = 0; k < 4; k++) {
            Due.same(what + ", place " + k, k < due.length ? due[k] : -1, den.ofSupervisor(supervisor, k + 1));
        }
    }

    private static void mails(String what, MailDen den, int process, int... due) {
        Due.same(what + ": so many", due.length, den.ofProcess(process, 8));
        for (int k = 0; k < due.length && k < den.ofProcess(process, 8); k++) {
            Due.same(what + ": mail " + k, due[k], den.mail(process, k, 1));
        }
    }

    private static void reasons(String what, MailDen den, int... due) {
        for (int k = 0; k < due.length; k++) {
            Due.same(what + ": reason of " + k, due[k], den.ofProcess(k, 3));
        }
    }

    /** Sends a PROCESS these numbers one by one, with a turn behind each. */
    private static void tell(MailDen den, int process, int... numbers) {
        for (int number : numbers) {
            den.send(process, 0, number);
            den.run(1);
        }
    }

    /** A SUPERVISOR 0 with CHILDREN of a MODULE with these LINES; each had a turn. */
    private static MailDen led(String lines, int strategy, int most, int within, int... modes) {
        MailDen den = new MailDen();
        int m = Dens.written(den, lines);
        int s = Dens.spec(den, strategy, most, within);
        for (int mode : modes) {
            den.place(s, false, m, mode);
        }
        den.supervise(s);
        den.run(50);
        return den;
    }

    private static MailDen led(int strategy, int most, int within, int... modes) {
        return led("TAKE 1", strategy, most, within, modes);
    }

    // ---- as it comes

    private static void withoutPlaces() {
        MailDen den = led(ALL, 0, 1);
        children(den, "none", 0);
        Due.same("it waits", Dens.WAITS, den.ofProcess(0, 2));
        den.tick(20);
        Due.same("for ever", 0, den.run(50));
        Due.same("8 is nothing", 0, den.signal(0, 8));
        Due.same("alone", 1, den.signal(0, 9));
        Due.same("8", 8, den.ofProcess(0, 3));
    }

    private static void oneToFourPlaces() {
        children(led(ONE, 0, 1, ALWAYS), "one", 0, 1);
        children(led(ONE, 0, 1, ALWAYS, ONCE), "two", 0, 1, 2);
        children(led(ONE, 0, 1, ALWAYS, ONCE, FAILED), "three", 0, 1, 2, 3);
        MailDen den = led(ONE, 0, 1, ALWAYS, ONCE, FAILED, ALWAYS);
        children(den, "four", 0, 1, 2, 3, 4);
        for (int k = 1; k <= 4; k++) {
            Due.same("a child of it", 0, den.ofProcess(k, 11));
        }
        Due.same("all five", 5, den.signal(0, 9));
        children(den, "no children any more", 0);
        for (int k = 1; k <= 4; k++) {
            Due.same("nor a child", -1, den.ofProcess(k, 11));
        }
    }

    private static void fiveLevels() {
        MailDen den = new MailDen();
        int m = Dens.written(den, "TAKE 0");
        Dens.spec(den, ONE, 1, 9, Dens.ofModule(m, ALWAYS));
        for (int spec = 1; spec <= 4; spec++) {
            Dens.spec(den, ONE, 1, 9, Dens.ofSpec(spec - 1, ALWAYS), Dens.ofModule(m, ALWAYS));
        }
        Due.same("its number", 0, den.supervise(4));
        for (int level = 0; level < 4; level++) {
            children(den, "its children ahead of the next one", level, level + 1, 9 - level);
        }
        children(den, "the innermost", 4, 5);
        Due.same("ten", 10, den.many(2));
        Due.same("five of them", 5, den.many(6));
        Due.same("all would fall", 1023, den.wouldFall(0, 9));
        Due.same("a whole branch, and it comes again", 4, den.signal(3, 9));
        children(den, "anew", 2, 10, 7);
        children(den, "anew, inner", 10, 11, 13);
        children(den, "anew, innermost", 11, 12);
    }

    private static void noLinks() {
        MailDen den = led(ONE, 3, 9, ALWAYS, ALWAYS);
        Due.same("none", 0, den.many(7));
        Due.same("nor of the supervisor", 0, den.ofProcess(0, 9));
        Due.same("one alone falls", 1, den.signal(1, 4));
        Due.same("none of the new one", 0, den.many(7));
        Due.same("nor watches", 0, den.ofProcess(2, 12));
    }

    private static void current() {
        MailDen den = new MailDen();
        int m = Dens.written(den, "TAKE 0");
        Dens.spec(den, ONE, 3, 9, Dens.ofModule(m, ALWAYS));
        den.load(m);
        den.supervise(0);
        Due.same("of the current version", 1, den.ofProcess(1, 1));
        den.load(m);
        den.signal(1, 1);
        Due.same("started again, too", 2, den.ofProcess(2, 1));
        Due.same("at its line 0", 0, den.ofProcess(2, 6));
    }

    // ---- 24

    private static MailDen filled(int upTo) {
        MailDen den = new MailDen();
        Dens.fill(den, Dens.written(den, "TAKE 0"), upTo);
        return den;
    }

    private static void startAt24() {
        MailDen den = filled(24);
        Dens.spec(den, ONE, 3, 9);
        Due.throwsIt("from outside", Dens.STATE, () -> den.supervise(0));
        Due.same("none is OVER by that", 0, den.many(5));
    }

    private static void startJustFits() {
        MailDen none = filled(23);
        Dens.spec(none, ONE, 3, 9);
        Due.same("the 24th, without places", 23, none.supervise(0));
        Due.same("it waits", Dens.WAITS, none.ofProcess(23, 2));
        MailDen one = filled(22);
        Dens.spec(one, ONE, 3, 9, Dens.ofModule(0, ALWAYS));
        Due.same("the 23rd, with one", 22, one.supervise(0));
        Due.same("it waits, too", Dens.WAITS, one.ofProcess(22, 2));
        children(one, "the 24th", 22, 23);
        MailDen four = filled(19);
        Dens.spec(four, ONE, 3, 9, Dens.ofModule(0, 0), Dens.ofModule(0, 0), Dens.ofModule(0, 0),
            Dens.ofModule(0, 0));
        Due.same("the 20th, with four", 19, four.supervise(0));
        children(four, "up to the 24th", 19, 20, 21, 22, 23);
        Due.same("none is OVER", 0, four.many(5));
    }

    private static void startOneTooMany() {
        MailDen one = filled(23);
        Dens.spec(one, ONE, 3, 9, Dens.ofModule(0, ALWAYS));
        Due.same("its number all the same", 23, one.supervise(0));
        Due.same("it ENDS with 5", 5, one.ofProcess(23, 3));
        children(one, "none came", 23);
        Due.same("no restart", 0, one.ofSupervisor(23, 5));
        MailDen inner = filled(23);
        Dens.spec(inner, ONE, 3, 9);
        Dens.spec(inner, ONE, 3, 9, Dens.ofSpec(0, ALWAYS));
        Due.same("its number, too", 23, inner.supervise(1));
        Due.same("a supervisor is one, too", 5, inner.ofProcess(23, 3));
        MailDen four = filled(20);
        Dens.spec(four, ONE, 3, 9, Dens.ofModule(0, 0), Dens.ofModule(0, 0), Dens.ofModule(0, 0),
            Dens.ofModule(0, 0));
        four.supervise(0);
        for (int k = 20; k < 24; k++) {
            Due.same("it, and those that came", 5, four.ofProcess(k, 3));
        }
        children(four, "no children", 20);
        Due.same("four are OVER", 4, four.many(5));
        Due.same("the others go on", 20, four.many(3));
    }

    private static void startNestedOneTooMany() {
        MailDen den = filled(21);
        Dens.spec(den, ONE, 3, 9, Dens.ofModule(0, ALWAYS), Dens.ofModule(0, ALWAYS));
        Dens.spec(den, ONE, 3, 9, Dens.ofSpec(0, ALWAYS));
        den.supervise(1);
        Due.same("the inner one ENDS", 5, den.ofProcess(22, 3));
        Due.same("what it started, too", 5, den.ofProcess(23, 3));
        Due.same("the outer one can't start it again", 5, den.ofProcess(21, 3));
        Due.same("that is a restart", 1, den.ofSupervisor(21, 5));
    }

    /** The inner one ENDS, and then the outer one, which has one more to start, ahead of a RESTART. */
    private static void startComesWholeFirst() {
        MailDen den = filled(21);
        Dens.spec(den, ONE, 3, 9, Dens.ofModule(0, ALWAYS), Dens.ofModule(0, ALWAYS));
        Dens.spec(den, ONE, 3, 9, Dens.ofSpec(0, ALWAYS), Dens.ofModule(0, ALWAYS));
        den.supervise(1);
        for (int k = 21; k < 24; k++) {
            Due.same("all three", 5, den.ofProcess(k, 3));
        }
        Due.same("no restart", 0, den.ofSupervisor(21, 5));
        MailDen once = filled(21);
        Dens.spec(once, ONE, 3, 9, Dens.ofModule(0, ONCE), Dens.ofModule(0, ONCE));
        Dens.spec(once, ONE, 3, 9, Dens.ofSpec(0, ONCE), Dens.ofModule(0, ONCE));
        once.supervise(1);
        Due.same("also if none is to be started again", 5, once.ofProcess(21, 3));
    }

    private static void startInnerByItsMode() {
        for (int mode = ALWAYS; mode <= ONCE; mode++) {
            MailDen den = filled(21);
            Dens.spec(den, ONE, 3, 9, Dens.ofModule(0, ALWAYS), Dens.ofModule(0, ALWAYS));
            Dens.spec(den, ONE, 3, 9, Dens.ofSpec(0, mode));
            den.supervise(1);
            Due.same("the outer one, mode " + mode, mode == ONCE ? Dens.WAITS : Dens.OVER, den.ofProcess(21, 2));
            children(den, "empty, mode " + mode, 21);
        }
    }

    // ---- how often

    private static void mostByStrategy() {
        for (int strategy = ONE; strategy <= REST; strategy++) {
            for (int most = 0; most <= 3; most++) {
                MailDen den = led(strategy, most, 9, ALWAYS);
                String what = "strategy " + strategy + ", most " + most;
                for (int k = 1; k <= most; k++) {
                    Due.same(what + ": a restart", 1, den.signal(k, 1));
                    children(den, what, 0, k + 1);
                    Due.same(what + ": so many", k, den.ofSupervisor(0, 6));
                }
                Due.same(what + ": would be one more", 1 | 1 << most + 1, den.wouldFall(most + 1, 1));
                Due.same(what + ": one more", 2, den.signal(most + 1, 1));
                Due.same(what + ": it ENDS with 5", 5, den.ofProcess(0, 3));
                Due.same(what + ": that counts, too", most + 1, den.ofSupervisor(0, 5));
                Due.same(what + ": that is lately, too", most + 1, den.ofSupervisor(0, 6));
                Due.same(what + ": none came", most + 2, den.many(2));
                children(den, what, 0);
            }
        }
    }

    private static void withinBounds() {
        for (int within = 1; within <= 9; within++) {
            MailDen often = led(ONE, 1, within, ALWAYS);
            often.tick(5);
            often.signal(1, 1);
            for (int k = 1; k < within; k++) {
                often.tick(1);
            }
            Due.same("lately, within " + within, 1, often.ofSupervisor(0, 6));
            Due.same("just too often, within " + within, 2, often.signal(2, 1));
            Due.same("both are lately", 2, often.ofSupervisor(0, 6));
            MailDen seldom = led(ONE, 1, within, ALWAYS);
            seldom.tick(5);
            seldom.signal(1, 1);
            for (int k = 0; k < within; k++) {
                seldom.tick(1);
            }
            Due.same("not lately, within " + within, 0, seldom.ofSupervisor(0, 6));
            Due.same("ever", 1, seldom.ofSupervisor(0, 5));
            Due.same("just not too often, within " + within, 1, seldom.signal(2, 1));
            Due.same("this one alone is lately", 1, seldom.ofSupervisor(0, 6));
            Due.same("two ever", 2, seldom.ofSupervisor(0, 5));
        }
    }

    /** RESTARTS at 0, 2 and 3, of which more than two within three are too often. */
    private static void withinOfSeveral() {
        MailDen den = led(ONE, 2, 3, ALWAYS);
        den.signal(1, 1);
        den.tick(2);
        den.signal(2, 1);
        Due.same("two", 2, den.ofSupervisor(0, 6));
        Due.same("a third at once would be too often", 9, den.wouldFall(3, 1));
        den.tick(1);
        Due.same("the first one is not above", 1, den.ofSupervisor(0, 6));
        Due.same("not too often", 1, den.signal(3, 1));
        Due.same("2 and 3", 2, den.ofSupervisor(0, 6));
        den.tick(1);
        Due.same("they are above still", 2, den.ofSupervisor(0, 6));
        Due.same("too often", 2, den.signal(4, 1));
        Due.same("four ever", 4, den.ofSupervisor(0, 5));
        MailDen other = led(ONE, 3, 9, ALWAYS);
        other.supervise(0);
        other.signal(1, 1);
        Due.same("each has its own: one", 1, other.ofSupervisor(0, 5));
        Due.same("each has its own: none", 0, other.ofSupervisor(2, 5));
    }

    private static void latelyOfOneThatIsOver() {
        MailDen den = led(ONE, 0, 2, ALWAYS);
        den.signal(1, 1);
        Due.same("that by which it ENDED", 1, den.ofSupervisor(0, 6));
        den.tick(1);
        Due.same("above still", 1, den.ofSupervisor(0, 6));
        den.tick(1);
        Due.same("not above", 0, den.ofSupervisor(0, 6));
        Due.same("ever", 1, den.ofSupervisor(0, 5));
        Due.same("its spec", 0, den.ofSupervisor(0, 0));
    }

    // ---- modes and strategies

    private static void modesByReason() {
        for (int mode = ALWAYS; mode <= ONCE; mode++) {
            for (int reason = 0; reason <= 8; reason++) {
                String lines = reason == 8 ? "TAKE 0, SIGNAL 9" : "TAKE 0, EXIT " + reason;
                MailDen den = led(lines, ONE, 3, 9, mode);
                tell(den, 1, 1);
                boolean again = mode == ALWAYS || mode == FAILED && reason != 0;
                String what = "mode " + mode + ", reason " + reason;
                Due.same(what, reason, den.ofProcess(1, 3));
                children(den, what, 0, again ? 2 : -1);
                Due.same(what + ": a restart", again ? 1 : 0, den.ofSupervisor(0, 5));
                Due.same(what + ": it goes on", Dens.WAITS, den.ofProcess(0, 2));
            }
        }
    }

    private static void emptyForEver() {
        for (int strategy = ONE; strategy <= REST; strategy++) {
            MailDen den = led(strategy, 3, 9, ALWAYS, ONCE, ALWAYS);
            den.signal(2, 1);
            children(den, "empty", 0, 1, -1, 3);
            den.signal(1, 1);
            Due.same("empty still", -1, den.ofSupervisor(0, 2));
            den.tick(20);
            den.load(0);
            den.signal(den.ofSupervisor(0, 3), 1);
            Due.same("for ever", -1, den.ofSupervisor(0, 2));
        }
        MailDen all = led(ALL, 3, 9, ONCE, ONCE);
        all.signal(1, 1);
        all.signal(2, 1);
        children(all, "all are empty", 0);
        Due.same("it goes on", Dens.WAITS, all.ofProcess(0, 2));
        Due.same("no restart", 0, all.ofSupervisor(0, 5));
    }

    private static void one() {
        for (int place = 0; place < 4; place++) {
            MailDen den = led(ONE, 3, 9, ALWAYS, ALWAYS, ALWAYS, ALWAYS);
            Due.same("one alone", 1, den.signal(place + 1, 1));
            for (int k = 0; k < 4; k++) {
                Due.same("for that place", k == place ? 5 : k + 1, den.ofSupervisor(0, k + 1));
            }
        }
    }

    private static void allButTheEmptyOnes() {
        for (int place = 0; place < 4; place++) {
            MailDen den = led(ALL, 3, 9, ALWAYS, ALWAYS, ALWAYS, ALWAYS);
            Due.same("all four", 4, den.signal(place + 1, 1));
            children(den, "in order", 0, 5, 6, 7, 8);
            for (int k = 0; k < 4; k++) {
                Due.same("the others with 5", k == place ? 1 : 5, den.ofProcess(k + 1, 3));
            }
            Due.same("one restart", 1, den.ofSupervisor(0, 5));
        }
        MailDen empty = led(ALL, 3, 9, ONCE, ALWAYS, ALWAYS, ONCE);
        empty.signal(1, 1);
        empty.signal(4, 1);
        Due.same("those that are there", 2, empty.signal(2, 1));
        children(empty, "but the empty ones, at both ends", 0, -1, 5, 6, -1);
        MailDen alone = led(ALL, 3, 9, ALWAYS);
        Due.same("of one place", 1, alone.signal(1, 1));
        children(alone, "of one place", 0, 2);
    }

    private static MailDen watched(int strategy, int... modes) {
        MailDen den = led(strategy, 3, 9, modes);
        den.start(Dens.written(den, WATCHER));
        den.run(1);
        for (int k = 1; k <= modes.length; k++) {
            tell(den, modes.length + 1, k);
        }
        return den;
    }

    private static void allLastPlaceFirst() {
        MailDen den = watched(ALL, ALWAYS, ONCE, FAILED, ALWAYS);
        den.signal(3, 1);
        mails("that of the last place first", den, 5, 31, 45, 25, 15);
        children(den, "then they are started", 0, 6, 7, 8, 9);
        MailDen end = watched(ALL, ALWAYS, ONCE, FAILED, ALWAYS);
        end.signal(0, 9);
        mails("as the supervisor ENDS, too", end, 5, 45, 35, 25, 15);
    }

    private static void restFromEachPlace() {
        for (int place = 0; place < 4; place++) {
            MailDen den = led(REST, 3, 9, ALWAYS, ALWAYS, ALWAYS, ALWAYS);
            Due.same("it and those behind", 4 - place, den.signal(place + 1, 2));
            for (int k = 0; k < 4; k++) {
                Due.same("from there on, place " + k, k < place ? k + 1 : 5 + k - place,
                    den.ofSupervisor(0, k + 1));
                Due.same("reason", k < place ? -1 : k == place ? 2 : 5, den.ofProcess(k + 1, 3));
            }
            Due.same("one restart", 1, den.ofSupervisor(0, 5));
        }
        MailDen empty = led(REST, 3, 9, ONCE, ALWAYS, ONCE, ALWAYS);
        empty.signal(1, 1);
        empty.signal(3, 1);
        empty.signal(2, 1);
        children(empty, "not the empty ones, ahead and behind", 0, -1, 5, -1, 6);
    }

    private static void restLastPlaceFirst() {
        MailDen den = watched(REST, ALWAYS, ALWAYS, ONCE, FAILED);
        den.signal(2, 1);
        mails("that of the last place first", den, 5, 21, 45, 35);
        children(den, "then they are started", 0, 1, 6, 7, 8);
    }

    /** The END of the second CHILD brings about that of the first one, whose PLACE is ahead. */
    private static void restWithOneAheadThatIsOver() {
        MailDen den = led(LINKER, REST, 3, 9, ALWAYS, ALWAYS);
        tell(den, 1, 2);
        Due.same("both, and the one that came in between", 3, den.signal(2, 4));
        reasons("one is a child still, and is dealt with then", den, -1, 4, 4, 5);
        children(den, "both anew", 0, 4, 5);
        Due.same("two restarts", 2, den.ofSupervisor(0, 5));
    }

    /** The END of the first CHILD brings about that of the second one, whose PLACE is behind. */
    private static void restWithOneBehindThatIsOver() {
        for (int mode = ALWAYS; mode <= ONCE; mode++) {
            MailDen den = led(LINKER, REST, 3, 9, ALWAYS, mode);
            tell(den, 1, 2);
            Due.same("both", 2, den.signal(1, 4));
            reasons("by its link", den, -1, 4, 4);
            children(den, "no child any more, so its place is not empty", 0, 3, 4);
            Due.same("one restart", 1, den.ofSupervisor(0, 5));
        }
    }

    private static void childThatIsNoneAnyMore() {
        MailDen all = led(LINKER, ALL, 1, 9, ALWAYS, ALWAYS, ALWAYS);
        tell(all, 1, 3);
        tell(all, 2, 3);
        Due.same("all three", 3, all.signal(2, 6));
        reasons("the last one by its link, and then the first one", all, -1, 5, 6, 6);
        children(all, "started again once", 0, 4, 5, 6);
        Due.same("one restart, so it is not too often", 1, all.ofSupervisor(0, 5));
        MailDen one = led(LINKER, ONE, 1, 9, ALWAYS, ALWAYS, ALWAYS);
        tell(one, 1, 3);
        Due.same("two restarts are too often", 5, one.signal(1, 6));
        Due.same("two", 2, one.ofSupervisor(0, 5));
        reasons("the one that came, too", one, 5, 6, 5, 6, 5);
    }

    // ---- restarts and 24

    private static void restartJustFits() {
        MailDen den = led(ONE, 3, 9, ALWAYS, ALWAYS);
        Dens.fill(den, 0, 23);
        Due.same("one", 1, den.signal(1, 1));
        children(den, "the 24th", 0, 23, 2);
        Due.same("it waits", Dens.WAITS, den.ofProcess(0, 2));
    }

    private static void restartWithoutRoom() {
        for (int strategy = ONE; strategy <= REST; strategy++) {
            MailDen den = led(strategy, 3, 9, ALWAYS, ALWAYS);
            Dens.fill(den, 0, 24);
            Due.same("it would be so", 7, den.wouldFall(2, 1));
            Due.same("all three", 3, den.signal(2, 1));
            reasons("strategy " + strategy, den, 5, 5, 1);
            Due.same("the restart counts", 1, den.ofSupervisor(0, 5));
            children(den, "none left", 0);
        }
        MailDen once = led(ONE, 3, 9, ONCE, ALWAYS);
        Dens.fill(once, 0, 24);
        Due.same("no room is needed for none", 1, once.signal(1, 1));
        Due.same("it goes on", Dens.WAITS, once.ofProcess(0, 2));
    }

    private static void restartOfAllWithRoomForSome() {
        MailDen den = led(ALL, 3, 9, ALWAYS, ALWAYS, ALWAYS);
        Dens.fill(den, 0, 22);
        Due.same("it would be so", 15 | 1 << 22 | 1 << 23, den.wouldFall(2, 1));
        Due.same("all, and the two that came", 6, den.signal(2, 1));
        Due.same("the first that came", 5, den.ofProcess(22, 3));
        Due.same("the second that came", 5, den.ofProcess(23, 3));
        Due.same("the supervisor", 5, den.ofProcess(0, 3));
        children(den, "none left", 0);
        MailDen rest = led(REST, 3, 9, ALWAYS, ALWAYS, ALWAYS);
        Dens.fill(rest, 0, 23);
        Due.same("those, the one that came, and the one ahead", 5, rest.signal(2, 1));
        Due.same("that too", 5, rest.ofProcess(1, 3));
        Due.same("it came", 5, rest.ofProcess(23, 3));
    }

    private static void restartOfNestedWithRoomForSome() {
        MailDen den = new MailDen();
        int m = Dens.written(den, "TAKE 0");
        Dens.spec(den, ONE, 3, 9, Dens.ofModule(m, ALWAYS), Dens.ofModule(m, ALWAYS));
        Dens.spec(den, ONE, 3, 9, Dens.ofSpec(0, ALWAYS));
        den.supervise(1);
        Dens.fill(den, m, 22);
        Due.same("all of them, and the two that came", 6, den.signal(1, 9));
        reasons("by then", den, 5, 8, 5, 5);
        Due.same("the inner one that came", 5, den.ofProcess(22, 3));
        Due.same("its child", 5, den.ofProcess(23, 3));
        Due.same("two restarts of the outer one", 2, den.ofSupervisor(0, 5));
        Due.same("none of the inner one", 0, den.ofSupervisor(22, 5));
    }

    private static void tooOftenUpwards() {
        MailDen den = new MailDen();
        int m = Dens.written(den, "TAKE 0");
        Dens.spec(den, ONE, 0, 9, Dens.ofModule(m, ALWAYS));
        Dens.spec(den, ONE, 0, 9, Dens.ofSpec(0, FAILED), Dens.ofModule(m, ALWAYS));
        Dens.spec(den, ONE, 1, 9, Dens.ofSpec(1, ALWAYS));
        den.supervise(2);
        Due.same("the child, the inner one, the middle one and its other child", 4, den.signal(3, 1));
        reasons("upwards", den, -1, 5, 5, 1, 5);
        children(den, "the outer one started it again", 0, 5);
        children(den, "the middle one", 5, 6, 8);
        children(den, "the inner one", 6, 7);
        Due.same("restarts of the middle one", 1, den.ofSupervisor(1, 5));
        Due.same("of the new one", 0, den.ofSupervisor(5, 5));
        Due.same("once more is too often", 5, den.signal(7, 1));
        Due.same("the outer one, too", 5, den.ofProcess(0, 3));
    }

    // ---- the order of what an END brings about

    /** 3 is linked with the SUPERVISOR 0, and 4 watches all of them. */
    private static void childrenAheadOfWatchesAndLinks() {
        MailDen den = led(ONE, 3, 9, ALWAYS, ALWAYS);
        den.start(Dens.written(den, LINKER));
        den.start(Dens.written(den, WATCHER));
        den.run(2);
        tell(den, 3, 0);
        tell(den, 4, 3, 2, 1, 0);
        Due.same("four", 4, den.signal(0, 9));
        mails("its children are OVER ahead of the linked one", den, 4, 8, 25, 15, 38);
    }

    /** 2 watches the CHILD 1, and 3 is linked with it, and traps. */
    private static void supervisorBehindWatchesAndLinks() {
        MailDen den = led(ONE, 3, 9, ALWAYS);
        den.start(Dens.written(den, "ADD 1, WATCH, TAKE 2"));
        den.start(Dens.written(den, "TRAP 1, ADD 1, LINK, TAKE 3"));
        den.run(2);
        den.signal(1, 4);
        Due.same("first the watch", 0, den.ofProcess(2, 4));
        Due.same("then the link", 1, den.ofProcess(3, 4));
        Due.same("then the supervisor", 2, den.ofProcess(4, 4));
    }

    /** The CHILDREN 1 and 3 of two SUPERVISORS are linked. */
    private static void eachEndWhole() {
        for (int first : new int[] {1, 3}) {
            MailDen den = led(LINKER, ONE, 3, 9, ALWAYS);
            den.supervise(0);
            den.run(1);
            tell(den, 1, 3);
            Due.same("both", 2, den.signal(first, 4));
            Due.same("what the first one's supervisor does comes ahead", 4, den.ofSupervisor(first - 1, 1));
            Due.same("of the second one's", 5, den.ofSupervisor(3 - first, 1));
        }
    }

    /** As many RESTARTS as there can be: each of them has a time of its own. */
    private static void twentyTwoRestarts() {
        MailDen den = led(ONE, 1, 1, ALWAYS);
        for (int k = 1; k <= 22; k++) {
            Due.same("not too often", 1, den.signal(k, 1));
            Due.same("so many ever", k, den.ofSupervisor(0, 5));
            den.tick(1);
        }
        Due.same("the last one", 23, den.ofSupervisor(0, 1));
        Due.same("no room", 2, den.signal(23, 1));
        Due.same("in all", 23, den.ofSupervisor(0, 5));
        Due.same("lately", 1, den.ofSupervisor(0, 6));
    }
}
