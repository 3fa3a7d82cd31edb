/** The bounds that the sections 1 and 4 of the document name: codes, and loading them anew. */
public final class CodesBoundsTest {
    private CodesBoundsTest() {
    }

    public static void main(String[] args) {
        fourVersions();
        twelveLines();
        lineOfTheCurrentVersion();
        lineBehindEachWayToComeToIt();
        noLineAtAll();
        noLineBehind();
        heldAbove();
        heldBelow();
        heldAtOnce();
        heldAsTaken();
        localsAtFirst();
        firstAndLastLocal();
        loopAboveZero();
        loopToItself();
        skipAtZero();
        skipNearAndFar();
        exitReasons();
        spawnModules();
        spawnLinked();
        trapOnAndOff();
        nextToTheSame();
        nextToAnEmptyOne();
        nextOverSeveral();
        loadOlderOnes();
        loadByNumbers();
        loadWholeEnds();
        loadOneThatIsOverByThen();
        loadNewOnes();
        Due.end();
    }

    private static void locals(String what, MailDen den, int... due) {
        for (int k = 0; k < due.length; k++) {
            Due.same(what + ", local " + k, due[k], den.local(0, k));
        }
    }

    private static void over(String what, MailDen den, int reason, int line) {
        Due.same(what + ": OVER", Dens.OVER, den.ofProcess(0, 2));
        Due.same(what + ": reason", reason, den.ofProcess(0, 3));
        Due.same(what + ": line", line, den.ofProcess(0, 6));
    }

    // ---- versions and lines

    private static void fourVersions() {
        MailDen den = new MailDen();
        int m = den.module();
        Due.same("at first 0 alone", 1, den.ofModule(m, 0));
        for (int version = 0; version <= 3; version++) {
            Due.same("its lines are numbered from 0", 0, den.line(m, Dens.EXIT, version, 0));
            den.start(m);
            Due.same("a process is of the last one", version, den.ofProcess(version, 1));
            den.run(1);
            Due.same("and does its lines", version, den.ofProcess(version, 3));
            if (version < 3) {
                den.load(m);
                Due.same("a new one has no lines", 0, den.ofModule(m, 1));
            }
        }
        Due.throwsIt("4 at most", Dens.STATE, () -> den.load(m));
        Due.same("4 still", 4, den.ofModule(m, 0));
        Due.same("the last one keeps its line", 1, den.ofModule(m, 1));
        int n = den.module();
        Due.same("another module has its own", 0, den.load(n));
    }

    private static void twelveLines() {
        MailDen den = new MailDen();
        int m = den.module();
        for (int k = 0; k < 12; k++) {
            Due.same("numbered from 0", k, den.line(m, Dens.ADD, 1, 0));
        }
        Due.throwsIt("12 at most", Dens.STATE, () -> den.line(m, Dens.ADD, 1, 0));
        den.start(m);
        den.run(1);
        Due.same("all twelve are done", 12, den.ofProcess(0, 5));
        Due.same("twelve were begun", 12, den.many(12));
        over("behind the twelfth", den, 0, 12);
        den.load(m);
        Due.same("the next version has twelve of its own", 0, den.line(m, Dens.ADD, 1, 0));
    }

    private static void lineOfTheCurrentVersion() {
        MailDen den = new MailDen();
        int m = Dens.written(den, "TAKE 0, ADD 1, TAKE 0");
        den.start(m);
        den.run(1);
        den.load(m);
        Due.same("a line comes to the current one alone", 0, den.line(m, Dens.ADD, 50, 0));
        den.send(0, 0, 7);
        den.run(1);
        Due.same("the older one goes on as it was", 8, den.ofProcess(0, 5));
        Due.same("it runs the older one", 0, den.ofProcess(0, 1));
        Due.same("who runs an older one bars no line", 1, den.line(m, Dens.ADD, 50, 0));
    }

    private static void noMore(String what, MailDen den, int module) {
        Due.throwsIt("no line: " + what, Dens.STATE, () -> den.line(module, Dens.ADD, 1, 0));
    }

    private static void lineBehindEachWayToComeToIt() {
        MailDen started = new MailDen();
        int m = Dens.written(started, "TAKE 0");
        started.start(m);
        noMore("started", started, m);
        started.signal(0, 9);
        noMore("also if it is OVER", started, m);
        started.load(m);
        Due.same("but to the next version", 0, started.line(m, Dens.ADD, 1, 0));

        MailDen spawned = new MailDen();
        int n = Dens.written(spawned, "TAKE 0");
        int o = Dens.written(spawned, "TAKE 0, SPAWN 0");
        spawned.start(o);
        spawned.run(1);
        Due.same("not spawned yet", 1, spawned.line(n, Dens.ADD, 1, 0));
        spawned.send(0, 0, 0);
        spawned.run(1);
        noMore("spawned", spawned, n);

        MailDen led = new MailDen();
        int p = Dens.written(led, "TAKE 0");
        Dens.spec(led, 0, 3, 9, Dens.ofModule(p, 0));
        led.supervise(0);
        noMore("a child", led, p);
        led.load(p);
        Due.same("not started again yet", 0, led.line(p, Dens.TAKE, 0, 0));
        led.signal(1, 1);
        noMore("a child that was started again", led, p);

        MailDen came = new MailDen();
        int q = Dens.written(came, "TAKE 0, NEXT");
        came.start(q);
        came.run(1);
        came.load(q);
        Due.same("it has not come to it yet", 0, came.line(q, Dens.TAKE, 0, 0));
        came.send(0, 0, 0);
        came.run(1);
        noMore("a process came to it", came, q);
    }

    private static void noLineAtAll() {
        MailDen den = new MailDen();
        den.start(den.module());
        Due.same("ready at first", Dens.READY, den.ofProcess(0, 2));
        Due.same("a turn", 1, den.run(50));
        over("a version without lines", den, 0, 0);
        Due.same("no line was begun", 0, den.many(12));
        Due.same("mean", 0.0, den.meanLines());
    }

    private static void noLineBehind() {
        MailDen den = Dens.did("ADD 1");
        over("behind the only line", den, 0, 1);
        Due.same("in the same turn", 1, den.many(11));
        MailDen wait = Dens.did("SLEEP 1");
        wait.tick(1);
        Due.same("the line at which it waited", 0, wait.ofProcess(0, 6));
        wait.run(1);
        over("behind the one at which it waited", wait, 0, 1);
        Due.same("that is begun once", 1, wait.many(12));
    }

    // ---- what there is, and locals

    /** 99 and a hundred times 99 is what it is held to. */
    private static void heldAbove() {
        MailDen den = Dens.did("ADD 99, PUT 0, ADD 99, LOOP 0 2, PUT 1, ADD 1, PUT 2, ADD -1, PUT 3, TAKE 0");
        den.run(50);
        Due.same("it waits by then", Dens.WAITS, den.ofProcess(0, 2));
        locals("held above", den, 0, 9999, 9999, 9998);
    }

    private static void heldBelow() {
        MailDen den = Dens.did(
            "ADD 99, PUT 0, ADD -99, ADD -99, LOOP 0 3, ADD -99, PUT 1, ADD -1, PUT 2, ADD 1, PUT 3, TAKE 0");
        den.run(50);
        Due.same("it waits by then", Dens.WAITS, den.ofProcess(0, 2));
        locals("held below", den, 0, -9999, -9999, -9998);
    }

    private static void heldAtOnce() {
        MailDen den = Dens.did("ADD 99, PUT 0, ADD 99, LOOP 0 2, ADD -99, PUT 1, ADD 98, PUT 2, ADD 99, PUT 3");
        den.run(50);
        locals("not above, just below, and far above", den, 0, 9900, 9998, 9999);
    }

    /** The NUMBER that WATCH brings at once is 10 times what there is, and 7; in the BOX it is not held. */
    private static void heldAsTaken() {
        MailDen den = Dens.did("TAKE 0, WATCH, ADD 1, WATCH, SLEEP 1, TAKE 2, PUT 0, TAKE 2, PUT 1");
        den.send(0, 0, 999);
        den.run(1);
        Due.same("below", 9997, den.mail(0, 0, 1));
        Due.same("above, in the box", 10007, den.mail(0, 1, 1));
        den.tick(1);
        den.run(1);
        locals("taken", den, 9997, 9999);
        MailDen low = Dens.did("TAKE 0, WATCH, ADD -2, WATCH, SLEEP 1, TAKE 2, PUT 0, TAKE 2, PUT 1");
        low.send(0, 0, -999);
        low.run(1);
        Due.same("above -9999", -9983, low.mail(0, 0, 1));
        Due.same("below -9999, in the box", -10003, low.mail(0, 1, 1));
        low.tick(1);
        low.run(1);
        locals("taken low", low, -9983, -9999);
        MailDen waited = Dens.did("ADD 99, PUT 0, ADD 99, LOOP 0 2, TRAP 1, LINK, TAKE 3");
        waited.run(50);
        Due.same("far above: in the end held", 9999, waited.ofProcess(0, 5));
        over("taken far above", waited, 0, 7);
    }

    private static void localsAtFirst() {
        MailDen den = new MailDen();
        den.start(Dens.written(den, "TAKE 0"));
        locals("0 at first", den, 0, 0, 0, 0);
        Due.same("what there is, too", 0, den.ofProcess(0, 5));
        MailDen again = new MailDen();
        int m = Dens.written(again, "ADD 4, PUT 0, PUT 3, TRAP 1, NAME 1, TAKE 0");
        again.start(m);
        again.run(1);
        again.start(m);
        Due.same("of each its own", 0, again.local(1, 3));
        Due.same("nor does it trap", 0, again.ofProcess(1, 10));
    }

    private static void firstAndLastLocal() {
        locals("put", Dens.did("ADD 1, PUT 0, ADD 1, PUT 1, ADD 1, PUT 2, ADD 1, PUT 3"), 1, 2, 3, 4);
        for (int local = 0; local <= 3; local++) {
            MailDen den = Dens.did("ADD 1, PUT 0, ADD 1, PUT 1, ADD 1, PUT 2, ADD 1, PUT 3, ADD 9, GET " + local);
            Due.same("got, whatever there was", local + 1, den.ofProcess(0, 5));
            locals("a GET changes none", den, 1, 2, 3, 4);
        }
    }

    // ---- where it goes on

    private static void loopAboveZero() {
        for (int times = -1; times <= 2; times++) {
            MailDen den = Dens.did("ADD " + times + ", PUT 0, ADD 10, LOOP 0 2, TAKE 0");
            int loops = Math.max(0, times);
            Due.same("so many loops: " + times, times + 10 + 10 * loops, den.ofProcess(0, 5));
            Due.same("what is left: " + times, Math.min(0, times), den.local(0, 0));
        }
        for (int local = 0; local <= 3; local++) {
            MailDen den = Dens.did("ADD 2, PUT " + local + ", TAKE 0, NEXT");
            den.load(0);
            Dens.write(den, 0, "ADD 10, LOOP " + local + " 0, TAKE 0");
            den.send(0, 0, 0);
            den.run(1);
            Due.same("each local, to the line 0", 30, den.ofProcess(0, 5));
            Due.same("it is used up", 0, den.local(0, local));
        }
    }

    private static void loopToItself() {
        MailDen den = Dens.did("ADD 3, PUT 2, LOOP 2 2, TAKE 0");
        Due.same("used up", 0, den.local(0, 2));
        Due.same("begun each time", 2 + 4 + 1, den.many(12));
        Due.same("then the line behind", 3, den.ofProcess(0, 6));
    }

    private static void skipAtZero() {
        Due.same("at -1", 0, Dens.did("ADD -1, SKIP 0 3, EXIT 1").ofProcess(0, 3));
        Due.same("at 0", 0, Dens.did("SKIP 0 2, EXIT 1").ofProcess(0, 3));
        Due.same("not at 1", 1, Dens.did("ADD 1, SKIP 0 3, EXIT 1").ofProcess(0, 3));
    }

    private static void skipNearAndFar() {
        Due.same("the line behind, at 0", 2, Dens.did("SKIP 0 1, EXIT 2").ofProcess(0, 3));
        Due.same("the line behind, at 1", 2, Dens.did("ADD 1, SKIP 0 2, EXIT 2").ofProcess(0, 3));
        over("far behind the last line", Dens.did("SKIP 0 12, EXIT 1"), 0, 12);
        over("just behind the last line", Dens.did("SKIP 0 2, EXIT 1"), 0, 2);
        over("to the last line", Dens.did("SKIP 0 2, EXIT 1, EXIT 3"), 3, 2);
        MailDen last = Dens.did("ADD 0, ADD 0, ADD 0, ADD 0, ADD 0, ADD 0, ADD 0, ADD 0, ADD 0, ADD 0, ADD 0, SKIP 0 12");
        over("from the last one to 12", last, 0, 12);
    }

    private static void exitReasons() {
        for (int reason = 0; reason <= 7; reason++) {
            over("EXIT " + reason, Dens.did("ADD 1, EXIT " + reason + ", ADD 1"), reason, 1);
        }
    }

    private static void spawnModules() {
        for (int there = 1; there <= 4; there++) {
            for (int module = 0; module <= 3; module++) {
                MailDen den = new MailDen();
                int m = Dens.written(den, "ADD 9, SPAWN " + module + ", TAKE 0");
                while (den.many(0) < there) {
                    den.module();
                }
                den.start(m);
                den.run(1);
                String what = there + " modules, SPAWN " + module;
                if (module < there) {
                    Due.same(what + ": there is its number", 1, den.ofProcess(0, 5));
                    Due.same(what + ": its module", module, den.ofProcess(1, 0));
                    Due.same(what + ": it goes on", Dens.WAITS, den.ofProcess(0, 2));
                    Due.same(what + ": not linked", 0, den.many(7));
                } else {
                    over(what, den, 5, 1);
                    Due.same(what + ": what there was", 9, den.ofProcess(0, 5));
                    Due.same(what + ": none came", 1, den.many(2));
                }
            }
        }
    }

    private static void spawnLinked() {
        Due.same("b 0: not", 0, Dens.did("SPAWN 0 0, TAKE 0").many(7));
        MailDen den = Dens.did("SPAWN 0 1, TAKE 0");
        Due.same("b 1: both", 2, den.ofProcess(0, 9));
        Due.same("b 1: both, too", 1, den.ofProcess(1, 9));
    }

    private static void trapOnAndOff() {
        Due.same("not at first", 0, Dens.did("TAKE 0").ofProcess(0, 10));
        Due.same("a 1", 1, Dens.did("TRAP 1, TAKE 0").ofProcess(0, 10));
        Due.same("a 1 again", 1, Dens.did("TRAP 1, TRAP 1, TAKE 0").ofProcess(0, 10));
        Due.same("a 0", 0, Dens.did("TRAP 1, TRAP 0, TAKE 0").ofProcess(0, 10));
        Due.same("at its end, not", 0, Dens.did("TRAP 1, TRAP 0").ofProcess(0, 10));
        Due.same("at its end", 1, Dens.did("TRAP 0, TRAP 1").ofProcess(0, 10));
    }

    // ---- section 4

    private static void nextToTheSame() {
        MailDen den = Dens.did("TAKE 0, ADD 1, PUT 2, TRAP 1, NAME 0, NEXT");
        den.send(0, 0, 40);
        den.run(1);
        Due.same("the same version", 0, den.ofProcess(0, 1));
        Due.same("from the line 0", 0, den.ofProcess(0, 6));
        Due.same("what there is stays", 41, den.ofProcess(0, 5));
        Due.same("locals stay", 41, den.local(0, 2));
        Due.same("it traps still", 1, den.ofProcess(0, 10));
        Due.same("it has its name", 0, den.named(0));
        Due.same("none was made", 1, den.ofModule(0, 4));
    }

    private static void nextToAnEmptyOne() {
        MailDen den = Dens.did("TAKE 0, PUT 1, NEXT, EXIT 3");
        den.load(0);
        den.send(0, 0, 6);
        den.run(1);
        over("no line there", den, 0, 0);
        Due.same("it ran that one", 1, den.ofProcess(0, 1));
        Due.same("locals stay", 6, den.local(0, 1));
        Due.same("what there is stays", 6, den.ofProcess(0, 5));
        Due.same("three lines", 3, den.many(12));
        Due.throwsIt("it came to it", Dens.STATE, () -> den.line(0, Dens.ADD, 1, 0));
    }

    /** One that WAITS at a LINE goes on with its own VERSION, and from there to the last one. */
    private static void nextOverSeveral() {
        MailDen den = new MailDen();
        int m = Dens.written(den, "TAKE 0, NEXT");
        den.start(m);
        den.load(m);
        Dens.write(den, m, "EXIT 4");
        den.run(1);
        Due.same("its own first", Dens.WAITS, den.ofProcess(0, 2));
        Due.same("older", 1, den.ofModule(m, 3));
        den.send(0, 0, 0);
        den.run(1);
        over("the current one", den, 4, 0);
    }

    private static void loadOlderOnes() {
        MailDen den = new MailDen();
        int m = Dens.written(den, "TAKE 0");
        int other = Dens.written(den, "TAKE 0");
        den.start(m);
        den.start(other);
        Due.same("those of the one that was current go on", 0, den.load(m));
        Due.same("it runs", Dens.READY, den.ofProcess(0, 2));
        den.start(m);
        Due.same("the next time the older one ENDS", 1, den.load(m));
        Due.same("with 8", 8, den.ofProcess(0, 3));
        Due.same("that of the one that was current goes on", Dens.READY, den.ofProcess(2, 2));
        Due.same("that of another module, too", Dens.READY, den.ofProcess(1, 2));
        den.start(m);
        den.start(m);
        Due.same("then that", 1, den.load(m));
        Due.same("not the newer ones", Dens.READY, den.ofProcess(4, 2));
        Due.throwsIt("no fifth", Dens.STATE, () -> den.load(m));
        Due.same("two would go, if there was one", 24, den.wouldPurge(m));

        MailDen skip = new MailDen();
        int s = Dens.written(skip, "TAKE 0, NEXT");
        skip.start(s);
        skip.run(1);
        skip.load(s);
        Dens.write(skip, s, "TAKE 0, NEXT");
        skip.send(0, 0, 0);
        skip.run(1);
        Due.same("one that came to the one that was current goes on", 0, skip.load(s));
        Due.same("till it is older, too", 1, skip.load(s));
    }

    /** A watcher sees in which order they ENDED. */
    private static void loadByNumbers() {
        MailDen den = new MailDen();
        int m = Dens.written(den, "TAKE 0");
        int w = Dens.written(den, "TAKE 0, WATCH, NEXT");
        den.start(w);
        for (int k = 1; k <= 3; k++) {
            den.start(m);
        }
        den.run(4);
        for (int k = 3; k >= 1; k--) {
            den.send(0, 0, k);
            den.run(1);
        }
        den.load(m);
        Due.same("three", 3, den.load(m));
        for (int k = 1; k <= 3; k++) {
            Due.same("by numbers", 10 * k + 8, den.mail(0, k - 1, 1));
        }
    }

    /** 1 is linked with 3, of another MODULE, which is watched: that follows ahead of the END of 2. */
    private static void loadWholeEnds() {
        MailDen den = new MailDen();
        int m = Dens.written(den, "TAKE 0, LINK, TAKE 0");
        int w = Dens.written(den, "TAKE 0, WATCH, NEXT");
        int other = Dens.written(den, "TAKE 0");
        den.start(w);
        den.start(m);
        den.start(m);
        den.start(other);
        den.run(4);
        den.send(1, 0, 3);
        for (int k = 1; k <= 3; k++) {
            den.send(0, 0, k);
            den.run(2);
        }
        Due.same("linked", 8, den.ofProcess(1, 9));
        den.load(m);
        Due.same("in all, with the linked one", 3, den.load(m));
        Due.same("first", 18, den.mail(0, 0, 1));
        Due.same("all that follows", 38, den.mail(0, 1, 1));
        Due.same("then the next", 28, den.mail(0, 2, 1));
    }

    /** 1 and 2 are CHILDREN of a SUPERVISOR that starts all again: 2 ENDS by that, and not by the LOAD. */
    private static void loadOneThatIsOverByThen() {
        MailDen den = new MailDen();
        int m = Dens.written(den, "TAKE 0");
        Dens.spec(den, 1, 1, 9, Dens.ofModule(m, 0), Dens.ofModule(m, 0));
        den.supervise(0);
        den.load(m);
        Due.same("two, once each", 2, den.load(m));
        Due.same("by the LOAD", 8, den.ofProcess(1, 3));
        Due.same("OVER by then", 5, den.ofProcess(2, 3));
        Due.same("one restart alone", 1, den.ofSupervisor(0, 5));
        Due.same("both came again", 5, den.many(2));
    }

    private static void loadNewOnes() {
        MailDen den = new MailDen();
        int m = Dens.written(den, "TAKE 0");
        Dens.spec(den, 0, 3, 9, Dens.ofModule(m, 0), Dens.ofModule(m, 0));
        den.supervise(0);
        den.load(m);
        Due.same("none of those that come by it", 2, den.load(m));
        Due.same("they run the current one", 24, den.ofModule(m, 2));
        Due.same("none runs an older one", 0, den.ofModule(m, 3));
    }
}
