import java.math.BigInteger;

/** What promises 7 and 14 to 25 answer where there is none, one, or as many as there can be. */
public final class AnswersBoundsTest {
    private static final int ALL_24 = (1 << 24) - 1;

    private AnswersBoundsTest() {
    }

    public static void main(String[] args) {
        ofModuleSets();
        ofModuleOfTwo();
        ofModuleOver();
        rowOf24();
        linksOf24();
        boxesOf24();
        supervisorsOf24();
        manyOfNone();
        manyModulesAndSpecs();
        ofProcessNone();
        ofProcessOfSupervisor();
        childOfNone();
        ofSupervisorOfOthers();
        localsOfSupervisor();
        mailOfNone();
        namedNone();
        meanOfNone();
        meanNotCut();
        wouldFallSets();
        wouldFallOfThoseThatCome();
        wouldPurgeSets();
        wouldPurgeWithFourVersions();
        overByWithThoseThatAreOver();
        overByTicksAndTurns();
        overByOfThoseThatCome();
        passedOverBounds();
        digestOfNone();
        digestWraps();
        digestOfOne();
        digestTellsOverBy();
        askingChangesNothing();
        Due.end();
    }

    // ---- sets, and as many as there can be

    private static MailDen of24(String lines) {
        MailDen den = new MailDen();
        Dens.fill(den, Dens.written(den, lines), 24);
        return den;
    }

    private static void ofModuleSets() {
        MailDen den = new MailDen();
        int m = Dens.written(den, "TAKE 0");
        int none = den.module();
        int[] unused = {1, 0, 0, 0, 0};
        for (int what = 0; what <= 4; what++) {
            Due.same("none of it, what " + what, unused[what], den.ofModule(none, what));
        }
        Dens.fill(den, m, 24);
        Due.same("all of it", ALL_24, den.ofModule(m, 2));
        Due.same("none is older", 0, den.ofModule(m, 3));
        Due.same("made", 24, den.ofModule(m, 4));
        den.load(m);
        Due.same("none is of the current one", 0, den.ofModule(m, 2));
        Due.same("all are older", ALL_24, den.ofModule(m, 3));
        Due.same("two versions", 2, den.ofModule(m, 0));
        Due.same("without lines", 0, den.ofModule(m, 1));
        for (int k = 0; k < 12; k++) {
            den.line(m, Dens.ADD, 1, 0);
        }
        Due.same("twelve lines", 12, den.ofModule(m, 1));
        Due.same("all would go", ALL_24, den.wouldPurge(m));
        Due.same("all go", 24, den.load(m));
        Due.same("none", 0, den.ofModule(m, 3));
        Due.same("made ever", 24, den.ofModule(m, 4));
    }

    private static void ofModuleOfTwo() {
        MailDen den = Dens.did("TAKE 0", "TAKE 1", "TAKE 0", "TAKE 1", "TAKE 1");
        Due.same("of the first", 5, den.ofModule(0, 2));
        Due.same("of the second", 26, den.ofModule(1, 2));
        den.load(0);
        Due.same("older ones of the first", 5, den.ofModule(0, 3));
        Due.same("none of the second", 0, den.ofModule(1, 3));
        den.start(0);
        den.load(1);
        Due.same("the current one of the first", 32, den.ofModule(0, 2));
        Due.same("older ones of the second", 26, den.ofModule(1, 3));
        Due.same("made of the first", 3, den.ofModule(0, 4));
        Due.same("made of the second", 3, den.ofModule(1, 4));
    }

    private static void ofModuleOver() {
        MailDen den = of24("TAKE 0");
        den.signal(0, 1);
        den.signal(23, 1);
        Due.same("OVER ones are not in it", ALL_24 - 1 - (1 << 23), den.ofModule(0, 2));
        Due.same("but made", 24, den.ofModule(0, 4));
        den.load(0);
        den.signal(5, 1);
        Due.same("nor among the older ones", ALL_24 - 1 - (1 << 23) - (1 << 5), den.ofModule(0, 3));
    }

    private static void rowOf24() {
        MailDen den = of24("NEXT");
        Due.same("the first", 0, den.ofProcess(0, 4));
        Due.same("the last", 23, den.ofProcess(23, 4));
        den.run(1);
        Due.same("it goes to the end", 23, den.ofProcess(0, 4));
        Due.same("the second is first", 0, den.ofProcess(1, 4));
        den.run(23);
        Due.same("once round", 0, den.ofProcess(0, 4));
        den.signal(11, 9);
        Due.same("those behind move up", 22, den.ofProcess(23, 4));
    }

    /** Each LINKS with 23 down to 0. */
    private static void linksOf24() {
        MailDen den = of24("ADD 23, PUT 0, GET 0, LINK, LOOP 0 2, TAKE 0");
        den.run(50);
        den.run(50);
        Due.same("all wait", 24, den.many(4));
        Due.same("each with each", 24 * 23 / 2, den.many(7));
        for (int k = 0; k < 24; k++) {
            Due.same("with all but itself", ALL_24 - (1 << k), den.ofProcess(k, 9));
        }
        Due.same("all would fall", ALL_24, den.wouldFall(23, 1));
        Due.same("none by 0", 0, den.wouldFall(23, 0));
        Due.same("all fall", 24, den.signal(0, 8));
        Due.same("no links", 0, den.many(7));
        Due.same("all with the same", 8, den.ofProcess(23, 3));
    }

    private static void boxesOf24() {
        MailDen den = of24("SLEEP 9");
        den.run(24);
        for (int k = 0; k < 24; k++) {
            for (int mail = 0; mail < 8; mail++) {
                den.send(k, mail & 1, 10 * k + mail);
            }
        }
        Due.same("24 times 8", 192, den.many(8));
        Due.same("none lost", 0, den.many(9));
        Due.same("the last of the last", 237, den.mail(23, 7, 1));
        for (int k = 0; k < 24; k++) {
            den.send(k, 0, 0);
        }
        Due.same("still", 192, den.many(8));
        Due.same("24 are lost", 24, den.many(9));
        den.signal(0, 9);
        den.signal(23, 9);
        Due.same("without the first and the last", 176, den.many(8));
    }

    private static void supervisorsOf24() {
        MailDen den = new MailDen();
        Dens.spec(den, 0, 0, 1);
        for (int k = 0; k < 24; k++) {
            den.supervise(0);
        }
        Due.same("supervisors", 24, den.many(6));
        Due.same("all wait", 24, den.many(4));
        Due.same("mean of none", 0.0, den.meanLines());
        for (int k = 0; k < 24; k++) {
            den.signal(k, 9);
        }
        Due.same("all are OVER", 24, den.many(5));
        Due.same("supervisors still", 24, den.many(6));
        Due.same("none waits", 0, den.many(4));
    }

    private static void manyOfNone() {
        MailDen den = new MailDen();
        for (int what = 0; what <= 12; what++) {
            Due.same("none, what " + what, 0, den.many(what));
        }
    }

    private static void manyModulesAndSpecs() {
        MailDen den = new MailDen();
        for (int k = 1; k <= 4; k++) {
            den.module();
            Due.same("modules", k, den.many(0));
        }
        for (int k = 1; k <= 5; k++) {
            den.spec(0, 0, 1);
            Due.same("specs", k, den.many(1));
        }
        Due.same("no more modules", 4, den.many(0));
    }

    // ---- NONE

    private static void ofProcessNone() {
        MailDen den = Dens.did("TAKE 0", "TAKE 0 4", "NEXT", "EXIT 0");
        int[] row = {-1, -1, 0, -1};
        int[] till = {-1, 4, -1, -1};
        int[] reason = {-1, -1, -1, 0};
        for (int k = 0; k < 4; k++) {
            Due.same("its place in the row", row[k], den.ofProcess(k, 4));
            Due.same("till when it waits", till[k], den.ofProcess(k, 7));
            Due.same("its reason", reason[k], den.ofProcess(k, 3));
            Due.same("it is no child", -1, den.ofProcess(k, 11));
        }
    }

    private static void ofProcessOfSupervisor() {
        MailDen den = new MailDen();
        Dens.spec(den, 0, 0, 1);
        den.supervise(0);
        int[] waits = {-1, -1, 1, -1, -1, 0, -1, -1, 0, 0, 0, -1, 0};
        int[] over = {-1, -1, 2, 8, -1, 0, -1, -1, 0, 0, 0, -1, 0};
        for (int what = 0; what <= 12; what++) {
            Due.same("it waits, what " + what, waits[what], den.ofProcess(0, what));
        }
        den.signal(0, 9);
        for (int what = 0; what <= 12; what++) {
            Due.same("it is OVER, what " + what, over[what], den.ofProcess(0, what));
        }
    }

    private static void childOfNone() {
        MailDen den = new MailDen();
        int m = Dens.written(den, "SPAWN 0, TAKE 0");
        Dens.spec(den, 0, 3, 9, Dens.ofModule(m, 0));
        den.supervise(0);
        den.run(1);
        Due.same("a child", 0, den.ofProcess(1, 11));
        Due.same("one that a child spawned is none", -1, den.ofProcess(2, 11));
        Due.same("a supervisor from outside is none", -1, den.ofProcess(0, 11));
        den.signal(1, 1);
        Due.same("nor is one that is OVER", -1, den.ofProcess(1, 11));
        Due.same("the new one", 0, den.ofProcess(3, 11));
        den.signal(0, 9);
        Due.same("none of one that is OVER", -1, den.ofProcess(3, 11));
    }

    private static void ofSupervisorOfOthers() {
        MailDen den = Dens.did("TAKE 0", "EXIT 1");
        for (int what = 0; what <= 6; what++) {
            Due.same("of another one, what " + what, -1, den.ofSupervisor(0, what));
            Due.same("of another one that is OVER, what " + what, -1, den.ofSupervisor(1, what));
        }
        Dens.spec(den, 0, 0, 1);
        int[] due = {0, -1, -1, -1, -1, 0, 0};
        den.supervise(0);
        for (int what = 0; what <= 6; what++) {
            Due.same("without places, what " + what, due[what], den.ofSupervisor(2, what));
        }
        den.signal(2, 9);
        for (int what = 0; what <= 6; what++) {
            Due.same("OVER, what " + what, due[what], den.ofSupervisor(2, what));
        }
        while (den.many(1) < 5) {
            Dens.spec(den, 0, 0, 1);
        }
        Due.same("the last spec", 4, den.ofSupervisor(den.supervise(4), 0));
    }

    private static void localsOfSupervisor() {
        MailDen den = new MailDen();
        Dens.spec(den, 0, 0, 1);
        den.supervise(0);
        for (int local = 0; local <= 3; local++) {
            Due.same("0", 0, den.local(0, local));
        }
    }

    private static void mailOfNone() {
        MailDen den = Dens.did("SLEEP 9");
        Due.throwsIt("no mail", Dens.INDEX, () -> den.mail(0, 0, 0));
        Due.throwsIt("no mail, and what 2", Dens.INDEX, () -> den.mail(0, 0, 2));
        den.send(0, 1, 5);
        Due.same("one: tag", 1, den.mail(0, 0, 0));
        Due.same("one: number", 5, den.mail(0, 0, 1));
        Due.throwsIt("no second", Dens.INDEX, () -> den.mail(0, 1, 0));
        den.signal(0, 9);
        Due.throwsIt("gone", Dens.INDEX, () -> den.mail(0, 0, 0));
    }

    private static void namedNone() {
        MailDen den = Dens.did("NAME 1, TAKE 0", "NAME 0, NAME 2, NAME 3, TAKE 0");
        int[] due = {1, 0, 1, 1};
        for (int name = 0; name <= 3; name++) {
            Due.same("who has it", due[name], den.named(name));
            Due.same("none at first", -1, new MailDen().named(name));
        }
        den.signal(1, 1);
        due = new int[] {-1, 0, -1, -1};
        for (int name = 0; name <= 3; name++) {
            Due.same("none behind its end", due[name], den.named(name));
        }
    }

    private static void meanOfNone() {
        MailDen den = new MailDen();
        Due.same("without processes", 0.0, den.meanLines());
        Dens.spec(den, 0, 0, 1);
        den.supervise(0);
        Due.same("supervisors are none", 0.0, den.meanLines());
        den.start(Dens.written(den, "TAKE 0"));
        Due.same("one that began none", 0.0, den.meanLines());
        den.run(1);
        Due.same("one that began one", 1.0, den.meanLines());
    }

    private static void meanNotCut() {
        MailDen den = Dens.did("ADD 1, EXIT 1", "TAKE 0", "TAKE 0");
        Due.same("four of three, one of which is OVER", 4.0 / 3.0, den.meanLines());
        Dens.spec(den, 0, 0, 1);
        den.supervise(0);
        Due.same("a supervisor counts not", 4.0 / 3.0, den.meanLines());
        Dens.fill(den, 1, 24);
        Due.same("four of 23", 4.0 / 23.0, den.meanLines());
    }

    // ---- what would be

    private static void wouldFallSets() {
        MailDen den = of24("TAKE 0");
        Due.same("the first", 1, den.wouldFall(0, 1));
        Due.same("the last", 1 << 23, den.wouldFall(23, 9));
        Due.same("by 0 none", 0, den.wouldFall(23, 0));
        den.signal(23, 1);
        Due.same("one that is OVER", 0, den.wouldFall(23, 9));
        Due.same("still the first alone", 1, den.wouldFall(0, 8));
        MailDen trap = Dens.did("TRAP 1, TAKE 0");
        Due.same("8 is trapped", 0, trap.wouldFall(0, 8));
        Due.same("9 is not", 1, trap.wouldFall(0, 9));
        Due.same("it came to no box", 0, trap.many(8));
    }

    private static void wouldFallOfThoseThatCome() {
        MailDen den = new MailDen();
        int m = Dens.written(den, "TAKE 0");
        Dens.spec(den, 1, 3, 9, Dens.ofModule(m, 0), Dens.ofModule(m, 0));
        den.supervise(0);
        Dens.fill(den, m, 23);
        Due.same("with the one that would come", 7 | 1 << 23, den.wouldFall(1, 1));
        Due.same("it has not come", 23, den.many(2));
        Due.throwsIt("it is not there", Dens.INDEX, () -> den.ofProcess(23, 0));
        Due.same("as it is", 4, den.signal(1, 1));
        Due.same("so it came", 24, den.many(2));
    }

    private static void wouldPurgeSets() {
        MailDen den = new MailDen();
        int m = Dens.written(den, "TAKE 0, LINK, TAKE 0");
        int other = Dens.written(den, "TAKE 0");
        den.start(m);
        den.start(other);
        den.start(m);
        den.run(3);
        Due.same("none is older", 0, den.wouldPurge(m));
        den.load(m);
        den.start(m);
        Due.same("both older ones", 5, den.wouldPurge(m));
        Due.same("none of another module", 0, den.wouldPurge(other));
        den.send(0, 0, 1);
        den.run(2);
        Due.same("and one that is linked", 7, den.wouldPurge(m));
        den.signal(2, 1);
        Due.same("not one that is OVER", 3, den.wouldPurge(m));
        Due.same("as it is", 2, den.load(m));
    }

    private static void wouldPurgeWithFourVersions() {
        MailDen den = new MailDen();
        int m = Dens.written(den, "TAKE 0");
        Dens.spec(den, 0, 3, 9, Dens.ofModule(m, 0));
        den.load(m);
        den.load(m);
        den.start(m);
        den.load(m);
        den.start(m);
        Due.same("that of the third one", 1, den.wouldPurge(m));
        Due.throwsIt("but it can't be", Dens.STATE, () -> den.load(m));
        Due.same("four still", 4, den.ofModule(m, 0));
        MailDen led = new MailDen();
        int n = Dens.written(led, "TAKE 0");
        Dens.spec(led, 0, 0, 9, Dens.ofModule(n, 0), Dens.ofModule(n, 0));
        led.load(n);
        led.load(n);
        led.supervise(0);
        led.load(n);
        Due.same("with its supervisor and its other child", 7, led.wouldPurge(n));
        MailDen again = new MailDen();
        int o = Dens.written(again, "TAKE 0");
        Dens.spec(again, 0, 1, 9, Dens.ofModule(o, 0), Dens.ofModule(o, 0));
        again.load(o);
        again.load(o);
        again.supervise(0);
        again.load(o);
        Due.same("with the one that would come", 15, again.wouldPurge(o));
    }

    private static void overByWithThoseThatAreOver() {
        MailDen den = Dens.did("EXIT 1", "TAKE 0", "SLEEP 9");
        Due.same("those that are OVER", 1, den.overBy(1, 1));
        Due.same("and those that would be", 2, den.overBy(20, 50));
        MailDen none = new MailDen();
        Due.same("none", 0, none.overBy(20, 50));
        MailDen all = of24("EXIT 1");
        Due.same("all", 24, all.overBy(1, 50));
        Due.same("one a turn", 20, all.overBy(20, 1));
        all.run(24);
        Due.same("all are", 24, all.overBy(1, 1));
    }

    private static void overByTicksAndTurns() {
        MailDen den = of24("EXIT 1");
        for (int ticks = 1; ticks <= 4; ticks++) {
            for (int turns = 1; turns <= 8; turns++) {
                Due.same("so many turns behind each tick", Math.min(24, ticks * turns), den.overBy(ticks, turns));
            }
        }
        MailDen sleep = Dens.did("SLEEP 3, EXIT 1");
        Due.same("not yet", 0, sleep.overBy(2, 50));
        Due.same("the turns come behind the tick", 1, sleep.overBy(3, 1));
        sleep.tick(2);
        Due.same("from NOW on", 1, sleep.overBy(1, 1));
    }

    private static void overByOfThoseThatCome() {
        MailDen den = Dens.did("TAKE 0 1, SPAWN 1, SPAWN 1", "EXIT 1");
        Due.same("with those that would come", 4, den.overBy(1, 50));
        Due.same("one turn", 2, den.overBy(1, 1));
        Due.same("none has come", 2, den.many(2));
        MailDen led = new MailDen();
        int m = Dens.written(led, "EXIT 1");
        Dens.spec(led, 0, 3, 1, Dens.ofModule(m, 0));
        led.supervise(0);
        Due.same("four children, and their supervisor", 5, led.overBy(1, 50));
        Due.same("two a tick is not too often", 22, led.overBy(11, 2));
    }

    private static void passedOverBounds() {
        MailDen den = Dens.did("SLEEP 9");
        for (int tag = 0; tag <= 4; tag++) {
            Due.same("an empty box", -1, den.passedOver(0, tag));
        }
        for (int k = 0; k < 7; k++) {
            den.send(0, 0, k);
            Due.same("none with that tag", -1, den.passedOver(0, 1));
        }
        den.send(0, 1, 9);
        Due.same("seven", 7, den.passedOver(0, 1));
        Due.same("none ahead of the first", 0, den.passedOver(0, 0));
        Due.same("any", 0, den.passedOver(0, 4));
        Due.same("no such mail: 2", -1, den.passedOver(0, 2));
        Due.same("no such mail: 3", -1, den.passedOver(0, 3));
        Due.same("nothing is taken", 8, den.ofProcess(0, 8));
    }

    // ---- the digest

    private static void digestOfNone() {
        BigInteger d = BigInteger.valueOf(58144);
        int[] values = {0, 0, 0, 0, 0, 0, 0, 0, 0, 0, 0, 0, 0, -1, -1, -1, -1, 0, 0};
        for (int value : values) {
            d = d.multiply(BigInteger.valueOf(31)).add(BigInteger.valueOf(value));
        }
        Due.same("it has more than 64 bits, so it wraps around", true, d.bitLength() > 64);
        Due.same("of a new den", d.longValue(), new MailDen().digest());
    }

    private static void digestWraps() {
        boolean below = false;
        boolean above = false;
        for (int modules = 0; modules <= 4; modules++) {
            MailDen den = new MailDen();
            while (den.many(0) < modules) {
                den.module();
            }
            BigInteger d = BigInteger.valueOf(58144);
            BigInteger m31 = BigInteger.valueOf(31);
            for (int what = 0; what <= 12; what++) {
                d = d.multiply(m31).add(BigInteger.valueOf(what == 0 ? modules : 0));
            }
            for (int module = 0; module < modules; module++) {
                d = d.multiply(m31).add(BigInteger.ONE).multiply(m31.pow(5));
            }
            for (int name = 0; name < 4; name++) {
                d = d.multiply(m31).subtract(BigInteger.ONE);
            }
            d = d.multiply(m31.pow(2));
            Due.same("of " + modules + " modules", d.longValue(), den.digest());
            below |= d.longValue() < 0;
            above |= d.longValue() > 0;
        }
        Due.same("below 0 and above", true, below && above);
    }

    private static void digestOfOne() {
        MailDen den = Dens.did("ADD 1, PUT 0, ADD -3, PUT 1, ADD 9, PUT 2, ADD 1, PUT 3, TAKE 1 9");
        den.send(0, 0, 5);
        den.send(0, 0, -6);
        int[] many = {1, 0, 1, 0, 1, 0, 0, 0, 2, 0, 0, 1, 9};
        int[] module = {1, 9, 1, 0, 1, 0};
        int[] process = {0, 0, 1, -1, -1, 8, 8, 9, 2, 0, 0, -1, 0, 1, -2, 7, 8, 0, 5, 0, -6, -1, -1, -1, -1, -1, -1, -1,
            0, 1, 1, -1};
        int[] end = {-1, -1, -1, -1, 0, 0};
        long d = 58144;
        for (int[] values : new int[][] {many, module, process, end}) {
            for (int value : values) {
                d = d * 31 + value;
            }
        }
        Due.same("of one that waits, with mail and locals", d, den.digest());
        den.send(0, 1, 7);
        Due.same("it tells each mail", false, d == den.digest());
    }

    private static void digestTellsOverBy() {
        MailDen once = of24("EXIT 1");
        Due.same("overBy of 1 and 5, not of 4 or 6", 5, once.overBy(1, 5));
        Due.same("told so", byHand(once), once.digest());
        // Each of these ENDS in its second turn, so that 30 turns end six of them.
        MailDen twice = of24("ADD 17, PUT 0, LOOP 0 2, EXIT 1");
        Due.same("overBy of 3 and 10, not of 9 or 11", 6, twice.overBy(3, 10));
        Due.same("told so, too", byHand(twice), twice.digest());
    }

    private static long byHand(MailDen den) {
        long d = 58144;
        for (int what = 0; what <= 12; what++) {
            d = d * 31 + den.many(what);
        }
        for (int module = 0; module < den.many(0); module++) {
            for (int what = 0; what <= 4; what++) {
                d = d * 31 + den.ofModule(module, what);
            }
            d = d * 31 + den.wouldPurge(module);
        }
        // None of these has mail, locals, links or a supervisor, and none would bring down another one.
        for (int process = 0; process < 24; process++) {
            int[] values = {0, 0, 0, -1, process, 0, 0, -1, 0, 0, 0, -1, 0, 0, 0, 0, 0, -1, -1, -1, -1, -1, -1, -1,
                0, 1 << process, 1 << process, -1};
            for (int value : values) {
                d = d * 31 + value;
            }
        }
        for (int name = 0; name < 4; name++) {
            d = d * 31 - 1;
        }
        d = d * 31 + den.overBy(1, 5);
        return d * 31 + den.overBy(3, 10);
    }

    // ---- nothing is changed

    /** A den in which each kind of thing goes on. */
    private static MailDen busy() {
        MailDen den = new MailDen();
        int m = Dens.written(den, "NAME 1, TAKE 0 2, WATCH, LINK, TAKE 3");
        int n = Dens.written(den, "TRAP 1, SLEEP 2, SPAWN 0 1, PUT 2, NEXT");
        Dens.spec(den, 2, 1, 3, Dens.ofModule(m, 0), Dens.ofModule(n, 1));
        Dens.spec(den, 1, 2, 5, Dens.ofModule(n, 0), Dens.ofSpec(0, 0), Dens.ofModule(m, 2));
        den.supervise(1);
        den.start(m);
        den.run(4);
        den.load(m);
        Dens.write(den, m, "TAKE 4, EXIT 1");
        den.start(m);
        den.tick(1);
        den.send(3, 0, 0);
        den.send(1, 1, 5);
        den.send(0, 1, 5);
        return den;
    }

    private static void askingChangesNothing() {
        Twins.asked("14 to 20", AnswersBoundsTest::busy, den -> {
            for (int process = 0; process < den.many(2); process++) {
                for (int what = 0; what <= 12; what++) {
                    den.ofProcess(process, what);
                }
                den.local(process, 3);
                den.ofSupervisor(process, 6);
                den.passedOver(process, 4);
            }
            den.named(1);
            den.meanLines();
        });
        for (int reason = 0; reason <= 9; reason++) {
            int with = reason;
            Twins.asked("21 by " + reason, AnswersBoundsTest::busy, den -> {
                for (int process = 0; process < den.many(2); process++) {
                    den.wouldFall(process, with);
                }
            });
        }
        Twins.asked("22", AnswersBoundsTest::busy, den -> den.wouldPurge(0));
        Twins.asked("22, again and again", AnswersBoundsTest::busy, den -> {
            for (int k = 0; k < 9; k++) {
                den.wouldPurge(0);
                den.wouldPurge(1);
            }
        });
        Twins.asked("23, least", AnswersBoundsTest::busy, den -> den.overBy(1, 1));
        Twins.asked("23, most", AnswersBoundsTest::busy, den -> den.overBy(20, 50));
        Twins.asked("25", AnswersBoundsTest::busy, MailDen::digest);
    }
}
