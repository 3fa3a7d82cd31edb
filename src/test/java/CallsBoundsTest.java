/**
 * Promises 2 to 25, call by call: the last value of each argument that is allowed and the first that
 * is not, on both sides; each exception, and which one is thrown where several apply; and that a
 * refused call changes nothing.
 */
public final class CallsBoundsTest {
    private static final int LEAST = Integer.MIN_VALUE;
    private static final int MOST = Integer.MAX_VALUE;

    // By KIND: what a may be.
    private static final int[] LEAST_A = {-99, 0, 0, 0, 0, 0, 0, 0, 0, 0, 0, 0, 0, 0, 0, 1, 0, 1};
    private static final int[] MOST_A = {99, 3, 3, 3, 0, 7, 3, 0, 0, 0, 1, 3, 1, 3, 4, 9, 0, 9};

    private CallsBoundsTest() {
    }

    public static void main(String[] args) {
        module();
        lineModule();
        lineKindAndNumbers();
        lineJumps();
        lineUsed();
        lineTwelve();
        load();
        spec();
        placeOfModule();
        placeOfSpec();
        placeRefused();
        ofModule();
        start();
        supervise();
        run();
        tick();
        send();
        signal();
        ofProcess();
        local();
        mail();
        ofSupervisor();
        named();
        many();
        wouldFall();
        wouldPurge();
        overBy();
        passedOver();
        Due.end();
    }

    // ---- dens

    private static MailDen none() {
        return new MailDen();
    }

    /**
     * The MODULE 0 is run, and 1 is not; the SPEC 0 has a SUPERVISOR, and 1 has none, and no PLACES.
     * The PROCESSES are 0, a SUPERVISOR, its CHILD 1, and 2 and 3; 2 has a MAIL.
     */
    private static MailDen some() {
        MailDen den = new MailDen();
        int run = Dens.written(den, "TAKE 1 5, PUT 3, SEND 1, NEXT");
        Dens.written(den, "ADD 1, TAKE 0");
        Dens.spec(den, 0, 2, 5, Dens.ofModule(run, 0));
        Dens.spec(den, 2, 1, 3);
        den.supervise(0);
        den.start(run);
        den.run(2);
        den.send(2, 0, 7);
        den.start(run);
        den.tick(2);
        return den;
    }

    private static MailDen fullOfProcesses() {
        MailDen den = some();
        Dens.fill(den, 0, 24);
        return den;
    }

    /** Four MODULES, the MODULE 0 with four VERSIONS, the last of which has 12 LINES. */
    private static MailDen fullOfCodes() {
        MailDen den = some();
        den.module();
        den.module();
        den.load(0);
        den.load(0);
        den.load(0);
        for (int k = 0; k < 12; k++) {
            den.line(0, Dens.ADD, k, 0);
        }
        return den;
    }

    /** Five SPECS, of which 1 has four PLACES. */
    private static MailDen fullOfSpecs() {
        MailDen den = some();
        for (int k = 0; k < 4; k++) {
            den.place(1, false, 1, 2);
        }
        while (den.many(1) < 5) {
            den.spec(1, 3, 9);
        }
        return den;
    }

    private static MailDen fullBox() {
        MailDen den = Dens.did("SLEEP 9, TAKE 1");
        for (int k = 0; k < 8; k++) {
            den.send(0, k & 1, k);
        }
        return den;
    }

    /** The first that are not allowed, on both sides, and the farthest. */
    private static int[] outside(int least, int most) {
        return new int[] {least - 1, most + 1, LEAST, MOST};
    }

    // ---- codes and specs

    private static void module() {
        MailDen den = none();
        for (int k = 0; k < 4; k++) {
            Due.same("2 number", k, den.module());
        }
        Twins.refused("2 there are 4", Dens.STATE, CallsBoundsTest::fullOfCodes, MailDen::module);
    }

    private static void lineModule() {
        for (int module : outside(0, -1)) {
            Twins.refused("3 without modules: " + module, Dens.INDEX, CallsBoundsTest::none,
                d -> d.line(module, Dens.ADD, 1, 0));
        }
        for (int module : outside(0, 1)) {
            Twins.refused("3 module " + module, Dens.INDEX, CallsBoundsTest::some,
                d -> d.line(module, Dens.ADD, 1, 0));
            Twins.refused("3 module " + module + ", and kind 18", Dens.INDEX, CallsBoundsTest::some,
                d -> d.line(module, 18, 1, 0));
            Twins.refused("3 module " + module + ", and a 100", Dens.INDEX, CallsBoundsTest::some,
                d -> d.line(module, Dens.ADD, 100, 0));
        }
        for (int module : outside(0, 3)) {
            Twins.refused("3 there are 4: " + module, Dens.INDEX, CallsBoundsTest::fullOfCodes,
                d -> d.line(module, Dens.ADD, 1, 0));
        }
    }

    private static void added(int kind, int a, int b) {
        MailDen den = some();
        Due.same("3 kind " + kind + " a " + a + " b " + b, 2, den.line(1, kind, a, b));
        Due.same("3 it is there", 3, den.ofModule(1, 1));
    }

    private static void notAdded(int kind, int a, int b) {
        Twins.refused("3 kind " + kind + " a " + a + " b " + b, Dens.ARGUMENT, CallsBoundsTest::some,
            d -> d.line(1, kind, a, b));
    }

    private static int leastB(int kind, int own) {
        return kind == Dens.SKIP ? own + 1 : 0;
    }

    private static int mostB(int kind, int own) {
        switch (kind) {
            case Dens.LOOP:
                return own;
            case Dens.SKIP:
                return 12;
            case Dens.SPAWN:
            case Dens.CALL:
                return 1;
            case Dens.TAKE:
                return 9;
            default:
                return 0;
        }
    }

    private static void lineKindAndNumbers() {
        for (int kind : outside(0, 17)) {
            notAdded(kind, 0, 0);
        }
        for (int kind = 0; kind <= 17; kind++) {
            int leastB = leastB(kind, 2);
            int mostB = mostB(kind, 2);
            added(kind, LEAST_A[kind], leastB);
            added(kind, LEAST_A[kind], mostB);
            added(kind, MOST_A[kind], leastB);
            added(kind, MOST_A[kind], mostB);
            for (int a : outside(LEAST_A[kind], MOST_A[kind])) {
                notAdded(kind, a, leastB);
                notAdded(kind, a, mostB);
            }
            for (int b : outside(leastB, mostB)) {
                notAdded(kind, LEAST_A[kind], b);
                notAdded(kind, MOST_A[kind], b);
            }
        }
    }

    private static MailDen withLines(int lines) {
        MailDen den = new MailDen();
        den.module();
        for (int k = 0; k < lines; k++) {
            den.line(0, Dens.ADD, 1, 0);
        }
        return den;
    }

    /** LOOP goes back to its own number at most, SKIP on above it, and to 12 at most. */
    private static void lineJumps() {
        for (int own = 0; own < 12; own++) {
            for (int b = 0; b <= 13; b++) {
                int to = b;
                MailDen loop = withLines(own);
                MailDen skip = withLines(own);
                Due.same("3 LOOP from " + own + " to " + b, b <= own ? own : Oracle.ARGUMENT,
                    Dens.answer(() -> loop.line(0, Dens.LOOP, 0, to)));
                Due.same("3 SKIP from " + own + " to " + b, b > own && b <= 12 ? own : Oracle.ARGUMENT,
                    Dens.answer(() -> skip.line(0, Dens.SKIP, 0, to)));
            }
        }
    }

    private static void lineUsed() {
        Twins.refused("3 a process was made of it", Dens.STATE, CallsBoundsTest::some,
            d -> d.line(0, Dens.ADD, 1, 0));
        Twins.refused("3 the argument ahead of that: kind", Dens.ARGUMENT, CallsBoundsTest::some,
            d -> d.line(0, 18, 1, 0));
        Twins.refused("3 the argument ahead of that: a", Dens.ARGUMENT, CallsBoundsTest::some,
            d -> d.line(0, Dens.ADD, 100, 0));
        Twins.refused("3 the argument ahead of that: b", Dens.ARGUMENT, CallsBoundsTest::some,
            d -> d.line(0, Dens.ADD, 1, 1));
    }

    private static void lineTwelve() {
        MailDen den = withLines(11);
        Due.same("3 the twelfth", 11, den.line(0, Dens.ADD, 1, 0));
        Twins.refused("3 it has 12", Dens.STATE, () -> withLines(12), d -> d.line(0, Dens.ADD, 1, 0));
        Twins.refused("3 it has 12, in the fourth version", Dens.STATE, CallsBoundsTest::fullOfCodes,
            d -> d.line(0, Dens.ADD, 1, 0));
        Twins.refused("3 the argument ahead of 12: kind", Dens.ARGUMENT, () -> withLines(12),
            d -> d.line(0, -1, 0, 0));
        Twins.refused("3 the argument ahead of 12: a", Dens.ARGUMENT, () -> withLines(12),
            d -> d.line(0, Dens.SLEEP, 0, 0));
        Twins.refused("3 the argument ahead of 12: no SKIP from there", Dens.ARGUMENT, () -> withLines(12),
            d -> d.line(0, Dens.SKIP, 0, 12));
    }

    private static void load() {
        MailDen den = none();
        den.module();
        for (int k = 2; k <= 4; k++) {
            Due.same("4 none is OVER", 0, den.load(0));
            Due.same("4 versions", k, den.ofModule(0, 0));
        }
        for (int module : outside(0, -1)) {
            Twins.refused("4 without modules: " + module, Dens.INDEX, CallsBoundsTest::none, d -> d.load(module));
        }
        for (int module : outside(0, 1)) {
            Twins.refused("4 module " + module, Dens.INDEX, CallsBoundsTest::some, d -> d.load(module));
        }
        for (int module : outside(0, 3)) {
            Twins.refused("4 there are 4: " + module, Dens.INDEX, CallsBoundsTest::fullOfCodes,
                d -> d.load(module));
        }
        Twins.refused("4 it has 4 versions", Dens.STATE, CallsBoundsTest::fullOfCodes, d -> d.load(0));
    }

    private static void spec() {
        int[][] allowed = {{0, 0, 1}, {2, 3, 9}, {1, 0, 9}, {0, 3, 1}, {2, 0, 1}};
        MailDen den = none();
        for (int k = 0; k < 5; k++) {
            Due.same("5 number", k, den.spec(allowed[k][0], allowed[k][1], allowed[k][2]));
        }
        for (int strategy : outside(0, 2)) {
            Twins.refused("5 strategy " + strategy, Dens.ARGUMENT, CallsBoundsTest::some,
                d -> d.spec(strategy, 0, 1));
            Twins.refused("5 strategy ahead of 5: " + strategy, Dens.ARGUMENT, CallsBoundsTest::fullOfSpecs,
                d -> d.spec(strategy, 0, 1));
        }
        for (int most : outside(0, 3)) {
            Twins.refused("5 most " + most, Dens.ARGUMENT, CallsBoundsTest::some, d -> d.spec(0, most, 1));
            Twins.refused("5 most ahead of 5: " + most, Dens.ARGUMENT, CallsBoundsTest::fullOfSpecs,
                d -> d.spec(0, most, 1));
        }
        for (int within : outside(1, 9)) {
            Twins.refused("5 within " + within, Dens.ARGUMENT, CallsBoundsTest::some, d -> d.spec(0, 0, within));
            Twins.refused("5 within ahead of 5: " + within, Dens.ARGUMENT, CallsBoundsTest::fullOfSpecs,
                d -> d.spec(0, 0, within));
        }
        Twins.refused("5 there are 5", Dens.STATE, CallsBoundsTest::fullOfSpecs, d -> d.spec(0, 0, 1));
    }

    private static void placeOfModule() {
        MailDen den = some();
        Due.same("6 the first module, the first mode", 0, den.place(1, false, 0, 0));
        Due.same("6 the last module, the last mode", 1, den.place(1, false, 1, 2));
        Due.same("6 the mode between", 2, den.place(1, false, 0, 1));
        Due.same("6 the fourth", 3, den.place(1, true, 0, 2));
        for (int number : outside(0, 1)) {
            Twins.refused("6 module " + number, Dens.ARGUMENT, CallsBoundsTest::some,
                d -> d.place(1, false, number, 0));
        }
        Twins.refused("6 without modules", Dens.ARGUMENT, CallsBoundsTest::specsAlone,
            d -> d.place(0, false, 0, 0));
        for (int mode : outside(0, 2)) {
            Twins.refused("6 mode " + mode, Dens.ARGUMENT, CallsBoundsTest::some, d -> d.place(1, false, 1, mode));
            Twins.refused("6 mode of a spec " + mode, Dens.ARGUMENT, CallsBoundsTest::some,
                d -> d.place(1, true, 0, mode));
        }
    }

    private static MailDen specsAlone() {
        MailDen den = new MailDen();
        while (den.many(1) < 5) {
            den.spec(0, 3, 9);
        }
        return den;
    }

    private static void placeOfSpec() {
        for (int spec = 0; spec < 5; spec++) {
            MailDen den = specsAlone();
            int own = spec;
            for (int number = 0; number < 5; number++) {
                int other = number;
                if (number < spec) {
                    Due.same("6 a smaller spec", number, den.place(own, true, other, 0));
                } else {
                    Twins.refused("6 spec " + number + " in " + spec, Dens.ARGUMENT, CallsBoundsTest::specsAlone,
                        d -> d.place(own, true, other, 0));
                }
            }
            for (int number : new int[] {-1, 5, LEAST, MOST}) {
                Twins.refused("6 spec " + number + " in " + spec, Dens.ARGUMENT, CallsBoundsTest::specsAlone,
                    d -> d.place(own, true, number, 0));
            }
        }
    }

    /** The SPEC 1 has a SUPERVISOR that is the CHILD of another one. */
    private static MailDen child() {
        MailDen den = some();
        den.spec(0, 0, 1);
        den.place(2, true, 1, 0);
        den.supervise(2);
        den.signal(5, 9);
        return den;
    }

    private static void placeRefused() {
        for (int spec : outside(0, -1)) {
            Twins.refused("6 without specs: " + spec, Dens.INDEX, CallsBoundsTest::none,
                d -> d.place(spec, false, 0, 0));
        }
        for (int spec : outside(0, 1)) {
            Twins.refused("6 spec " + spec, Dens.INDEX, CallsBoundsTest::some, d -> d.place(spec, false, 0, 0));
            Twins.refused("6 spec " + spec + ", and no such module", Dens.INDEX, CallsBoundsTest::some,
                d -> d.place(spec, false, 2, 0));
            Twins.refused("6 spec " + spec + ", and mode 3", Dens.INDEX, CallsBoundsTest::some,
                d -> d.place(spec, false, 0, 3));
        }
        for (int spec : outside(0, 4)) {
            Twins.refused("6 there are 5: " + spec, Dens.INDEX, CallsBoundsTest::fullOfSpecs,
                d -> d.place(spec, false, 0, 0));
        }
        Twins.refused("6 there was a supervisor", Dens.STATE, CallsBoundsTest::some, d -> d.place(0, false, 0, 0));
        Twins.refused("6 there was one, as a child", Dens.STATE, CallsBoundsTest::child,
            d -> d.place(1, false, 0, 0));
        Twins.refused("6 it has 4", Dens.STATE, CallsBoundsTest::fullOfSpecs, d -> d.place(1, false, 0, 0));
        Twins.refused("6 no such module, and a supervisor", Dens.ARGUMENT, CallsBoundsTest::some,
            d -> d.place(0, false, 2, 0));
        Twins.refused("6 no smaller spec, and a supervisor", Dens.ARGUMENT, CallsBoundsTest::some,
            d -> d.place(0, true, 0, 0));
        Twins.refused("6 mode 3, and a supervisor", Dens.ARGUMENT, CallsBoundsTest::some,
            d -> d.place(0, false, 0, 3));
        Twins.refused("6 no such module, and 4", Dens.ARGUMENT, CallsBoundsTest::fullOfSpecs,
            d -> d.place(1, false, 2, 0));
        Twins.refused("6 no smaller spec, and 4", Dens.ARGUMENT, CallsBoundsTest::fullOfSpecs,
            d -> d.place(1, true, 1, 0));
        Twins.refused("6 mode -1, and 4", Dens.ARGUMENT, CallsBoundsTest::fullOfSpecs,
            d -> d.place(1, false, 0, -1));
    }

    private static void ofModule() {
        MailDen den = some();
        Due.same("7 the first module, the first what", 1, den.ofModule(0, 0));
        Due.same("7 the last module, the last what", 0, den.ofModule(1, 4));
        for (int module : outside(0, -1)) {
            Twins.refused("7 without modules: " + module, Dens.INDEX, CallsBoundsTest::none,
                d -> d.ofModule(module, 0));
        }
        for (int module : outside(0, 1)) {
            Twins.refused("7 module " + module, Dens.INDEX, CallsBoundsTest::some, d -> d.ofModule(module, 0));
            Twins.refused("7 module " + module + ", and what 5", Dens.INDEX, CallsBoundsTest::some,
                d -> d.ofModule(module, 5));
        }
        for (int what : outside(0, 4)) {
            Twins.refused("7 what " + what, Dens.ARGUMENT, CallsBoundsTest::some, d -> d.ofModule(1, what));
        }
    }

    // ---- what goes on

    private static void start() {
        MailDen den = some();
        Due.same("8 of the first module", 4, den.start(0));
        Due.same("8 of the last module", 5, den.start(1));
        Dens.fill(den, 0, 23);
        Due.same("8 the 24th", 23, den.start(1));
        for (int module : outside(0, -1)) {
            Twins.refused("8 without modules: " + module, Dens.INDEX, CallsBoundsTest::none, d -> d.start(module));
        }
        for (int module : outside(0, 1)) {
            Twins.refused("8 module " + module, Dens.INDEX, CallsBoundsTest::some, d -> d.start(module));
            Twins.refused("8 module " + module + ", and 24", Dens.INDEX, CallsBoundsTest::fullOfProcesses,
                d -> d.start(module));
        }
        Twins.refused("8 there are 24", Dens.STATE, CallsBoundsTest::fullOfProcesses, d -> d.start(0));
        Twins.refused("8 there are 24, one is OVER", Dens.STATE, () -> {
            MailDen over = fullOfProcesses();
            over.signal(23, 9);
            return over;
        }, d -> d.start(1));
    }

    private static void supervise() {
        MailDen den = some();
        Due.same("9 of the first spec", 4, den.supervise(0));
        Due.same("9 of the last spec", 6, den.supervise(1));
        Dens.fill(den, 0, 23);
        Due.same("9 the 24th", 23, den.supervise(1));
        for (int spec : outside(0, -1)) {
            Twins.refused("9 without specs: " + spec, Dens.INDEX, CallsBoundsTest::none, d -> d.supervise(spec));
        }
        for (int spec : outside(0, 1)) {
            Twins.refused("9 spec " + spec, Dens.INDEX, CallsBoundsTest::some, d -> d.supervise(spec));
            Twins.refused("9 spec " + spec + ", and 24", Dens.INDEX, CallsBoundsTest::fullOfProcesses,
                d -> d.supervise(spec));
        }
        Twins.refused("9 there are 24", Dens.STATE, CallsBoundsTest::fullOfProcesses, d -> d.supervise(0));
        Twins.refused("9 there are 24, it has no places", Dens.STATE, CallsBoundsTest::fullOfProcesses,
            d -> d.supervise(1));
    }

    private static void run() {
        MailDen den = none();
        den.start(Dens.written(den, "NEXT"));
        Due.same("10 one turn", 1, den.run(1));
        Due.same("10 fifty turns", 50, den.run(50));
        Due.same("10 in all", 51, den.many(11));
        for (int turns : outside(1, 50)) {
            Twins.refused("10 turns " + turns, Dens.ARGUMENT, CallsBoundsTest::some, d -> d.run(turns));
        }
    }

    private static void tick() {
        MailDen den = none();
        den.tick(1);
        Due.same("11 one", 1, den.many(10));
        den.tick(20);
        Due.same("11 twenty", 21, den.many(10));
        for (int ticks : outside(1, 20)) {
            Twins.refused("11 ticks " + ticks, Dens.ARGUMENT, CallsBoundsTest::some, d -> d.tick(ticks));
        }
    }

    private static void send() {
        MailDen den = some();
        Due.same("12 to the first, least", false, den.send(0, 0, -999));
        Due.same("12 to the last, most", true, den.send(3, 1, 999));
        Due.same("12 it came so", 999, den.mail(3, 0, 1));
        Due.same("12 least", true, den.send(3, 0, -999));
        Due.same("12 it came so, too", -999, den.mail(3, 1, 1));
        for (int process : outside(0, -1)) {
            Twins.refused("12 without processes: " + process, Dens.INDEX, CallsBoundsTest::none,
                d -> d.send(process, 0, 0));
        }
        for (int process : outside(0, 3)) {
            Twins.refused("12 process " + process, Dens.INDEX, CallsBoundsTest::some, d -> d.send(process, 0, 0));
            Twins.refused("12 process " + process + ", and tag 2", Dens.INDEX, CallsBoundsTest::some,
                d -> d.send(process, 2, 0));
            Twins.refused("12 process " + process + ", and number 1000", Dens.INDEX, CallsBoundsTest::some,
                d -> d.send(process, 0, 1000));
        }
        for (int process : outside(0, 23)) {
            Twins.refused("12 there are 24: " + process, Dens.INDEX, CallsBoundsTest::fullOfProcesses,
                d -> d.send(process, 0, 0));
        }
        for (int tag : outside(0, 1)) {
            Twins.refused("12 tag " + tag, Dens.ARGUMENT, CallsBoundsTest::some, d -> d.send(2, tag, 0));
            Twins.refused("12 to a supervisor, tag " + tag, Dens.ARGUMENT, CallsBoundsTest::some,
                d -> d.send(0, tag, 0));
            Twins.refused("12 to a full box, tag " + tag, Dens.ARGUMENT, CallsBoundsTest::fullBox,
                d -> d.send(0, tag, 0));
        }
        for (int number : outside(-999, 999)) {
            Twins.refused("12 number " + number, Dens.ARGUMENT, CallsBoundsTest::some, d -> d.send(2, 1, number));
            Twins.refused("12 to a full box, number " + number, Dens.ARGUMENT, CallsBoundsTest::fullBox,
                d -> d.send(0, 1, number));
        }
    }

    private static void signal() {
        MailDen den = some();
        Due.same("13 to the first, 0", 0, den.signal(0, 0));
        Due.same("13 to the last, 9", 1, den.signal(3, 9));
        Due.same("13 8", 1, den.signal(2, 8));
        for (int process : outside(0, -1)) {
            Twins.refused("13 without processes: " + process, Dens.INDEX, CallsBoundsTest::none,
                d -> d.signal(process, 9));
        }
        for (int process : outside(0, 3)) {
            Twins.refused("13 process " + process, Dens.INDEX, CallsBoundsTest::some, d -> d.signal(process, 9));
            Twins.refused("13 process " + process + ", and reason 10", Dens.INDEX, CallsBoundsTest::some,
                d -> d.signal(process, 10));
        }
        for (int process : outside(0, 23)) {
            Twins.refused("13 there are 24: " + process, Dens.INDEX, CallsBoundsTest::fullOfProcesses,
                d -> d.signal(process, 9));
        }
        for (int reason : outside(0, 9)) {
            Twins.refused("13 reason " + reason, Dens.ARGUMENT, CallsBoundsTest::some, d -> d.signal(2, reason));
            Twins.refused("13 to a supervisor, reason " + reason, Dens.ARGUMENT, CallsBoundsTest::some,
                d -> d.signal(0, reason));
        }
    }

    // ---- what one asks

    private static void ofProcess() {
        MailDen den = some();
        Due.same("14 the first, the first what", -1, den.ofProcess(0, 0));
        Due.same("14 the last, the last what", 0, den.ofProcess(3, 12));
        for (int process : outside(0, -1)) {
            Twins.refused("14 without processes: " + process, Dens.INDEX, CallsBoundsTest::none,
                d -> d.ofProcess(process, 0));
        }
        for (int process : outside(0, 3)) {
            Twins.refused("14 process " + process, Dens.INDEX, CallsBoundsTest::some, d -> d.ofProcess(process, 0));
            Twins.refused("14 process " + process + ", and what 13", Dens.INDEX, CallsBoundsTest::some,
                d -> d.ofProcess(process, 13));
        }
        for (int process : outside(0, 23)) {
            Twins.refused("14 there are 24: " + process, Dens.INDEX, CallsBoundsTest::fullOfProcesses,
                d -> d.ofProcess(process, 0));
        }
        for (int what : outside(0, 12)) {
            Twins.refused("14 what " + what, Dens.ARGUMENT, CallsBoundsTest::some, d -> d.ofProcess(2, what));
            Twins.refused("14 of a supervisor, what " + what, Dens.ARGUMENT, CallsBoundsTest::some,
                d -> d.ofProcess(0, what));
        }
    }

    private static void local() {
        MailDen den = Dens.did("ADD 5, PUT 0, ADD 5, PUT 3, TAKE 0");
        Due.same("15 the first", 5, den.local(0, 0));
        Due.same("15 the last", 10, den.local(0, 3));
        for (int process : outside(0, -1)) {
            Twins.refused("15 without processes: " + process, Dens.INDEX, CallsBoundsTest::none,
                d -> d.local(process, 0));
        }
        for (int process : outside(0, 3)) {
            Twins.refused("15 process " + process, Dens.INDEX, CallsBoundsTest::some, d -> d.local(process, 0));
        }
        for (int local : outside(0, 3)) {
            Twins.refused("15 local " + local, Dens.INDEX, CallsBoundsTest::some, d -> d.local(2, local));
            Twins.refused("15 of a supervisor, local " + local, Dens.INDEX, CallsBoundsTest::some,
                d -> d.local(0, local));
        }
    }

    private static void mail() {
        MailDen den = fullBox();
        Due.same("16 the first: tag", 0, den.mail(0, 0, 0));
        Due.same("16 the eighth: number", 7, den.mail(0, 7, 1));
        for (int process : outside(0, 3)) {
            Twins.refused("16 process " + process, Dens.INDEX, CallsBoundsTest::some, d -> d.mail(process, 0, 0));
            Twins.refused("16 process " + process + ", and what 2", Dens.INDEX, CallsBoundsTest::some,
                d -> d.mail(process, 0, 2));
        }
        for (int k : outside(0, 0)) {
            Twins.refused("16 one, mail " + k, Dens.INDEX, CallsBoundsTest::some, d -> d.mail(2, k, 0));
            Twins.refused("16 one, mail " + k + ", and what 2", Dens.INDEX, CallsBoundsTest::some,
                d -> d.mail(2, k, 2));
        }
        for (int k : outside(0, 7)) {
            Twins.refused("16 eight, mail " + k, Dens.INDEX, CallsBoundsTest::fullBox, d -> d.mail(0, k, 1));
        }
        for (int k : outside(0, -1)) {
            Twins.refused("16 an empty box, mail " + k, Dens.INDEX, CallsBoundsTest::some, d -> d.mail(3, k, 0));
            Twins.refused("16 a supervisor, mail " + k, Dens.INDEX, CallsBoundsTest::some, d -> d.mail(0, k, 0));
        }
        for (int what : outside(0, 1)) {
            Twins.refused("16 what " + what, Dens.ARGUMENT, CallsBoundsTest::some, d -> d.mail(2, 0, what));
        }
    }

    private static void ofSupervisor() {
        MailDen den = some();
        Due.same("17 the first, the first what", 0, den.ofSupervisor(0, 0));
        Due.same("17 the last what", 0, den.ofSupervisor(0, 6));
        Due.same("17 the last process", -1, den.ofSupervisor(3, 6));
        for (int process : outside(0, -1)) {
            Twins.refused("17 without processes: " + process, Dens.INDEX, CallsBoundsTest::none,
                d -> d.ofSupervisor(process, 0));
        }
        for (int process : outside(0, 3)) {
            Twins.refused("17 process " + process, Dens.INDEX, CallsBoundsTest::some,
                d -> d.ofSupervisor(process, 0));
            Twins.refused("17 process " + process + ", and what 7", Dens.INDEX, CallsBoundsTest::some,
                d -> d.ofSupervisor(process, 7));
        }
        for (int what : outside(0, 6)) {
            Twins.refused("17 what " + what, Dens.ARGUMENT, CallsBoundsTest::some, d -> d.ofSupervisor(0, what));
            Twins.refused("17 of another one, what " + what, Dens.ARGUMENT, CallsBoundsTest::some,
                d -> d.ofSupervisor(2, what));
        }
    }

    private static void named() {
        MailDen den = Dens.did("NAME 0, NAME 3, TAKE 0");
        Due.same("18 the first", 0, den.named(0));
        Due.same("18 the last", 0, den.named(3));
        for (int name : outside(0, 3)) {
            Twins.refused("18 name " + name, Dens.INDEX, CallsBoundsTest::none, d -> d.named(name));
            Twins.refused("18 name " + name + " of some", Dens.INDEX, CallsBoundsTest::some, d -> d.named(name));
        }
    }

    private static void many() {
        MailDen den = some();
        Due.same("19 the first what", 2, den.many(0));
        Due.same("19 the last what", 2, den.many(12));
        for (int what : outside(0, 12)) {
            Twins.refused("19 what " + what, Dens.ARGUMENT, CallsBoundsTest::some, d -> d.many(what));
        }
    }

    // ---- what would be

    private static void wouldFall() {
        MailDen den = some();
        Due.same("21 the first, 0", 0, den.wouldFall(0, 0));
        Due.same("21 the first, 9", 3, den.wouldFall(0, 9));
        Due.same("21 the last, 1", 8, den.wouldFall(3, 1));
        for (int process : outside(0, -1)) {
            Twins.refused("21 without processes: " + process, Dens.INDEX, CallsBoundsTest::none,
                d -> d.wouldFall(process, 9));
        }
        for (int process : outside(0, 3)) {
            Twins.refused("21 process " + process, Dens.INDEX, CallsBoundsTest::some,
                d -> d.wouldFall(process, 9));
            Twins.refused("21 process " + process + ", and reason 10", Dens.INDEX, CallsBoundsTest::some,
                d -> d.wouldFall(process, 10));
        }
        for (int process : outside(0, 23)) {
            Twins.refused("21 there are 24: " + process, Dens.INDEX, CallsBoundsTest::fullOfProcesses,
                d -> d.wouldFall(process, 9));
        }
        for (int reason : outside(0, 9)) {
            Twins.refused("21 reason " + reason, Dens.ARGUMENT, CallsBoundsTest::some,
                d -> d.wouldFall(2, reason));
            Twins.refused("21 of a supervisor, reason " + reason, Dens.ARGUMENT, CallsBoundsTest::some,
                d -> d.wouldFall(0, reason));
        }
    }

    private static void wouldPurge() {
        MailDen den = some();
        Due.same("22 the first", 0, den.wouldPurge(0));
        Due.same("22 the last", 0, den.wouldPurge(1));
        for (int module : outside(0, -1)) {
            Twins.refused("22 without modules: " + module, Dens.INDEX, CallsBoundsTest::none,
                d -> d.wouldPurge(module));
        }
        for (int module : outside(0, 1)) {
            Twins.refused("22 module " + module, Dens.INDEX, CallsBoundsTest::some, d -> d.wouldPurge(module));
        }
        for (int module : outside(0, 3)) {
            Twins.refused("22 there are 4: " + module, Dens.INDEX, CallsBoundsTest::fullOfCodes,
                d -> d.wouldPurge(module));
        }
    }

    /** Of a PROCESS that sleeps thrice, one by one: so many ticks, with so many turns behind each. */
    private static void overBy() {
        MailDen den = Dens.did("SLEEP 9, SLEEP 9, SLEEP 1, EXIT 1");
        Due.same("23 least", 0, den.overBy(1, 1));
        Due.same("23 one tick too few", 0, den.overBy(18, 50));
        Due.same("23 just enough", 1, den.overBy(19, 1));
        Due.same("23 most", 1, den.overBy(20, 50));
        for (int ticks : outside(1, 20)) {
            Twins.refused("23 ticks " + ticks, Dens.ARGUMENT, CallsBoundsTest::some, d -> d.overBy(ticks, 1));
            Twins.refused("23 in an empty den, ticks " + ticks, Dens.ARGUMENT, CallsBoundsTest::none,
                d -> d.overBy(ticks, 50));
        }
        for (int turns : outside(1, 50)) {
            Twins.refused("23 turns " + turns, Dens.ARGUMENT, CallsBoundsTest::some, d -> d.overBy(1, turns));
            Twins.refused("23 in an empty den, turns " + turns, Dens.ARGUMENT, CallsBoundsTest::none,
                d -> d.overBy(20, turns));
        }
    }

    private static void passedOver() {
        MailDen den = some();
        Due.same("24 of the first, the first tag", -1, den.passedOver(0, 0));
        Due.same("24 any", 0, den.passedOver(2, 4));
        Due.same("24 of the last", -1, den.passedOver(3, 4));
        for (int process : outside(0, -1)) {
            Twins.refused("24 without processes: " + process, Dens.INDEX, CallsBoundsTest::none,
                d -> d.passedOver(process, 0));
        }
        for (int process : outside(0, 3)) {
            Twins.refused("24 process " + process, Dens.INDEX, CallsBoundsTest::some,
                d -> d.passedOver(process, 0));
            Twins.refused("24 process " + process + ", and tag 5", Dens.INDEX, CallsBoundsTest::some,
                d -> d.passedOver(process, 5));
        }
        for (int tag : outside(0, 4)) {
            Twins.refused("24 tag " + tag, Dens.ARGUMENT, CallsBoundsTest::some, d -> d.passedOver(2, tag));
            Twins.refused("24 of a supervisor, tag " + tag, Dens.ARGUMENT, CallsBoundsTest::some,
                d -> d.passedOver(0, tag));
        }
    }
}
