import java.util.Random;
import java.util.function.LongSupplier;

/**
 * Plays runs of calls that a fixed seed draws on MailDen and on Oracle: every answer, exceptions
 * included, must be the same, and all that one can ask is compared again and again.
 */
public final class FuzzTest {
    // A step is two calls at most, and the digest comes last: an object is used for 512 calls.
    private static final int MOST_CALLS = 509;

    // Codes whose PROCESSES do with the numbers that they are sent what many ENDS come of.
    private static final String[] LIVELY = {
        "TAKE 0, LINK, NEXT",
        "TAKE 0, WATCH, NEXT",
        "TRAP 1, TAKE 0, LINK, NEXT",
        "TAKE 0, LINK, TAKE 0, WATCH, TAKE 2 3, NEXT",
        "TRAP 1, NAME 1, TAKE 0, WATCH, LINK, TAKE 3 9, NEXT",
        "TAKE 0, SIGNAL 3, NEXT",
        "TAKE 4 5, EXIT 0",
        "TAKE 0, UNLINK, TAKE 1 2, PUT 3, SEND 1, NEXT",
        "TAKE 0, PUT 0, SPAWN 1 1, LOOP 0 2, SLEEP 2, EXIT 4",
        "SLEEP 1, TAKE 1, CALL 1 0, NEXT",
    };

    private final MailDen den = new MailDen();
    private final Oracle oracle = new Oracle();
    private final Random draw;
    private final StringBuilder told = new StringBuilder();
    private final int flavour;
    private final int sloppy;
    private int calls;

    private FuzzTest(long seed) {
        draw = new Random(seed);
        flavour = draw.nextInt(4);
        sloppy = draw.nextInt(3);
    }

    public static void main(String[] args) {
        int runs = args.length > 0 ? Integer.parseInt(args[0]) : 3000;
        long first = args.length > 1 ? Long.parseLong(args[1]) : 1;
        for (long seed = first; seed < first + runs; seed++) {
            FuzzTest test = new FuzzTest(seed);
            test.play(seed);
        }
        Due.end();
    }

    private boolean same(String call, LongSupplier got, LongSupplier due) {
        calls++;
        long want = due.getAsLong();
        long have = Dens.answer(got);
        told.append(call).append(" -> ").append(want).append('\n');
        Due.quiet(call, want, have);
        if (want != have) {
            System.out.println("run of " + told + "but MailDen answered " + have);
            return false;
        }
        return true;
    }

    private int to(int most) {
        return draw.nextInt(most + 1);
    }

    /** Mostly lo to hi; in a third of the runs at times a little outside, or far. */
    private int near(int lo, int hi) {
        if (sloppy == 0 && draw.nextInt(60) == 0) {
            return draw.nextBoolean() ? Integer.MIN_VALUE : Integer.MAX_VALUE;
        }
        if (sloppy == 0 && draw.nextInt(12) == 0) {
            return lo - 1 + draw.nextInt(hi - lo + 3);
        }
        return lo + draw.nextInt(hi - lo + 1);
    }

    private void play(long seed) {
        told.append("seed ").append(seed).append('\n');
        int steps = 40 + draw.nextInt(260);
        boolean lively = draw.nextInt(3) == 0;
        if (lively && !writeLively()) {
            return;
        }
        for (int k = 0; k < steps && calls < MOST_CALLS; k++) {
            if (!one(k < 60, lively)) {
                return;
            }
        }
        same("digest", den::digest, oracle::digest);
    }

    private boolean addLine() {
        int m = near(0, Math.max(0, oracle.modules.size() - 1));
        int own = m >= 0 && m < oracle.modules.size() ? oracle.modules.get(m).get(oracle.current(m)).size() : 0;
        int[] lively = {0, 0, 1, 2, 2, 3, 3, 4, 5, 6, 6, 6, 7, 7, 8, 9, 9, 10, 11, 12, 12, 13, 14, 14, 14, 15, 16,
            17, 17};
        int kind = draw.nextInt(30) == 0 ? near(0, 17) : lively[draw.nextInt(lively.length)];
        int[] lo = {-99, 0, 0, 0, 0, 0, 0, 0, 0, 0, 0, 0, 0, 0, 0, 1, 0, 1};
        int[] hi = {99, 3, 3, 3, 0, 7, 3, 0, 0, 0, 1, 3, 1, 3, 4, 9, 0, 9};
        int[] hiB = {0, 0, 0, own, 12, 0, 1, 0, 0, 0, 0, 0, 0, 1, 9, 0, 0, 0};
        int k = Math.max(0, Math.min(17, kind));
        int a = near(lo[k], hi[k]);
        if (k == 0 && draw.nextBoolean()) {
            a = draw.nextInt(9) - 2;
        }
        if (k > 0 && k < 4 && draw.nextBoolean()) {
            a = 0;
        }
        if (k == 6 && flavour == 1) {
            a = Math.min(a, Math.max(0, oracle.modules.size() - 1));
        }
        int b = k == 4 ? near(Math.min(12, own + 1), 12) : near(0, hiB[k]);
        int a1 = a;
        int b1 = b;
        return same("line " + m + " " + kind + " " + a + " " + b, () -> den.line(m, kind, a1, b1),
            () -> oracle.line(m, kind, a1, b1));
    }

    /** Two to four MODULES, and SPECS that start again what may be started again. */
    private boolean writeLively() {
        boolean goesOn = true;
        int modules = 2 + draw.nextInt(3);
        for (int k = 0; k < modules; k++) {
            int m = k;
            goesOn &= same("module", den::module, oracle::module);
            for (int[] line : Dens.lines(LIVELY[draw.nextInt(LIVELY.length)])) {
                goesOn &= same("line " + m + " " + line[0] + " " + line[1] + " " + line[2],
                    () -> den.line(m, line[0], line[1], line[2]), () -> oracle.line(m, line[0], line[1], line[2]));
            }
        }
        for (int k = 0; k < 2; k++) {
            int s = k;
            int strategy = draw.nextInt(3);
            int most = 1 + draw.nextInt(3);
            int within = 1 + draw.nextInt(9);
            goesOn &= same("spec " + strategy + " " + most + " " + within, () -> den.spec(strategy, most, within),
                () -> oracle.spec(strategy, most, within));
            int places = 1 + draw.nextInt(3);
            for (int place = 0; place < places; place++) {
                int m = draw.nextInt(modules);
                boolean is = s > 0 && draw.nextInt(3) == 0;
                int number = is ? 0 : m;
                int mode = draw.nextInt(3) > 0 ? 0 : draw.nextInt(3);
                goesOn &= same("place " + s + " " + is + " " + number + " " + mode,
                    () -> den.place(s, is, number, mode), () -> oracle.place(s, is, number, mode));
            }
        }
        return goesOn;
    }

    /** At first starting, sending and turns alone, so that there is much that an END can bring about. */
    private int livelyStep(boolean early) {
        int d = 35 + draw.nextInt(65);
        if (!early || d < 40) {
            return d;
        }
        return d < 44 && draw.nextBoolean() ? 40 : d < 70 ? 46 : 66;
    }

    private boolean one(boolean early, boolean lively) {
        int d = lively ? livelyStep(early) : draw.nextInt(early ? 60 : 100);
        int n = oracle.ps.size();
        int p = draw.nextInt(30) == 0 ? near(-1, 24) : n == 0 ? 0 : draw.nextInt(n);
        if (d < 4) {
            return same("module", den::module, oracle::module);
        }
        if (d < 24) {
            return addLine();
        }
        if (d < 27) {
            int s = near(0, 2);
            int most = near(0, 3);
            int within = near(1, 9);
            return same("spec " + s + " " + most + " " + within, () -> den.spec(s, most, within),
                () -> oracle.spec(s, most, within));
        }
        if (d < 35) {
            int s = near(0, Math.max(0, oracle.specs.size() - 1));
            boolean is = draw.nextInt(3) == 0;
            int number = near(0, is ? Math.max(1, Math.min(4, s)) - 1 : Math.max(0, oracle.modules.size() - 1));
            int mode = draw.nextInt(3) > 0 ? 0 : near(0, 2);
            return same("place " + s + " " + is + " " + number + " " + mode,
                () -> den.place(s, is, number, mode), () -> oracle.place(s, is, number, mode));
        }
        if (d < 40) {
            if (flavour > 0 && n > 12 && draw.nextInt(4) > 0) {
                return true;
            }
            int m = near(0, Math.max(0, oracle.modules.size() - 1));
            return same("start " + m, () -> den.start(m), () -> oracle.start(m));
        }
        if (d < 44) {
            if (n > 16 && draw.nextInt(4) > 0) {
                return true;
            }
            int s = near(0, Math.max(0, oracle.specs.size() - 1));
            return same("supervise " + s, () -> den.supervise(s), () -> oracle.supervise(s));
        }
        if (d < 46) {
            int m = near(0, Math.max(0, oracle.modules.size() - 1));
            return same("wouldPurge " + m, () -> den.wouldPurge(m), () -> oracle.wouldPurge(m))
                && same("load " + m, () -> den.load(m), () -> oracle.load(m));
        }
        if (d < 58) {
            int turns = draw.nextInt(3) > 0 ? 1 + to(3) : near(1, 50);
            return same("run " + turns, () -> den.run(turns), () -> oracle.run(turns));
        }
        if (d < 66) {
            int ticks = draw.nextInt(3) > 0 ? 1 : near(1, 20);
            return same("tick " + ticks, () -> den.tick(ticks), () -> oracle.tick(ticks));
        }
        if (d < 78) {
            int tag = lively && draw.nextInt(4) > 0 ? 0 : near(0, 1);
            int number = lively || draw.nextBoolean() ? to(n) : near(-999, 999);
            return same("send " + p + " " + tag + " " + number, () -> den.send(p, tag, number) ? 1 : 0,
                () -> oracle.send(p, tag, number));
        }
        if (d < 84) {
            int reason = near(0, 9);
            return same("wouldFall " + p + " " + reason, () -> den.wouldFall(p, reason),
                () -> oracle.wouldFall(p, reason))
                && same("signal " + p + " " + reason, () -> den.signal(p, reason), () -> oracle.signal(p, reason));
        }
        return ask(p);
    }

    private boolean ask(int p) {
        int what = near(0, 12);
        int k = near(0, 7);
        switch (draw.nextInt(12)) {
            case 0:
                return same("ofModule", () -> den.ofModule(p, what), () -> oracle.ofModule(p, what));
            case 1:
                return same("ofProcess", () -> den.ofProcess(p, what), () -> oracle.ofProcess(p, what));
            case 2:
                return same("local", () -> den.local(p, k), () -> oracle.local(p, k));
            case 3:
                int part = near(0, 1);
                return same("mail", () -> den.mail(p, k, part), () -> oracle.mail(p, k, part));
            case 4:
                return same("ofSupervisor", () -> den.ofSupervisor(p, k), () -> oracle.ofSupervisor(p, k));
            case 5:
                return same("named", () -> den.named(k), () -> oracle.named(k));
            case 6:
                return same("many", () -> den.many(what), () -> oracle.many(what));
            case 7:
                return same("meanLines", () -> Double.doubleToLongBits(den.meanLines()),
                    () -> Double.doubleToLongBits(oracle.meanLines()));
            case 8:
                int ticks = near(1, 20);
                int turns = near(1, 50);
                return same("overBy " + ticks + " " + turns, () -> den.overBy(ticks, turns),
                    () -> oracle.overBy(ticks, turns));
            case 9:
                return same("passedOver", () -> den.passedOver(p, k), () -> oracle.passedOver(p, k));
            default:
                return same("digest", den::digest, oracle::digest);
        }
    }
}
