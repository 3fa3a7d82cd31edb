/** Promises 1 to 7: codes and specs. */
public final class CodesTest {
    private CodesTest() {
    }

    public static void main(String[] args) {
        newObject();
        module();
        lineRanges();
        lineExceptions();
        lineUsed();
        load();
        spec();
        place();
        ofModule();
        Due.end();
    }

    private static void newObject() {
        MailDen den = new MailDen();
        for (int what = 0; what <= 12; what++) {
            Due.same("1 many " + what, 0, den.many(what));
        }
        for (int name = 0; name <= 3; name++) {
            Due.same("1 named " + name, -1, den.named(name));
        }
        Due.same("1 meanLines", 0.0, den.meanLines());
        Due.throwsIt("1 no module", Dens.INDEX, () -> den.ofModule(0, 0));
        Due.throwsIt("1 no process", Dens.INDEX, () -> den.ofProcess(0, 0));
        MailDen other = new MailDen();
        other.module();
        Due.same("1 objects share nothing", 0, den.many(0));
    }

    private static void module() {
        MailDen den = new MailDen();
        for (int k = 0; k < 4; k++) {
            Due.same("2 module", k, den.module());
            Due.same("2 one version", 1, den.ofModule(k, 0));
            Due.same("2 no lines", 0, den.ofModule(k, 1));
        }
        Due.throwsIt("2 fifth", Dens.STATE, den::module);
        Due.same("2 nothing changed", 4, den.many(0));
    }

    private static void fits(int kind, int a, int b) {
        MailDen den = new MailDen();
        den.module();
        Due.same("3 line " + kind + " " + a + " " + b, 0, den.line(0, kind, a, b));
        Due.same("3 it has it", 1, den.ofModule(0, 1));
    }

    private static void fitsNot(int kind, int a, int b) {
        MailDen den = new MailDen();
        den.module();
        Due.throwsIt("3 line " + kind + " " + a + " " + b, Dens.ARGUMENT, () -> den.line(0, kind, a, b));
        Due.same("3 nothing changed", 0, den.ofModule(0, 1));
    }

    private static void lineRanges() {
        int[] least = {-99, 0, 0, 0, 0, 0, 0, 0, 0, 0, 0, 0, 0, 0, 0, 1, 0, 1};
        int[] most = {99, 3, 3, 3, 0, 7, 3, 0, 0, 0, 1, 3, 1, 3, 4, 9, 0, 9};
        int[] leastB = {0, 0, 0, 0, 1, 0, 0, 0, 0, 0, 0, 0, 0, 0, 0, 0, 0, 0};
        int[] mostB = {0, 0, 0, 0, 12, 0, 1, 0, 0, 0, 0, 0, 0, 1, 9, 0, 0, 0};
        for (int kind = 0; kind <= 17; kind++) {
            fits(kind, least[kind], leastB[kind]);
            fits(kind, most[kind], mostB[kind]);
            fitsNot(kind, least[kind] - 1, leastB[kind]);
            fitsNot(kind, most[kind] + 1, leastB[kind]);
            fitsNot(kind, least[kind], leastB[kind] - 1);
            fitsNot(kind, least[kind], mostB[kind] + 1);
        }
        fitsNot(-1, 0, 0);
        fitsNot(18, 0, 0);
        fitsNot(Integer.MIN_VALUE, 0, 0);
        fitsNot(Integer.MAX_VALUE, 0, 0);
        fitsNot(0, Integer.MIN_VALUE, 0);
        fitsNot(3, 0, Integer.MAX_VALUE);
    }

    private static void lineExceptions() {
        MailDen den = new MailDen();
        Due.throwsIt("3 no module", Dens.INDEX, () -> den.line(0, 99, 0, 0));
        den.module();
        Due.throwsIt("3 module -1", Dens.INDEX, () -> den.line(-1, 0, 0, 0));
        Due.throwsIt("3 module 1", Dens.INDEX, () -> den.line(1, 0, 0, 0));
        Due.throwsIt("3 module far", Dens.INDEX, () -> den.line(Integer.MAX_VALUE, 0, 0, 0));
        for (int k = 0; k < 11; k++) {
            Due.same("3 number", k, den.line(0, Dens.LOOP, 3, k));
            int own = k + 1;
            Due.throwsIt("3 loop ahead", Dens.ARGUMENT, () -> den.line(0, Dens.LOOP, 0, own + 1));
            Due.throwsIt("3 skip to itself", Dens.ARGUMENT, () -> den.line(0, Dens.SKIP, 0, own));
            Due.throwsIt("3 skip above 12", Dens.ARGUMENT, () -> den.line(0, Dens.SKIP, 0, 13));
        }
        Due.same("3 last", 11, den.line(0, Dens.SKIP, 0, 12));
        Due.throwsIt("3 thirteenth", Dens.STATE, () -> den.line(0, Dens.ADD, 1, 0));
        Due.throwsIt("3 argument ahead of state", Dens.ARGUMENT, () -> den.line(0, Dens.ADD, 100, 0));
        Due.same("3 twelve", 12, den.ofModule(0, 1));
    }

    private static void lineUsed() {
        MailDen den = new MailDen();
        int m = Dens.module(den, Dens.is(Dens.TAKE), Dens.is(Dens.NEXT));
        den.start(m);
        Due.throwsIt("3 started", Dens.STATE, () -> den.line(m, 0, 0, 0));
        Due.throwsIt("3 argument ahead of used", Dens.ARGUMENT, () -> den.line(m, 5, 8, 0));
        den.run(1);
        den.load(m);
        Due.same("3 new version", 0, den.line(m, Dens.TAKE, 1, 0));
        den.send(0, 0, 0);
        den.run(1);
        Due.throwsIt("3 came to it", Dens.STATE, () -> den.line(m, 0, 0, 0));
        den.signal(0, 9);
        Due.throwsIt("3 used by an OVER one", Dens.STATE, () -> den.line(m, 0, 0, 0));

        MailDen spawned = new MailDen();
        int parent = Dens.module(spawned, Dens.is(Dens.SPAWN, 1));
        int child = spawned.module();
        spawned.start(parent);
        Due.same("3 not yet spawned", 0, spawned.line(child, Dens.TAKE, 0, 0));
        spawned.run(1);
        Due.throwsIt("3 spawned", Dens.STATE, () -> spawned.line(child, 0, 0, 0));

        MailDen led = new MailDen();
        int w = Dens.waiter(led);
        int s = Dens.spec(led, 0, 1, 1, Dens.ofModule(w, 0));
        Due.same("3 not yet led", 2, led.line(w, 0, 0, 0));
        led.supervise(s);
        Due.throwsIt("3 led", Dens.STATE, () -> led.line(w, 0, 0, 0));

        MailDen tried = new MailDen();
        int t = Dens.waiter(tried);
        tried.start(t);
        tried.load(t);
        int u = Dens.spec(tried, 0, 3, 9, Dens.ofModule(t, 0));
        tried.load(t);
        tried.supervise(u);
        tried.load(t);
        tried.wouldFall(2, 9);
        Due.same("3 a trial uses nothing", 0, tried.line(t, 0, 1, 0));
    }

    private static void load() {
        MailDen den = new MailDen();
        Due.throwsIt("4 no module", Dens.INDEX, () -> den.load(0));
        int m = Dens.waiter(den);
        Due.throwsIt("4 module -1", Dens.INDEX, () -> den.load(-1));
        den.start(m);
        den.start(m);
        Due.same("4 current ones go on", 0, den.load(m));
        den.start(m);
        den.signal(1, 9);
        Due.same("4 older ones end", 1, den.load(m));
        Due.same("4 with 8", 8, den.ofProcess(0, 3));
        Due.same("4 not of the one that was current", Dens.READY, den.ofProcess(2, 2));
        Due.same("4 versions", 3, den.ofModule(m, 0));
        Due.same("4 fourth", 1, den.load(m));
        Due.throwsIt("4 fifth", Dens.STATE, () -> den.load(m));
        Due.same("4 nothing changed", 4, den.ofModule(m, 0));
        loadByNumbers();
        loadRestarts();
    }

    /** 0, 1 and 2 run an old VERSION; 0 is linked with 2, so 2 is OVER ahead of its number. */
    private static void loadByNumbers() {
        MailDen den = new MailDen();
        int m = Dens.linker(den);
        den.start(m);
        den.start(m);
        den.start(m);
        den.run(3);
        den.send(0, 0, 2);
        den.run(1);
        den.load(m);
        Due.same("4 all older", 3, den.load(m));
        Due.same("4 by its link, with 8", 8, den.ofProcess(2, 3));
        Due.same("4 in all", 3, den.many(5));
    }

    private static void loadRestarts() {
        MailDen den = new MailDen();
        int m = Dens.waiter(den);
        int s = Dens.spec(den, 0, 1, 9, Dens.ofModule(m, 0), Dens.ofModule(m, 0));
        den.supervise(s);
        den.load(m);
        Due.same("4 restarted and then too often", 4, den.load(m));
        Due.same("4 the supervisor too", 5, den.ofProcess(0, 3));
        Due.same("4 the one that came", 5, den.ofProcess(3, 3));
        Due.same("4 it was of the new version", 2, den.ofProcess(3, 1));
    }

    private static void spec() {
        MailDen den = new MailDen();
        Due.throwsIt("5 strategy -1", Dens.ARGUMENT, () -> den.spec(-1, 0, 1));
        Due.throwsIt("5 strategy 3", Dens.ARGUMENT, () -> den.spec(3, 0, 1));
        Due.throwsIt("5 most -1", Dens.ARGUMENT, () -> den.spec(0, -1, 1));
        Due.throwsIt("5 most 4", Dens.ARGUMENT, () -> den.spec(0, 4, 1));
        Due.throwsIt("5 within 0", Dens.ARGUMENT, () -> den.spec(0, 0, 0));
        Due.throwsIt("5 within 10", Dens.ARGUMENT, () -> den.spec(0, 0, 10));
        for (int k = 0; k < 5; k++) {
            Due.same("5 spec", k, den.spec(k % 3, k % 4, k == 0 ? 9 : k));
        }
        Due.throwsIt("5 sixth", Dens.STATE, () -> den.spec(0, 0, 1));
        Due.throwsIt("5 argument ahead of state", Dens.ARGUMENT, () -> den.spec(0, 0, 10));
        Due.same("5 five", 5, den.many(1));
    }

    private static void place() {
        MailDen den = new MailDen();
        Due.throwsIt("6 no spec", Dens.INDEX, () -> den.place(0, false, 9, 9));
        den.spec(0, 0, 1);
        Due.throwsIt("6 spec -1", Dens.INDEX, () -> den.place(-1, false, 0, 0));
        Due.throwsIt("6 no module", Dens.ARGUMENT, () -> den.place(0, false, 0, 0));
        den.module();
        Due.throwsIt("6 module -1", Dens.ARGUMENT, () -> den.place(0, false, -1, 0));
        Due.throwsIt("6 module 1", Dens.ARGUMENT, () -> den.place(0, false, 1, 0));
        Due.throwsIt("6 itself", Dens.ARGUMENT, () -> den.place(0, true, 0, 0));
        Due.throwsIt("6 mode -1", Dens.ARGUMENT, () -> den.place(0, false, 0, -1));
        Due.throwsIt("6 mode 3", Dens.ARGUMENT, () -> den.place(0, false, 0, 3));
        den.spec(0, 0, 1);
        den.spec(0, 0, 1);
        Due.throwsIt("6 later spec", Dens.ARGUMENT, () -> den.place(1, true, 2, 0));
        Due.throwsIt("6 spec -1 in it", Dens.ARGUMENT, () -> den.place(1, true, -1, 0));
        Due.same("6 smaller spec", 0, den.place(1, true, 0, 0));
        for (int k = 0; k < 4; k++) {
            Due.same("6 place", k, den.place(0, false, 0, k % 3));
        }
        Due.throwsIt("6 fifth", Dens.STATE, () -> den.place(0, false, 0, 0));
        Due.throwsIt("6 argument ahead of full", Dens.ARGUMENT, () -> den.place(0, false, 7, 0));
        den.supervise(1);
        Due.throwsIt("6 had a supervisor", Dens.STATE, () -> den.place(1, false, 0, 0));
        Due.throwsIt("6 argument ahead of had", Dens.ARGUMENT, () -> den.place(1, true, 1, 0));
        Due.same("6 the other one goes on", 0, den.place(2, true, 1, 2));
    }

    private static void ofModule() {
        MailDen den = new MailDen();
        Due.throwsIt("7 no module", Dens.INDEX, () -> den.ofModule(0, 9));
        int m = Dens.waiter(den);
        Due.throwsIt("7 module -1", Dens.INDEX, () -> den.ofModule(-1, 0));
        Due.throwsIt("7 what -1", Dens.ARGUMENT, () -> den.ofModule(m, -1));
        Due.throwsIt("7 what 5", Dens.ARGUMENT, () -> den.ofModule(m, 5));
        den.start(m);
        den.start(m);
        den.start(m);
        den.signal(1, 1);
        Due.same("7 lines", 2, den.ofModule(m, 1));
        Due.same("7 current", 5, den.ofModule(m, 2));
        Due.same("7 older", 0, den.ofModule(m, 3));
        den.load(m);
        den.start(m);
        Due.same("7 versions", 2, den.ofModule(m, 0));
        Due.same("7 no lines", 0, den.ofModule(m, 1));
        Due.same("7 current behind a load", 8, den.ofModule(m, 2));
        Due.same("7 older behind a load", 5, den.ofModule(m, 3));
        Due.same("7 made", 4, den.ofModule(m, 4));
        int n = Dens.waiter(den);
        Due.same("7 none of another", 0, den.ofModule(n, 4));
        Dens.spec(den, 0, 0, 1);
        den.supervise(0);
        Due.same("7 no supervisors", 8, den.ofModule(m, 2));
        Due.same("7 none made", 0, den.ofModule(n, 4));
    }
}
