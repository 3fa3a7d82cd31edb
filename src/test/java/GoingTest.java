/** Promises 8 and 10 to 13: processes, turns, mail, links, watches and signals. */
public final class GoingTest {
    private GoingTest() {
    }

    public static void main(String[] args) {
        start();
        run();
        counting();
        jumps();
        turnsOfTwenty();
        locals();
        take();
        takeWithLimit();
        sleep();
        tick();
        send();
        names();
        spawn();
        links();
        linkWithGone();
        watches();
        manyWatches();
        traps();
        signal();
        signalLine();
        orderOfEnds();
        next();
        Due.end();
    }

    private static void start() {
        MailDen den = new MailDen();
        Due.throwsIt("8 no module", Dens.INDEX, () -> den.start(0));
        int m = Dens.waiter(den);
        Due.throwsIt("8 module -1", Dens.INDEX, () -> den.start(-1));
        Due.throwsIt("8 module 1", Dens.INDEX, () -> den.start(1));
        for (int k = 0; k < 24; k++) {
            Due.same("8 number", k, den.start(m));
            Due.same("8 ready at the end of the row", k, den.ofProcess(k, 4));
        }
        Due.throwsIt("8 25th", Dens.STATE, () -> den.start(m));
        Due.throwsIt("8 index ahead of state", Dens.INDEX, () -> den.start(1));
        den.signal(0, 9);
        Due.throwsIt("8 OVER ones count", Dens.STATE, () -> den.start(m));
        Due.same("8 nothing changed", 24, den.many(2));
    }

    private static void run() {
        MailDen den = new MailDen();
        Due.throwsIt("10 turns 0", Dens.ARGUMENT, () -> den.run(0));
        Due.throwsIt("10 turns 51", Dens.ARGUMENT, () -> den.run(51));
        Due.throwsIt("10 turns -1", Dens.ARGUMENT, () -> den.run(-1));
        Due.same("10 none ready", 0, den.run(50));
        int m = Dens.waiter(den);
        den.start(m);
        den.start(m);
        den.start(m);
        Due.same("10 at most", 2, den.run(2));
        Due.same("10 in order", Dens.WAITS, den.ofProcess(1, 2));
        Due.same("10 not the third", Dens.READY, den.ofProcess(2, 2));
        Due.same("10 the rest", 1, den.run(50));
        Due.same("10 counted", 3, den.many(11));
        Due.same("10 no lines", 0, Dens.ran().ofProcess(0, 3));
    }

    private static void counting() {
        MailDen den = Dens.ran(Dens.is(Dens.ADD, 99), Dens.is(Dens.PUT, 2), Dens.is(Dens.ADD, -1));
        Due.same("10 what there is", 98, den.ofProcess(0, 5));
        Due.same("10 local", 99, den.local(0, 2));
        Due.same("10 lines begun", 3, den.many(12));
        Due.same("10 ended with 0", 0, den.ofProcess(0, 3));
        Due.same("10 behind the last", 3, den.ofProcess(0, 6));
        MailDen low = new MailDen();
        int m = Dens.module(low, Dens.is(Dens.ADD, -99), Dens.is(Dens.NEXT));
        low.start(m);
        low.run(50);
        Due.same("10 held low", -9999, low.ofProcess(0, 5));
        MailDen high = new MailDen();
        int n = Dens.module(high, Dens.is(Dens.ADD, 99), Dens.is(Dens.NEXT));
        high.start(n);
        high.run(10);
        Due.same("10 ten a turn", 9900, high.ofProcess(0, 5));
        high.run(1);
        Due.same("10 held high", 9999, high.ofProcess(0, 5));
        MailDen exit = Dens.ran(Dens.is(Dens.ADD, 1), Dens.is(Dens.EXIT, 7), Dens.is(Dens.ADD, 1));
        Due.same("10 exit", 7, exit.ofProcess(0, 3));
        Due.same("10 the line that it did", 1, exit.ofProcess(0, 6));
        Due.same("10 it does no more", 1, exit.ofProcess(0, 5));
    }

    private static void jumps() {
        MailDen den = Dens.ran(Dens.is(Dens.SKIP, 0, 3), Dens.is(Dens.ADD, 50), Dens.is(Dens.EXIT, 1),
            Dens.is(Dens.ADD, 1), Dens.is(Dens.SKIP, 0, 12), Dens.is(Dens.ADD, 10),
            Dens.is(Dens.ADD, -20), Dens.is(Dens.SKIP, 0, 12), Dens.is(Dens.EXIT, 2));
        Due.same("10 skips at 0 and less, not above", -9, den.ofProcess(0, 5));
        Due.same("10 no line there", 0, den.ofProcess(0, 3));
        Due.same("10 where it went", 12, den.ofProcess(0, 6));
        MailDen loop = Dens.ran(Dens.is(Dens.ADD, 3), Dens.is(Dens.PUT, 1), Dens.is(Dens.ADD, 10),
            Dens.is(Dens.LOOP, 1, 2), Dens.is(Dens.EXIT, 4));
        Due.same("10 looped thrice", 43, loop.ofProcess(0, 5));
        Due.same("10 the local is used up", 0, loop.local(0, 1));
        MailDen below = Dens.ran(Dens.is(Dens.ADD, -1), Dens.is(Dens.PUT, 0), Dens.is(Dens.LOOP, 0, 0));
        Due.same("10 no loop below 0", -1, below.local(0, 0));
        Due.same("10 it went on", 0, below.ofProcess(0, 3));
    }

    private static void turnsOfTwenty() {
        int[][] lines = new int[12][];
        for (int k = 0; k < 10; k++) {
            lines[k] = Dens.is(Dens.ADD, 1);
        }
        lines[10] = Dens.is(Dens.LOOP, 3, 0);
        lines[11] = Dens.is(Dens.NEXT);
        MailDen den = new MailDen();
        int m = Dens.module(den, lines);
        den.start(m);
        den.start(m);
        den.run(1);
        Due.same("10 twenty lines", 20, den.many(12));
        Due.same("10 ten, loop, next, eight", 18, den.ofProcess(0, 5));
        Due.same("10 ready still", Dens.READY, den.ofProcess(0, 2));
        Due.same("10 at the end of the row", 1, den.ofProcess(0, 4));
        Due.same("10 the other one is first", 0, den.ofProcess(1, 4));
        Due.same("10 next line", 8, den.ofProcess(0, 6));

        MailDen edge = Dens.ran(Dens.is(Dens.ADD, 17), Dens.is(Dens.PUT, 0), Dens.is(Dens.LOOP, 0, 2));
        Due.same("10 twenty, with the loop out of it", 20, edge.many(12));
        Due.same("10 no line behind, not yet over", Dens.READY, edge.ofProcess(0, 2));
        Due.same("10 behind the last line", 3, edge.ofProcess(0, 6));
        edge.run(1);
        Due.same("10 over in the next turn", 0, edge.ofProcess(0, 3));
        Due.same("10 that turn counts", 2, edge.many(11));
        Due.same("10 no line was begun in it", 20, edge.many(12));

        MailDen late = Dens.ran(Dens.is(Dens.SLEEP, 1), Dens.is(Dens.ADD, 10), Dens.is(Dens.PUT, 0),
            Dens.is(Dens.LOOP, 0, 3), Dens.is(Dens.ADD, 30), Dens.is(Dens.PUT, 0), Dens.is(Dens.LOOP, 0, 6));
        late.tick(1);
        late.run(1);
        Due.same("10 the line that waited was begun before", 21, late.many(12));
        Due.same("10 in its loop", 6, late.ofProcess(0, 6));
        late.run(1);
        Due.same("10 no wait is had twice", 6, late.ofProcess(0, 6));
        Due.same("10 loops left", 40 - 5 - 20, late.local(0, 0));
    }

    private static void locals() {
        MailDen den = Dens.ran(Dens.is(Dens.ADD, 5), Dens.is(Dens.PUT, 0), Dens.is(Dens.ADD, 5),
            Dens.is(Dens.PUT, 3), Dens.is(Dens.GET, 0));
        Due.same("10 got", 5, den.ofProcess(0, 5));
        Due.same("10 local 3", 10, den.local(0, 3));
        Due.same("10 local 1", 0, den.local(0, 1));
    }

    private static void take() {
        MailDen den = Dens.ran(Dens.is(Dens.TAKE, 1), Dens.is(Dens.PUT, 0), Dens.is(Dens.TAKE, 4),
            Dens.is(Dens.PUT, 1), Dens.is(Dens.TAKE, 1, 0));
        Due.same("10 waits", Dens.WAITS, den.ofProcess(0, 2));
        Due.same("10 at its line", 0, den.ofProcess(0, 6));
        Due.same("10 without a limit", -1, den.ofProcess(0, 7));
        Due.same("10 not in the row", -1, den.ofProcess(0, 4));
        den.send(0, 0, 11);
        den.send(0, 0, 12);
        Due.same("10 waits still", Dens.WAITS, den.ofProcess(0, 2));
        den.send(0, 1, 13);
        Due.same("10 ready by such mail", Dens.READY, den.ofProcess(0, 2));
        Due.same("10 at that line till its turn", 0, den.ofProcess(0, 6));
        Due.same("10 the mail stays till its turn", 3, den.ofProcess(0, 8));
        den.send(0, 1, 14);
        Due.same("10 once in the row", 1, den.many(3));
        den.run(1);
        Due.same("10 first with the tag", 13, den.local(0, 0));
        Due.same("10 any: the first one", 11, den.local(0, 1));
        Due.same("10 then the second with the tag", 14, den.ofProcess(0, 5));
        Due.same("10 over, its box is gone", 0, den.ofProcess(0, 8));
        Due.same("10 not lost", 0, den.many(9));
        Due.same("10 five lines", 5, den.many(12));
    }

    private static void takeWithLimit() {
        MailDen den = Dens.ran(Dens.is(Dens.ADD, 7), Dens.is(Dens.TAKE, 0, 2), Dens.is(Dens.PUT, 0),
            Dens.is(Dens.TAKE, 0, 9));
        Due.same("11 till", 2, den.ofProcess(0, 7));
        Due.same("11 not yet", 0, den.tick(1));
        Due.same("11 now", 1, den.tick(1));
        Due.same("11 no limit any more", -1, den.ofProcess(0, 7));
        Due.same("11 not yet had", 7, den.ofProcess(0, 5));
        den.run(1);
        Due.same("11 -1 without one", -1, den.local(0, 0));
        Due.same("11 the next limit", 11, den.ofProcess(0, 7));
        den.tick(9);
        den.send(0, 0, 5);
        den.run(1);
        Due.same("11 mail that comes before its turn", 5, den.ofProcess(0, 5));
        MailDen early = Dens.ran(Dens.is(Dens.TAKE, 0, 3), Dens.is(Dens.TAKE, 1));
        early.send(0, 0, 5);
        Due.same("11 ready ahead of the limit", 0, early.tick(3));
        early.run(1);
        Due.same("11 had the mail", 5, early.ofProcess(0, 5));
        Due.same("11 waits at the next", 1, early.ofProcess(0, 6));
    }

    private static void sleep() {
        MailDen den = Dens.ran(Dens.is(Dens.ADD, 4), Dens.is(Dens.SLEEP, 9), Dens.is(Dens.TAKE, 0));
        Due.same("10 sleeps till", 9, den.ofProcess(0, 7));
        den.send(0, 0, 33);
        den.send(0, 1, 34);
        Due.same("10 mail wakes none that sleeps", Dens.WAITS, den.ofProcess(0, 2));
        den.tick(8);
        Due.same("10 sleeps still", Dens.WAITS, den.ofProcess(0, 2));
        Due.same("10 awake", 1, den.tick(1));
        Due.same("10 keeps what there is", 4, den.ofProcess(0, 5));
        den.run(1);
        Due.same("10 takes then", 33, den.ofProcess(0, 5));
    }

    private static void tick() {
        MailDen den = new MailDen();
        Due.throwsIt("11 ticks 0", Dens.ARGUMENT, () -> den.tick(0));
        Due.throwsIt("11 ticks 21", Dens.ARGUMENT, () -> den.tick(21));
        Due.same("11 none", 0, den.tick(20));
        Due.same("11 now", 20, den.many(10));
        int nine = Dens.module(den, Dens.is(Dens.SLEEP, 2));
        int one = Dens.module(den, Dens.is(Dens.SLEEP, 1));
        den.start(nine);
        den.start(one);
        den.start(nine);
        den.start(one);
        den.run(4);
        Due.same("11 all", 4, den.tick(2));
        Due.same("11 first by time, then by numbers", 0, den.ofProcess(1, 4));
        Due.same("11 second", 1, den.ofProcess(3, 4));
        Due.same("11 third", 2, den.ofProcess(0, 4));
        Due.same("11 fourth", 3, den.ofProcess(2, 4));
    }

    private static void send() {
        MailDen den = new MailDen();
        int m = Dens.module(den, Dens.is(Dens.TAKE, 3));
        Due.throwsIt("12 no process", Dens.INDEX, () -> den.send(0, 9, 9999));
        den.start(m);
        den.run(1);
        Due.throwsIt("12 process -1", Dens.INDEX, () -> den.send(-1, 0, 0));
        Due.throwsIt("12 process 1", Dens.INDEX, () -> den.send(1, 0, 0));
        Due.throwsIt("12 tag -1", Dens.ARGUMENT, () -> den.send(0, -1, 0));
        Due.throwsIt("12 tag 2", Dens.ARGUMENT, () -> den.send(0, 2, 0));
        Due.throwsIt("12 number -1000", Dens.ARGUMENT, () -> den.send(0, 0, -1000));
        Due.throwsIt("12 number 1000", Dens.ARGUMENT, () -> den.send(0, 0, 1000));
        Due.same("12 least", true, den.send(0, 1, -999));
        Due.same("12 most", true, den.send(0, 0, 999));
        for (int k = 2; k < 8; k++) {
            Due.same("12 fills", true, den.send(0, 0, k));
        }
        Due.same("12 full", false, den.send(0, 0, 8));
        Due.same("12 lost", 1, den.many(9));
        Due.same("12 in order, tag", 1, den.mail(0, 0, 0));
        Due.same("12 in order, number", -999, den.mail(0, 0, 1));
        Due.same("12 last", 7, den.mail(0, 7, 1));
        den.signal(0, 9);
        Due.same("12 to one that is OVER", false, den.send(0, 0, 0));
        Due.same("12 lost too", 2, den.many(9));
        Due.throwsIt("12 argument, to an OVER one", Dens.ARGUMENT, () -> den.send(0, 2, 0));
        Dens.spec(den, 0, 0, 1);
        int s = den.supervise(0);
        Due.same("12 to a supervisor", false, den.send(s, 0, 0));
        Due.same("12 lost as well", 3, den.many(9));

        MailDen line = new MailDen();
        int to = Dens.module(line, Dens.is(Dens.ADD, 60), Dens.is(Dens.PUT, 3), Dens.is(Dens.ADD, -60),
            Dens.is(Dens.SEND, 1), Dens.is(Dens.ADD, -1), Dens.is(Dens.SEND, 0), Dens.is(Dens.TAKE, 2));
        line.start(to);
        line.run(1);
        Due.same("12 mail to itself", 1, line.ofProcess(0, 8));
        Due.same("12 with the tag a", 1, line.mail(0, 0, 0));
        Due.same("12 and local 3", 60, line.mail(0, 0, 1));
        Due.same("12 to none that is there", 1, line.many(9));
    }

    private static void names() {
        MailDen den = new MailDen();
        int m = Dens.module(den, Dens.is(Dens.NAME, 1), Dens.is(Dens.NAME, 3), Dens.is(Dens.NAME, 1),
            Dens.is(Dens.TAKE, 1), Dens.is(Dens.TAKE, 1));
        int caller = Dens.module(den, Dens.is(Dens.ADD, 8), Dens.is(Dens.CALL, 3, 1), Dens.is(Dens.CALL, 0, 1));
        den.start(m);
        den.start(m);
        den.start(caller);
        den.run(2);
        Due.same("10 named", 0, den.named(1));
        Due.same("10 besides", 0, den.named(3));
        Due.same("10 another has it", 6, den.ofProcess(1, 3));
        Due.same("10 at its line", 0, den.ofProcess(1, 6));
        den.run(1);
        Due.same("10 called", 1, den.mail(0, 0, 0));
        Due.same("10 with what there is", 8, den.mail(0, 0, 1));
        Due.same("10 no such name", 6, den.ofProcess(2, 3));
        Due.same("10 at the call", 2, den.ofProcess(2, 6));
        den.signal(0, 9);
        Due.same("10 names are gone", -1, den.named(3));
        den.start(m);
        den.run(1);
        Due.same("10 free again", 3, den.named(1));
    }

    private static void spawn() {
        MailDen den = new MailDen();
        int m = Dens.module(den, Dens.is(Dens.SPAWN, 1), Dens.is(Dens.PUT, 0), Dens.is(Dens.SPAWN, 1, 1),
            Dens.is(Dens.SPAWN, 3));
        int child = Dens.waiter(den);
        den.start(m);
        den.start(child);
        den.run(1);
        Due.same("10 its number", 2, den.local(0, 0));
        Due.same("10 no such module", 5, den.ofProcess(0, 3));
        Due.same("10 what there was", 3, den.ofProcess(0, 5));
        Due.same("10 at the spawn", 3, den.ofProcess(0, 6));
        Due.same("10 not linked", Dens.READY, den.ofProcess(2, 2));
        Due.same("10 at the end of the row", 1, den.ofProcess(2, 4));
        Due.same("10 linked", 5, den.ofProcess(3, 3));
        Due.same("10 no child", -1, den.ofProcess(2, 11));
        MailDen full = new MailDen();
        int f = Dens.module(full, Dens.is(Dens.SPAWN, 0), Dens.is(Dens.TAKE, 0));
        for (int k = 0; k < 24; k++) {
            full.start(f);
        }
        full.run(1);
        Due.same("10 there are 24", 5, full.ofProcess(0, 3));
        MailDen newest = new MailDen();
        int n = Dens.module(newest, Dens.is(Dens.TAKE, 0), Dens.is(Dens.SPAWN, 0));
        newest.start(n);
        newest.run(1);
        newest.load(n);
        newest.send(0, 0, 0);
        newest.run(1);
        Due.same("10 of the current version", 1, newest.ofProcess(1, 1));
    }

    private static MailDen linked() {
        MailDen den = new MailDen();
        int m = Dens.linker(den);
        for (int k = 0; k < 5; k++) {
            den.start(m);
        }
        den.run(5);
        den.send(0, 0, 1);
        den.send(1, 0, 2);
        den.send(1, 0, 0);
        den.send(3, 0, 3);
        den.run(5);
        return den;
    }

    private static void links() {
        MailDen den = linked();
        Due.same("10 links", 2, den.many(7));
        Due.same("10 both ends", 5, den.ofProcess(1, 9));
        Due.same("10 not with itself", 0, den.ofProcess(3, 9));
        Due.same("13 along the links", 3, den.signal(2, 4));
        Due.same("13 with its reason", 4, den.ofProcess(0, 3));
        Due.same("13 no links left", 0, den.many(7));
        MailDen zero = linked();
        Due.same("13 0 is nothing", 0, zero.signal(1, 0));
        MailDen exit = new MailDen();
        int m = Dens.module(exit, Dens.is(Dens.SPAWN, 1, 1), Dens.is(Dens.EXIT, 0));
        Dens.waiter(exit);
        exit.start(m);
        exit.run(2);
        Due.same("10 an end with 0 is nothing to the other", Dens.WAITS, exit.ofProcess(1, 2));
        Due.same("10 but the link is gone", 0, exit.ofProcess(1, 9));
        MailDen cut = new MailDen();
        int u = Dens.module(cut, Dens.is(Dens.SPAWN, 1, 1), Dens.is(Dens.UNLINK), Dens.is(Dens.UNLINK),
            Dens.is(Dens.ADD, 50), Dens.is(Dens.UNLINK), Dens.is(Dens.EXIT, 3));
        Dens.waiter(cut);
        cut.start(u);
        cut.run(2);
        Due.same("10 unlinked", Dens.WAITS, cut.ofProcess(1, 2));
        Due.same("10 unlink of none is nothing", 3, cut.ofProcess(0, 3));
    }

    private static void linkWithGone() {
        MailDen den = Dens.ran(Dens.is(Dens.ADD, 5), Dens.is(Dens.LINK), Dens.is(Dens.ADD, 1));
        Due.same("10 a signal 7", 7, den.ofProcess(0, 3));
        Due.same("10 at the link", 1, den.ofProcess(0, 6));
        MailDen trap = Dens.ran(Dens.is(Dens.TRAP, 1), Dens.is(Dens.ADD, -3), Dens.is(Dens.LINK),
            Dens.is(Dens.TAKE, 2));
        Due.same("10 trapped, tag", 3, trap.mail(0, 0, 0));
        Due.same("10 from that number", -23, trap.mail(0, 0, 1));
        MailDen over = new MailDen();
        int m = Dens.linker(over);
        over.start(m);
        over.start(m);
        over.run(2);
        over.signal(1, 1);
        over.send(0, 0, 1);
        over.run(1);
        Due.same("10 OVER is gone too", 7, over.ofProcess(0, 3));
    }

    private static void watches() {
        MailDen den = new MailDen();
        int m = Dens.module(den, Dens.is(Dens.TAKE, 0), Dens.is(Dens.WATCH), Dens.is(Dens.NEXT));
        for (int k = 0; k < 4; k++) {
            den.start(m);
        }
        den.run(4);
        den.send(2, 0, 0);
        den.run(1);
        den.send(1, 0, 0);
        den.send(3, 0, 0);
        den.send(3, 0, 0);
        den.send(0, 0, 0);
        den.run(3);
        Due.same("10 each counts for itself", 5, den.ofProcess(0, 12));
        den.signal(1, 9);
        Due.same("10 by those that are not OVER", 4, den.ofProcess(0, 12));
        den.signal(0, 6);
        Due.same("10 none of an OVER one", 0, den.ofProcess(0, 12));
        Due.same("10 mail by a watch, tag", 2, den.mail(2, 0, 0));
        Due.same("10 number", 6, den.mail(2, 0, 1));
        Due.same("10 twice watched", 2, den.ofProcess(3, 8));
        Due.same("10 none lost", 0, den.many(9));
        Due.same("10 a take of 0 waits still", 0, den.many(3));
        den.send(2, 0, 0);
        den.run(1);
        Due.same("10 one that is OVER, at once", 7, den.mail(2, 1, 1));
        den.send(2, 0, 77);
        den.run(1);
        Due.same("10 one that is not there", 777, den.mail(2, 2, 1));

        MailDen order = new MailDen();
        int w = Dens.module(order, Dens.is(Dens.WATCH), Dens.is(Dens.TAKE, 2), Dens.is(Dens.TAKE, 1));
        int target = Dens.waiter(order);
        order.start(target);
        order.start(w);
        order.start(w);
        order.run(1);
        int early = Dens.module(order, Dens.is(Dens.WATCH), Dens.is(Dens.TAKE, 4));
        order.start(early);
        order.run(3);
        order.signal(0, 3);
        Due.same("10 in the order in which they came", 0, order.ofProcess(1, 4));
        Due.same("10 second", 1, order.ofProcess(2, 4));
        Due.same("10 third", 2, order.ofProcess(3, 4));
        order.run(3);
        Due.same("10 taken", 3, order.ofProcess(1, 5));
    }

    private static void manyWatches() {
        MailDen den = new MailDen();
        int m = Dens.module(den, Dens.is(Dens.WATCH), Dens.is(Dens.WATCH), Dens.is(Dens.WATCH), Dens.is(Dens.WATCH),
            Dens.is(Dens.WATCH), Dens.is(Dens.WATCH), Dens.is(Dens.WATCH), Dens.is(Dens.WATCH),
            Dens.is(Dens.WATCH), Dens.is(Dens.WATCH), Dens.is(Dens.TAKE, 0), Dens.is(Dens.NEXT));
        int target = Dens.waiter(den);
        den.start(target);
        den.start(m);
        den.run(2);
        Due.same("10 ten watches", 10, den.ofProcess(0, 12));
        den.send(1, 0, 0);
        den.send(1, 1, 0);
        den.run(2);
        Due.same("10 twenty watches", 20, den.ofProcess(0, 12));
        Due.same("10 it would be so", 1, den.wouldFall(0, 2));
        den.signal(0, 2);
        Due.same("10 the box is full", 8, den.ofProcess(1, 8));
        Due.same("10 the rest is lost", 13, den.many(9));
        Due.same("10 behind what was there", 1, den.mail(1, 0, 0));
        Due.same("10 by the watch", 2, den.mail(1, 7, 1));
    }

    private static void traps() {
        MailDen den = Dens.ran(Dens.is(Dens.TRAP, 1), Dens.is(Dens.TAKE, 0), Dens.is(Dens.TRAP, 0),
            Dens.is(Dens.TAKE, 0));
        Due.same("13 traps", 1, den.ofProcess(0, 10));
        Due.same("13 trapped", 0, den.signal(0, 5));
        Due.same("13 also 0", 0, den.signal(0, 0));
        Due.same("13 tag", 3, den.mail(0, 0, 0));
        Due.same("13 number", 5, den.mail(0, 0, 1));
        Due.same("13 0 as mail", 0, den.mail(0, 1, 1));
        for (int k = 0; k < 7; k++) {
            den.signal(0, 8);
        }
        Due.same("13 a full box", 8, den.ofProcess(0, 8));
        Due.same("13 lost", 1, den.many(9));
        den.signal(0, 9);
        Due.same("13 9 can't be trapped", 8, den.ofProcess(0, 3));
        Due.same("13 it did at its end", 1, den.ofProcess(0, 10));
        MailDen off = Dens.ran(Dens.is(Dens.TRAP, 1), Dens.is(Dens.TRAP, 0), Dens.is(Dens.TAKE, 0));
        Due.same("13 no more", 0, off.ofProcess(0, 10));
        Due.same("13 ends", 1, off.signal(0, 8));
        MailDen wake = Dens.ran(Dens.is(Dens.TRAP, 1), Dens.is(Dens.TAKE, 3), Dens.is(Dens.SLEEP, 1));
        wake.signal(0, 4);
        Due.same("13 wakes a take of 3", Dens.READY, wake.ofProcess(0, 2));
    }

    private static void signal() {
        MailDen den = new MailDen();
        Due.throwsIt("13 no process", Dens.INDEX, () -> den.signal(0, 10));
        int m = Dens.waiter(den);
        den.start(m);
        Due.throwsIt("13 process -1", Dens.INDEX, () -> den.signal(-1, 0));
        Due.throwsIt("13 process 1", Dens.INDEX, () -> den.signal(1, 0));
        Due.throwsIt("13 reason -1", Dens.ARGUMENT, () -> den.signal(0, -1));
        Due.throwsIt("13 reason 10", Dens.ARGUMENT, () -> den.signal(0, 10));
        Due.same("13 0", 0, den.signal(0, 0));
        Due.same("13 1", 1, den.signal(0, 1));
        Due.same("13 not in the row any more", 0, den.many(3));
        Due.same("13 OVER already", 0, den.signal(0, 9));
        Due.same("13 reason stays", 1, den.ofProcess(0, 3));
        den.start(m);
        den.signal(1, 9);
        Due.same("13 9 is 8", 8, den.ofProcess(1, 3));
        den.start(m);
        den.signal(2, 8);
        Due.same("13 8 is 8", 8, den.ofProcess(2, 3));
        Dens.spec(den, 0, 0, 1);
        int s = den.supervise(0);
        Due.same("13 nothing to a supervisor", 0, den.signal(s, 8));
        Due.same("13 but 9", 1, den.signal(s, 9));
        Due.same("13 with 8", 8, den.ofProcess(s, 3));
    }

    private static void signalLine() {
        MailDen den = new MailDen();
        int m = Dens.module(den, Dens.is(Dens.SPAWN, 1, 1), Dens.is(Dens.SIGNAL, 3), Dens.is(Dens.ADD, 40));
        Dens.waiter(den);
        den.start(m);
        den.run(1);
        Due.same("10 it ends the other", 3, den.ofProcess(1, 3));
        Due.same("10 and by the link itself, ahead of its turn's rest", 3, den.ofProcess(0, 3));
        Due.same("10 no further line", 1, den.ofProcess(0, 5));
        Due.same("10 the line that it did", 1, den.ofProcess(0, 6));
        MailDen own = Dens.ran(Dens.is(Dens.TRAP, 1), Dens.is(Dens.SIGNAL, 4), Dens.is(Dens.SIGNAL, 9),
            Dens.is(Dens.ADD, 1));
        Due.same("10 to itself: 9", 8, own.ofProcess(0, 3));
        Due.same("10 its trapped mail is gone", 0, own.many(8));
        MailDen none = Dens.ran(Dens.is(Dens.ADD, 24), Dens.is(Dens.SIGNAL, 9), Dens.is(Dens.EXIT, 2));
        Due.same("10 to none that is there: nothing", 2, none.ofProcess(0, 3));
        MailDen from = new MailDen();
        int f = Dens.module(from, Dens.is(Dens.SIGNAL, 6));
        int t = Dens.module(from, Dens.is(Dens.TRAP, 1), Dens.is(Dens.TAKE, 0));
        from.start(t);
        from.start(f);
        from.run(2);
        Due.same("10 the number from which it comes", 16, from.mail(0, 0, 1));
    }

    /** 0 is linked with 1 and 2, and 1 with 3; 3 traps and sees who ends. */
    private static void orderOfEnds() {
        MailDen den = new MailDen();
        int m = Dens.linker(den);
        int trap = Dens.module(den, Dens.is(Dens.TRAP, 1), Dens.is(Dens.TAKE, 0), Dens.is(Dens.LINK),
            Dens.is(Dens.TAKE, 0), Dens.is(Dens.LINK), Dens.is(Dens.TAKE, 0), Dens.is(Dens.LINK),
            Dens.is(Dens.TAKE, 0));
        den.start(m);
        den.start(m);
        den.start(m);
        den.start(trap);
        den.run(4);
        den.send(0, 0, 1);
        den.send(2, 0, 0);
        den.send(3, 0, 2);
        den.send(3, 0, 1);
        den.send(3, 0, 0);
        den.run(9);
        Due.same("13 all linked with the one that traps", 7, den.ofProcess(3, 9));
        Due.same("13 three end", 3, den.signal(0, 5));
        Due.same("13 first the one that was first OVER", 5, den.mail(3, 0, 1));
        Due.same("13 then by numbers", 15, den.mail(3, 1, 1));
        Due.same("13 then the last", 25, den.mail(3, 2, 1));
        Due.same("13 no links", 0, den.many(7));
    }

    private static void next() {
        MailDen den = new MailDen();
        int m = Dens.module(den, Dens.is(Dens.ADD, 5), Dens.is(Dens.PUT, 1), Dens.is(Dens.TAKE, 1, 3),
            Dens.is(Dens.NEXT));
        den.start(m);
        den.run(1);
        den.load(m);
        Dens.add(den, m, Dens.is(Dens.ADD, 50), Dens.is(Dens.EXIT, 3));
        den.send(0, 1, 7);
        den.run(1);
        Due.same("10 the current version", 1, den.ofProcess(0, 1));
        Due.same("10 what there is stays", 57, den.ofProcess(0, 5));
        Due.same("10 locals stay", 5, den.local(0, 1));
        Due.same("10 its line", 1, den.ofProcess(0, 6));
        Due.same("10 six lines", 6, den.many(12));
    }
}
