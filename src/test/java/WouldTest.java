/** Promises 21 to 25: what would be, and the digest. */
public final class WouldTest {
    private WouldTest() {
    }

    public static void main(String[] args) {
        wouldFall();
        wouldFallWithRestarts();
        wouldPurge();
        overBy();
        overByDoesAll();
        trialIsWhole();
        passedOver();
        digest();
        nothingChanges();
        Due.end();
    }

    private static void wouldFall() {
        MailDen den = new MailDen();
        Due.throwsIt("21 no process", Dens.INDEX, () -> den.wouldFall(0, 10));
        int m = Dens.linker(den);
        for (int k = 0; k < 4; k++) {
            den.start(m);
        }
        den.run(4);
        den.send(0, 0, 1);
        den.send(1, 0, 3);
        den.run(2);
        Due.throwsIt("21 process -1", Dens.INDEX, () -> den.wouldFall(-1, 0));
        Due.throwsIt("21 process 4", Dens.INDEX, () -> den.wouldFall(4, 0));
        Due.throwsIt("21 reason -1", Dens.ARGUMENT, () -> den.wouldFall(0, -1));
        Due.throwsIt("21 reason 10", Dens.ARGUMENT, () -> den.wouldFall(0, 10));
        Due.same("21 along the links", 11, den.wouldFall(0, 1));
        Due.same("21 9 too", 11, den.wouldFall(3, 9));
        Due.same("21 0 is nothing", 0, den.wouldFall(0, 0));
        Due.same("21 alone", 4, den.wouldFall(2, 8));
        den.signal(2, 1);
        Due.same("21 OVER already", 0, den.wouldFall(2, 9));
        Due.same("21 not those that are OVER", 11, den.wouldFall(1, 9));
        MailDen last = new MailDen();
        int w = Dens.waiter(last);
        for (int k = 0; k < 24; k++) {
            last.start(w);
        }
        Due.same("21 the last bit", 1 << 23, last.wouldFall(23, 1));
    }

    private static void wouldFallWithRestarts() {
        MailDen den = new MailDen();
        int m = Dens.waiter(den);
        int s0 = Dens.spec(den, 0, 0, 9, Dens.ofModule(m, 0));
        int s1 = Dens.spec(den, 1, 1, 9, Dens.ofModule(m, 0), Dens.ofSpec(s0, 0));
        den.supervise(s1);
        Due.same("21 child and its restart: all others", 14, den.wouldFall(1, 4));
        Due.same("21 nothing to a supervisor", 0, den.wouldFall(0, 4));
        den.signal(1, 4);
        Due.same("21 too often", 1 | 1 << 4 | 1 << 5 | 1 << 6, den.wouldFall(4, 4));

        MailDen full = new MailDen();
        int f = Dens.waiter(full);
        int t = Dens.spec(full, 1, 3, 9, Dens.ofModule(f, 0), Dens.ofModule(f, 0), Dens.ofModule(f, 0));
        full.supervise(t);
        while (full.many(2) < 22) {
            full.start(f);
        }
        Due.same("21 those that would come, too", 15 | 3 << 22, full.wouldFall(1, 1));
        Due.same("21 again the same", 15 | 3 << 22, full.wouldFall(1, 1));
        Due.same("21 another one meanwhile", 1 << 4, full.wouldFall(4, 1));
        full.start(f);
        Due.same("21 as one has come", 15 | 1 << 23, full.wouldFall(1, 1));
        Due.same("13 so it is", 5, full.signal(1, 1));
    }

    private static void wouldPurge() {
        MailDen den = new MailDen();
        Due.throwsIt("22 no module", Dens.INDEX, () -> den.wouldPurge(0));
        int m = Dens.waiter(den);
        Due.throwsIt("22 module -1", Dens.INDEX, () -> den.wouldPurge(-1));
        Due.throwsIt("22 module 1", Dens.INDEX, () -> den.wouldPurge(1));
        int s = Dens.spec(den, 0, 1, 9, Dens.ofModule(m, 0), Dens.ofModule(m, 0));
        den.supervise(s);
        Due.same("22 none is older", 0, den.wouldPurge(m));
        den.load(m);
        Due.same("22 all older, and one that would come", 15, den.wouldPurge(m));
        Due.same("22 versions stay", 2, den.ofModule(m, 0));
        den.load(m);
        den.load(m);
        den.start(m);
        Due.same("22 with four, none older", 0, den.wouldPurge(m));
        MailDen four = new MailDen();
        int n = Dens.waiter(four);
        int t = Dens.spec(four, 0, 3, 9, Dens.ofModule(n, 0));
        four.load(n);
        four.load(n);
        Dens.add(four, n, Dens.is(Dens.TAKE, 0));
        four.supervise(t);
        four.load(n);
        Due.same("22 with four versions, too", 2, four.wouldPurge(n));
        Due.same("22 none came by that", 2, four.many(2));
    }

    private static void overBy() {
        MailDen den = new MailDen();
        Due.throwsIt("23 ticks 0", Dens.ARGUMENT, () -> den.overBy(0, 1));
        Due.throwsIt("23 ticks 21", Dens.ARGUMENT, () -> den.overBy(21, 1));
        Due.throwsIt("23 turns 0", Dens.ARGUMENT, () -> den.overBy(1, 0));
        Due.throwsIt("23 turns 51", Dens.ARGUMENT, () -> den.overBy(1, 51));
        Due.same("23 none", 0, den.overBy(20, 50));
        int m = Dens.module(den, Dens.is(Dens.SLEEP, 3));
        den.start(m);
        den.start(m);
        Due.same("23 sleep behind the first tick", 0, den.overBy(3, 50));
        Due.same("23 one by a turn each", 1, den.overBy(4, 1));
        Due.same("23 both", 2, den.overBy(5, 1));
        Due.same("23 both in one", 2, den.overBy(4, 2));
        den.start(m);
        den.signal(2, 9);
        Due.same("23 with those that are OVER", 3, den.overBy(4, 2));
        Due.same("23 nothing goes on", 0, den.many(10));
        Due.same("23 no turns", 0, den.many(11));
    }

    /** Locals, mail, watches, names and waits are as they are in the trial, too. */
    private static void overByDoesAll() {
        MailDen den = new MailDen();
        int m = Dens.module(den, Dens.is(Dens.TAKE, 0), Dens.is(Dens.PUT, 2), Dens.is(Dens.TAKE, 1),
            Dens.is(Dens.GET, 2), Dens.is(Dens.SKIP, 0, 6), Dens.is(Dens.EXIT, 3), Dens.is(Dens.TAKE, 0));
        int w = Dens.module(den, Dens.is(Dens.WATCH), Dens.is(Dens.TAKE, 2), Dens.is(Dens.SLEEP, 1));
        den.start(m);
        den.start(w);
        den.run(2);
        den.send(0, 0, 1);
        den.run(1);
        Due.same("23 waits", 0, den.overBy(20, 50));
        den.send(0, 1, 1);
        Due.same("23 by its local, and by the watch, behind a tick", 1, den.overBy(1, 50));
        Due.same("23 then the watcher", 2, den.overBy(2, 50));
        den.run(1);
        Due.same("23 it came so", 3, den.ofProcess(0, 3));
        Due.same("23 the watcher is on its way", 2, den.overBy(2, 1));

        MailDen names = new MailDen();
        int a = Dens.module(names, Dens.is(Dens.NAME, 2), Dens.is(Dens.TAKE, 1), Dens.is(Dens.TAKE, 0));
        int b = Dens.module(names, Dens.is(Dens.SLEEP, 1), Dens.is(Dens.CALL, 2, 1), Dens.is(Dens.TAKE, 0));
        names.start(a);
        names.start(b);
        names.run(2);
        Due.same("23 there is such a name", 0, names.overBy(1, 50));
        names.signal(0, 9);
        Due.same("23 no such name", 2, names.overBy(1, 50));

        MailDen led = new MailDen();
        int c = Dens.module(led, Dens.is(Dens.SLEEP, 1));
        int s = Dens.spec(led, 0, 2, 2, Dens.ofModule(c, 0));
        led.supervise(s);
        Due.same("23 restarts, not too often", 3, led.overBy(4, 50));
        Due.same("23 one restart a tick", 19, led.overBy(20, 50));
        Due.same("23 none has come", 2, led.many(2));
    }

    /** What a trial that knew less than the den would answer otherwise. */
    private static void trialIsWhole() {
        MailDen box = Dens.ran(Dens.is(Dens.SLEEP, 1), Dens.is(Dens.TAKE, 1));
        Due.same("23 without mail", 0, box.overBy(1, 5));
        box.send(0, 0, 5);
        Due.same("23 with other mail", 0, box.overBy(1, 5));
        box.send(0, 1, 5);
        Due.same("23 with such mail", 1, box.overBy(1, 5));

        MailDen there = Dens.ran(Dens.is(Dens.ADD, 1), Dens.is(Dens.SLEEP, 1), Dens.is(Dens.SKIP, 0, 4),
            Dens.is(Dens.EXIT, 1), Dens.is(Dens.TAKE, 0));
        Due.same("23 by what there is", 1, there.overBy(1, 5));
        MailDen number = new MailDen();
        int taker = Dens.module(number, Dens.is(Dens.TAKE, 0), Dens.is(Dens.SKIP, 0, 3), Dens.is(Dens.EXIT, 1),
            Dens.is(Dens.TAKE, 0));
        number.start(taker);
        number.send(0, 0, 1);
        Due.same("23 by the number of its mail", 1, number.overBy(1, 5));

        MailDen row = new MailDen();
        int sleeper = Dens.module(row, Dens.is(Dens.SLEEP, 3), Dens.is(Dens.TAKE, 0));
        int ender = Dens.module(row, Dens.is(Dens.SLEEP, 2));
        row.start(sleeper);
        row.start(ender);
        row.run(2);
        row.tick(3);
        Due.same("23 the second is first in the row", 1, row.overBy(1, 1));
        MailDen behind = new MailDen();
        int ready = Dens.module(behind, Dens.is(Dens.ADD, 1), Dens.is(Dens.NEXT));
        int asleep = Dens.module(behind, Dens.is(Dens.SLEEP, 1), Dens.is(Dens.EXIT, 1));
        behind.start(asleep);
        behind.start(ready);
        behind.run(3);
        Due.same("23 behind the one that is in the row", 0, behind.overBy(1, 1));
        Due.same("23 then it has its turn", 1, behind.overBy(1, 2));

        MailDen empty = new MailDen();
        int m = Dens.waiter(empty);
        int s = Dens.spec(empty, 1, 3, 9, Dens.ofModule(m, 0), Dens.ofModule(m, 2));
        empty.supervise(s);
        empty.signal(2, 9);
        while (empty.many(2) < 23) {
            empty.start(m);
        }
        Due.same("21 no room is needed for an empty place", 2, empty.wouldFall(1, 9));

        MailDen often = new MailDen();
        int w = Dens.waiter(often);
        int t = Dens.spec(often, 0, 1, 2, Dens.ofModule(w, 0));
        often.start(w);
        often.supervise(t);
        often.tick(9);
        often.signal(2, 9);
        Due.same("21 it was started again just now", 10, often.wouldFall(3, 9));
        often.tick(2);
        Due.same("21 it was long ago", 8, often.wouldFall(3, 9));

        MailDen mail = new MailDen();
        int watcher = Dens.module(mail, Dens.is(Dens.WATCH), Dens.is(Dens.WATCH), Dens.is(Dens.TAKE, 2),
            Dens.is(Dens.TAKE, 2));
        int target = Dens.module(mail, Dens.is(Dens.SLEEP, 1));
        mail.start(target);
        mail.start(watcher);
        mail.run(2);
        Due.same("23 both watches bring their mail", 2, mail.overBy(1, 5));
    }

    private static void passedOver() {
        MailDen den = Dens.ran(Dens.is(Dens.SLEEP, 9));
        Due.throwsIt("24 process 1", Dens.INDEX, () -> den.passedOver(1, 9));
        Due.throwsIt("24 process -1", Dens.INDEX, () -> den.passedOver(-1, 0));
        Due.throwsIt("24 tag -1", Dens.ARGUMENT, () -> den.passedOver(0, -1));
        Due.throwsIt("24 tag 5", Dens.ARGUMENT, () -> den.passedOver(0, 5));
        Due.same("24 any in an empty box", -1, den.passedOver(0, 4));
        den.send(0, 0, 1);
        den.send(0, 0, 2);
        den.send(0, 1, 3);
        den.send(0, 0, 4);
        Due.same("24 first", 0, den.passedOver(0, 0));
        Due.same("24 third", 2, den.passedOver(0, 1));
        Due.same("24 none", -1, den.passedOver(0, 2));
        Due.same("24 none of a signal", -1, den.passedOver(0, 3));
        Due.same("24 any", 0, den.passedOver(0, 4));
        den.signal(0, 9);
        Due.same("24 gone", -1, den.passedOver(0, 4));
        Dens.spec(den, 0, 0, 1);
        den.supervise(0);
        Due.same("24 of a supervisor", -1, den.passedOver(1, 4));
    }

    private static void digest() {
        long d = 58144;
        for (int k = 0; k < 13; k++) {
            d = d * 31;
        }
        for (int k = 0; k < 4; k++) {
            d = d * 31 - 1;
        }
        d = d * 31 * 31;
        Due.same("25 of a new den", d, new MailDen().digest());
        MailDen den = busy();
        Due.same("25 of a busy den", byHand(den), den.digest());
        MailDen fell = busy();
        fell.signal(0, 9);
        Due.same("25 of one that fell", byHand(fell), fell.digest());
    }

    private static MailDen busy() {
        MailDen den = new MailDen();
        int m = Dens.module(den, Dens.is(Dens.NAME, 1), Dens.is(Dens.TAKE, 0, 2), Dens.is(Dens.WATCH),
            Dens.is(Dens.LINK), Dens.is(Dens.TAKE, 3));
        int n = Dens.module(den, Dens.is(Dens.TRAP, 1), Dens.is(Dens.SLEEP, 2), Dens.is(Dens.SPAWN, 0, 1),
            Dens.is(Dens.NEXT));
        int s0 = Dens.spec(den, 2, 1, 3, Dens.ofModule(m, 0), Dens.ofModule(n, 1));
        int s1 = Dens.spec(den, 1, 2, 5, Dens.ofModule(n, 0), Dens.ofSpec(s0, 0), Dens.ofModule(m, 2));
        den.supervise(s1);
        den.start(m);
        den.run(4);
        den.load(m);
        Dens.add(den, m, Dens.is(Dens.TAKE, 4), Dens.is(Dens.EXIT, 1));
        den.start(m);
        den.tick(1);
        den.run(1);
        den.send(3, 0, 0);
        den.send(1, 1, 5);
        den.send(0, 1, 5);
        return den;
    }

    private static long byHand(MailDen den) {
        long d = 58144;
        for (int k = 0; k <= 12; k++) {
            d = d * 31 + den.many(k);
        }
        for (int m = 0; m < den.many(0); m++) {
            for (int k = 0; k <= 4; k++) {
                d = d * 31 + den.ofModule(m, k);
            }
            d = d * 31 + den.wouldPurge(m);
        }
        for (int p = 0; p < den.many(2); p++) {
            for (int k = 0; k <= 12; k++) {
                d = d * 31 + den.ofProcess(p, k);
            }
            for (int k = 0; k <= 3; k++) {
                d = d * 31 + den.local(p, k);
            }
            for (int k = 0; k < den.ofProcess(p, 8); k++) {
                d = (d * 31 + den.mail(p, k, 0)) * 31 + den.mail(p, k, 1);
            }
            for (int k = 0; k <= 6; k++) {
                d = d * 31 + den.ofSupervisor(p, k);
            }
            for (int reason : new int[] {0, 1, 9}) {
                d = d * 31 + den.wouldFall(p, reason);
            }
            d = d * 31 + den.passedOver(p, 1);
        }
        for (int k = 0; k <= 3; k++) {
            d = d * 31 + den.named(k);
        }
        d = d * 31 + den.overBy(1, 5);
        return d * 31 + den.overBy(3, 10);
    }

    private static void nothingChanges() {
        MailDen den = busy();
        long before = den.digest();
        for (int p = 0; p < den.many(2); p++) {
            for (int reason = 0; reason <= 9; reason++) {
                den.wouldFall(p, reason);
            }
        }
        den.wouldPurge(0);
        den.wouldPurge(1);
        den.overBy(20, 50);
        Due.same("21 to 25 nothing is changed", before, den.digest());
        MailDen other = busy();
        den.run(50);
        other.run(50);
        Due.same("21 to 25 nor what goes on then", other.digest(), den.digest());
    }
}
