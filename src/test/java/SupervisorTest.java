/** Promises 9 and 17: supervisors, their children and restarts. */
public final class SupervisorTest {
    private static final int ONE = 0;
    private static final int ALL = 1;
    private static final int REST = 2;
    private static final int ALWAYS = 0;
    private static final int FAILED = 1;
    private static final int ONCE = 2;

    private SupervisorTest() {
    }

    public static void main(String[] args) {
        supervise();
        nested();
        full();
        fullNested();
        one();
        modes();
        all();
        allWithOver();
        rest();
        tooOften();
        within();
        endOfSupervisor();
        childSupervisor();
        order();
        restartIsOfCurrent();
        ofSupervisor();
        Due.end();
    }

    private static void children(MailDen den, String what, int supervisor, int... due) {
        for (int k = 0; k < 4; k++) {
            Due.same(what + ", place " + k, k < due.length ? due[k] : -1, den.ofSupervisor(supervisor, k + 1));
        }
    }

    private static MailDen led(int strategy, int most, int within, int... modes) {
        MailDen den = new MailDen();
        int m = Dens.waiter(den);
        int s = Dens.spec(den, strategy, most, within);
        for (int mode : modes) {
            den.place(s, false, m, mode);
        }
        den.supervise(s);
        return den;
    }

    private static void supervise() {
        MailDen den = new MailDen();
        Due.throwsIt("9 no spec", Dens.INDEX, () -> den.supervise(0));
        int m = Dens.waiter(den);
        int s = Dens.spec(den, ONE, 0, 1, Dens.ofModule(m, ALWAYS), Dens.ofModule(m, ONCE));
        Due.throwsIt("9 spec -1", Dens.INDEX, () -> den.supervise(-1));
        Due.throwsIt("9 spec 1", Dens.INDEX, () -> den.supervise(1));
        Due.same("9 its number", 0, den.supervise(s));
        children(den, "9 children in order", 0, 1, 2);
        Due.same("9 it waits", Dens.WAITS, den.ofProcess(0, 2));
        Due.same("9 it is not in the row", -1, den.ofProcess(0, 4));
        Due.same("9 children are", 1, den.ofProcess(2, 4));
        Due.same("9 no links", 0, den.many(7));
        Due.same("9 it is a child of it", 0, den.ofProcess(1, 11));
        int none = Dens.spec(den, ONE, 0, 1);
        Due.same("9 without places", 3, den.supervise(none));
        children(den, "9 without places", 3);
        for (int k = 4; k < 24; k++) {
            den.start(m);
        }
        Due.throwsIt("9 there are 24", Dens.STATE, () -> den.supervise(s));
        Due.throwsIt("9 index ahead of state", Dens.INDEX, () -> den.supervise(2));
    }

    private static void nested() {
        MailDen den = new MailDen();
        int m = Dens.waiter(den);
        int s0 = Dens.spec(den, ONE, 0, 1, Dens.ofModule(m, ALWAYS), Dens.ofModule(m, ALWAYS));
        int s1 = Dens.spec(den, ONE, 0, 1, Dens.ofSpec(s0, ALWAYS), Dens.ofModule(m, ALWAYS));
        int s2 = Dens.spec(den, ONE, 0, 1, Dens.ofModule(m, ALWAYS), Dens.ofSpec(s1, ALWAYS));
        int s3 = Dens.spec(den, ONE, 0, 1, Dens.ofSpec(s2, ALWAYS));
        int s4 = Dens.spec(den, ONE, 0, 1, Dens.ofSpec(s3, ALWAYS), Dens.ofModule(m, ALWAYS));
        Due.same("9 five levels", 0, den.supervise(s4));
        children(den, "9 level 4", 0, 1, 9);
        children(den, "9 level 3", 1, 2);
        children(den, "9 level 2", 2, 3, 4);
        children(den, "9 level 1", 4, 5, 8);
        children(den, "9 level 0", 5, 6, 7);
        Due.same("9 a supervisor as a child", 4, den.ofProcess(5, 11));
        Due.same("9 supervisors", 5, den.many(6));
    }

    private static MailDen filled(int m, MailDen den, int upTo) {
        while (den.many(2) < upTo) {
            den.start(m);
        }
        return den;
    }

    private static void full() {
        MailDen den = new MailDen();
        int m = Dens.waiter(den);
        int s = Dens.spec(den, ONE, 3, 9, Dens.ofModule(m, ALWAYS), Dens.ofModule(m, ALWAYS));
        filled(m, den, 22);
        Due.same("9 its number all the same", 22, den.supervise(s));
        Due.same("9 it ends with 5", 5, den.ofProcess(22, 3));
        Due.same("9 its child too", 5, den.ofProcess(23, 3));
        children(den, "9 none left", 22);
        MailDen fits = new MailDen();
        int n = Dens.waiter(fits);
        int t = Dens.spec(fits, ONE, 3, 9, Dens.ofModule(n, ALWAYS));
        filled(n, fits, 22);
        fits.supervise(t);
        Due.same("9 just fits", Dens.WAITS, fits.ofProcess(22, 2));
        Due.same("13 no room for a restart", 2, fits.signal(23, 1));
        Due.same("13 it ends with 5", 5, fits.ofProcess(22, 3));
        Due.same("13 the restart counts", 1, fits.ofSupervisor(22, 5));
    }

    /** What the END of the inner one brings about comes behind the whole starting. */
    private static void fullNested() {
        MailDen den = new MailDen();
        int m = Dens.waiter(den);
        int s0 = Dens.spec(den, ONE, 3, 9, Dens.ofModule(m, ALWAYS), Dens.ofModule(m, ALWAYS));
        int s1 = Dens.spec(den, ONE, 3, 9, Dens.ofSpec(s0, ONCE));
        filled(m, den, 21);
        den.supervise(s1);
        Due.same("9 the inner one ends", 5, den.ofProcess(22, 3));
        Due.same("9 its child", 5, den.ofProcess(23, 3));
        Due.same("9 once: the outer one goes on", Dens.WAITS, den.ofProcess(21, 2));
        children(den, "9 empty", 21);
        MailDen always = new MailDen();
        int n = Dens.waiter(always);
        int t0 = Dens.spec(always, ONE, 3, 9, Dens.ofModule(n, ALWAYS), Dens.ofModule(n, ALWAYS));
        int t1 = Dens.spec(always, ONE, 3, 9, Dens.ofSpec(t0, ALWAYS));
        filled(n, always, 21);
        always.supervise(t1);
        Due.same("9 no room to start it again", 5, always.ofProcess(21, 3));
        Due.same("9 that was a restart", 1, always.ofSupervisor(21, 5));
        MailDen more = new MailDen();
        int o = Dens.waiter(more);
        int u0 = Dens.spec(more, ONE, 3, 9, Dens.ofModule(o, ALWAYS), Dens.ofModule(o, ALWAYS));
        int u1 = Dens.spec(more, ONE, 3, 9, Dens.ofSpec(u0, ONCE), Dens.ofModule(o, ONCE));
        filled(o, more, 21);
        more.supervise(u1);
        Due.same("9 the outer one has one to start yet", 5, more.ofProcess(21, 3));
        Due.same("9 without a restart", 0, more.ofSupervisor(21, 5));
    }

    private static void one() {
        MailDen den = led(ONE, 3, 9, ALWAYS, ALWAYS, ALWAYS);
        Due.same("13 one ends", 1, den.signal(2, 4));
        children(den, "13 one again", 0, 1, 4, 3);
        Due.same("13 at the end of the row", 2, den.ofProcess(4, 4));
        Due.same("13 the old one is no child", -1, den.ofProcess(2, 11));
        Due.same("13 the new one is", 0, den.ofProcess(4, 11));
    }

    private static void modes() {
        MailDen den = led(ONE, 3, 9, ALWAYS, FAILED, ONCE);
        den.run(3);
        den.send(2, 0, 0);
        den.signal(3, 9);
        children(den, "13 once: empty", 0, 1, 2);
        Due.same("13 no restart", 0, den.ofSupervisor(0, 5));
        den.run(1);
        children(den, "13 failed, but with 7: again", 0, 1, 4);
        Due.same("13 a restart", 1, den.ofSupervisor(0, 5));
        den.signal(1, 5);
        children(den, "13 always", 0, 5, 4);

        MailDen zero = new MailDen();
        int m = Dens.module(zero, Dens.is(Dens.TAKE, 0));
        int s = Dens.spec(zero, ONE, 3, 9, Dens.ofModule(m, FAILED), Dens.ofModule(m, ALWAYS));
        zero.supervise(s);
        zero.run(2);
        zero.send(1, 0, 0);
        zero.run(1);
        children(zero, "13 failed with 0: empty", 0, -1, 2);
        zero.send(2, 0, 0);
        zero.run(1);
        children(zero, "13 always with 0: again", 0, -1, 3);
    }

    private static void all() {
        MailDen den = led(ALL, 3, 9, ALWAYS, ALWAYS, ONCE, FAILED);
        Due.same("13 all end", 4, den.signal(2, 3));
        children(den, "13 all again", 0, 5, 6, 7, 8);
        Due.same("13 the others with 5", 5, den.ofProcess(1, 3));
        Due.same("13 one restart", 1, den.ofSupervisor(0, 5));
        den.signal(7, 9);
        Due.same("13 once: all go on", 0, den.wouldFall(1, 9));
        den.signal(5, 1);
        children(den, "13 not the empty one", 0, 9, 10, -1, 11);
    }

    /** 1 and 2 are linked: 2 is OVER already as the SUPERVISOR starts both again. */
    private static void allWithOver() {
        MailDen den = new MailDen();
        int m = Dens.linker(den);
        int s = Dens.spec(den, ALL, 1, 9, Dens.ofModule(m, ALWAYS), Dens.ofModule(m, ONCE));
        den.supervise(s);
        den.run(2);
        den.send(1, 0, 2);
        den.run(1);
        Due.same("13 both end", 2, den.signal(1, 6));
        children(den, "13 no child any more: the place is not empty", 0, 3, 4);
        Due.same("13 a single restart", 1, den.ofSupervisor(0, 5));
        Due.same("13 the linked one ended by its link", 6, den.ofProcess(2, 3));
    }

    private static void rest() {
        MailDen den = led(REST, 3, 9, ALWAYS, ALWAYS, ONCE, FAILED);
        Due.same("13 it and those behind", 3, den.signal(2, 3));
        children(den, "13 from there on", 0, 1, 5, 6, 7);
        den.signal(6, 1);
        den.signal(5, 1);
        children(den, "13 but the empty one", 0, 1, 8, -1, 9);
        Due.same("13 the last alone", 1, den.signal(9, 1));
        children(den, "13 that again", 0, 1, 8, -1, 10);
    }

    private static void tooOften() {
        MailDen never = led(ONE, 0, 9, ALWAYS, ALWAYS);
        Due.same("13 at once too often", 3, never.signal(1, 2));
        Due.same("13 the supervisor", 5, never.ofProcess(0, 3));
        Due.same("13 the other child", 5, never.ofProcess(2, 3));
        Due.same("13 none came", 3, never.many(2));
        MailDen three = led(ONE, 3, 1, ALWAYS);
        for (int k = 1; k <= 3; k++) {
            Due.same("13 restart " + k, 1, three.signal(k, 9));
            Due.same("13 so many", k, three.ofSupervisor(0, 6));
        }
        Due.same("13 the fourth", 2, three.signal(4, 9));
        Due.same("13 it counts, too", 4, three.ofSupervisor(0, 5));
        Due.same("13 lately, too", 4, three.ofSupervisor(0, 6));
    }

    private static void within() {
        MailDen den = led(ONE, 1, 3, ALWAYS);
        den.signal(1, 9);
        den.tick(2);
        Due.same("17 above now less within", 1, den.ofSupervisor(0, 6));
        Due.same("21 too often still", 5, den.wouldFall(2, 9));
        den.tick(1);
        Due.same("17 not above any more", 0, den.ofSupervisor(0, 6));
        Due.same("13 not too often", 1, den.signal(2, 9));
        Due.same("17 ever", 2, den.ofSupervisor(0, 5));
        Due.same("17 lately", 1, den.ofSupervisor(0, 6));
    }

    private static void endOfSupervisor() {
        MailDen den = led(ONE, 3, 9, ALWAYS, ALWAYS);
        int w = Dens.module(den, Dens.is(Dens.TRAP, 1), Dens.is(Dens.WATCH), Dens.is(Dens.LINK),
            Dens.is(Dens.ADD, 1), Dens.is(Dens.WATCH), Dens.is(Dens.ADD, 1), Dens.is(Dens.WATCH),
            Dens.is(Dens.TAKE, 1));
        den.start(w);
        den.run(3);
        Due.same("10 linked with a supervisor", 8, den.ofProcess(0, 9));
        Due.same("13 it and its children", 3, den.signal(0, 9));
        Due.same("13 8", 8, den.ofProcess(0, 3));
        Due.same("13 5", 5, den.ofProcess(1, 3));
        Due.same("13 of the supervisor: the watch first", 8, den.mail(3, 0, 1));
        Due.same("13 tag", 2, den.mail(3, 0, 0));
        Due.same("13 then the link", 8, den.mail(3, 1, 1));
        Due.same("13 tag 3", 3, den.mail(3, 1, 0));
        Due.same("13 then the child of the last place", 25, den.mail(3, 2, 1));
        Due.same("13 then the first one", 15, den.mail(3, 3, 1));
        Due.same("13 no restart", 0, den.ofSupervisor(0, 5));
    }

    private static void childSupervisor() {
        MailDen den = new MailDen();
        int m = Dens.waiter(den);
        int s0 = Dens.spec(den, ONE, 0, 9, Dens.ofModule(m, ALWAYS));
        int s1 = Dens.spec(den, ONE, 1, 9, Dens.ofSpec(s0, ALWAYS), Dens.ofModule(m, ALWAYS));
        den.supervise(s1);
        children(den, "9 outer", 0, 1, 3);
        Due.same("13 inner is started again", 2, den.signal(2, 1));
        children(den, "13 outer", 0, 4, 3);
        children(den, "13 inner anew", 4, 5);
        Due.same("13 inner old", 5, den.ofProcess(1, 3));
        Due.same("17 of the new one", 0, den.ofSupervisor(4, 5));
        Due.same("13 killed inner, then too often", 4, den.signal(4, 9));
        Due.same("13 outer ends with 5", 5, den.ofProcess(0, 3));
    }

    /** The END of 1 is told ahead of what its SUPERVISOR does, and that ahead of the END of 2. */
    private static void order() {
        MailDen den = new MailDen();
        int m = Dens.linker(den);
        int s = Dens.spec(den, ONE, 3, 9, Dens.ofModule(m, ALWAYS), Dens.ofModule(m, ALWAYS));
        den.supervise(s);
        den.run(2);
        den.send(1, 0, 2);
        den.run(1);
        den.signal(2, 4);
        children(den, "13 the one that was first OVER comes first", 0, 4, 3);
        Due.same("13 two restarts", 2, den.ofSupervisor(0, 5));
        MailDen row = led(ALL, 3, 9, ALWAYS, ALWAYS);
        row.signal(2, 1);
        children(row, "13 in order of the places", 0, 3, 4);
        Due.same("13 row", 0, row.ofProcess(3, 4));
    }

    private static void restartIsOfCurrent() {
        MailDen den = led(ONE, 3, 9, ALWAYS);
        den.load(0);
        den.signal(1, 1);
        Due.same("13 of the current version", 1, den.ofProcess(2, 1));
        den.run(1);
        Due.same("10 again, till it is too often", 4, den.many(2));
        den.run(9);
        Due.same("10 too often", 5, den.ofProcess(0, 3));
        Due.same("10 so many came", 5, den.many(2));
    }

    private static void ofSupervisor() {
        MailDen den = led(ONE, 3, 9, ALWAYS);
        Due.throwsIt("17 no process", Dens.INDEX, () -> den.ofSupervisor(2, 9));
        Due.throwsIt("17 process -1", Dens.INDEX, () -> den.ofSupervisor(-1, 0));
        Due.throwsIt("17 what -1", Dens.ARGUMENT, () -> den.ofSupervisor(0, -1));
        Due.throwsIt("17 what 7", Dens.ARGUMENT, () -> den.ofSupervisor(0, 7));
        Due.throwsIt("17 what 7 of another one", Dens.ARGUMENT, () -> den.ofSupervisor(1, 7));
        for (int what = 0; what <= 6; what++) {
            Due.same("17 of another one", -1, den.ofSupervisor(1, what));
        }
        Dens.spec(den, ALL, 0, 1);
        Due.same("17 spec", 1, den.ofSupervisor(den.supervise(1), 0));
        Due.same("17 no restarts", 0, den.ofSupervisor(2, 5));
        den.signal(2, 9);
        Due.same("17 spec of an OVER one", 1, den.ofSupervisor(2, 0));
    }
}
