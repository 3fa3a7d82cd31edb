/** Promises 14 to 16 and 18 to 20: what one asks. */
public final class AskTest {
    private AskTest() {
    }

    public static void main(String[] args) {
        ofProcess();
        ofProcessOfSupervisor();
        ofProcessOver();
        local();
        mail();
        named();
        many();
        meanLines();
        Due.end();
    }

    private static void asked(MailDen den, String what, int process, int... due) {
        for (int k = 0; k < due.length; k++) {
            Due.same(what + " " + k, due[k], den.ofProcess(process, k));
        }
    }

    private static void ofProcess() {
        MailDen den = new MailDen();
        Due.throwsIt("14 no process", Dens.INDEX, () -> den.ofProcess(0, 13));
        int first = Dens.waiter(den);
        int m = Dens.module(den, Dens.is(Dens.TRAP, 1), Dens.is(Dens.SPAWN, first, 1), Dens.is(Dens.WATCH),
            Dens.is(Dens.TAKE, 1, 6));
        den.tick(2);
        den.start(m);
        Due.throwsIt("14 process -1", Dens.INDEX, () -> den.ofProcess(-1, 0));
        Due.throwsIt("14 process 1", Dens.INDEX, () -> den.ofProcess(1, 0));
        Due.throwsIt("14 what -1", Dens.ARGUMENT, () -> den.ofProcess(0, -1));
        Due.throwsIt("14 what 13", Dens.ARGUMENT, () -> den.ofProcess(0, 13));
        asked(den, "14 as it came", 0, 1, 0, 0, -1, 0, 0, 0, -1, 0, 0, 0, -1, 0);
        den.run(1);
        den.send(0, 0, 3);
        asked(den, "14 as it waits", 0, 1, 0, 1, -1, -1, 1, 3, 8, 1, 2, 1, -1, 0);
        asked(den, "14 spawned", 1, 0, 0, 0, -1, 0, 0, 0, -1, 0, 1, 0, -1, 1);
        den.start(m);
        den.tick(6);
        asked(den, "14 ready again", 0, 1, 0, 0, -1, 2, 1, 3, -1, 1, 2, 1, -1, 0);
    }

    private static void ofProcessOfSupervisor() {
        MailDen den = new MailDen();
        int m = Dens.waiter(den);
        Dens.spec(den, 0, 0, 1, Dens.ofModule(m, 0));
        Dens.spec(den, 0, 0, 1, Dens.ofSpec(0, 0));
        den.supervise(1);
        int w = Dens.module(den, Dens.is(Dens.WATCH), Dens.is(Dens.LINK), Dens.is(Dens.TAKE, 1));
        den.start(w);
        den.run(2);
        asked(den, "14 supervisor", 0, -1, -1, 1, -1, -1, 0, -1, -1, 0, 8, 0, -1, 1);
        asked(den, "14 supervisor that is a child", 1, -1, -1, 1, -1, -1, 0, -1, -1, 0, 0, 0, 0, 0);
        asked(den, "14 child", 2, 0, 0, 1, -1, -1, 0, 0, -1, 0, 0, 0, 1, 0);
        den.signal(0, 9);
        asked(den, "14 supervisor that is OVER", 0, -1, -1, 2, 8, -1, 0, -1, -1, 0, 0, 0, -1, 0);
        asked(den, "14 child that is OVER", 2, 0, 0, 2, 5, -1, 0, 0, -1, 0, 0, 0, -1, 0);
    }

    private static void ofProcessOver() {
        MailDen den = Dens.ran(Dens.is(Dens.TRAP, 1), Dens.is(Dens.ADD, 9), Dens.is(Dens.WATCH),
            Dens.is(Dens.TAKE, 0, 5), Dens.is(Dens.SLEEP, 1));
        den.send(0, 1, 4);
        asked(den, "14 a watch of none", 0, 0, 0, 1, -1, -1, 9, 3, 5, 2, 0, 1, -1, 0);
        den.signal(0, 9);
        asked(den, "14 OVER as it waits", 0, 0, 0, 2, 8, -1, 9, 3, -1, 0, 0, 1, -1, 0);
        MailDen own = Dens.ran(Dens.is(Dens.WATCH), Dens.is(Dens.WATCH), Dens.is(Dens.TAKE, 0));
        Due.same("14 watches of itself", 2, own.ofProcess(0, 12));
        own.send(0, 0, 0);
        own.signal(0, 1);
        Due.same("14 ready, with a wait to have: at that line", 2, own.ofProcess(0, 6));
        Due.same("14 none watches itself over", 0, own.many(9));
    }

    private static void local() {
        MailDen den = Dens.ran(Dens.is(Dens.ADD, 6), Dens.is(Dens.PUT, 3), Dens.is(Dens.TAKE, 0));
        Due.same("15 put", 6, den.local(0, 3));
        Due.same("15 not put", 0, den.local(0, 0));
        Due.throwsIt("15 local -1", Dens.INDEX, () -> den.local(0, -1));
        Due.throwsIt("15 local 4", Dens.INDEX, () -> den.local(0, 4));
        Due.throwsIt("15 process -1", Dens.INDEX, () -> den.local(-1, 0));
        Due.throwsIt("15 process 1", Dens.INDEX, () -> den.local(1, 0));
        den.signal(0, 9);
        Due.same("15 of an OVER one", 6, den.local(0, 3));
        Dens.spec(den, 0, 0, 1);
        Due.same("15 of a supervisor", 0, den.local(den.supervise(0), 3));
        Due.throwsIt("15 local 4 of a supervisor", Dens.INDEX, () -> den.local(1, 4));
    }

    private static void mail() {
        MailDen den = Dens.ran(Dens.is(Dens.SLEEP, 9));
        den.send(0, 1, -5);
        den.send(0, 0, 6);
        Due.same("16 tag", 1, den.mail(0, 0, 0));
        Due.same("16 number", -5, den.mail(0, 0, 1));
        Due.same("16 second tag", 0, den.mail(0, 1, 0));
        Due.same("16 second number", 6, den.mail(0, 1, 1));
        Due.throwsIt("16 mail 2", Dens.INDEX, () -> den.mail(0, 2, 0));
        Due.throwsIt("16 mail -1", Dens.INDEX, () -> den.mail(0, -1, 0));
        Due.throwsIt("16 process 1", Dens.INDEX, () -> den.mail(1, 0, 0));
        Due.throwsIt("16 process -1", Dens.INDEX, () -> den.mail(-1, 0, 0));
        Due.throwsIt("16 what -1", Dens.ARGUMENT, () -> den.mail(0, 0, -1));
        Due.throwsIt("16 what 2", Dens.ARGUMENT, () -> den.mail(0, 0, 2));
        Due.throwsIt("16 index ahead of argument", Dens.INDEX, () -> den.mail(0, 2, 2));
        den.signal(0, 9);
        Due.throwsIt("16 gone", Dens.INDEX, () -> den.mail(0, 0, 0));
    }

    private static void named() {
        MailDen den = Dens.ran(Dens.is(Dens.NAME, 0), Dens.is(Dens.NAME, 3), Dens.is(Dens.TAKE, 0));
        Due.same("18 first", 0, den.named(0));
        Due.same("18 none", -1, den.named(1));
        Due.same("18 last", 0, den.named(3));
        Due.throwsIt("18 name -1", Dens.INDEX, () -> den.named(-1));
        Due.throwsIt("18 name 4", Dens.INDEX, () -> den.named(4));
        den.signal(0, 4);
        Due.same("18 gone", -1, den.named(0));
    }

    private static void many() {
        MailDen den = new MailDen();
        Due.throwsIt("19 what -1", Dens.ARGUMENT, () -> den.many(-1));
        Due.throwsIt("19 what 13", Dens.ARGUMENT, () -> den.many(13));
        int m = Dens.waiter(den);
        int n = Dens.module(den, Dens.is(Dens.SPAWN, 0, 1), Dens.is(Dens.SPAWN, 0, 1), Dens.is(Dens.SLEEP, 5));
        Dens.spec(den, 0, 1, 1, Dens.ofModule(m, 2));
        Dens.spec(den, 0, 1, 1);
        Dens.spec(den, 0, 1, 1);
        den.supervise(0);
        den.supervise(1);
        den.signal(2, 9);
        den.start(n);
        den.tick(4);
        den.run(2);
        den.send(3, 0, 1);
        den.send(3, 0, 1);
        den.send(1, 1, 1);
        den.send(0, 1, 1);
        den.send(2, 1, 1);
        int[] due = {2, 3, 6, 3, 2, 1, 2, 2, 3, 2, 4, 2, 4};
        for (int what = 0; what <= 12; what++) {
            Due.same("19 many " + what, due[what], den.many(what));
        }
    }

    private static void meanLines() {
        MailDen den = new MailDen();
        Dens.spec(den, 0, 0, 1);
        den.supervise(0);
        Due.same("20 supervisors alone", 0.0, den.meanLines());
        int m = Dens.waiter(den);
        den.start(m);
        den.start(m);
        den.start(m);
        Due.same("20 none begun", 0.0, den.meanLines());
        den.run(1);
        Due.same("20 a third", 1.0 / 3.0, den.meanLines());
        den.signal(1, 9);
        den.run(2);
        Due.same("20 one was OVER ahead of its turn", 1.0, den.meanLines());
        den.send(2, 0, 0);
        den.run(1);
        Due.same("20 not cut", 4.0 / 3.0, den.meanLines());
    }
}
