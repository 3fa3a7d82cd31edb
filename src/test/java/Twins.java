import java.util.function.Consumer;
import java.util.function.Supplier;

/**
 * Checks that a call changes nothing, by two dens that are made alike: the call is made on one alone.
 *
 * <p>All that one can ask must then be the same of both, and so must be all that goes on then, since
 * a change may lie hidden.
 */
final class Twins {
    private Twins() {
    }

    /** "A method that throws an exception changes nothing." */
    static void refused(String what, Class<? extends RuntimeException> due, Supplier<MailDen> made,
            Consumer<MailDen> call) {
        same(what, made, den -> Due.throwsIt(what, due, () -> call.accept(den)));
    }

    /** What one asks changes nothing. */
    static void asked(String what, Supplier<MailDen> made, Consumer<MailDen> call) {
        same(what, made, call);
    }

    private static void same(String what, Supplier<MailDen> made, Consumer<MailDen> call) {
        MailDen den = made.get();
        MailDen untouched = made.get();
        call.accept(den);
        Due.same(what + ": nothing is changed", untouched.digest(), den.digest());
        Due.same(what + ": nor what goes on then", goneOn(untouched), goneOn(den));
    }

    /** Uses all that is written, and answers a checksum of what is answered. */
    private static long goneOn(MailDen den) {
        long told = written(den, 0);
        for (int spec = 0; spec < den.many(1); spec++) {
            int s = spec;
            told = told * 31 + Dens.answer(() -> den.supervise(s));
        }
        told = told * 31 + den.run(50);
        told = told * 31 + den.tick(9);
        told = told * 31 + den.digest();
        told = written(den, told);
        for (int process = 0; process < den.many(2); process++) {
            told = told * 31 + (den.send(process, process & 1, process) ? 1 : 0);
            told = told * 31 + den.run(3);
            told = told * 31 + den.signal(process, 3);
        }
        told = told * 31 + den.tick(20);
        told = told * 31 + den.run(50);
        return told * 31 + den.digest();
    }

    private static long written(MailDen den, long before) {
        long told = before * 31 + Dens.answer(den::module);
        told = told * 31 + Dens.answer(() -> den.spec(1, 2, 3));
        for (int module = 0; module < den.many(0); module++) {
            int m = module;
            told = told * 31 + Dens.answer(() -> den.line(m, Dens.ADD, 1, 0));
            told = told * 31 + Dens.answer(() -> den.start(m));
            told = told * 31 + Dens.answer(() -> den.load(m));
            told = told * 31 + Dens.answer(() -> den.line(m, Dens.ADD, 1, 0));
        }
        for (int spec = 0; spec < den.many(1); spec++) {
            int s = spec;
            told = told * 31 + Dens.answer(() -> den.place(s, false, 0, 0));
        }
        return told;
    }
}
