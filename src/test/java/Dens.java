import java.util.ArrayList;
import java.util.List;
import java.util.function.LongSupplier;

/** What the tests of the promises make dens of. */
final class Dens {
    static final Class<IndexOutOfBoundsException> INDEX = IndexOutOfBoundsException.class;
    static final Class<IllegalArgumentException> ARGUMENT = IllegalArgumentException.class;
    static final Class<IllegalStateException> STATE = IllegalStateException.class;

    static final int ADD = 0;
    static final int GET = 1;
    static final int PUT = 2;
    static final int LOOP = 3;
    static final int SKIP = 4;
    static final int EXIT = 5;
    static final int SPAWN = 6;
    static final int LINK = 7;
    static final int UNLINK = 8;
    static final int WATCH = 9;
    static final int TRAP = 10;
    static final int NAME = 11;
    static final int SEND = 12;
    static final int CALL = 13;
    static final int TAKE = 14;
    static final int SLEEP = 15;
    static final int NEXT = 16;
    static final int SIGNAL = 17;

    private static final List<String> KINDS = List.of("ADD", "GET", "PUT", "LOOP", "SKIP", "EXIT", "SPAWN", "LINK",
        "UNLINK", "WATCH", "TRAP", "NAME", "SEND", "CALL", "TAKE", "SLEEP", "NEXT", "SIGNAL");

    static final int READY = 0;
    static final int WAITS = 1;
    static final int OVER = 2;

    private Dens() {
    }

    /** A LINE with its a and b; a missing one is 0. */
    static int[] is(int kind, int... numbers) {
        int[] line = {kind, 0, 0};
        System.arraycopy(numbers, 0, line, 1, numbers.length);
        return line;
    }

    /** Adds a MODULE with these LINES. */
    static int module(MailDen den, int[]... lines) {
        int module = den.module();
        add(den, module, lines);
        return module;
    }

    static void add(MailDen den, int module, int[]... lines) {
        for (int[] line : lines) {
            den.line(module, line[0], line[1], line[2]);
        }
    }

    /** Adds a MODULE whose LINES are told by a text, such as "ADD 5, PUT 0, TAKE 1 3". */
    static int written(MailDen den, String text) {
        int module = den.module();
        write(den, module, text);
        return module;
    }

    static void write(MailDen den, int module, String text) {
        add(den, module, lines(text));
    }

    /** The LINES that a text tells, each with its KIND, a and b. */
    static int[][] lines(String text) {
        String[] told = text.split(", ");
        int[][] lines = new int[told.length][];
        for (int k = 0; k < told.length; k++) {
            String[] parts = told[k].split(" ");
            int a = parts.length > 1 ? Integer.parseInt(parts[1]) : 0;
            int b = parts.length > 2 ? Integer.parseInt(parts[2]) : 0;
            lines[k] = is(KINDS.indexOf(parts[0]), a, b);
        }
        return lines;
    }

    /** A den with a PROCESS for each text, all of which did a turn; the same text is the same MODULE. */
    static MailDen did(String... texts) {
        MailDen den = new MailDen();
        List<String> modules = new ArrayList<>();
        for (String text : texts) {
            if (!modules.contains(text)) {
                modules.add(text);
                written(den, text);
            }
            den.start(modules.indexOf(text));
        }
        den.run(texts.length);
        return den;
    }

    /** Starts PROCESSES of a MODULE till there are so many. */
    static void fill(MailDen den, int module, int upTo) {
        while (den.many(2) < upTo) {
            den.start(module);
        }
    }

    /** A den with one MODULE of these LINES and a PROCESS of it that did a turn. */
    static MailDen ran(int[]... lines) {
        MailDen den = new MailDen();
        den.start(module(den, lines));
        den.run(1);
        return den;
    }

    /** A MODULE whose PROCESSES wait for any MAIL, and END with its NUMBER's REASON at 7. */
    static int waiter(MailDen den) {
        return module(den, is(TAKE, 4), is(EXIT, 7));
    }

    /** A MODULE whose PROCESSES link with the numbers that they are sent, and wait for more. */
    static int linker(MailDen den) {
        return module(den, is(TAKE, 0), is(LINK), is(NEXT));
    }

    /** What a call answers; an exception that the document names is told as Oracle tells it. */
    static long answer(LongSupplier call) {
        try {
            return call.getAsLong();
        } catch (RuntimeException e) {
            if (e.getClass() == INDEX) {
                return Oracle.INDEX;
            }
            if (e.getClass() == ARGUMENT) {
                return Oracle.ARGUMENT;
            }
            if (e.getClass() == STATE) {
                return Oracle.STATE;
            }
            throw e;
        }
    }

    static int spec(MailDen den, int strategy, int most, int within, int[]... places) {
        int spec = den.spec(strategy, most, within);
        for (int[] place : places) {
            den.place(spec, place[0] == 1, place[1], place[2]);
        }
        return spec;
    }

    static int[] ofModule(int module, int mode) {
        return new int[] {0, module, mode};
    }

    static int[] ofSpec(int spec, int mode) {
        return new int[] {1, spec, mode};
    }
}
