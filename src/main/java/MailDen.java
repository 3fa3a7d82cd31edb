import java.util.Arrays;

/**
 * A machine of processes that share nothing.
 *
 * <p>The words in capitals are those of ../shared/DOC.md.
 */
public final class MailDen {
    private static final int NONE = -1;

    private static final int MODULES = 4;
    private static final int VERSIONS = 4;
    private static final int LINES = 12;
    private static final int LOCALS = 4;
    private static final int NAMES = 4;
    private static final int PROCESSES = 24;
    private static final int BOX = 8;
    private static final int SPECS = 5;
    private static final int PLACES = 4;
    private static final int TURN_LINES = 20;
    private static final int HELD = 9999;

    // Each RESTART is of a CHILD that is OVER, and a PROCESS is OVER once.
    private static final int RESTARTS = PROCESSES;

    private static final int ADD = 0;
    private static final int GET = 1;
    private static final int PUT = 2;
    private static final int LOOP = 3;
    private static final int SKIP = 4;
    private static final int EXIT = 5;
    private static final int SPAWN = 6;
    private static final int LINK = 7;
    private static final int UNLINK = 8;
    private static final int WATCH = 9;
    private static final int TRAP = 10;
    private static final int NAME = 11;
    private static final int SEND = 12;
    private static final int CALL = 13;
    private static final int TAKE = 14;
    private static final int SLEEP = 15;
    private static final int NEXT = 16;
    private static final int SIGNAL = 17;

    // By KIND: what a and b may be. LOOP and SKIP bound their b by their own number, too.
    private static final int[] LEAST_A = {-99, 0, 0, 0, 0, 0, 0, 0, 0, 0, 0, 0, 0, 0, 0, 1, 0, 1};
    private static final int[] MOST_A = {99, 3, 3, 3, 0, 7, 3, 0, 0, 0, 1, 3, 1, 3, 4, 9, 0, 9};
    private static final int[] MOST_B = {0, 0, 0, 12, 12, 0, 1, 0, 0, 0, 0, 0, 0, 1, 9, 0, 0, 0};

    private static final int READY = 0;
    private static final int WAITS = 1;
    private static final int OVER = 2;

    private static final int FAILED = 1;
    private static final int ONCE = 2;

    private static final int ONE = 0;
    private static final int ALL = 1;

    private static final int TAG_OF_WATCH = 2;
    private static final int TAG_OF_SIGNAL = 3;
    private static final int ANY_TAG = 4;

    private static final int TO_KILL = 9;
    private static final int REASON_DONE = 0;
    private static final int REASON_SHUT = 5;
    private static final int REASON_NAME = 6;
    private static final int REASON_GONE = 7;
    private static final int REASON_KILLED = 8;

    private final Codes codes;
    private final Specs specs;
    private final World real;

    // What would be is tried out here, so that nothing is changed in the real one.
    private final World trial;

    /** The LINES of all VERSIONS. */
    private static final class Codes {
        int modules;
        final int[] lineCounts = new int[MODULES * VERSIONS];
        final int[] kinds = new int[MODULES * VERSIONS * LINES];
        final int[] as = new int[MODULES * VERSIONS * LINES];
        final int[] bs = new int[MODULES * VERSIONS * LINES];

        boolean hasModule(int module) {
            return module >= 0 && module < modules && module < MODULES;
        }

        // NONE for a fifth VERSION, too: a LOAD that is tried out may come to one.
        private int rowOf(int module, int version) {
            if (!hasModule(module) || !isWithin(version, 0, VERSIONS - 1)) {
                return NONE;
            }
            return module * VERSIONS + version;
        }

        int linesOf(int module, int version) {
            int row = rowOf(module, version);
            return row == NONE ? 0 : lineCounts[row];
        }

        /** Where a LINE stands in kinds, as and bs; NONE, if there is no such LINE. */
        int lineAt(int module, int version, int line) {
            int row = rowOf(module, version);
            if (row == NONE || !isWithin(line, 0, lineCounts[row] - 1) || line >= LINES) {
                return NONE;
            }
            return row * LINES + line;
        }

        boolean isLine(int kind, int a, int b, int own) {
            if (!isWithin(kind, ADD, SIGNAL) || !isWithin(a, LEAST_A[kind], MOST_A[kind])) {
                return false;
            }
            int least = kind == SKIP ? own + 1 : 0;
            int most = kind == LOOP ? own : MOST_B[kind];
            return isWithin(b, least, most);
        }

        int addLine(int module, int version, int kind, int a, int b) {
            int row = rowOf(module, version);
            if (row == NONE || lineCounts[row] >= LINES) {
                return NONE;
            }
            int line = lineCounts[row];
            lineCounts[row] = line + 1;
            int at = row * LINES + line;
            kinds[at] = kind;
            as[at] = a;
            bs[at] = b;
            return line;
        }
    }

    /** The SPECS and their PLACES. */
    private static final class Specs {
        int count;
        final int[] strategies = new int[SPECS];
        final int[] mosts = new int[SPECS];
        final int[] withins = new int[SPECS];
        final int[] placeCounts = new int[SPECS];
        final boolean[] ofSpecs = new boolean[SPECS * PLACES];
        final int[] numbers = new int[SPECS * PLACES];
        final int[] modes = new int[SPECS * PLACES];

        boolean hasSpec(int spec) {
            return spec >= 0 && spec < count && spec < SPECS;
        }

        int placesOf(int spec) {
            return hasSpec(spec) ? placeCounts[spec] : 0;
        }

        /** Where a PLACE stands in ofSpecs, numbers and modes; NONE, if there is no such PLACE. */
        int placeAt(int spec, int place) {
            if (spec < 0 || spec >= count || spec >= SPECS) {
                return NONE;
            }
            if (place < 0 || place >= placeCounts[spec] || place >= PLACES) {
                return NONE;
            }
            return spec * PLACES + place;
        }

        int addSpec(int strategy, int most, int within) {
            if (count >= SPECS) {
                return NONE;
            }
            int spec = count;
            count++;
            strategies[spec] = strategy;
            mosts[spec] = most;
            withins[spec] = within;
            return spec;
        }

        int addPlace(int spec, boolean ofSpec, int number, int mode) {
            if (!hasSpec(spec) || placeCounts[spec] >= PLACES) {
                return NONE;
            }
            int place = placeCounts[spec];
            placeCounts[spec] = place + 1;
            int at = spec * PLACES + place;
            ofSpecs[at] = ofSpec;
            numbers[at] = number;
            modes[at] = mode;
            return place;
        }
    }

    /** The BOX of a PROCESS. */
    private static final class Box {
        final int[] tags = new int[BOX];
        final int[] numbers = new int[BOX];
        int count;

        boolean put(int tag, int number) {
            if (count >= BOX) {
                return false;
            }
            tags[count] = tag;
            numbers[count] = number;
            count++;
            return true;
        }

        /** Which MAIL is the first one with that TAG (or any); NONE without one. */
        int firstOf(int tag) {
            for (int k = 0; k < count && k < BOX; k++) {
                if (tag == ANY_TAG || tags[k] == tag) {
                    return k;
                }
            }
            return NONE;
        }

        /** Takes out the MAIL at, and answers its NUMBER. */
        int takeOut(int at) {
            if (!isWithin(at, 0, count - 1) || at >= BOX) {
                return NONE;
            }
            int number = numbers[at];
            for (int k = at + 1; k < count && k < BOX; k++) {
                tags[k - 1] = tags[k];
                numbers[k - 1] = numbers[k];
            }
            count--;
            return number;
        }

        void copyFrom(Box other) {
            System.arraycopy(other.tags, 0, tags, 0, BOX);
            System.arraycopy(other.numbers, 0, numbers, 0, BOX);
            count = other.count;
        }
    }

    /** A PROCESS, one of a MODULE or a SUPERVISOR. */
    private static final class Proc {
        // What a PROCESS that WAITS waits for, beside the TAGS of a TAKE.
        static final int NO_WAIT = NONE;
        static final int WAIT_OF_SLEEP = ANY_TAG + 1;

        final int number;
        int module = NONE;
        int version = NONE;
        int spec = NONE;
        int parent = NONE;
        int status = WAITS;
        int reason = NONE;
        int there;
        int line;
        int until = NONE;
        int wait = NO_WAIT;
        int ticket;
        boolean traps;
        int links;
        int emptyPlaces;
        final int[] locals = new int[LOCALS];
        final int[] children = new int[PLACES];
        final Box box = new Box();
        final Watches watches = new Watches();

        Proc(int number) {
            this.number = number;
            Arrays.fill(children, NONE);
        }

        void copyFrom(Proc other) {
            module = other.module;
            version = other.version;
            spec = other.spec;
            parent = other.parent;
            status = other.status;
            reason = other.reason;
            there = other.there;
            line = other.line;
            until = other.until;
            wait = other.wait;
            ticket = other.ticket;
            traps = other.traps;
            links = other.links;
            emptyPlaces = other.emptyPlaces;
            System.arraycopy(other.locals, 0, locals, 0, LOCALS);
            System.arraycopy(other.children, 0, children, 0, PLACES);
            box.copyFrom(other.box);
            watches.copyFrom(other.watches);
        }

        boolean isSupervisor() {
            return spec != NONE;
        }

        boolean isLinkedWith(int other) {
            return (links & 1 << other) != 0;
        }

        boolean isEmptyPlace(int place) {
            return (emptyPlaces & 1 << place) != 0;
        }

        int localAt(int local) {
            return isWithin(local, 0, LOCALS - 1) ? locals[local] : 0;
        }

        void putLocal(int local, int value) {
            if (isWithin(local, 0, LOCALS - 1)) {
                locals[local] = value;
            }
        }

        void hold(int value) {
            there = Math.max(-HELD, Math.min(HELD, value));
        }

        /** Takes the first MAIL with that TAG (or any), if there is one. */
        boolean takeMail(int tag) {
            int at = box.firstOf(tag);
            if (at == NONE) {
                return false;
            }
            hold(box.takeOut(at));
            return true;
        }

        void waitFor(int what, int till) {
            status = WAITS;
            wait = what;
            until = till;
        }

        boolean waitsForMail(int tag) {
            return status == WAITS && (wait == tag || wait == ANY_TAG);
        }

        /** As a turn begins: what it WAITED for is there. */
        void resume() {
            if (wait == NO_WAIT) {
                return;
            }
            if (wait != WAIT_OF_SLEEP && !takeMail(wait)) {
                there = -1;
            }
            wait = NO_WAIT;
            line++;
        }

        int placeOf(int child) {
            for (int k = 0; k < PLACES; k++) {
                if (children[k] == child) {
                    return k;
                }
            }
            return NONE;
        }
    }

    /**
     * The WATCHES of a PROCESS.
     *
     * <p>They may be some hundred thousand, but only the order of the first ones of each PROCESS can
     * be told from outside: all of them bring the same MAIL at once. So there is a row for each
     * PROCESS, with the number of its WATCHES.
     */
    private static final class Watches {
        final int[] watchers = new int[PROCESSES];
        final int[] times = new int[PROCESSES];
        int count;

        void add(int watcher) {
            for (int k = 0; k < count && k < PROCESSES; k++) {
                if (watchers[k] == watcher) {
                    times[k]++;
                    return;
                }
            }
            if (count < PROCESSES) {
                watchers[count] = watcher;
                times[count] = 1;
                count++;
            }
        }

        void copyFrom(Watches other) {
            System.arraycopy(other.watchers, 0, watchers, 0, PROCESSES);
            System.arraycopy(other.times, 0, times, 0, PROCESSES);
            count = other.count;
        }
    }

    /** All that goes on: the PROCESSES, the NAMES, NOW and what was counted. */
    private static final class World {
        final Codes codes;
        final Specs specs;
        final int[] current = new int[MODULES];
        final int[] names = new int[NAMES];
        final Proc[] procs = new Proc[PROCESSES];
        int count;
        int now;
        int lost;
        int turns;
        int lines;

        // A READY one has a ticket, and the smaller one stands ahead in the READY row.
        int tickets;

        // The PROCESSES that became OVER, in that order; what the first ones brought about is done.
        final int[] ended = new int[PROCESSES];
        int endedCount;
        int settledCount;

        final int[] restartOf = new int[RESTARTS];
        final int[] restartAt = new int[RESTARTS];
        int restartCount;

        World(Codes codes, Specs specs) {
            this.codes = codes;
            this.specs = specs;
            Arrays.fill(names, NONE);
            for (int k = 0; k < PROCESSES; k++) {
                procs[k] = new Proc(k);
            }
        }

        void copyFrom(World other) {
            System.arraycopy(other.current, 0, current, 0, MODULES);
            System.arraycopy(other.names, 0, names, 0, NAMES);
            // Those that came here alone are again as if they had not come.
            int most = Math.max(count, other.count);
            for (int k = 0; k < most && k < PROCESSES; k++) {
                procs[k].copyFrom(other.procs[k]);
            }
            count = other.count;
            now = other.now;
            lost = other.lost;
            turns = other.turns;
            lines = other.lines;
            tickets = other.tickets;
            System.arraycopy(other.ended, 0, ended, 0, PROCESSES);
            endedCount = other.endedCount;
            settledCount = other.settledCount;
            System.arraycopy(other.restartOf, 0, restartOf, 0, RESTARTS);
            System.arraycopy(other.restartAt, 0, restartAt, 0, RESTARTS);
            restartCount = other.restartCount;
        }

        /** The PROCESS of that number; null, if it is not there. */
        Proc procAt(int number) {
            return number >= 0 && number < count && number < PROCESSES ? procs[number] : null;
        }

        /** The PROCESS of that number; null, if it is not there or OVER. */
        Proc living(int number) {
            if (number < 0 || number >= count || number >= PROCESSES) {
                return null;
            }
            return procs[number].status == OVER ? null : procs[number];
        }

        int currentOf(int module) {
            return codes.hasModule(module) ? current[module] : NONE;
        }

        int holderOf(int name) {
            return isWithin(name, 0, NAMES - 1) ? names[name] : NONE;
        }

        // ---- what comes

        /** A new PROCESS of a MODULE, READY; null, if there is no such MODULE, or there are 24. */
        Proc comesOfModule(int module, int parent) {
            if (module < 0 || module >= codes.modules || module >= MODULES || count >= PROCESSES) {
                return null;
            }
            Proc p = procs[count];
            count++;
            p.module = module;
            p.version = current[module];
            p.parent = parent;
            p.status = READY;
            p.ticket = tickets;
            tickets++;
            return p;
        }

        /** A new SUPERVISOR, without CHILDREN yet; null, if there are 24 PROCESSES. */
        private Proc comesOfSpec(int spec, int parent) {
            if (count >= PROCESSES) {
                return null;
            }
            Proc s = procs[count];
            count++;
            s.spec = spec;
            s.parent = parent;
            s.line = NONE;
            return s;
        }

        /** Puts it at the end of the READY row. */
        private void ready(Proc p) {
            p.status = READY;
            p.until = NONE;
            p.ticket = tickets;
            tickets++;
        }

        /**
         * Starts a CHILD for each PLACE from..to-1 that is not empty.
         *
         * <p>The PLACES of a SPEC are of smaller ones alone, so there can be no more than five levels.
         */
        private static void startPlaces(World in, Proc s, int from, int to, int level) {
            for (int k = from; k < to && k < PLACES && level < SPECS; k++) {
                int at = in.specs.placeAt(s.spec, k);
                if (at == NONE || s.isEmptyPlace(k)) {
                    continue;
                }
                boolean ofSpec = in.specs.ofSpecs[at];
                int number = in.specs.numbers[at];
                Proc child = ofSpec ? in.comesOfSpec(number, s.number) : in.comesOfModule(number, s.number);
                if (child == null) {
                    in.end(s, REASON_SHUT);
                    return;
                }
                s.children[k] = child.number;
                if (ofSpec) {
                    startPlaces(in, child, 0, PLACES, level + 1);
                }
            }
        }

        /** A SUPERVISOR from outside, with its CHILDREN; NONE, if there are 24 PROCESSES. */
        int comesFromOutside(int spec) {
            Proc s = comesOfSpec(spec, NONE);
            if (s == null) {
                return NONE;
            }
            startPlaces(this, s, 0, PLACES, 0);
            settle();
            return s.number;
        }

        // ---- mail and signals

        /** Whether it was not lost. */
        boolean putMail(int to, int tag, int number) {
            Proc p = living(to);
            if (p == null || p.isSupervisor() || !p.box.put(tag, number)) {
                lost++;
                return false;
            }
            if (p.waitsForMail(tag)) {
                ready(p);
            }
            return true;
        }

        void signalTo(int to, int from, int reason) {
            Proc p = living(to);
            if (p == null) {
                return;
            }
            if (reason == TO_KILL) {
                end(p, REASON_KILLED);
            } else if (p.isSupervisor()) {
                return;
            } else if (p.traps) {
                putMail(to, TAG_OF_SIGNAL, 10 * from + reason);
            } else if (reason != 0) {
                end(p, reason);
            }
        }

        // ---- ends

        /** It is OVER at once; settle() does what that brings about. */
        private void end(Proc p, int reason) {
            if (p.status == OVER || endedCount >= PROCESSES) {
                return;
            }
            p.status = OVER;
            p.reason = reason;
            p.until = NONE;
            p.box.count = 0;
            for (int k = 0; k < NAMES; k++) {
                if (names[k] == p.number) {
                    names[k] = NONE;
                }
            }
            ended[endedCount] = p.number;
            endedCount++;
        }

        /** Does what the ENDS bring about, one by one, in the order in which PROCESSES became OVER. */
        void settle() {
            for (; settledCount < endedCount && settledCount < PROCESSES; settledCount++) {
                Proc p = procAt(ended[settledCount]);
                if (p == null) {
                    continue;
                }
                if (p.isSupervisor()) {
                    endChildren(p, 0, NONE);
                }
                tellWatchers(p);
                for (int k = 0; k < count && k < PROCESSES; k++) {
                    if (p.isLinkedWith(k)) {
                        unlink(p, procs[k]);
                        signalTo(k, p.number, p.reason);
                    }
                }
                superviseEnd(p);
            }
        }

        /** ENDS the CHILDREN of the PLACES from on, without one; none of them is a CHILD any more. */
        private void endChildren(Proc s, int from, int without) {
            for (int k = PLACES - 1; k >= 0 && k >= from; k--) {
                Proc child = procAt(s.children[k]);
                if (child == null || k == without) {
                    continue;
                }
                end(child, REASON_SHUT);
                child.parent = NONE;
                s.children[k] = NONE;
            }
        }

        private void tellWatchers(Proc p) {
            Watches all = p.watches;
            for (int k = 0; k < all.count && k < PROCESSES; k++) {
                int watcher = all.watchers[k];
                if (living(watcher) == null) {
                    continue;
                }
                for (int n = 0; n < all.times[k] && n < BOX; n++) {
                    putMail(watcher, TAG_OF_WATCH, 10 * p.number + p.reason);
                }
                // Behind so many the BOX is full in any case.
                lost += Math.max(0, all.times[k] - BOX);
            }
        }

        private void link(Proc p, Proc other) {
            if (p != other) {
                p.links |= 1 << other.number;
                other.links |= 1 << p.number;
            }
        }

        private void unlink(Proc p, Proc other) {
            p.links &= ~(1 << other.number);
            other.links &= ~(1 << p.number);
        }

        /** What its SUPERVISOR does, if it is a CHILD of one still. */
        private void superviseEnd(Proc child) {
            Proc s = living(child.parent);
            int place = s == null ? NONE : s.placeOf(child.number);
            int at = s == null ? NONE : specs.placeAt(s.spec, place);
            if (s == null || at == NONE || !specs.hasSpec(s.spec)) {
                return;
            }
            int mode = specs.modes[at];
            if (mode == ONCE || mode == FAILED && child.reason == REASON_DONE) {
                s.children[place] = NONE;
                s.emptyPlaces |= 1 << place;
                return;
            }
            noteRestart(s.number);
            if (restartsLately(s) > specs.mosts[s.spec]) {
                end(s, REASON_SHUT);
                return;
            }
            int strategy = specs.strategies[s.spec];
            if (strategy == ONE) {
                startPlaces(this, s, place, place + 1, 0);
                return;
            }
            int first = strategy == ALL ? 0 : place;
            endChildren(s, first, place);
            startPlaces(this, s, first, PLACES, 0);
        }

        private void noteRestart(int supervisor) {
            if (restartCount < RESTARTS) {
                restartOf[restartCount] = supervisor;
                restartAt[restartCount] = now;
                restartCount++;
            }
        }

        int restartsEver(Proc s) {
            return restartsAbove(s, NONE);
        }

        /** At times above NOW less its WITHIN. */
        int restartsLately(Proc s) {
            return specs.hasSpec(s.spec) ? restartsAbove(s, now - specs.withins[s.spec]) : 0;
        }

        private int restartsAbove(Proc s, int time) {
            int sum = 0;
            for (int k = 0; k < restartCount && k < RESTARTS; k++) {
                if (restartOf[k] == s.number && restartAt[k] > time) {
                    sum++;
                }
            }
            return sum;
        }

        /** The set of those that became OVER behind the first so many. */
        int endedBehind(int first) {
            int set = 0;
            for (int k = Math.max(0, first); k < endedCount && k < PROCESSES; k++) {
                set |= 1 << ended[k];
            }
            return set;
        }

        // ---- loading

        void loadModule(int module) {
            if (!codes.hasModule(module)) {
                return;
            }
            int was = current[module];
            current[module] = was + 1;
            for (int k = 0; k < count && k < PROCESSES; k++) {
                Proc p = procs[k];
                if (p.status != OVER && p.module == module && p.version < was) {
                    end(p, REASON_KILLED);
                    settle();
                }
            }
        }

        // ---- time and turns

        /** NOW becomes 1 more; answers how many became READY. */
        int passTime() {
            now++;
            int woken = 0;
            for (int k = 0; k < count && k < PROCESSES; k++) {
                if (procs[k].status == WAITS && procs[k].until == now) {
                    ready(procs[k]);
                    woken++;
                }
            }
            return woken;
        }

        private Proc firstReady() {
            Proc first = null;
            for (int k = 0; k < count && k < PROCESSES; k++) {
                Proc p = procs[k];
                if (p.status == READY && (first == null || p.ticket < first.ticket)) {
                    first = p;
                }
            }
            return first;
        }

        /** Does a turn; false, if none is READY. */
        boolean doTurn() {
            Proc p = firstReady();
            if (p == null) {
                return false;
            }
            turns++;
            p.resume();
            for (int k = 0; k < TURN_LINES && p.status == READY; k++) {
                int at = codes.lineAt(p.module, p.version, p.line);
                int next = p.line;
                if (at == NONE) {
                    end(p, REASON_DONE);
                } else {
                    lines++;
                    next = goesOut(codes.kinds[at]) ? doLineOut(p, at) : doLine(p, at);
                }
                settle();
                // Only now: one that ENDED by what it did keeps the LINE that it did.
                if (p.status == READY) {
                    p.line = next;
                }
            }
            if (p.status == READY) {
                ready(p);
            }
            return true;
        }

        /** Whether a LINE of that KIND has to do with others. */
        private static boolean goesOut(int kind) {
            switch (kind) {
                case SPAWN:
                case LINK:
                case UNLINK:
                case WATCH:
                case NAME:
                case SEND:
                case CALL:
                case SIGNAL:
                    return true;
                default:
                    return false;
            }
        }

        /** Does a LINE that has to do with the PROCESS alone; answers with which one it goes on. */
        private int doLine(Proc p, int at) {
            int a = codes.as[at];
            int b = codes.bs[at];
            int behind = p.line + 1;
            switch (codes.kinds[at]) {
                case ADD:
                    p.hold(p.there + a);
                    return behind;
                case GET:
                    p.there = p.localAt(a);
                    return behind;
                case PUT:
                    p.putLocal(a, p.there);
                    return behind;
                case LOOP:
                    if (p.localAt(a) <= 0) {
                        return behind;
                    }
                    p.putLocal(a, p.localAt(a) - 1);
                    return b;
                case SKIP:
                    return p.there <= 0 ? b : behind;
                case EXIT:
                    end(p, a);
                    return behind;
                case TRAP:
                    p.traps = a == 1;
                    return behind;
                case TAKE:
                    if (!p.takeMail(a)) {
                        p.waitFor(a, b > 0 ? now + b : NONE);
                    }
                    return behind;
                case SLEEP:
                    p.waitFor(Proc.WAIT_OF_SLEEP, now + a);
                    return behind;
                default: // NEXT
                    p.version = currentOf(p.module);
                    return 0;
            }
        }

        /** Does a LINE that has to do with others; answers with which one it goes on. */
        private int doLineOut(Proc p, int at) {
            int a = codes.as[at];
            int b = codes.bs[at];
            Proc other = living(p.there);
            switch (codes.kinds[at]) {
                case SPAWN:
                    spawn(p, a, b == 1);
                    break;
                case LINK:
                    if (other == null) {
                        signalTo(p.number, p.there, REASON_GONE);
                    } else {
                        link(p, other);
                    }
                    break;
                case UNLINK:
                    if (other != null) {
                        unlink(p, other);
                    }
                    break;
                case WATCH:
                    if (other == null) {
                        putMail(p.number, TAG_OF_WATCH, 10 * p.there + REASON_GONE);
                    } else {
                        other.watches.add(p.number);
                    }
                    break;
                case NAME:
                    takeName(p, a);
                    break;
                case SEND:
                    putMail(p.there, a, p.localAt(3));
                    break;
                case CALL:
                    callName(p, a, b);
                    break;
                default: // SIGNAL
                    signalTo(p.there, p.number, a);
                    break;
            }
            return p.line + 1;
        }

        private void takeName(Proc p, int name) {
            int holder = holderOf(name);
            if (holder != NONE && holder != p.number) {
                end(p, REASON_NAME);
            } else if (isWithin(name, 0, NAMES - 1)) {
                names[name] = p.number;
            }
        }

        private void callName(Proc p, int name, int tag) {
            int holder = holderOf(name);
            if (holder == NONE) {
                end(p, REASON_NAME);
            } else {
                putMail(holder, tag, p.there);
            }
        }

        private void spawn(Proc p, int module, boolean linked) {
            Proc child = comesOfModule(module, NONE);
            if (child == null) {
                end(p, REASON_SHUT);
                return;
            }
            if (linked) {
                link(p, child);
            }
            p.there = child.number;
        }

        // ---- what one asks

        /** Its place in the READY row; NONE, if it is not READY. */
        int placeInRow(Proc p) {
            if (p.status != READY) {
                return NONE;
            }
            int ahead = 0;
            for (int k = 0; k < count && k < PROCESSES; k++) {
                if (procs[k].status == READY && procs[k].ticket < p.ticket) {
                    ahead++;
                }
            }
            return ahead;
        }

        int watchesOf(Proc p) {
            if (p.status == OVER) {
                return 0;
            }
            int sum = 0;
            for (int k = 0; k < p.watches.count && k < PROCESSES; k++) {
                if (living(p.watches.watchers[k]) != null) {
                    sum += p.watches.times[k];
                }
            }
            return sum;
        }

        /** The set of those not OVER that run the VERSIONS first..last of a MODULE. */
        int runners(int module, int first, int last) {
            int set = 0;
            for (int k = 0; k < count && k < PROCESSES; k++) {
                Proc p = procs[k];
                if (p.status != OVER && p.module == module && isWithin(p.version, first, last)) {
                    set |= 1 << k;
                }
            }
            return set;
        }

        int madeOf(int module) {
            int sum = 0;
            for (int k = 0; k < count && k < PROCESSES; k++) {
                if (procs[k].module == module) {
                    sum++;
                }
            }
            return sum;
        }

        /** Whether a PROCESS was made of the CURRENT VERSION or came to it: none leaves that one. */
        boolean isCurrentUsed(int module) {
            for (int k = 0; k < count && k < PROCESSES; k++) {
                if (procs[k].module == module && procs[k].version == currentOf(module)) {
                    return true;
                }
            }
            return false;
        }

        boolean hadSupervisor(int spec) {
            for (int k = 0; k < count && k < PROCESSES; k++) {
                if (procs[k].spec == spec) {
                    return true;
                }
            }
            return false;
        }

        int supervisors() {
            int sum = 0;
            for (int k = 0; k < count && k < PROCESSES; k++) {
                if (procs[k].isSupervisor()) {
                    sum++;
                }
            }
            return sum;
        }

        int withStatus(int status) {
            int sum = 0;
            for (int k = 0; k < count && k < PROCESSES; k++) {
                if (procs[k].status == status) {
                    sum++;
                }
            }
            return sum;
        }

        int linkCount() {
            int ends = 0;
            for (int k = 0; k < count && k < PROCESSES; k++) {
                ends += Integer.bitCount(procs[k].links);
            }
            return ends / 2;
        }

        int mailCount() {
            int sum = 0;
            for (int k = 0; k < count && k < PROCESSES; k++) {
                sum += procs[k].box.count;
            }
            return sum;
        }
    }

    /** Creates a den without MODULES and PROCESSES. */
    public MailDen() {
        codes = new Codes();
        specs = new Specs();
        real = new World(codes, specs);
        trial = new World(codes, specs);
    }

    // ---- codes and specs

    /** Adds a MODULE; answers its number. */
    public int module() throws IllegalStateException {
        checkState(codes.modules < MODULES);
        int module = codes.modules;
        codes.modules = module + 1;
        return module;
    }

    /** Adds a LINE to the CURRENT VERSION of a MODULE; answers its number. */
    public int line(int module, int kind, int a, int b)
            throws IndexOutOfBoundsException, IllegalArgumentException, IllegalStateException {
        checkIndex(codes.hasModule(module));
        int version = real.currentOf(module);
        int own = codes.linesOf(module, version);
        checkArgument(codes.isLine(kind, a, b, own));
        checkState(own < LINES && !real.isCurrentUsed(module));
        return codes.addLine(module, version, kind, a, b);
    }

    /** LOADS a MODULE; answers how many PROCESSES are OVER by that. */
    public int load(int module) throws IndexOutOfBoundsException, IllegalStateException {
        checkIndex(codes.hasModule(module));
        checkState(real.currentOf(module) + 1 < VERSIONS);
        int before = real.endedCount;
        real.loadModule(module);
        return real.endedCount - before;
    }

    /** Adds a SPEC; answers its number. */
    public int spec(int strategy, int most, int within)
            throws IllegalArgumentException, IllegalStateException {
        checkArgument(isWithin(strategy, 0, 2) && isWithin(most, 0, 3) && isWithin(within, 1, 9));
        checkState(specs.count < SPECS);
        return specs.addSpec(strategy, most, within);
    }

    /** Adds a PLACE to a SPEC; answers its number in that. */
    public int place(int spec, boolean isSpec, int number, int mode)
            throws IndexOutOfBoundsException, IllegalArgumentException, IllegalStateException {
        checkIndex(specs.hasSpec(spec));
        checkArgument(isSpec ? isWithin(number, 0, spec - 1) : codes.hasModule(number));
        checkArgument(isWithin(mode, 0, 2));
        checkState(!real.hadSupervisor(spec) && specs.placesOf(spec) < PLACES);
        return specs.addPlace(spec, isSpec, number, mode);
    }

    /** Answers what one asks of a MODULE. */
    public int ofModule(int module, int what)
            throws IndexOutOfBoundsException, IllegalArgumentException {
        checkIndex(codes.hasModule(module));
        checkArgument(isWithin(what, 0, 4));
        int version = real.currentOf(module);
        switch (what) {
            case 0:
                return version + 1;
            case 1:
                return codes.linesOf(module, version);
            case 2:
                return real.runners(module, version, version);
            case 3:
                return real.runners(module, 0, version - 1);
            default:
                return real.madeOf(module);
        }
    }

    // ---- what goes on

    /** Starts a PROCESS; answers its number. */
    public int start(int module) throws IndexOutOfBoundsException, IllegalStateException {
        checkIndex(codes.hasModule(module));
        Proc p = real.comesOfModule(module, NONE);
        checkState(p != null);
        return p == null ? NONE : p.number;
    }

    /** Starts a SUPERVISOR, with its CHILDREN; answers its number. */
    public int supervise(int spec) throws IndexOutOfBoundsException, IllegalStateException {
        checkIndex(specs.hasSpec(spec));
        checkState(real.count < PROCESSES);
        return real.comesFromOutside(spec);
    }

    /** Does turns, as long as there is a READY one; answers how many. */
    public int run(int turns) throws IllegalArgumentException {
        checkArgument(isWithin(turns, 1, 50));
        int done = 0;
        while (done < turns && real.doTurn()) {
            done++;
        }
        return done;
    }

    /** NOW becomes 1 more, so many times; answers how many PROCESSES became READY. */
    public int tick(int ticks) throws IllegalArgumentException {
        checkArgument(isWithin(ticks, 1, 20));
        int woken = 0;
        for (int k = 0; k < ticks; k++) {
            woken += real.passTime();
        }
        return woken;
    }

    /** Sends MAIL from outside; answers whether it was not lost. */
    public boolean send(int process, int tag, int number)
            throws IndexOutOfBoundsException, IllegalArgumentException {
        checkProcess(process);
        checkArgument(isWithin(tag, 0, 1) && isWithin(number, -999, 999));
        return real.putMail(process, tag, number);
    }

    /** Sends a SIGNAL from outside; answers how many PROCESSES are OVER by that. */
    public int signal(int process, int reason)
            throws IndexOutOfBoundsException, IllegalArgumentException {
        checkProcess(process);
        checkArgument(isWithin(reason, 0, 9));
        int before = real.endedCount;
        real.signalTo(process, process, reason);
        real.settle();
        return real.endedCount - before;
    }

    // ---- what one asks

    /** Answers what one asks of a PROCESS. */
    public int ofProcess(int process, int what)
            throws IndexOutOfBoundsException, IllegalArgumentException {
        Proc p = checkProcess(process);
        checkArgument(isWithin(what, 0, 12));
        switch (what) {
            case 0:
                return p.module;
            case 1:
                return p.version;
            case 2:
                return p.status;
            case 3:
                return p.reason;
            case 4:
                return real.placeInRow(p);
            case 5:
                return p.there;
            case 6:
                return p.line;
            case 7:
                return p.until;
            case 8:
                return p.box.count;
            case 9:
                return p.links;
            case 10:
                return p.traps ? 1 : 0;
            case 11:
                return p.status == OVER ? NONE : p.parent;
            default:
                return real.watchesOf(p);
        }
    }

    /** Answers a LOCAL of a PROCESS. */
    public int local(int process, int local) throws IndexOutOfBoundsException {
        Proc p = checkProcess(process);
        checkIndex(isWithin(local, 0, LOCALS - 1));
        return p.localAt(local);
    }

    /** Answers the TAG or the NUMBER of a MAIL in a BOX. */
    public int mail(int process, int k, int what)
            throws IndexOutOfBoundsException, IllegalArgumentException {
        Box box = checkProcess(process).box;
        checkIndex(isWithin(k, 0, box.count - 1));
        checkArgument(isWithin(what, 0, 1));
        if (k < 0 || k >= BOX) {
            return NONE;
        }
        return what == 0 ? box.tags[k] : box.numbers[k];
    }

    /** Answers what one asks of a SUPERVISOR; NONE of another one. */
    public int ofSupervisor(int process, int what)
            throws IndexOutOfBoundsException, IllegalArgumentException {
        Proc p = checkProcess(process);
        checkArgument(isWithin(what, 0, 6));
        if (!p.isSupervisor()) {
            return NONE;
        }
        switch (what) {
            case 0:
                return p.spec;
            case 5:
                return real.restartsEver(p);
            case 6:
                return real.restartsLately(p);
            default:
                return isWithin(what, 1, PLACES) ? p.children[what - 1] : NONE;
        }
    }

    /** Answers the PROCESS that has a NAME; NONE without one. */
    public int named(int name) throws IndexOutOfBoundsException {
        checkIndex(isWithin(name, 0, NAMES - 1));
        return real.holderOf(name);
    }

    /** Answers how many there are. */
    public int many(int what) throws IllegalArgumentException {
        checkArgument(isWithin(what, 0, 12));
        switch (what) {
            case 0:
                return codes.modules;
            case 1:
                return specs.count;
            case 2:
                return real.count;
            case 3:
                return real.withStatus(READY);
            case 4:
                return real.withStatus(WAITS);
            case 5:
                return real.withStatus(OVER);
            case 6:
                return real.supervisors();
            case 7:
                return real.linkCount();
            case 8:
                return real.mailCount();
            case 9:
                return real.lost;
            case 10:
                return real.now;
            case 11:
                return real.turns;
            default:
                return real.lines;
        }
    }

    /** Answers the mean number of LINES that a PROCESS that is no SUPERVISOR began. */
    public double meanLines() {
        int workers = real.count - real.supervisors();
        return workers == 0 ? 0.0 : (double) real.lines / (double) workers;
    }

    // ---- what would be (nothing is changed)

    /** Answers which PROCESSES would become OVER by a SIGNAL from outside. */
    public int wouldFall(int process, int reason)
            throws IndexOutOfBoundsException, IllegalArgumentException {
        checkProcess(process);
        checkArgument(isWithin(reason, 0, 9));
        trial.copyFrom(real);
        trial.signalTo(process, process, reason);
        trial.settle();
        return trial.endedBehind(real.endedCount);
    }

    /** Answers which PROCESSES would become OVER, if the MODULE was LOADED. */
    public int wouldPurge(int module) throws IndexOutOfBoundsException {
        checkIndex(codes.hasModule(module));
        trial.copyFrom(real);
        trial.loadModule(module);
        return trial.endedBehind(real.endedCount);
    }

    /** Answers how many PROCESSES would be OVER behind so many ticks, with turns behind each. */
    public int overBy(int ticks, int turns) throws IllegalArgumentException {
        checkArgument(isWithin(ticks, 1, 20) && isWithin(turns, 1, 50));
        trial.copyFrom(real);
        for (int k = 0; k < ticks; k++) {
            trial.passTime();
            int done = 0;
            while (done < turns && trial.doTurn()) {
                done++;
            }
        }
        return trial.endedCount;
    }

    /** Answers how many MAILS a TAKE would pass over; NONE, if it would take none. */
    public int passedOver(int process, int tag)
            throws IndexOutOfBoundsException, IllegalArgumentException {
        Proc p = checkProcess(process);
        checkArgument(isWithin(tag, 0, ANY_TAG));
        return p.box.firstOf(tag);
    }

    /** Computes a checksum of all that one can ask. */
    public long digest() {
        long d = 58144;
        for (int what = 0; what <= 12; what++) {
            d = d * 31 + many(what);
        }
        for (int module = 0; module < codes.modules; module++) {
            for (int what = 0; what <= 4; what++) {
                d = d * 31 + ofModule(module, what);
            }
            d = d * 31 + wouldPurge(module);
        }
        for (int process = 0; process < real.count; process++) {
            d = digestOfProcess(d, process);
        }
        for (int name = 0; name < NAMES; name++) {
            d = d * 31 + named(name);
        }
        d = d * 31 + overBy(1, 5);
        return d * 31 + overBy(3, 10);
    }

    private long digestOfProcess(long before, int process) {
        long d = before;
        for (int what = 0; what <= 12; what++) {
            d = d * 31 + ofProcess(process, what);
        }
        for (int local = 0; local < LOCALS; local++) {
            d = d * 31 + local(process, local);
        }
        int mails = ofProcess(process, 8);
        for (int k = 0; k < mails; k++) {
            d = d * 31 + mail(process, k, 0);
            d = d * 31 + mail(process, k, 1);
        }
        for (int what = 0; what <= 6; what++) {
            d = d * 31 + ofSupervisor(process, what);
        }
        d = d * 31 + wouldFall(process, 0);
        d = d * 31 + wouldFall(process, 1);
        d = d * 31 + wouldFall(process, 9);
        return d * 31 + passedOver(process, 1);
    }

    // ---- what a call must keep to

    private static boolean isWithin(int value, int least, int most) {
        return value >= least && value <= most;
    }

    private static void checkIndex(boolean fits) {
        if (!fits) {
            throw new IndexOutOfBoundsException();
        }
    }

    private static void checkArgument(boolean fits) {
        if (!fits) {
            throw new IllegalArgumentException();
        }
    }

    private static void checkState(boolean fits) {
        if (!fits) {
            throw new IllegalStateException();
        }
    }

    /** The PROCESS of that number, if there is one. */
    private Proc checkProcess(int process) {
        Proc p = real.procAt(process);
        if (p == null) {
            throw new IndexOutOfBoundsException();
        }
        return p;
    }
}
