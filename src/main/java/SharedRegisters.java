/**
 * Registers that several keepers keep. Askers change them by functions: a ballot is prepared, the
 * function is worked on what the last one left, and enough keepers accept the outcome.
 */
public final class SharedRegisters {
    public static final int NONE = -1;

    private static final int KEEPERS = 9;
    private static final int ASKERS = 4;
    private static final int KEYS = 4;
    private static final int CHANGES = 7;
    private static final int MOST_MESSAGES = 300;
    private static final int MOST_REQUESTS = 200;
    private static final int MOST_RUN = 1000;
    private static final int BALLOTS_PER_COUNT = 4;

    private static final int FIRST_SET = 7;
    private static final int FIRST_ENOUGH = 2;
    private static final int GREATEST_SET = 511;

    private static final int FOR_PREPARING = 0;
    private static final int FOR_ACCEPTING = 1;
    private static final int PLAN_PARTS = 2;

    private static final int READ = 0;
    private static final int BEGIN = 1;
    private static final int SET = 2;
    private static final int SWAP = 3;
    private static final int ADD = 4;
    private static final int TAKE_AWAY = 5;
    private static final int GREATER = 6;

    private static final int PREPARE = 0;
    private static final int PROMISED = 1;
    private static final int ACCEPT = 2;
    private static final int TAKEN = 3;
    private static final int REFUSED = 4;

    private static final int GOING_ON = 0;
    private static final int DONE = 1;
    private static final int LOST = 2;

    private final State absent;
    private final Register[] registers;
    private final boolean[] isDown;
    private final Asker[] askers;
    private final Request[] requests;
    private final Row row;
    private int requestCount;

    public SharedRegisters() {
        absent = new State(false, 0, 0L);
        registers = new Register[KEEPERS * KEYS];
        for (int i = 0; i < registers.length; i++) {
            registers[i] = new Register(absent);
        }
        isDown = new boolean[KEEPERS];
        askers = new Asker[ASKERS];
        for (int i = 0; i < ASKERS; i++) {
            askers[i] = new Asker(i);
        }
        requests = new Request[MOST_REQUESTS];
        row = new Row(absent);
        requestCount = 0;
    }

    public int ask(int asker, int key, int change, long argument)
            throws IndexOutOfBoundsException, IllegalArgumentException {
        needIndex(asker, ASKERS);
        needIndex(key, KEYS);
        needRange(change, 0, CHANGES - 1);
        Asker by = askers[asker];
        if (by.current != null || requestCount >= MOST_REQUESTS) {
            return NONE;
        }
        by.count++;
        Request begun = new Request(requestCount, by, key, change, argument, absent);
        requests[requestCount] = begun;
        requestCount++;
        by.current = begun;
        sendToSet(PREPARE, begun, by.sets[FOR_PREPARING], absent);
        return begun.number;
    }

    public int give(int asker) throws IndexOutOfBoundsException {
        needIndex(asker, ASKERS);
        return endCurrent(askers[asker], LOST);
    }

    public void plan(int asker, int which, int set, int enough)
            throws IndexOutOfBoundsException, IllegalArgumentException {
        needIndex(asker, ASKERS);
        needIndex(which, PLAN_PARTS);
        needRange(set, 1, GREATEST_SET);
        needRange(enough, 1, Integer.bitCount(set));
        askers[asker].sets[which] = set;
        askers[asker].enough[which] = enough;
    }

    public int take(int i) throws IndexOutOfBoundsException {
        needIndex(i, row.size);
        return deliver(i);
    }

    public int run(int n) throws IllegalArgumentException {
        needRange(n, 0, MOST_RUN);
        int taken = 0;
        while (taken < n && row.size > 0) {
            deliver(0);
            taken++;
        }
        return taken;
    }

    public int lose(int i) throws IndexOutOfBoundsException {
        needIndex(i, row.size);
        return row.drawOut(i).sort;
    }

    public int twice(int i) throws IndexOutOfBoundsException {
        needIndex(i, row.size);
        if (row.size >= MOST_MESSAGES) {
            return NONE;
        }
        Message again = row.messages[i];
        row.send(again.sort, again.asker, again.keeper, again.request, again.key, again.ballot, again.state);
        return row.size;
    }

    public boolean down(int keeper, boolean is) throws IndexOutOfBoundsException {
        needIndex(keeper, KEEPERS);
        boolean was = isDown[keeper];
        isDown[keeper] = is;
        return was;
    }

    public int copy(int to, int from) throws IndexOutOfBoundsException {
        needIndex(to, KEEPERS);
        needIndex(from, KEEPERS);
        int copied = 0;
        for (int key = 0; key < KEYS; key++) {
            if (registerOf(to, key).catchUp(registerOf(from, key))) {
                copied++;
            }
        }
        return copied;
    }

    public int messages() {
        return row.size;
    }

    public int message(int i, int what) throws IndexOutOfBoundsException {
        needIndex(i, row.size);
        Message told = row.messages[i];
        switch (what) {
            case 0:
                return told.sort;
            case 1:
                return told.asker;
            case 2:
                return told.keeper;
            case 3:
                return told.request;
            case 4:
                return told.ballot;
            case 5:
                return told.state.versionOrNone();
            default:
                throw new IndexOutOfBoundsException("a message has no such part");
        }
    }

    public int keeper(int keeper, int key, int what) throws IndexOutOfBoundsException {
        needIndex(keeper, KEEPERS);
        needIndex(key, KEYS);
        Register register = registerOf(keeper, key);
        switch (what) {
            case 0:
                return register.promise;
            case 1:
                return register.ballot;
            case 2:
                return register.state.versionOrNone();
            default:
                throw new IndexOutOfBoundsException("a keeper has no such part");
        }
    }

    public long kept(int keeper, int key) throws IndexOutOfBoundsException {
        needIndex(keeper, KEEPERS);
        needIndex(key, KEYS);
        return registerOf(keeper, key).state.value;
    }

    public int asker(int asker, int what) throws IndexOutOfBoundsException {
        needIndex(asker, ASKERS);
        Request current = askers[asker].current;
        switch (what) {
            case 0:
                return askers[asker].count;
            case 1:
                return current == null ? NONE : current.number;
            case 2:
                return current != null && current.accepting ? 1 : 0;
            case 3:
                return current == null ? 0 : current.answers();
            default:
                throw new IndexOutOfBoundsException("an asker has no such part");
        }
    }

    public int request(int r, int what) throws IndexOutOfBoundsException {
        Request told = requestAt(r);
        switch (what) {
            case 0:
                return told.ending;
            case 1:
                return told.ending == DONE && told.failed ? 1 : 0;
            case 2:
                return told.ending == DONE ? told.state.versionOrNone() : NONE;
            case 3:
                return told.ballot;
            default:
                throw new IndexOutOfBoundsException("a request has no such part");
        }
    }

    public long result(int r) throws IndexOutOfBoundsException {
        Request told = requestAt(r);
        return told.ending == DONE ? told.state.value : 0L;
    }

    private static void needIndex(int index, int end) {
        if (index < 0 || index >= end) {
            throw new IndexOutOfBoundsException("there is none such");
        }
    }

    private static void needRange(int number, int least, int most) {
        if (number < least || number > most) {
            throw new IllegalArgumentException("the number is out of its range");
        }
    }

    private Request requestAt(int r) {
        needIndex(r, requestCount);
        Request found = requests[r];
        if (found == null) {
            throw new IndexOutOfBoundsException("there is none such");
        }
        return found;
    }

    private Register registerOf(int keeper, int key) {
        return registers[keeper * KEYS + key];
    }

    private int deliver(int i) {
        // Out of the row first, so that an answer finds the room that it leaves.
        Message message = row.drawOut(i);
        switch (message.sort) {
            case PREPARE:
                takePrepare(message);
                break;
            case PROMISED:
                takePromised(message);
                break;
            case ACCEPT:
                takeAccept(message);
                break;
            case TAKEN:
                takeTaken(message);
                break;
            default:
                takeRefused(message);
                break;
        }
        return message.sort;
    }

    private void takePrepare(Message message) {
        if (isDown[message.keeper]) {
            return;
        }
        Register register = registerOf(message.keeper, message.key);
        if (message.ballot > register.greaterBallot()) {
            register.promise = message.ballot;
            sendBack(PROMISED, message, register.ballot, register.state);
        } else {
            sendBack(REFUSED, message, register.greaterBallot(), absent);
        }
    }

    private void takeAccept(Message message) {
        if (isDown[message.keeper]) {
            return;
        }
        Register register = registerOf(message.keeper, message.key);
        if (message.ballot >= register.greaterBallot()) {
            register.accept(message.ballot, message.state);
            sendBack(TAKEN, message, message.ballot, absent);
        } else {
            sendBack(REFUSED, message, register.greaterBallot(), absent);
        }
    }

    private void takePromised(Message message) {
        Request request = awaiting(message, false);
        if (request == null) {
            return;
        }
        request.hearState(message.ballot, message.state);
        request.countAnswer(message.keeper);
        if (request.answers() >= request.enoughPromised) {
            request.beginAccepting();
            sendToSet(ACCEPT, request, request.acceptSet, request.state);
        }
    }

    private void takeTaken(Message message) {
        Request request = awaiting(message, true);
        if (request == null) {
            return;
        }
        request.countAnswer(message.keeper);
        if (request.answers() >= request.enoughTaken) {
            endCurrent(askers[message.asker], DONE);
        }
    }

    private void takeRefused(Message message) {
        Asker asker = askers[message.asker];
        asker.count = Math.max(asker.count, message.ballot / BALLOTS_PER_COUNT);
        if (asker.current != null && asker.current.number == message.request) {
            endCurrent(asker, LOST);
        }
    }

    /** The request that the message answers; null when the answer is late, or came before. */
    private Request awaiting(Message message, boolean accepting) {
        Request current = askers[message.asker].current;
        if (current == null || current.number != message.request) {
            return null;
        }
        if (current.accepting != accepting || current.hasAnswer(message.keeper)) {
            return null;
        }
        return current;
    }

    private static int endCurrent(Asker asker, int ending) {
        Request current = asker.current;
        if (current == null) {
            return NONE;
        }
        current.ending = ending;
        asker.current = null;
        return current.number;
    }

    private void sendToSet(int sort, Request request, int set, State state) {
        for (int keeper = 0; keeper < KEEPERS; keeper++) {
            if ((set & (1 << keeper)) != 0) {
                row.send(sort, request.asker, keeper, request.number, request.key, request.ballot, state);
            }
        }
    }

    private void sendBack(int sort, Message to, int ballot, State state) {
        row.send(sort, to.asker, to.keeper, to.request, to.key, ballot, state);
    }

    /** What a register holds. It never changes, so messages and keepers may share one. */
    private static final class State {
        private final boolean present;
        // Both are 0 when absent, so that counting on from an absent state needs no case of its own.
        private final int version;
        private final long value;

        private State(boolean present, int version, long value) {
            this.present = present;
            this.version = version;
            this.value = value;
        }

        private int versionOrNone() {
            return present ? version : NONE;
        }

        private boolean fails(int change, long argument) {
            switch (change) {
                case BEGIN:
                    return present;
                case SWAP:
                    return !present || version != (int) (argument >> 32);
                case TAKE_AWAY:
                    return !present;
                case GREATER:
                    return present && value >= argument;
                default:
                    return false;
            }
        }

        private State changed(int change, long argument) {
            if (fails(change, argument)) {
                return this;
            }
            switch (change) {
                case READ:
                    return this;
                case SWAP:
                    return next((int) argument);
                case ADD:
                    return next(value + argument);
                case TAKE_AWAY:
                    return new State(false, 0, 0L);
                case BEGIN:
                case SET:
                case GREATER:
                default:
                    return next(argument);
            }
        }

        private State next(long newValue) {
            return new State(true, version + 1, newValue);
        }
    }

    /** What one keeper has for one key. */
    private static final class Register {
        private int promise;
        private int ballot;
        private State state;

        private Register(State first) {
            promise = 0;
            ballot = 0;
            state = first;
        }

        private int greaterBallot() {
            return Math.max(promise, ballot);
        }

        private void accept(int newBallot, State newState) {
            ballot = newBallot;
            state = newState;
            promise = 0;
        }

        private boolean catchUp(Register from) {
            if (from.ballot <= ballot) {
                return false;
            }
            ballot = from.ballot;
            state = from.state;
            promise = Math.max(promise, from.promise);
            return true;
        }
    }

    private static final class Asker {
        private final int number;
        private final int[] sets;
        private final int[] enough;
        private int count;
        // Null while the asker has no request.
        private Request current;

        private Asker(int number) {
            this.number = number;
            sets = new int[] {FIRST_SET, FIRST_SET};
            enough = new int[] {FIRST_ENOUGH, FIRST_ENOUGH};
            count = 0;
            current = null;
        }
    }

    /** A request, with the plan as it was when it began. */
    private static final class Request {
        private final int number;
        private final int asker;
        private final int key;
        private final int change;
        private final long argument;
        private final int ballot;
        private final int enoughPromised;
        private final int acceptSet;
        private final int enoughTaken;
        private boolean accepting;
        private int answered;
        private int toldBallot;
        // While preparing, the state told with the greatest ballot; from accepting on, the new one.
        private State state;
        private boolean failed;
        private int ending;

        private Request(int number, Asker by, int key, int change, long argument, State first) {
            this.number = number;
            this.asker = by.number;
            this.key = key;
            this.change = change;
            this.argument = argument;
            ballot = BALLOTS_PER_COUNT * by.count + by.number;
            enoughPromised = by.enough[FOR_PREPARING];
            acceptSet = by.sets[FOR_ACCEPTING];
            enoughTaken = by.enough[FOR_ACCEPTING];
            accepting = false;
            answered = 0;
            toldBallot = 0;
            state = first;
            failed = false;
            ending = GOING_ON;
        }

        private boolean hasAnswer(int keeper) {
            return (answered & (1 << keeper)) != 0;
        }

        private void countAnswer(int keeper) {
            answered |= 1 << keeper;
        }

        private int answers() {
            return Integer.bitCount(answered);
        }

        private void hearState(int ballotTold, State stateTold) {
            if (ballotTold > toldBallot) {
                toldBallot = ballotTold;
                state = stateTold;
            }
        }

        private void beginAccepting() {
            failed = state.fails(change, argument);
            state = state.changed(change, argument);
            accepting = true;
            answered = 0;
        }
    }

    private static final class Message {
        private int sort;
        private int asker;
        private int keeper;
        private int request;
        private int key;
        private int ballot;
        private State state;

        private Message(State first) {
            state = first;
        }
    }

    /** The messages under way. They are made once and used again. */
    private static final class Row {
        private final Message[] messages;
        private int size;

        private Row(State first) {
            // The one behind the most holds what was drawn out last, so that sending never writes on it.
            messages = new Message[MOST_MESSAGES + 1];
            for (int i = 0; i < messages.length; i++) {
                messages[i] = new Message(first);
            }
            size = 0;
        }

        /** What is drawn out stays as it is until the next one is drawn out. */
        private Message drawOut(int i) {
            Message drawn = messages[i];
            size--;
            for (int j = i; j < size; j++) {
                messages[j] = messages[j + 1];
            }
            messages[size] = messages[MOST_MESSAGES];
            messages[MOST_MESSAGES] = drawn;
            return drawn;
        }

        private void send(int sort, int asker, int keeper, int request, int key, int ballot, State state) {
            if (size >= MOST_MESSAGES) {
                return;
            }
            Message sent = messages[size];
            size++;
            sent.sort = sort;
            sent.asker = asker;
            sent.keeper = keeper;
            sent.request = request;
            sent.key = key;
            sent.ballot = ballot;
            sent.state = state;
        }
    }
}
