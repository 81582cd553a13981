import java.util.ArrayList;
import java.util.HashMap;
import java.util.HashSet;
import java.util.List;
import java.util.Map;
import java.util.Set;

/**
 * The document once more, in other words and as plainly as the Java library allows: nothing is used again,
 * nothing is shared that changes.
 */
final class Model implements Face {
    record State(int version, long value) {
    }

    record Accepted(int ballot, State state) {
    }

    record Message(int sort, int asker, int keeper, int request, int key, int ballot, State state) {
    }

    record Plan(int set, int enough) {
    }

    static final class Request {
        int asker;
        int key;
        int change;
        long argument;
        int ballot;
        Plan preparing;
        Plan accepting;
        boolean isAccepting;
        Map<Integer, Accepted> promised = new HashMap<>();
        Set<Integer> taken = new HashSet<>();
        State outcome;
        boolean failed;
        int ending;
    }

    final List<Message> row = new ArrayList<>();
    final List<Request> requests = new ArrayList<>();
    final Map<Integer, Integer> promises = new HashMap<>();
    final Map<Integer, Accepted> accepted = new HashMap<>();
    final Set<Integer> down = new HashSet<>();
    final Map<Integer, Plan> plans = new HashMap<>();
    final int[] counts = new int[4];

    private static void exists(boolean is) {
        if (!is) {
            throw new IndexOutOfBoundsException();
        }
    }

    private static void fits(boolean is) {
        if (!is) {
            throw new IllegalArgumentException();
        }
    }

    private static boolean oneOf(int many, int number) {
        return 0 <= number && number < many;
    }

    private static int place(int keeper, int key) {
        return 100 * keeper + key;
    }

    private int promise(int keeper, int key) {
        return promises.getOrDefault(place(keeper, key), 0);
    }

    private Accepted accepted(int keeper, int key) {
        return accepted.getOrDefault(place(keeper, key), new Accepted(0, null));
    }

    private Plan planOf(int asker, int which) {
        return plans.getOrDefault(10 * asker + which, new Plan(0b111, 2));
    }

    private int requestOf(int asker) {
        for (int r = 0; r < requests.size(); r++) {
            if (requests.get(r).asker == asker && requests.get(r).ending == 0) {
                return r;
            }
        }
        return -1;
    }

    private void send(Message message) {
        if (row.size() < 300) {
            row.add(message);
        }
    }

    @Override
    public int ask(int asker, int key, int change, long argument) {
        exists(oneOf(4, asker) && oneOf(4, key));
        fits(oneOf(7, change));
        if (requestOf(asker) >= 0 || requests.size() == 200) {
            return -1;
        }
        Request request = new Request();
        request.asker = asker;
        request.key = key;
        request.change = change;
        request.argument = argument;
        counts[asker] += 1;
        request.ballot = 4 * counts[asker] + asker;
        request.preparing = planOf(asker, 0);
        request.accepting = planOf(asker, 1);
        int number = requests.size();
        requests.add(request);
        for (int keeper = 0; keeper < 9; keeper++) {
            if ((request.preparing.set >> keeper) % 2 == 1) {
                send(new Message(0, asker, keeper, number, key, request.ballot, null));
            }
        }
        return number;
    }

    @Override
    public int give(int asker) {
        exists(oneOf(4, asker));
        int number = requestOf(asker);
        if (number >= 0) {
            requests.get(number).ending = 2;
        }
        return number;
    }

    @Override
    public void plan(int asker, int which, int set, int enough) {
        exists(oneOf(4, asker) && oneOf(2, which));
        fits(set >= 1 && set < 512);
        fits(enough >= 1 && enough <= Integer.toBinaryString(set).replace("0", "").length());
        plans.put(10 * asker + which, new Plan(set, enough));
    }

    @Override
    public int take(int i) {
        exists(oneOf(row.size(), i));
        Message m = row.remove(i);
        boolean toKeeper = m.sort == 0 || m.sort == 2;
        if (toKeeper && !down.contains(m.keeper)) {
            atKeeper(m);
        }
        if (!toKeeper) {
            atAsker(m);
        }
        return m.sort;
    }

    private void atKeeper(Message m) {
        int promise = promise(m.keeper, m.key);
        Accepted has = accepted(m.keeper, m.key);
        boolean prepare = m.sort == 0;
        boolean fine = prepare ? m.ballot > promise && m.ballot > has.ballot
                : !(m.ballot < promise) && !(m.ballot < has.ballot);
        if (!fine) {
            int told = promise > has.ballot ? promise : has.ballot;
            send(new Message(4, m.asker, m.keeper, m.request, m.key, told, null));
        } else if (prepare) {
            promises.put(place(m.keeper, m.key), m.ballot);
            send(new Message(1, m.asker, m.keeper, m.request, m.key, has.ballot, has.state));
        } else {
            promises.put(place(m.keeper, m.key), 0);
            accepted.put(place(m.keeper, m.key), new Accepted(m.ballot, m.state));
            send(new Message(3, m.asker, m.keeper, m.request, m.key, m.ballot, null));
        }
    }

    private void atAsker(Message m) {
        Request request = requests.get(m.request);
        boolean isThat = requestOf(m.asker) == m.request;
        if (m.sort == 4) {
            while (counts[m.asker] < Math.floorDiv(m.ballot, 4)) {
                counts[m.asker]++;
            }
            if (isThat) {
                request.ending = 2;
            }
        } else if (m.sort == 1 && isThat && !request.isAccepting) {
            request.promised.putIfAbsent(m.keeper, new Accepted(m.ballot, m.state));
            if (request.promised.size() == request.preparing.enough) {
                beginAccepting(m.request, request);
            }
        } else if (m.sort == 3 && isThat && request.isAccepting) {
            request.taken.add(m.keeper);
            if (request.taken.size() == request.accepting.enough) {
                request.ending = 1;
            }
        }
    }

    private void beginAccepting(int number, Request request) {
        Accepted greatest = new Accepted(-1, null);
        for (Accepted told : request.promised.values()) {
            greatest = told.ballot > greatest.ballot ? told : greatest;
        }
        request.isAccepting = true;
        request.failed = fails(greatest.state, request.change, request.argument);
        request.outcome = request.failed ? greatest.state : after(greatest.state, request.change, request.argument);
        for (int keeper = 0; keeper < 9; keeper++) {
            if ((request.accepting.set >> keeper) % 2 == 1) {
                send(new Message(2, request.asker, keeper, number, request.key, request.ballot, request.outcome));
            }
        }
    }

    private static boolean fails(State state, int change, long argument) {
        return change == 1 && state != null
                || change == 3 && (state == null || state.version != argument >> 32)
                || change == 5 && state == null
                || change == 6 && state != null && !(state.value < argument);
    }

    private static State after(State state, int change, long argument) {
        int version = state == null ? 1 : state.version + 1;
        long value = state == null ? 0 : state.value;
        return switch (change) {
            case 0 -> state;
            case 1, 2, 6 -> new State(version, argument);
            case 3 -> new State(version, argument << 32 >> 32);
            case 4 -> new State(version, value + argument);
            case 5 -> null;
            default -> throw new IllegalStateException();
        };
    }

    @Override
    public int run(int n) {
        fits(n >= 0 && n <= 1000);
        for (int taken = 0; taken < n; taken++) {
            if (row.isEmpty()) {
                return taken;
            }
            take(0);
        }
        return n;
    }

    @Override
    public int lose(int i) {
        exists(oneOf(row.size(), i));
        return row.remove(i).sort;
    }

    @Override
    public int twice(int i) {
        exists(oneOf(row.size(), i));
        if (row.size() == 300) {
            return -1;
        }
        row.add(row.get(i));
        return row.size();
    }

    @Override
    public boolean down(int keeper, boolean is) {
        exists(oneOf(9, keeper));
        return is ? !down.add(keeper) : down.remove(keeper);
    }

    @Override
    public int copy(int to, int from) {
        exists(oneOf(9, to) && oneOf(9, from));
        int copied = 0;
        for (int key = 0; key < 4; key++) {
            if (accepted(from, key).ballot > accepted(to, key).ballot) {
                accepted.put(place(to, key), accepted(from, key));
                promises.put(place(to, key), Math.max(promise(to, key), promise(from, key)));
                copied++;
            }
        }
        return copied;
    }

    private static int version(State state) {
        return state == null ? -1 : state.version;
    }

    private static long value(State state) {
        return state == null ? 0 : state.value;
    }

    @Override
    public int messages() {
        return row.size();
    }

    @Override
    public int message(int i, int what) {
        exists(oneOf(row.size(), i) && oneOf(6, what));
        Message m = row.get(i);
        return List.of(m.sort, m.asker, m.keeper, m.request, m.ballot, version(m.state)).get(what);
    }

    @Override
    public int keeper(int keeper, int key, int what) {
        exists(oneOf(9, keeper) && oneOf(4, key) && oneOf(3, what));
        Accepted has = accepted(keeper, key);
        return List.of(promise(keeper, key), has.ballot, version(has.state)).get(what);
    }

    @Override
    public long kept(int keeper, int key) {
        exists(oneOf(9, keeper) && oneOf(4, key));
        return value(accepted(keeper, key).state);
    }

    @Override
    public int asker(int asker, int what) {
        exists(oneOf(4, asker) && oneOf(4, what));
        int number = requestOf(asker);
        Request current = number < 0 ? new Request() : requests.get(number);
        int answers = current.isAccepting ? current.taken.size() : current.promised.size();
        return List.of(counts[asker], number, current.isAccepting ? 1 : 0, answers).get(what);
    }

    @Override
    public int request(int r, int what) {
        exists(oneOf(requests.size(), r) && oneOf(4, what));
        Request request = requests.get(r);
        boolean isDone = request.ending == 1;
        return List.of(request.ending, isDone && request.failed ? 1 : 0, isDone ? version(request.outcome) : -1,
                request.ballot).get(what);
    }

    @Override
    public long result(int r) {
        exists(oneOf(requests.size(), r));
        return requests.get(r).ending == 1 ? value(requests.get(r).outcome) : 0;
    }
}
