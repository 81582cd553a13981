import java.util.ArrayList;
import java.util.HashMap;
import java.util.HashSet;
import java.util.List;
import java.util.Map;
import java.util.Set;

/**
 * The document once more, in other words and as plainly as the Java library allows: nothing is used again,
 * nothing is shared that changes. Arguments are taken to be right ones.
 */
final class Model {
    record State(int version, long value) {
    }

    record Accepted(int ballot, State state) {
    }

    record Message(int sort, int asker, int keeper, int request, int key, int ballot, State state) {
    }

    record Plan(int set, int enough) {
    }

    static final class Request {
        int asker;
        int key;
        int change;
        long argument;
        int ballot;
        Plan preparing;
        Plan accepting;
        boolean isAccepting;
        Map<Integer, Accepted> promised = new HashMap<>();
        Set<Integer> taken = new HashSet<>();
        State outcome;
        boolean failed;
        int ending;
    }

    final List<Message> row = new ArrayList<>();
    final List<Request> requests = new ArrayList<>();
    final Map<Integer, Integer> promises = new HashMap<>();
    final Map<Integer, Accepted> accepted = new HashMap<>();
    final Set<Integer> down = new HashSet<>();
    final Map<Integer, Plan> plans = new HashMap<>();
    final int[] counts = new int[4];

    private static int place(int keeper, int key) {
        return 100 * keeper + key;
    }

    private int promise(int keeper, int key) {
        return promises.getOrDefault(place(keeper, key), 0);
    }

    private Accepted accepted(int keeper, int key) {
        return accepted.getOrDefault(place(keeper, key), new Accepted(0, null));
    }

    private Plan planOf(int asker, int which) {
        return plans.getOrDefault(10 * asker + which, new Plan(0b111, 2));
    }

    private int requestOf(int asker) {
        for (int r = 0; r < requests.size(); r++) {
            if (requests.get(r).asker == asker && requests.get(r).ending == 0) {
                return r;
            }
        }
        return -1;
    }

    private void send(Message message) {
        if (row.size() < 300) {
            row.add(message);
        }
    }

    int ask(int asker, int key, int change, long argument) {
        if (requestOf(asker) >= 0 || requests.size() == 200) {
            return -1;
        }
        Request request = new Request();
        request.asker = asker;
        request.key = key;
        request.change = change;
        request.argument = argument;
        counts[asker] += 1;
        request.ballot = 4 * counts[asker] + asker;
        request.preparing = planOf(asker, 0);
        request.accepting = planOf(asker, 1);
        int number = requests.size();
        requests.add(request);
        for (int keeper = 0; keeper < 9; keeper++) {
            if ((request.preparing.set >> keeper) % 2 == 1) {
                send(new Message(0, asker, keeper, number, key, request.ballot, null));
            }
        }
        return number;
    }

    int give(int asker) {
        int number = requestOf(asker);
        if (number >= 0) {
            requests.get(number).ending = 2;
        }
        return number;
    }

    int plan(int asker, int which, int set, int enough) {
        plans.put(10 * asker + which, new Plan(set, enough));
        return 0;
    }

    int take(int i) {
        Message m = row.remove(i);
        boolean toKeeper = m.sort == 0 || m.sort == 2;
        if (toKeeper && !down.contains(m.keeper)) {
            atKeeper(m);
        }
        if (!toKeeper) {
            atAsker(m);
        }
        return m.sort;
    }

    private void atKeeper(Message m) {
        int promise = promise(m.keeper, m.key);
        Accepted has = accepted(m.keeper, m.key);
        boolean prepare = m.sort == 0;
        boolean fine = prepare ? m.ballot > promise && m.ballot > has.ballot
                : !(m.ballot < promise) && !(m.ballot < has.ballot);
        if (!fine) {
            int told = promise > has.ballot ? promise : has.ballot;
            send(new Message(4, m.asker, m.keeper, m.request, m.key, told, null));
        } else if (prepare) {
            promises.put(place(m.keeper, m.key), m.ballot);
            send(new Message(1, m.asker, m.keeper, m.request, m.key, has.ballot, has.state));
        } else {
            promises.put(place(m.keeper, m.key), 0);
            accepted.put(place(m.keeper, m.key), new Accepted(m.ballot, m.state));
            send(new Message(3, m.asker, m.keeper, m.request, m.key, m.ballot, null));
        }
    }

    private void atAsker(Message m) {
        Request request = requests.get(m.request);
        boolean isThat = requestOf(m.asker) == m.request;
        if (m.sort == 4) {
            while (counts[m.asker] < Math.floorDiv(m.ballot, 4)) {
                counts[m.asker]++;
            }
            if (isThat) {
                request.ending = 2;
            }
        } else if (m.sort == 1 && isThat && !request.isAccepting) {
            request.promised.putIfAbsent(m.keeper, new Accepted(m.ballot, m.state));
            if (request.promised.size() == request.preparing.enough) {
                beginAccepting(m.request, request);
            }
        } else if (m.sort == 3 && isThat && request.isAccepting) {
            request.taken.add(m.keeper);
            if (request.taken.size() == request.accepting.enough) {
                request.ending = 1;
            }
        }
    }

    private void beginAccepting(int number, Request request) {
        Accepted greatest = new Accepted(-1, null);
        for (Accepted told : request.promised.values()) {
            greatest = told.ballot > greatest.ballot ? told : greatest;
        }
        request.isAccepting = true;
        request.failed = fails(greatest.state, request.change, request.argument);
        request.outcome = request.failed ? greatest.state : after(greatest.state, request.change, request.argument);
        for (int keeper = 0; keeper < 9; keeper++) {
            if ((request.accepting.set >> keeper) % 2 == 1) {
                send(new Message(2, request.asker, keeper, number, request.key, request.ballot, request.outcome));
            }
        }
    }

    private static boolean fails(State state, int change, long argument) {
        return change == 1 && state != null
                || change == 3 && (state == null || state.version != argument >> 32)
                || change == 5 && state == null
                || change == 6 && state != null && !(state.value < argument);
    }

    private static State after(State state, int change, long argument) {
        int version = state == null ? 1 : state.version + 1;
        long value = state == null ? 0 : state.value;
        return switch (change) {
            case 0 -> state;
            case 1, 2, 6 -> new State(version, argument);
            case 3 -> new State(version, argument << 32 >> 32);
            case 4 -> new State(version, value + argument);
            case 5 -> null;
            default -> throw new IllegalStateException();
        };
    }

    int run(int n) {
        for (int taken = 0; taken < n; taken++) {
            if (row.isEmpty()) {
                return taken;
            }
            take(0);
        }
        return n;
    }

    int lose(int i) {
        return row.remove(i).sort;
    }

    int twice(int i) {
        if (row.size() == 300) {
            return -1;
        }
        row.add(row.get(i));
        return row.size();
    }

    boolean down(int keeper, boolean is) {
        return is ? !down.add(keeper) : down.remove(keeper);
    }

    int copy(int to, int from) {
        int copied = 0;
        for (int key = 0; key < 4; key++) {
            if (accepted(from, key).ballot > accepted(to, key).ballot) {
                accepted.put(place(to, key), accepted(from, key));
                promises.put(place(to, key), Math.max(promise(to, key), promise(from, key)));
                copied++;
            }
        }
        return copied;
    }

    private static int version(State state) {
        return state == null ? -1 : state.version;
    }

    private static long value(State state) {
        return state == null ? 0 : state.value;
    }

    /** The same text as View's, of this model. */
    String view() {
        StringBuilder text = new StringBuilder();
        for (Message m : row) {
            text.append("m ").append(m.sort).append(' ').append(m.asker).append(' ').append(m.keeper).append(' ')
                    .append(m.request).append(' ').append(m.ballot).append(' ').append(version(m.state)).append(';');
        }
        for (int keeper = 0; keeper < 9; keeper++) {
            for (int key = 0; key < 4; key++) {
                Accepted has = accepted(keeper, key);
                text.append("k ").append(promise(keeper, key)).append(' ').append(has.ballot).append(' ')
                        .append(version(has.state)).append(' ').append(value(has.state)).append(';');
            }
        }
        for (int asker = 0; asker < 4; asker++) {
            int number = requestOf(asker);
            Request current = number < 0 ? new Request() : requests.get(number);
            int answers = current.isAccepting ? current.taken.size() : current.promised.size();
            text.append("a ").append(counts[asker]).append(' ').append(number).append(' ')
                    .append(current.isAccepting ? 1 : 0).append(' ').append(answers).append(';');
        }
        for (Request request : requests) {
            State state = request.ending == 1 ? request.outcome : null;
            text.append("r ").append(request.ending).append(' ')
                    .append(request.ending == 1 && request.failed ? 1 : 0).append(' ').append(version(state))
                    .append(' ').append(request.ballot).append(' ').append(value(state)).append(';');
        }
        return text.toString();
    }
}
