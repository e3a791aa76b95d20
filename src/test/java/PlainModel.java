import java.util.ArrayDeque;
import java.util.ArrayList;
import java.util.Deque;
import java.util.HashMap;
import java.util.Iterator;
import java.util.List;
import java.util.Map;

/**
 * The document once more, written another way, to compare ErrorNames with: an operator changes what it likes and
 * throws its error, and the pile is then put back.
 */
final class PlainModel {
    /** A value, or an operator when it is a token. */
    static final class Value {
        final int kind;
        final int number;

        Value(int kind, int number) {
            this.kind = kind;
            this.number = number;
        }
    }

    private static final class Arises extends RuntimeException {
        private static final long serialVersionUID = 1L;
        final int error;

        Arises(int error) {
            super(null, null, false, false);
            this.error = error;
        }
    }

    private abstract static class Frame {
    }

    private static final class Going extends Frame {
        final Iterator<Value> rest;

        Going(List<Value> tokens) {
            rest = tokens.iterator();
        }
    }

    private static final class Loop extends Frame {
        final Iterator<Integer> numbers;
        final int body;

        Loop(Iterator<Integer> numbers, int body) {
            this.numbers = numbers;
            this.body = body;
        }
    }

    private static final class Stopped extends Frame {
    }

    private static final class Handling extends Frame {
        final int error;

        Handling(int error) {
            this.error = error;
        }
    }

    private final List<List<Value>> procedures = new ArrayList<>();
    private final Map<Integer, Value> table = new HashMap<>();
    private final Map<Integer, Integer> handlers = new HashMap<>();
    private final Deque<Frame> frames = new ArrayDeque<>();
    private List<Value> pile = new ArrayList<>();
    private List<Value> kept = new ArrayList<>();
    private final int[] told = {0, -1, 0, 0, 0, 0};
    private boolean interrupted;
    private int ended;
    private int steps;
    private int most;
    private int begun;

    PlainModel() {
        for (int i = 0; i < 20; i++) {
            procedures.add(new ArrayList<>());
        }
    }

    int token(int procedure, int kind, int number) {
        if (procedure < 0 || procedure > 19 || kind < 0 || kind > 5) {
            return -1;
        }
        if (!fits(kind, number)) {
            return -2;
        }
        List<Value> tokens = procedures.get(procedure);
        if (tokens.size() == 24) {
            return -4;
        }
        tokens.add(new Value(kind, number));
        return tokens.size();
    }

    int clear(int procedure) {
        if (procedure < 0 || procedure > 19) {
            return -1;
        }
        int had = procedures.get(procedure).size();
        procedures.get(procedure).clear();
        return had;
    }

    int push(int kind, int number) {
        if (kind < 0 || kind > 4) {
            return -1;
        }
        if (!fits(kind, number)) {
            return -2;
        }
        if (pile.size() == 60) {
            return -4;
        }
        pile.add(new Value(kind, number));
        return pile.size();
    }

    int drop() {
        int had = pile.size();
        pile.clear();
        return had;
    }

    int interrupt() {
        int answer = interrupted ? 0 : 1;
        interrupted = true;
        return answer;
    }

    int size() {
        return pile.size();
    }

    int value(int i, int what) {
        return part(pile, i, what);
    }

    int kept(int i, int what) {
        return part(kept, i, what);
    }

    int record(int what) {
        if (what == 4) {
            return kept.size();
        }
        if (what >= 0 && what <= 5) {
            return told[what];
        }
        if (what < 6 || what > 8) {
            throw new IndexOutOfBoundsException();
        }
        return what == 6 ? steps : what == 7 ? most : begun;
    }

    int handler(int error) {
        if (error < 1 || error > 11) {
            throw new IndexOutOfBoundsException();
        }
        return handlers.getOrDefault(error, -1);
    }

    int named(int name, int what) {
        if (name < 0 || name > 39 || what < 0 || what > 1) {
            throw new IndexOutOfBoundsException();
        }
        Value has = table.getOrDefault(name, new Value(-1, 0));
        return what == 0 ? has.kind : has.number;
    }

    int forget() {
        int had = table.size();
        table.clear();
        handlers.clear();
        kept.clear();
        System.arraycopy(new int[] {0, -1, 0, 0, 0, 0}, 0, told, 0, 6);
        interrupted = false;
        return had;
    }

    int run(int procedure, int allowed) {
        if (procedure < 0 || procedure > 19) {
            return -1;
        }
        if (allowed < 1 || allowed > 5000) {
            return -2;
        }
        ended = 0;
        steps = 0;
        most = 1;
        begun = 0;
        frames.push(new Going(procedures.get(procedure)));
        while (!frames.isEmpty() && steps < allowed) {
            steps++;
            step();
            most = Math.max(most, frames.size());
        }
        if (frames.isEmpty()) {
            return ended;
        }
        frames.clear();
        return 10;
    }

    private static boolean fits(int kind, int number) {
        int[] many = {0, 2, 40, 1, 20, 28};
        return kind == 0 || number >= 0 && number < many[kind];
    }

    private static int part(List<Value> values, int i, int what) {
        if (i < 0 || i >= values.size() || what < 0 || what > 1) {
            throw new IndexOutOfBoundsException();
        }
        return what == 0 ? values.get(i).kind : values.get(i).number;
    }

    private void step() {
        List<Value> before = new ArrayList<>(pile);
        Frame top = frames.peek();
        int command = -1;
        try {
            if (top instanceof Going) {
                Going going = (Going) top;
                if (!going.rest.hasNext()) {
                    frames.pop();
                    return;
                }
                Value token = going.rest.next();
                if (token.kind == 5) {
                    command = token.number;
                    operator(command);
                } else {
                    come(token);
                }
            } else if (top instanceof Loop) {
                command = -2;
                turn((Loop) top);
            } else if (top instanceof Stopped) {
                command = -3;
                frames.pop();
                come(truth(false));
            } else {
                frames.pop();
            }
        } catch (Arises a) {
            if (top instanceof Loop) {
                frames.remove(top);
            }
            pile = before;
            arise(a.error, command);
        }
    }

    private void turn(Loop loop) {
        if (!loop.numbers.hasNext()) {
            frames.pop();
            return;
        }
        room(1);
        Integer number = loop.numbers.next();
        if (number != null) {
            come(new Value(0, number));
        }
        frames.push(new Going(procedures.get(loop.body)));
    }

    private void arise(int error, int command) {
        told[0] = error;
        told[1] = command;
        told[2] = 1;
        told[3] = 0;
        told[5]++;
        kept = new ArrayList<>(pile);
        for (Frame frame : frames) {
            if (frame instanceof Stopped) {
                break;
            }
            if (frame instanceof Handling) {
                told[3] = ((Handling) frame).error;
                stop(error);
                return;
            }
        }
        if (handlers.containsKey(error) && frames.size() <= 28) {
            frames.push(new Handling(error));
            frames.push(new Going(procedures.get(handlers.get(error))));
            begun++;
        } else {
            stop(error);
        }
    }

    private void stop(int reason) {
        while (!frames.isEmpty()) {
            if (frames.pop() instanceof Stopped) {
                if (pile.size() == 60) {
                    pile.remove(59);
                }
                pile.add(truth(true));
                return;
            }
        }
        ended = reason;
    }

    private void come(Value value) {
        if (pile.size() == 60) {
            throw new Arises(2);
        }
        pile.add(value);
    }

    private void come(int number) {
        come(new Value(0, number));
    }

    private static Value truth(boolean is) {
        return new Value(1, is ? 1 : 0);
    }

    private void room(int more) {
        if (frames.size() + more > 30) {
            throw new Arises(8);
        }
    }

    private void begin(int procedure) {
        if (frames.peek() instanceof Going && !((Going) frames.peek()).rest.hasNext()) {
            frames.pop();
        }
        room(1);
        frames.push(new Going(procedures.get(procedure)));
    }

    /** Takes the operands off, the lowest first in the answer; the letters are the document's. */
    private Value[] take(String letters) {
        int many = letters.length();
        if (pile.size() < many) {
            throw new Arises(1);
        }
        Value[] taken = new Value[many];
        for (int i = many - 1; i >= 0; i--) {
            taken[i] = pile.remove(pile.size() - 1);
        }
        for (int i = 0; i < many; i++) {
            int wanted = "ntk.p".indexOf(letters.charAt(i));
            if (wanted >= 0 && taken[i].kind != wanted) {
                throw new Arises(3);
            }
        }
        return taken;
    }

    private void operator(int number) {
        if (interrupted) {
            interrupted = false;
            throw new Arises(11);
        }
        if (number <= 6) {
            reckon(number);
        } else if (number <= 15) {
            move(number);
        } else if (number <= 21) {
            begins(number);
        } else {
            ends(number);
        }
    }

    private void reckon(int number) {
        if (number == 4) {
            Value[] v = take("xx");
            come(truth(v[0].kind == v[1].kind && v[0].number == v[1].number));
            return;
        }
        if (number == 6) {
            come(truth(take("t")[0].number == 0));
            return;
        }
        Value[] v = take("nn");
        long n = v[0].number;
        long m = v[1].number;
        if (number == 3 && m == 0) {
            throw new Arises(6);
        }
        if (number == 5) {
            come(truth(n < m));
        } else {
            come((int) (number == 0 ? n + m : number == 1 ? n - m : number == 2 ? n * m : n / m));
        }
    }

    private void move(int number) {
        if (number == 7) {
            take("x");
        } else if (number == 8) {
            Value v = take("x")[0];
            come(v);
            come(v);
        } else if (number == 9) {
            Value[] v = take("xx");
            come(v[1]);
            come(v[0]);
        } else if (number == 10) {
            int n = take("n")[0].number;
            if (n < 0) {
                throw new Arises(4);
            }
            if (n >= pile.size()) {
                throw new Arises(1);
            }
            come(pile.get(pile.size() - 1 - n));
        } else if (number == 11) {
            come(pile.size());
        } else if (number == 12) {
            come(onMark());
        } else if (number == 13) {
            pile = new ArrayList<>(pile.subList(0, pile.size() - 1 - onMark()));
        } else if (number == 14) {
            Value[] v = take("kx");
            table.put(v[0].number, v[1]);
        } else {
            come(known(take("k")[0]));
        }
    }

    private int onMark() {
        int on = 0;
        while (on < pile.size() && pile.get(pile.size() - 1 - on).kind != 3) {
            on++;
        }
        if (on == pile.size()) {
            throw new Arises(7);
        }
        return on;
    }

    private Value known(Value name) {
        Value has = table.get(name.number);
        if (has == null) {
            throw new Arises(5);
        }
        return has;
    }

    private void begins(int number) {
        if (number == 16) {
            Value v = take("x")[0];
            v = v.kind == 2 ? known(v) : v;
            if (v.kind == 4) {
                begin(v.number);
            } else {
                come(v);
            }
        } else if (number == 17) {
            Value[] v = take("tp");
            if (v[0].number == 1) {
                begin(v[1].number);
            }
        } else if (number == 18) {
            Value[] v = take("tpp");
            begin(v[2 - v[0].number].number);
        } else if (number == 19) {
            Value[] v = take("np");
            loop(v[0].number < 0, numbers(1, 1, v[0].number, false), v[1].number);
        } else if (number == 20) {
            Value[] v = take("nnnp");
            loop(v[1].number == 0, numbers(v[0].number, v[1].number, v[2].number, true), v[3].number);
        } else {
            loop(false, numbers(0, 0, 0, false), take("p")[0].number);
        }
    }

    private void loop(boolean outOfRange, Iterator<Integer> numbers, int body) {
        if (outOfRange) {
            throw new Arises(4);
        }
        room(1);
        frames.push(new Loop(numbers, body));
    }

    private static Iterator<Integer> numbers(long first, long by, long last, boolean shown) {
        return new Iterator<Integer>() {
            private long now = first;

            @Override
            public boolean hasNext() {
                return by >= 0 ? now <= last : now >= last;
            }

            @Override
            public Integer next() {
                long number = now;
                now += by;
                return shown ? (int) number : null;
            }
        };
    }

    private void ends(int number) {
        if (number == 22) {
            exit();
        } else if (number == 23) {
            stop(99);
        } else if (number == 24) {
            int p = take("p")[0].number;
            room(2);
            frames.push(new Stopped());
            frames.push(new Going(procedures.get(p)));
        } else if (number == 25) {
            handle();
        } else if (number == 26) {
            int n = take("n")[0].number;
            throw new Arises(isError(n) ? n : 4);
        } else {
            int n = take("n")[0].number;
            if (n < 0 || n > 5) {
                throw new Arises(4);
            }
            come(new Value(n == 2 ? 1 : 0, record(n)));
            told[2] = n == 2 ? 0 : told[2];
        }
    }

    private static boolean isError(int n) {
        return n >= 1 && n <= 11 && n != 10;
    }

    private void exit() {
        int above = 0;
        for (Frame frame : frames) {
            if (frame instanceof Stopped || frame instanceof Handling) {
                break;
            }
            above++;
            if (frame instanceof Loop) {
                for (int i = 0; i < above; i++) {
                    frames.pop();
                }
                return;
            }
        }
        throw new Arises(9);
    }

    private void handle() {
        Value[] v = take("nx");
        if (v[1].kind != 4 && v[1].kind != 0) {
            throw new Arises(3);
        }
        if (!isError(v[0].number) || v[1].kind == 0 && v[1].number != -1) {
            throw new Arises(4);
        }
        if (v[1].kind == 4) {
            handlers.put(v[0].number, v[1].number);
        } else {
            handlers.remove(v[0].number);
        }
    }
}
