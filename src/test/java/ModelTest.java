import java.util.Random;

/**
 * Made-up runs of calls, always the same ones, each answer compared with the plain model's.
 *
 * <p>The looks at the state behind each call come to more than the 512 calls that the document speaks of: it promises
 * nothing behind them, but this program's answers stay the same.
 */
public final class ModelTest {
    private static final int OBJECTS = 6000;
    private static final int CALLS = 40;
    private static final int[] ODD = {0, 1, -1, 2, 3, 5, 9, 10, 11, 12, 19, 20, 24, 27, 28, 39, 40, 59, 60,
        Integer.MAX_VALUE, Integer.MIN_VALUE, Integer.MAX_VALUE - 1, 65536};
    /** What procedures are made of, so that runs get deep; N E T K P stand for made-up values. */
    private static final String[] PHRASES = {
        "E P handle", "E P handle", "E P handle", "E -1 handle", "P stopped", "P stopped", "P stopped pop", "E raise",
        "N P repeat", "N N N P for", "P loop", "T P if", "T P P ifelse", "P exec", "P exec", "K P def", "K N def",
        "K exec", "K load", "N N div", "N 0 div", "N N add", "N N less P if", "N tell", "2 tell", "0 tell",
        "M N countmark", "clearmark", "N pick", "count", "dup", "pop", "swap", "same", "exit", "exit", "stop", "N", "M",
        "count 50 less P if", "dup dup dup", "P P P P P", "T not", "mul", "sub", "pop pop pop",
    };

    private final Random random;
    private final ErrorNames x = new ErrorNames();
    private final PlainModel model = new PlainModel();

    private ModelTest(long seed) {
        random = new Random(seed);
    }

    public static void main(String[] args) {
        int[] endings = new int[100];
        int[] errors = new int[12];
        int[] withins = new int[12];
        for (int seed = 0; seed < OBJECTS; seed++) {
            new ModelTest(seed).compareCalls(seed, endings, errors, withins);
        }
        // The made-up runs are worth something only if they come to every ending and every error.
        for (int error = 1; error <= 11; error++) {
            Bench.due("runs that ended by " + error, endings[error] > 0, true);
            Bench.due("errors " + error, errors[error] > 0, error != 10);
            Bench.due("errors within " + error, withins[error] > 0, error != 10);
        }
        Bench.due("runs that ended by stop", endings[99] > 0, true);
        Bench.end("ModelTest");
    }

    private void compareCalls(int seed, int[] endings, int[] errors, int[] withins) {
        for (int procedure = 0; procedure < 20; procedure++) {
            write(procedure);
        }
        for (int call = 0; call < CALLS; call++) {
            int sort = random.nextInt(14);
            String what = "object " + seed + " call " + call + " of sort " + sort;
            change(sort, what, endings);
            compareStates(what);
            errors[x.record(0)]++;
            withins[x.record(3)]++;
        }
    }

    private void write(int procedure) {
        int many = random.nextInt(9);
        boolean wild = random.nextInt(4) == 0;
        for (int i = 0; i < many; i++) {
            if (wild) {
                int kind = random.nextInt(6);
                token(procedure, kind, numberOf(kind));
                continue;
            }
            for (String word : PHRASES[random.nextInt(PHRASES.length)].split(" ")) {
                int kind = "NTK.P".indexOf(word);
                if (word.equals("E")) {
                    token(procedure, 0, 1 + random.nextInt(11));
                } else if (kind >= 0) {
                    token(procedure, kind, numberOf(kind));
                } else {
                    token(procedure, Bench.kindOf(word), Bench.numberOf(word));
                }
            }
        }
    }

    private void token(int procedure, int kind, int number) {
        Bench.due("token", x.token(procedure, kind, number), model.token(procedure, kind, number));
    }

    private int numberOf(int kind) {
        switch (kind) {
            case 0:
                return random.nextInt(4) == 0 ? odd() : random.nextInt(13) - 1;
            case 1:
                return random.nextInt(2);
            case 2:
                return random.nextInt(4) == 0 ? random.nextInt(40) : random.nextInt(4);
            case 3:
                return 0;
            case 4:
                return random.nextInt(20);
            default:
                return random.nextInt(28);
        }
    }

    private int odd() {
        return ODD[random.nextInt(ODD.length)];
    }

    private void change(int sort, String what, int[] endings) {
        int a = odd();
        int b = odd();
        int c = odd();
        switch (sort) {
            case 0:
                Bench.due(what, x.token(a, b, c), model.token(a, b, c));
                break;
            case 1:
                Bench.due(what, x.clear(a), model.clear(a));
                break;
            case 2:
                Bench.due(what, x.push(a, b), model.push(a, b));
                break;
            case 3:
                fill();
                break;
            case 4:
                Bench.due(what, x.interrupt(), model.interrupt());
                break;
            case 5:
                look(what, a, b);
                break;
            case 6:
                if (random.nextInt(4) == 0) {
                    Bench.due(what, x.forget(), model.forget());
                }
                break;
            case 7:
                Bench.due(what, x.run(a, b), model.run(a, b));
                break;
            default:
                go(what, endings);
        }
    }

    private void go(String what, int[] endings) {
        int procedure = random.nextInt(20);
        int steps = random.nextInt(5) == 0 ? 1 + random.nextInt(40) : 1 + random.nextInt(1500);
        if (x.size() > 20 && random.nextInt(3) > 0) {
            Bench.due("drop", x.drop(), model.drop());
        }
        int ended = x.run(procedure, steps);
        endings[ended]++;
        Bench.due(what + " run", ended, model.run(procedure, steps));
    }

    private void fill() {
        int many = random.nextInt(61);
        while (x.size() < many) {
            int kind = random.nextInt(5);
            int number = numberOf(kind);
            Bench.due("push", x.push(kind, number), model.push(kind, number));
        }
    }

    private void look(String what, int a, int b) {
        Bench.due(what + " value", Bench.outcome(() -> x.value(a, b)), Bench.outcome(() -> model.value(a, b)));
        Bench.due(what + " record", Bench.outcome(() -> x.record(a)), Bench.outcome(() -> model.record(a)));
        Bench.due(what + " kept", Bench.outcome(() -> x.kept(a, b)), Bench.outcome(() -> model.kept(a, b)));
        Bench.due(what + " handler", Bench.outcome(() -> x.handler(a)), Bench.outcome(() -> model.handler(a)));
        Bench.due(what + " named", Bench.outcome(() -> x.named(a, b)), Bench.outcome(() -> model.named(a, b)));
    }

    private void compareStates(String what) {
        for (int part = 0; part < 9; part++) {
            Bench.due(what + ": record " + part, x.record(part), model.record(part));
        }
        Bench.due(what + ": size", x.size(), model.size());
        for (int error = 1; error < 12; error++) {
            Bench.due(what + ": handler " + error, x.handler(error), model.handler(error));
        }
        for (int part = 0; part < 2; part++) {
            for (int i = 0; i < x.size(); i++) {
                Bench.due(what + ": value " + i, x.value(i, part), model.value(i, part));
            }
            for (int i = 0; i < x.record(4); i++) {
                Bench.due(what + ": kept " + i, x.kept(i, part), model.kept(i, part));
            }
            for (int name = 0; name < 40; name++) {
                Bench.due(what + ": named " + name, x.named(name, part), model.named(name, part));
            }
        }
    }
}
