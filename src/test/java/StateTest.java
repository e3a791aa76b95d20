/** Promises 1 to 5, 7 to 9 and 11 to 14: what is there without a run, its edges, and wrong inputs. */
public final class StateTest {
    public static void main(String[] args) {
        newObject();
        tokens();
        clearing();
        pushing();
        dropping();
        places();
        recordNumbers();
        keptPlaces();
        handlersTold();
        names();
        interrupting();
        forgetting();
        Bench.end("StateTest");
    }

    private static void newObject() {
        ErrorNames x = new ErrorNames();
        Bench.due("size", x.size(), 0);
        Bench.due("told", Bench.told(x), "0 -1 0 0 0 0");
        Bench.due("latest", Bench.latest(x), "0 0 0");
        for (int error = 1; error <= 11; error++) {
            Bench.due("handler " + error, x.handler(error), ErrorNames.NONE);
        }
        for (int name = 0; name < 40; name++) {
            Bench.due("named " + name, x.named(name, 0) + " " + x.named(name, 1), "-1 0");
        }
        for (int procedure = 0; procedure < 20; procedure++) {
            Bench.due("clear " + procedure, x.clear(procedure), 0);
        }
        Bench.due("an empty run", x.run(0, 1), 0);
        Bench.due("latest", Bench.latest(x), "1 1 0");
        Bench.due("not interrupted", x.interrupt(), 1);
    }

    private static void tokens() {
        ErrorNames x = new ErrorNames();
        Bench.due("procedure -1", x.token(-1, 0, 0), -1);
        Bench.due("procedure 20", x.token(20, 0, 0), -1);
        Bench.due("procedure 19", x.token(19, 0, 0), 1);
        Bench.due("KIND -1", x.token(0, -1, 0), -1);
        Bench.due("KIND 6", x.token(0, 6, 0), -1);
        Bench.due("KIND first", x.token(0, 6, -5), -1);
        int[] greatest = {Integer.MAX_VALUE, 1, 39, 0, 19, 27};
        int many = 0;
        for (int kind = 0; kind <= 5; kind++) {
            many++;
            Bench.due("greatest of " + kind, x.token(0, kind, greatest[kind]), many);
            if (kind > 0) {
                Bench.due("above " + kind, x.token(0, kind, greatest[kind] + 1), -2);
                Bench.due("below " + kind, x.token(0, kind, -1), -2);
            }
            many++;
            Bench.due("least of " + kind, x.token(0, kind, kind == 0 ? Integer.MIN_VALUE : 0), many);
        }
        while (many < 24) {
            many++;
            Bench.due("token " + many, x.token(0, 0, many), many);
        }
        Bench.due("token 25", x.token(0, 0, 0), -4);
        Bench.due("-2 before -4", x.token(0, 1, 2), -2);
        Bench.due("-1 before -4", x.token(0, 6, 0), -1);
        Bench.due("others have room", x.token(1, 0, 0), 1);
        Bench.due("clear", x.clear(0), 24);
    }

    private static void clearing() {
        ErrorNames x = Bench.with("1 2 3", "4");
        Bench.due("clear 0", x.clear(0), 3);
        Bench.due("again", x.clear(0), 0);
        Bench.due("clear -1", x.clear(-1), -1);
        Bench.due("clear 20", x.clear(20), -1);
        Bench.due("run 0", x.run(0, 10), 0);
        Bench.due("nothing came", x.size(), 0);
        Bench.due("a new token", x.token(0, 0, 8), 1);
        Bench.due("run 0", x.run(0, 10), 0);
        Bench.due("run 1", x.run(1, 10), 0);
        Bench.due("pile", Bench.pile(x), "8 4");
    }

    private static void pushing() {
        ErrorNames x = new ErrorNames();
        Bench.due("KIND -1", x.push(-1, 0), -1);
        Bench.due("KIND 5", x.push(5, 0), -1);
        Bench.due("TRUTH 2", x.push(1, 2), -2);
        Bench.due("TRUTH -1", x.push(1, -1), -2);
        Bench.due("NAME 40", x.push(2, 40), -2);
        Bench.due("NAME -1", x.push(2, -1), -2);
        Bench.due("MARK 1", x.push(3, 1), -2);
        Bench.due("PROCEDURE 20", x.push(4, 20), -2);
        Bench.due("PROCEDURE -1", x.push(4, -1), -2);
        Bench.push(x, "-2147483648 2147483647 T0 T1 K0 K39 M P0 P19");
        Bench.due("pile", Bench.pile(x), "-2147483648 2147483647 T0 T1 K0 K39 M P0 P19");
        Bench.fill(x, 59);
        Bench.due("push 60", x.push(0, 5), 60);
        Bench.due("push 61", x.push(0, 5), -4);
        Bench.due("-1 before -4", x.push(5, 0), -1);
        Bench.due("-2 before -4", x.push(1, 2), -2);
        Bench.due("size", x.size(), 60);
    }

    private static void dropping() {
        ErrorNames x = new ErrorNames();
        Bench.due("drop of none", x.drop(), 0);
        Bench.push(x, "1 2 3");
        Bench.due("drop", x.drop(), 3);
        Bench.due("size", x.size(), 0);
        Bench.due("push", x.push(0, 9), 1);
        Bench.due("pile", Bench.pile(x), "9");
    }

    private static void places() {
        ErrorNames x = new ErrorNames();
        Bench.dueThrown("value of an empty pile", () -> x.value(0, 0));
        Bench.push(x, "7 K3");
        Bench.due("kind", x.value(1, 0), 2);
        Bench.due("number", x.value(1, 1), 3);
        Bench.due("lowest", x.value(0, 1), 7);
        for (int[] wrong : new int[][] {{-1, 0}, {2, 0}, {60, 1}, {0, 2}, {0, -1}, {Integer.MIN_VALUE, 0}}) {
            Bench.dueThrown("value " + wrong[0] + " " + wrong[1], () -> x.value(wrong[0], wrong[1]));
        }
        x.drop();
        Bench.dueThrown("value of what is gone", () -> x.value(0, 1));
    }

    private static void recordNumbers() {
        ErrorNames x = new ErrorNames();
        Bench.dueThrown("record -1", () -> x.record(-1));
        Bench.dueThrown("record 9", () -> x.record(9));
        Bench.dueThrown("record least", () -> x.record(Integer.MIN_VALUE));
        Bench.load(x, 0, "1 0 div");
        Bench.due("run", x.run(0, 10), 6);
        Bench.due("record is NEW", x.record(2), 1);
        Bench.due("and stays so when it is looked at", x.record(2), 1);
        Bench.due("refused: procedure", x.run(20, 10), -1);
        Bench.due("refused: steps", x.run(0, 0), -2);
        Bench.due("told of the latest that ran", Bench.latest(x), "3 1 0");
    }

    private static void keptPlaces() {
        ErrorNames x = Bench.with("M pop add");
        Bench.dueThrown("kept of none", () -> x.kept(0, 0));
        Bench.push(x, "T1 K7");
        Bench.due("run", x.run(0, 10), 3);
        Bench.due("kept", Bench.kept(x), "T1 K7");
        x.drop();
        Bench.push(x, "1 2 3");
        Bench.due("a copy", Bench.kept(x), "T1 K7");
        for (int[] wrong : new int[][] {{-1, 0}, {2, 0}, {0, 2}, {0, -1}, {Integer.MAX_VALUE, 1}}) {
            Bench.dueThrown("kept " + wrong[0] + " " + wrong[1], () -> x.kept(wrong[0], wrong[1]));
        }
    }

    private static void handlersTold() {
        ErrorNames x = Bench.with("1 P5 handle 11 P19 handle", "1 -1 handle");
        Bench.due("run", x.run(0, 20), 0);
        Bench.due("handler 1", x.handler(1), 5);
        Bench.due("handler 11", x.handler(11), 19);
        Bench.due("handler 10", x.handler(10), ErrorNames.NONE);
        Bench.due("run", x.run(1, 20), 0);
        Bench.due("handler 1", x.handler(1), ErrorNames.NONE);
        Bench.dueThrown("handler 0", () -> x.handler(0));
        Bench.dueThrown("handler 12", () -> x.handler(12));
        Bench.dueThrown("handler -1", () -> x.handler(-1));
    }

    private static void names() {
        ErrorNames x = Bench.with("K0 -5 def K39 M def K1 T1 def K1 P3 def");
        Bench.due("run", x.run(0, 20), 0);
        Bench.due("K0", x.named(0, 0) + " " + x.named(0, 1), "0 -5");
        Bench.due("K39", x.named(39, 0) + " " + x.named(39, 1), "3 0");
        Bench.due("K1, twice", x.named(1, 0) + " " + x.named(1, 1), "4 3");
        Bench.due("K2", x.named(2, 0) + " " + x.named(2, 1), "-1 0");
        for (int[] wrong : new int[][] {{-1, 0}, {40, 1}, {0, 2}, {0, -1}}) {
            Bench.dueThrown("named " + wrong[0] + " " + wrong[1], () -> x.named(wrong[0], wrong[1]));
        }
    }

    private static void interrupting() {
        ErrorNames x = Bench.with("1 2", "5 6 add 7 8 mul", "9 pop");
        Bench.due("interrupt", x.interrupt(), 1);
        Bench.due("already", x.interrupt(), 0);
        Bench.due("no operator is due", x.run(0, 10), 0);
        Bench.due("still so", x.interrupt(), 0);
        Bench.due("a later run", x.run(1, 10), 11);
        Bench.due("told", Bench.told(x), "11 0 1 0 4 1");
        Bench.due("kept", Bench.kept(x), "1 2 5 6");
        Bench.due("no more", x.run(2, 10), 0);
        Bench.load(x, 3, "11 P4 handle");
        Bench.load(x, 4, "77");
        Bench.due("a handler", x.run(3, 10), 0);
        x.drop();
        Bench.due("interrupt", x.interrupt(), 1);
        Bench.due("it is handled", x.run(1, 20), 0);
        Bench.due("the operator is gone by", Bench.pile(x), "5 6 77 56");
        Bench.due("interrupt", x.interrupt(), 1);
    }

    private static void forgetting() {
        ErrorNames x = Bench.with("K1 1 def K2 2 def K2 3 def 6 P1 handle 1 0 div K0 load", "3 tell");
        Bench.due("run", x.run(0, 30), 5);
        Bench.due("told", Bench.told(x), "5 15 1 0 4 2");
        Bench.due("latest", Bench.latest(x), "21 3 1");
        x.interrupt();
        Bench.due("forget", x.forget(), 2);
        Bench.due("told", Bench.told(x), "0 -1 0 0 0 0");
        Bench.dueThrown("kept", () -> x.kept(0, 0));
        Bench.due("handler", x.handler(6), ErrorNames.NONE);
        Bench.due("names", x.named(1, 0) + " " + x.named(1, 1) + " " + x.named(2, 0) + " " + x.named(2, 1),
            "-1 0 -1 0");
        Bench.due("latest stays", Bench.latest(x), "21 3 1");
        Bench.due("the pile stays", Bench.pile(x), "1 0 0 K0");
        Bench.due("not interrupted", x.interrupt(), 1);
        Bench.due("forget again", x.forget(), 0);
        Bench.due("procedures stay", x.clear(0), 17);
        ErrorNames y = Bench.with("K0 1 def K39 M def 6 P1 handle 1 0 div", "1 add 0 div");
        Bench.due("an error in a handler", y.run(0, 30), 6);
        Bench.due("told", Bench.told(y), "6 3 1 6 3 2");
        Bench.due("the first name and the last", y.forget(), 2);
        Bench.due("names", y.named(0, 0) + " " + y.named(0, 1) + " " + y.named(39, 0), "-1 0 -1");
        Bench.due("told", Bench.told(y), "0 -1 0 0 0 0");
    }
}
