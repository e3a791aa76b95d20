/** Promises 1 to 5 and 7 to 14: a test for each sentence that names a boundary, or a call that is refused. */
public final class FaceEdgesTest {
    private static final int LEAST = Integer.MIN_VALUE;
    private static final int GREATEST = Integer.MAX_VALUE;
    /** Of each KIND but NUMBER, OPERATOR too, the greatest number; the least one is 0. */
    private static final int[] LAST = {GREATEST, 1, 39, 0, 19, 27};

    public static void main(String[] args) {
        newProcedures();
        newPileAndTable();
        newHandlers();
        newRecord();
        tokenCounts();
        tokenProcedures();
        tokenKinds();
        tokenNumbers();
        tokenRoom();
        clearCounts();
        clearProcedures();
        pushCounts();
        pushKinds();
        pushNumbers();
        pushRoom();
        dropCounts();
        interruptTwice();
        sizes();
        valueParts();
        valuePlaces();
        recordOfTheRecord();
        recordOfTheLatestRun();
        recordWhat();
        keptParts();
        keptPlaces();
        handlerOrNone();
        handlerErrors();
        namedOrNone();
        namedNames();
        forgetsTheTable();
        forgetsHandlers();
        forgetsTheRecord();
        forgetsTheInterrupt();
        forgetLeavesTheRest();
        Bench.end("FaceEdgesTest");
    }

    private static void newProcedures() {
        Bench.says("Procedures without tokens");
        ErrorNames x = new ErrorNames();
        for (int procedure = 0; procedure < 20; procedure++) {
            Bench.due("run " + procedure, x.run(procedure, 1), 0);
            Bench.due("clear " + procedure, x.clear(procedure), 0);
            Bench.due("the first token of " + procedure, x.token(procedure, 0, 0), 1);
        }
    }

    private static void newPileAndTable() {
        Bench.says("an empty pile and table");
        ErrorNames x = new ErrorNames();
        Bench.due("size", x.size(), 0);
        Bench.dueThrown("value", () -> x.value(0, 0));
        Bench.due("drop", x.drop(), 0);
        for (int name = 0; name < 40; name++) {
            Bench.due("named " + name, x.named(name, 0) + " " + x.named(name, 1), "-1 0");
        }
        Bench.due("forget", x.forget(), 0);
        Bench.due("the first value", x.push(3, 0), 1);
    }

    private static void newHandlers() {
        Bench.says("no handlers");
        ErrorNames x = Bench.with("1 0 div");
        for (int error = 1; error <= 11; error++) {
            Bench.due("handler " + error, x.handler(error), ErrorNames.NONE);
        }
        Bench.due("run", x.run(0, 10), 6);
        Bench.due("handlers begun", x.record(8), 0);
    }

    private static void newRecord() {
        Bench.says("no record (all 0, COMMAND NONE, an empty pile)");
        ErrorNames x = new ErrorNames();
        Bench.due("told", Bench.told(x), "0 -1 0 0 0 0");
        Bench.due("latest", Bench.latest(x), "0 0 0");
        Bench.dueThrown("kept", () -> x.kept(0, 0));
        Bench.due("NONE", x.record(1), ErrorNames.NONE);
        Bench.due("not INTERRUPTED", x.interrupt(), 1);
    }

    private static void tokenCounts() {
        Bench.says("A token comes behind a procedure's others: how many it has.");
        ErrorNames x = new ErrorNames();
        for (int many = 1; many <= 24; many++) {
            Bench.due("token", x.token(19, 0, many), many);
        }
        Bench.due("another procedure's", x.token(18, 0, 50), 1);
        Bench.due("run", x.run(19, 25), 0);
        for (int place = 0; place < 24; place++) {
            Bench.due("in their order", x.value(place, 1), place + 1);
        }
    }

    private static void tokenProcedures() {
        Bench.says("-1 no such procedure");
        ErrorNames x = new ErrorNames();
        for (int procedure : new int[] {-1, 20, LEAST, GREATEST}) {
            Bench.due("token of " + procedure, x.token(procedure, 0, 0), -1);
            Bench.due("before -2", x.token(procedure, 1, 2), -1);
        }
        Bench.due("the first", x.token(0, 0, 0), 1);
        Bench.due("the last", x.token(19, 0, 0), 1);
    }

    private static void tokenKinds() {
        Bench.says("or KIND (0 .. 5)");
        ErrorNames x = new ErrorNames();
        for (int kind : new int[] {-1, 6, LEAST, GREATEST}) {
            Bench.due("KIND " + kind, x.token(0, kind, 0), -1);
            Bench.due("before -2", x.token(0, kind, -7), -1);
        }
        for (int kind = 0; kind <= 5; kind++) {
            Bench.due("KIND " + kind, x.token(0, kind, 0), kind + 1);
        }
    }

    private static void tokenNumbers() {
        Bench.says("-2 the number is none of that KIND; -4 it has 24");
        ErrorNames x = new ErrorNames();
        for (int kind = 1; kind <= 5; kind++) {
            for (int number : new int[] {-1, LAST[kind] + 1, LEAST, GREATEST}) {
                Bench.due(number + " of KIND " + kind, x.token(2, kind, number), -2);
            }
            Bench.due("the greatest of " + kind, x.token(2, kind, LAST[kind]), 2 * kind - 1);
            Bench.due("the least of " + kind, x.token(2, kind, 0), 2 * kind);
        }
        Bench.due("any int", x.token(2, 0, LEAST), 11);
        Bench.due("any int", x.token(2, 0, GREATEST), 12);
        Bench.due("refused ones did not come", x.clear(2), 12);
    }

    private static void tokenRoom() {
        Bench.says("-4 it has 24");
        ErrorNames x = Bench.with("1 2 3 4 5 6 7 8 9 10 11 12 13 14 15 16 17 18 19 20 21 22 23");
        Bench.due("the 24th", x.token(0, 5, 11), 24);
        Bench.due("the 25th", x.token(0, 0, 7), -4);
        Bench.due("once more", x.token(0, 5, 27), -4);
        Bench.due("-1 before it", x.token(0, 6, 0), -1);
        Bench.due("-2 before it", x.token(0, 5, 28), -2);
        Bench.due("another has room", x.token(1, 0, 7), 1);
        Bench.due("run", x.run(0, 25), 0);
        Bench.due("STEPS", x.record(6), 25);
        Bench.due("the last one's", x.value(23, 1), 23);
        Bench.due("clear", x.clear(0), 24);
        Bench.due("room again", x.token(0, 0, 7), 1);
    }

    private static void clearCounts() {
        Bench.says("A procedure has no tokens any more: how many it had.");
        ErrorNames x = Bench.with("1 2 3", "4 5");
        Bench.due("clear", x.clear(0), 3);
        Bench.due("none", x.clear(0), 0);
        Bench.due("run", x.run(0, 1), 0);
        Bench.due("nothing came", x.size(), 0);
        Bench.due("another's stay", x.run(1, 3), 0);
        Bench.due("pile", Bench.pile(x), "4 5");
        Bench.due("clear", x.clear(1), 2);
    }

    private static void clearProcedures() {
        Bench.says("-1 no such procedure.");
        ErrorNames x = new ErrorNames();
        Bench.load(x, 0, "1");
        Bench.load(x, 19, "1 2");
        for (int procedure : new int[] {-1, 20, LEAST, GREATEST}) {
            Bench.due("clear " + procedure, x.clear(procedure), -1);
        }
        Bench.due("the first", x.clear(0), 1);
        Bench.due("the last", x.clear(19), 2);
    }

    private static void pushCounts() {
        Bench.says("A value comes to the pile: how many there are.");
        ErrorNames x = new ErrorNames();
        for (int many = 1; many <= 60; many++) {
            Bench.due("push", x.push(0, -many), many);
        }
        Bench.due("place 0 the lowest one", x.value(0, 1) + " " + x.value(59, 1), "-1 -60");
    }

    private static void pushKinds() {
        Bench.says("-1 no such KIND (0 .. 4)");
        ErrorNames x = new ErrorNames();
        for (int kind : new int[] {-1, 5, 6, LEAST, GREATEST}) {
            Bench.due("KIND " + kind, x.push(kind, 0), -1);
            Bench.due("before -2", x.push(kind, -7), -1);
        }
        for (int kind = 0; kind <= 4; kind++) {
            Bench.due("KIND " + kind, x.push(kind, 0), kind + 1);
        }
    }

    private static void pushNumbers() {
        Bench.says("-2 the number is none of that KIND; -4 there are 60");
        ErrorNames x = new ErrorNames();
        for (int kind = 1; kind <= 4; kind++) {
            for (int number : new int[] {-1, LAST[kind] + 1, LEAST, GREATEST}) {
                Bench.due(number + " of KIND " + kind, x.push(kind, number), -2);
            }
            Bench.due("the greatest of " + kind, x.push(kind, LAST[kind]), 2 * kind - 1);
            Bench.due("the least of " + kind, x.push(kind, 0), 2 * kind);
        }
        Bench.due("any int", x.push(0, LEAST), 9);
        Bench.due("any int", x.push(0, GREATEST), 10);
        Bench.due("pile", Bench.pile(x), "T1 T0 K39 K0 M M P19 P0 -2147483648 2147483647");
    }

    private static void pushRoom() {
        Bench.says("-4 there are 60");
        ErrorNames x = new ErrorNames();
        Bench.fill(x, 59);
        Bench.due("the 60th", x.push(4, 19), 60);
        Bench.due("the 61st", x.push(0, 7), -4);
        Bench.due("-1 before it", x.push(5, 0), -1);
        Bench.due("-2 before it", x.push(4, 20), -2);
        Bench.due("size", x.size(), 60);
        Bench.due("the topmost", x.value(59, 0) + " " + x.value(59, 1), "4 19");
        Bench.due("drop", x.drop(), 60);
        Bench.due("room again", x.push(0, 7), 1);
    }

    private static void dropCounts() {
        Bench.says("The pile is empty: how many there were.");
        ErrorNames x = Bench.with("add");
        Bench.due("of none", x.drop(), 0);
        Bench.push(x, "7");
        Bench.due("of one", x.drop(), 1);
        Bench.fill(x, 60);
        Bench.due("of 60", x.drop(), 60);
        Bench.due("size", x.size(), 0);
        Bench.dueThrown("the lowest", () -> x.value(0, 1));
        Bench.due("again", x.drop(), 0);
        Bench.due("nothing to add", x.run(0, 10), 1);
    }

    private static void interruptTwice() {
        Bench.says("INTERRUPTED: 1; 0 when it is so already.");
        ErrorNames x = Bench.with("count");
        Bench.due("first", x.interrupt(), 1);
        Bench.due("second", x.interrupt(), 0);
        Bench.due("third", x.interrupt(), 0);
        Bench.due("it is one interrupt", x.run(0, 10), 11);
        Bench.due("no second one", x.run(0, 10), 0);
        Bench.due("anew", x.interrupt(), 1);
    }

    private static void sizes() {
        Bench.says("How many values the pile has.");
        ErrorNames x = Bench.with("1 2 add", "pop");
        Bench.due("none", x.size(), 0);
        Bench.due("run", x.run(0, 10), 0);
        Bench.due("one", x.size(), 1);
        Bench.due("run", x.run(1, 10), 0);
        Bench.due("none again", x.size(), 0);
        Bench.fill(x, 60);
        Bench.due("60", x.size(), 60);
    }

    private static void valueParts() {
        Bench.says("The KIND (what = 0) or number (1) of a place of the pile.");
        ErrorNames x = new ErrorNames();
        Bench.push(x, "P19");
        Bench.fill(x, 59);
        Bench.push(x, "K39");
        Bench.due("the lowest", x.value(0, 0) + " " + x.value(0, 1), "4 19");
        Bench.due("the 60th", x.value(59, 0) + " " + x.value(59, 1), "2 39");
    }

    private static void valuePlaces() {
        Bench.says("IndexOutOfBoundsException: no such place, or what.");
        ErrorNames x = new ErrorNames();
        for (int many : new int[] {0, 1, 2, 60}) {
            Bench.fill(x, many);
            for (int place : new int[] {-1, many, many + 1, 60, LEAST, GREATEST}) {
                Bench.dueThrown("KIND of " + place + " of " + many, () -> x.value(place, 0));
                Bench.dueThrown("number of " + place + " of " + many, () -> x.value(place, 1));
            }
        }
        for (int what : new int[] {-1, 2, LEAST, GREATEST}) {
            Bench.dueThrown("what " + what, () -> x.value(0, what));
            Bench.dueThrown("both", () -> x.value(60, what));
        }
        Bench.due("the pile stays", x.size() + " " + x.value(59, 1), "60 59");
    }

    private static void recordOfTheRecord() {
        Bench.says("Of the RECORD: 0 the error, 1 COMMAND, 2 whether it is NEW (1 or 0), 3 WITHIN, "
            + "4 how many values its pile has, 5 errors in all");
        ErrorNames x = Bench.with("6 P1 handle 5 0 div", "K7 load", "2 tell");
        Bench.due("run", x.run(0, 20), 5);
        Bench.due("told", Bench.told(x), "5 15 1 6 3 2");
        Bench.due("looking changes nothing", Bench.told(x), "5 15 1 6 3 2");
        Bench.due("run", x.run(2, 20), 0);
        Bench.due("NEW no more", Bench.told(x), "5 15 0 6 3 2");
    }

    private static void recordOfTheLatestRun() {
        Bench.says("of the latest run: 6 STEPS done, 7 how many frames there were at most, "
            + "8 how often a HANDLER began");
        ErrorNames x = Bench.with("", "6 P0 handle 3 P2 repeat", "1 0 div");
        Bench.due("run", x.run(1, 5000), 0);
        // 6 tokens, 4 of the loop's, in each TURN 3 tokens and 3 that go, and the procedure goes.
        Bench.due("handlers", Bench.latest(x), "29 5 3");
        Bench.due("run", x.run(0, 1), 0);
        Bench.due("one STEP", Bench.latest(x), "1 1 0");
        Bench.due("time is over", x.run(1, 7), 10);
        Bench.due("as many as are allowed", Bench.latest(x), "7 3 0");
        Bench.due("refused", x.run(1, 0) + " " + x.run(20, 1), "-2 -1");
        Bench.due("nothing was run", Bench.latest(x), "7 3 0");
    }

    private static void recordWhat() {
        Bench.says("IndexOutOfBoundsException: what.");
        ErrorNames x = new ErrorNames();
        for (int what : new int[] {-1, 9, 10, LEAST, GREATEST}) {
            Bench.dueThrown("record " + what, () -> x.record(what));
        }
        for (int what = 0; what <= 8; what++) {
            Bench.due("record " + what, x.record(what), what == 1 ? -1 : 0);
        }
    }

    private static void keptParts() {
        Bench.says("The KIND (what = 0) or number (1) of a place of the RECORD's pile.");
        ErrorNames x = Bench.with("7", "pop pop stop");
        Bench.push(x, "P19");
        Bench.fill(x, 59);
        Bench.push(x, "K39");
        Bench.due("run", x.run(0, 10), 2);
        Bench.due("it is a copy", x.run(1, 10), 99);
        Bench.due("the lowest", x.kept(0, 0) + " " + x.kept(0, 1), "4 19");
        Bench.due("the 60th", x.kept(59, 0) + " " + x.kept(59, 1), "2 39");
    }

    private static void keptPlaces() {
        Bench.says("IndexOutOfBoundsException: no such place, or what.");
        ErrorNames x = Bench.with("K0 load");
        for (int many : new int[] {0, 1, 2, 59}) {
            x.drop();
            Bench.fill(x, many);
            Bench.due("run", x.run(0, 10), 5);
            Bench.due("kept", x.record(4), many + 1);
            // The pile is another one: its own places do not count.
            x.drop();
            for (int place : new int[] {-1, many + 1, many + 2, 60, LEAST, GREATEST}) {
                Bench.dueThrown("KIND of " + place + " of " + many, () -> x.kept(place, 0));
                Bench.dueThrown("number of " + place + " of " + many, () -> x.kept(place, 1));
            }
            Bench.due("the topmost", x.kept(many, 0), 2);
        }
        for (int what : new int[] {-1, 2, LEAST, GREATEST}) {
            Bench.dueThrown("what " + what, () -> x.kept(0, what));
            Bench.dueThrown("both", () -> x.kept(60, what));
        }
        ErrorNames y = Bench.with("pop");
        Bench.due("an empty pile", y.run(0, 10), 1);
        Bench.dueThrown("kept", () -> y.kept(0, 0));
    }

    private static void handlerOrNone() {
        Bench.says("The HANDLER of an error; NONE without.");
        ErrorNames x = Bench.with("1 P0 handle 11 P19 handle 6 P3 handle", "6 -1 handle");
        Bench.due("run", x.run(0, 20), 0);
        Bench.due("first, last", x.handler(1) + " " + x.handler(11), "0 19");
        Bench.due("without", x.handler(2) + " " + x.handler(10), "-1 -1");
        Bench.due("with", x.handler(6), 3);
        Bench.due("run", x.run(1, 20), 0);
        Bench.due("taken away", x.handler(6), ErrorNames.NONE);
    }

    private static void handlerErrors() {
        Bench.says("IndexOutOfBoundsException: error is not 1 .. 11.");
        ErrorNames x = new ErrorNames();
        for (int error : new int[] {0, 12, -1, 99, LEAST, GREATEST}) {
            Bench.dueThrown("handler " + error, () -> x.handler(error));
        }
        for (int error = 1; error <= 11; error++) {
            Bench.due("handler " + error, x.handler(error), ErrorNames.NONE);
        }
    }

    private static void namedOrNone() {
        Bench.says("The KIND (what = 0; NONE without) or number (1; 0 without) that a NAME has in THE TABLE.");
        ErrorNames x = Bench.with("K0 -7 def K39 P19 def K1 0 def K2 M def");
        Bench.due("run", x.run(0, 20), 0);
        Bench.due("the first", x.named(0, 0) + " " + x.named(0, 1), "0 -7");
        Bench.due("the last", x.named(39, 0) + " " + x.named(39, 1), "4 19");
        Bench.due("NUMBER 0", x.named(1, 0) + " " + x.named(1, 1), "0 0");
        Bench.due("a MARK", x.named(2, 0) + " " + x.named(2, 1), "3 0");
        Bench.due("without", x.named(3, 0) + " " + x.named(3, 1), "-1 0");
        Bench.due("without", x.named(38, 0) + " " + x.named(38, 1), "-1 0");
        x.forget();
        Bench.due("without again", x.named(39, 0) + " " + x.named(39, 1), "-1 0");
    }

    private static void namedNames() {
        Bench.says("IndexOutOfBoundsException: no such NAME, or what.");
        ErrorNames x = new ErrorNames();
        for (int name : new int[] {-1, 40, LEAST, GREATEST}) {
            Bench.dueThrown("KIND of " + name, () -> x.named(name, 0));
            Bench.dueThrown("number of " + name, () -> x.named(name, 1));
        }
        for (int what : new int[] {-1, 2, LEAST, GREATEST}) {
            Bench.dueThrown("what " + what, () -> x.named(0, what));
            Bench.dueThrown("both", () -> x.named(40, what));
        }
    }

    private static void forgetsTheTable() {
        Bench.says("The table is empty");
        ErrorNames x = new ErrorNames();
        Bench.due("none", x.forget(), 0);
        for (int name = 0; name < 40; name++) {
            Bench.load(x, 0, "K" + name + " T1 def K0 T1 def");
            Bench.due("def " + name, x.run(0, 10), 0);
        }
        Bench.due("How many names had a value.", x.forget(), 40);
        for (int name = 0; name < 40; name++) {
            Bench.due("named " + name, x.named(name, 0) + " " + x.named(name, 1), "-1 0");
        }
        Bench.due("again", x.forget(), 0);
        Bench.load(x, 0, "K39 load");
        Bench.due("a NAME without a value", x.run(0, 10), 5);
    }

    private static void forgetsHandlers() {
        Bench.says("no error has a handler");
        for (int error = 1; error <= 11; error++) {
            if (error == 10) {
                continue;
            }
            ErrorNames x = Bench.with(error + " P2 handle", error + " raise", "");
            Bench.due("run", x.run(0, 10), 0);
            Bench.due("it has", x.handler(error), 2);
            Bench.due("handled", x.run(1, 10), 0);
            Bench.due("forget", x.forget(), 0);
            Bench.due("it has none", x.handler(error), ErrorNames.NONE);
            Bench.due("not handled", x.run(1, 10), error);
        }
    }

    private static void forgetsTheRecord() {
        Bench.says("the record is as at first");
        ErrorNames x = Bench.with("6 P1 handle 5 0 div", "K7 load", "2 tell 5 tell", "pop");
        Bench.due("run", x.run(0, 20), 5);
        Bench.due("told", Bench.told(x), "5 15 1 6 3 2");
        x.forget();
        Bench.due("told", Bench.told(x), "0 -1 0 0 0 0");
        Bench.dueThrown("kept", () -> x.kept(0, 0));
        x.drop();
        Bench.due("run", x.run(2, 20), 0);
        Bench.due("told by an operator", Bench.pile(x), "T0 0");
        x.drop();
        Bench.due("run", x.run(3, 20), 1);
        Bench.due("counted from 0 on", Bench.told(x), "1 7 1 0 0 1");
    }

    private static void forgetsTheInterrupt() {
        Bench.says("it is not INTERRUPTED");
        ErrorNames x = Bench.with("count");
        Bench.due("interrupt", x.interrupt(), 1);
        x.forget();
        Bench.due("the operator is done", x.run(0, 10), 0);
        Bench.due("pile", Bench.pile(x), "0");
        Bench.due("interrupt", x.interrupt(), 1);
    }

    private static void forgetLeavesTheRest() {
        Bench.says("Procedures, the pile, and what record() tells of the latest run stay.");
        ErrorNames x = Bench.with("6 P1 handle 5 0 div 7", "K1", "");
        Bench.due("run", x.run(0, 20), 0);
        Bench.due("latest", Bench.latest(x), "11 3 1");
        x.forget();
        Bench.due("latest", Bench.latest(x), "11 3 1");
        Bench.due("pile", Bench.pile(x), "5 0 K1 7");
        x.drop();
        Bench.due("the same run", x.run(0, 20), 0);
        Bench.due("pile", Bench.pile(x), "5 0 K1 7");
        Bench.due("tokens", x.clear(0) + " " + x.clear(1), "7 1");
    }
}
