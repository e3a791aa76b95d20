import java.util.Arrays;

/** The operators 0 to 27 (promise 6): a test for each sentence that names a boundary. */
public final class OperatorEdgesTest {
    private static final int STOPPED_AT_THE_END = 99;

    /** Each operator that takes values, with some that it takes. */
    private static final String[] TAKEN = {
        "1 2 add", "1 2 sub", "1 2 mul", "1 2 div", "M M same", "1 2 less", "T1 not", "M pop", "M dup", "M M swap",
        "0 pick", "K1 M def", "K1 load", "M exec", "T1 P2 if", "T1 P2 P3 ifelse", "1 P2 repeat", "1 1 1 P2 for",
        "P2 loop", "P2 stopped", "6 P2 handle", "6 raise", "1 tell",
    };
    private static final String[] KINDS = {"1", "T1", "K1", "M", "P1"};

    public static void main(String[] args) {
        tooFew();
        wrongKinds();
        runOver();
        cutOff();
        theSame();
        less();
        theOtherTruth();
        takenOff();
        doubled();
        swapped();
        othersLieOn();
        howManyThereAre();
        howManyOnTheMark();
        allFromTheMark();
        hasInTheTable();
        whatItHas();
        begins();
        beginsByName();
        othersStay();
        beginsIf();
        beginsIfElse();
        turns();
        loopByNumbers();
        loopDownwards();
        loopIn64Bits();
        loopInATurn();
        loopWithoutEnd();
        exits();
        exitsAboveAll();
        stops();
        framesOfStopped();
        handlerGiven();
        handlerTakenAway();
        handlerErrors();
        arises();
        arisesOutOfRange();
        ofTheRecord();
        ofTheRecordOthers();
        newNoMore();
        goesFirst();
        comesOnTopOfAll();
        Bench.end("OperatorEdgesTest");
    }

    private static ErrorNames ran(int ended, String pile, String... procedures) {
        ErrorNames x = Bench.with(procedures);
        String what = String.join(" / ", procedures);
        Bench.due(what + " ended", x.run(0, 5000), ended);
        Bench.due(what + " left", Bench.pile(x), pile);
        return x;
    }

    private static void fails(int error, String pile, String operator) {
        ErrorNames x = ran(error, pile, (pile + " " + operator).trim());
        Bench.due(pile + " " + operator + " told", Bench.told(x),
            error + " " + Bench.OPERATORS.indexOf(operator) + " 1 0 " + x.size() + " 1");
        Bench.due("kept", Bench.kept(x), pile);
    }

    /** On a pile that these values make full, the operator leaves so many, and this on top. */
    private static void onFull(String values, String operator, int many, String top) {
        ErrorNames x = Bench.with(operator);
        Bench.fill(x, 60 - values.split(" ").length);
        Bench.push(x, values);
        Bench.due("full: " + values + " " + operator, x.run(0, 100), 0);
        Bench.due("size", x.size(), many);
        Bench.due("top", Bench.pile(x).endsWith(" " + top), true);
    }

    private static void noRoom(String values, String operator) {
        ErrorNames x = Bench.with(operator);
        Bench.push(x, values);
        Bench.fill(x, 59);
        Bench.due(operator + " comes to 60", x.run(0, 100), 0);
        Bench.due("size", x.size(), 60);
        String full = Bench.pile(x);
        Bench.due(operator + " comes to 61", x.run(0, 100), 2);
        Bench.due("told", Bench.told(x), "2 " + Bench.OPERATORS.indexOf(operator) + " 1 0 60 1");
        Bench.due("left", Bench.pile(x), full);
    }

    private static void tooFew() {
        Bench.says("1 too few values on the pile");
        for (String taken : TAKEN) {
            String[] words = taken.split(" ");
            String operator = words[words.length - 1];
            for (int missing = 1; missing < words.length; missing++) {
                String[] fewer = Arrays.copyOfRange(words, missing, words.length - 1);
                fails(1, String.join(" ", fewer), operator);
                // With a KIND that no operator wants: 1 comes before 3.
                Arrays.fill(fewer, "M");
                fails(1, String.join(" ", fewer), operator);
            }
        }
    }

    private static void wrongKinds() {
        Bench.says("3 a KIND that is not the one that is wanted");
        for (String taken : TAKEN) {
            String[] words = taken.split(" ");
            int many = words.length - 1;
            for (int place = 0; place < many; place++) {
                for (String other : KINDS) {
                    boolean handlersNumber = taken.endsWith("handle") && place == 1 && other.equals("1");
                    boolean wanted = Bench.kindOf(words[place]) == Bench.kindOf(other) || handlersNumber;
                    if (!words[place].equals("M") && !wanted) {
                        String[] wrong = Arrays.copyOf(words, many);
                        wrong[place] = other;
                        fails(3, "M " + String.join(" ", wrong), words[many]);
                    }
                }
            }
        }
    }

    private static void runOver() {
        Bench.says("All ints run over.");
        ran(0, "-2147483648", "2147483647 1 add");
        ran(0, "2147483647", "-2147483648 -1 add");
        ran(0, "0", "-2147483648 -2147483648 add");
        ran(0, "2147483647", "-2147483648 1 sub");
        ran(0, "-2147483648", "2147483647 -1 sub");
        ran(0, "-2147483648", "0 -2147483648 sub");
        ran(0, "-2", "2147483647 2 mul");
        ran(0, "0", "65536 65536 mul");
        ran(0, "-2147483648", "-2147483648 -1 mul");
        ran(0, "1", "2147483647 2147483647 mul");
        ran(0, "-2147483648", "-2147483648 -1 div");
        onFull("2147483647 1", "add", 59, "-2147483648");
        onFull("3 4", "sub", 59, "-1");
        onFull("3 4", "mul", 59, "12");
        onFull("9 4", "div", 59, "2");
        fails(1, "7", "add");
        fails(1, "7", "sub");
        fails(1, "7", "mul");
        fails(1, "7", "div");
    }

    private static void cutOff() {
        Bench.says("3 n m: n / m (cut off)");
        ran(0, "3", "7 2 div");
        ran(0, "-3", "-7 2 div");
        ran(0, "-3", "7 -2 div");
        ran(0, "3", "-7 -2 div");
        ran(0, "0", "-1 2 div");
        ran(0, "0", "0 -5 div");
        Bench.says("6 division by 0");
        fails(6, "7 0", "div");
        fails(6, "0 0", "div");
        fails(6, "-2147483648 0", "div");
    }

    private static void theSame() {
        Bench.says("4 x y: whether both are the same, KIND and number");
        ran(0, "T1", "7 7 same");
        ran(0, "T0", "7 8 same");
        // Of the same number, each KIND against each.
        String[] zeros = {"0", "T0", "K0", "M", "P0"};
        for (int i = 0; i < 5; i++) {
            for (int j = 0; j < 5; j++) {
                ran(0, i == j ? "T1" : "T0", zeros[i] + " " + zeros[j] + " same");
            }
        }
        ran(0, "T0", "T0 T1 same");
        ran(0, "T0", "K0 K39 same");
        ran(0, "T0", "P0 P19 same");
        onFull("M M", "same", 59, "T1");
        fails(1, "M", "same");
    }

    private static void less() {
        Bench.says("5 n m: whether n is less");
        ran(0, "T1", "1 2 less");
        ran(0, "T0", "2 2 less");
        ran(0, "T0", "2 1 less");
        ran(0, "T1", "-2147483648 2147483647 less");
        ran(0, "T0", "2147483647 -2147483648 less");
        ran(0, "T0", "-2147483648 -2147483648 less");
        onFull("1 2", "less", 59, "T1");
        fails(1, "1", "less");
        fails(3, "1 T1", "less");
    }

    private static void theOtherTruth() {
        Bench.says("6 t: the other TRUTH");
        ran(0, "T1", "T0 not");
        ran(0, "T0", "T1 not");
        onFull("T0", "not", 60, "T1");
        fails(1, "", "not");
        fails(3, "0", "not");
        fails(3, "1", "not");
    }

    private static void takenOff() {
        Bench.says("7 x");
        ran(0, "", "7 pop");
        ran(0, "M", "M T1 pop");
        onFull("7 8", "pop", 59, "7");
        fails(1, "", "pop");
    }

    private static void doubled() {
        Bench.says("8 x: x x");
        ran(0, "K39 K39", "K39 dup");
        noRoom("7", "dup");
        fails(1, "", "dup");
    }

    private static void swapped() {
        Bench.says("9 x y: y x");
        ran(0, "M P3", "P3 M swap");
        onFull("T1 K2", "swap", 60, "K2 T1");
        fails(1, "7", "swap");
    }

    private static void othersLieOn() {
        Bench.says("10 .. n: the value that n others lie on, n taken off (4: n below 0; 1: there are not so many)");
        ran(0, "K1 T1 M M", "K1 T1 M 0 pick");
        ran(0, "K1 T1 M T1", "K1 T1 M 1 pick");
        ran(0, "K1 T1 M K1", "K1 T1 M 2 pick");
        fails(1, "K1 T1 M 3", "pick");
        fails(1, "K1 T1 M 2147483647", "pick");
        fails(4, "K1 T1 M -1", "pick");
        fails(4, "K1 T1 M -2147483648", "pick");
        fails(1, "0", "pick");
        fails(4, "-1", "pick");
        fails(1, "", "pick");
        fails(3, "7 T0", "pick");
        onFull("58", "pick", 60, "0");
        ErrorNames x = Bench.with("pick");
        Bench.fill(x, 60);
        Bench.due("the topmost is 59: there are 59 others", x.run(0, 10), 1);
    }

    private static void howManyThereAre() {
        Bench.says("11 how many there are (before it comes)");
        ran(0, "0", "count");
        ran(0, "0 1 2", "count count count");
        noRoom("7", "count");
        ErrorNames x = Bench.with("count");
        Bench.fill(x, 59);
        Bench.due("run", x.run(0, 10), 0);
        Bench.due("59", x.value(59, 0) + " " + x.value(59, 1), "0 59");
    }

    private static void howManyOnTheMark() {
        Bench.says("12 how many lie on the topmost MARK (7: there is none)");
        ran(0, "M 0", "M countmark");
        ran(0, "M 5 M 6 T1 2", "M 5 M 6 T1 countmark");
        ran(0, "M 6 1", "M 6 countmark");
        fails(7, "", "countmark");
        fails(7, "0 T0 K3 P3", "countmark");
        noRoom("M", "countmark");
        ErrorNames x = Bench.with("countmark");
        Bench.push(x, "M");
        Bench.fill(x, 59);
        Bench.due("run", x.run(0, 10), 0);
        Bench.due("58 lie on the lowest", x.value(59, 1), 58);
    }

    private static void allFromTheMark() {
        Bench.says("13 all from the topmost MARK on goes (7)");
        ran(0, "", "M clearmark");
        ran(0, "M 5", "M 5 M 6 T1 clearmark");
        ran(0, "M", "M M clearmark");
        fails(7, "", "clearmark");
        fails(7, "0 T0 K3 P3", "clearmark");
        ErrorNames x = Bench.with("clearmark");
        Bench.push(x, "M");
        Bench.fill(x, 60);
        Bench.due("run", x.run(0, 10), 0);
        Bench.due("all of a full pile", x.size(), 0);
        Bench.due("no other MARK", x.run(0, 10), 7);
    }

    private static void hasInTheTable() {
        Bench.says("14 k x: k has x in THE TABLE");
        ErrorNames x = ran(0, "", "K0 T1 def K39 K39 def K1 5 def K1 M def");
        Bench.due("the first", x.named(0, 0) + " " + x.named(0, 1), "1 1");
        Bench.due("the last", x.named(39, 0) + " " + x.named(39, 1), "2 39");
        Bench.due("the later one", x.named(1, 0) + " " + x.named(1, 1), "3 0");
        fails(1, "", "def");
        fails(1, "K1", "def");
        fails(3, "7 K1", "def");
        onFull("5 K1 7", "def", 58, "5");
    }

    private static void whatItHas() {
        Bench.says("15 k: what it has (5)");
        ran(0, "T1 K39", "K0 T1 def K39 K39 def K0 load K39 load");
        fails(5, "K0", "load");
        fails(5, "K39", "load");
        fails(1, "", "load");
        fails(3, "P0", "load");
        ErrorNames x = ran(0, "", "K7 P9 def");
        Bench.load(x, 0, "load");
        Bench.fill(x, 59);
        Bench.push(x, "K7");
        Bench.due("on a full pile", x.run(0, 10), 0);
        Bench.due("top", x.size() + ": " + x.value(59, 0) + " " + x.value(59, 1), "60: 4 9");
        x.forget();
        Bench.load(x, 0, "pop K7 load");
        Bench.due("none any more", x.run(0, 10), 5);
    }

    private static void begins() {
        Bench.says("16 x: a PROCEDURE begins");
        ran(0, "7 8", "P19 exec 7 8");
        ran(0, "7 8", "P1 exec 8", "7");
        fails(1, "", "exec");
        ErrorNames x = Bench.with("exec", "");
        Bench.fill(x, 59);
        Bench.push(x, "P1");
        Bench.due("on a full pile", x.run(0, 10), 0);
        Bench.due("it is taken off", x.size(), 59);
    }

    private static void beginsByName() {
        Bench.says("a NAME: what it has (5), in its place; that, when it is a PROCEDURE, begins");
        ran(0, "7 8", "K3 P1 def K3 exec 8", "7");
        ran(0, "5", "K3 5 def K3 exec");
        ran(0, "M", "K3 M def K3 exec");
        // A NAME that a NAME has is not looked up in its turn.
        ran(0, "K4", "K4 P1 def K3 K4 def K3 exec", "7");
        fails(5, "K3", "exec");
        ErrorNames x = ran(0, "", "K3 T1 def K4 P1 def", "");
        Bench.load(x, 0, "exec");
        Bench.fill(x, 59);
        Bench.push(x, "K3");
        Bench.due("in its place on a full pile", x.run(0, 10), 0);
        Bench.due("top", x.size() + ": " + x.value(59, 0) + " " + x.value(59, 1), "60: 1 1");
        Bench.load(x, 0, "pop K4 exec");
        Bench.due("a PROCEDURE goes off", x.run(0, 10), 0);
        Bench.due("size", x.size(), 59);
        // Without room the NAME stays as it was found.
        ErrorNames y = Bench.deep(30, "K4 exec 7", "", "K4 P2 def");
        Bench.due("def", y.run(3, 10), 0);
        Bench.due("no room", y.run(19, 5000), 8);
        Bench.due("left", Bench.pile(y), "K4");
    }

    private static void othersStay() {
        Bench.says("others stay on the pile");
        ran(0, "7 T1 M 8", "7 exec T1 exec M exec 8");
        onFull("7", "exec", 60, "7");
    }

    private static void beginsIf() {
        Bench.says("17 t p: p begins, if t is 1 (8 only then)");
        ran(0, "7 8", "T1 P1 if 8", "7");
        ran(0, "6 8", "T1 P2 if 8", "7", "6");
        ran(0, "8", "T0 P1 if 8", "7");
        fails(1, "P1", "if");
        fails(3, "1 P1", "if");
        fails(3, "T1 1", "if");
        onFull("7 T0 P1", "if", 58, "7");
        onFull("7 T1 P1", "if", 58, "7");
        for (String truth : new String[] {"T0", "T1"}) {
            ErrorNames x = Bench.deep(30, truth + " P2 if 8", "7");
            boolean fine = truth.equals("T0");
            Bench.due(truth + " at 30 frames", x.run(19, 5000), fine ? STOPPED_AT_THE_END : 8);
            Bench.due("left", Bench.pile(x), fine ? "8" : "T1 P2");
        }
    }

    private static void beginsIfElse() {
        Bench.says("18 t p q: p begins if t is 1, else q");
        ran(0, "7 9", "T1 P1 P2 ifelse 9", "7", "8");
        ran(0, "8 9", "T0 P1 P2 ifelse 9", "7", "8");
        fails(1, "P1 P2", "ifelse");
        fails(3, "1 P1 P2", "ifelse");
        fails(3, "T1 1 P2", "ifelse");
        fails(3, "T1 P1 1", "ifelse");
        onFull("7 T0 P1 P2", "ifelse", 57, "7");
        for (String truth : new String[] {"T0", "T1"}) {
            ErrorNames x = Bench.deep(30, truth + " P2 P2 ifelse 8", "7");
            Bench.due(truth + " at 30 frames", x.run(19, 5000), 8);
            Bench.due("left", Bench.pile(x), truth + " P2 P2");
        }
    }

    private static void turns() {
        Bench.says("19 n p: a loop of n TURNS of p (4: n below 0)");
        ran(0, "8", "0 P1 repeat 8", "7");
        ran(0, "7 8", "1 P1 repeat 8", "7");
        ran(0, "7 7 7 8", "3 P1 repeat 8", "7");
        fails(4, "-1 P1", "repeat");
        fails(4, "-2147483648 P1", "repeat");
        fails(1, "P1", "repeat");
        fails(3, "3 7", "repeat");
        fails(3, "T1 P1", "repeat");
        onFull("7 1 P1", "repeat", 58, "7");
        ErrorNames x = ran(10, "", "2147483647 P1 repeat", "");
        Bench.due("the greatest int", x.record(6), 5000);
        Bench.due("no room", Bench.deep(30, "0 P2 repeat").run(19, 5000), 8);
    }

    private static void loopByNumbers() {
        Bench.says("20 n m l p: a loop by n, n + m, .., as long as it is not above l");
        ran(0, "1 2 3 8", "1 1 3 P1 for 8", "");
        ran(0, "1 3 8", "1 2 3 P1 for 8", "");
        ran(0, "1 8", "1 3 3 P1 for 8", "");
        ran(0, "3 8", "3 1 3 P1 for 8", "");
        ran(0, "8", "4 1 3 P1 for 8", "");
        ran(0, "-1 0 1 8", "-1 1 1 P1 for 8", "");
        Bench.says("(4: m is 0;");
        fails(4, "1 0 3 P1", "for");
        fails(4, "3 0 1 P1", "for");
        fails(1, "1 3 P1", "for");
        fails(3, "1 1 3 7", "for");
        fails(3, "1 1 T1 P1", "for");
        fails(3, "1 T1 3 P1", "for");
        fails(3, "T1 1 3 P1", "for");
        onFull("7 2 1 1 P1", "for", 56, "7");
        Bench.due("no room", Bench.deep(30, "2 1 1 P2 for").run(19, 5000), 8);
    }

    private static void loopDownwards() {
        Bench.says("(not below l for m below 0)");
        ran(0, "3 2 1 8", "3 -1 1 P1 for 8", "");
        ran(0, "3 1 8", "3 -2 1 P1 for 8", "");
        ran(0, "3 8", "3 -3 1 P1 for 8", "");
        ran(0, "3 8", "3 -1 3 P1 for 8", "");
        ran(0, "8", "3 -1 4 P1 for 8", "");
        ran(0, "1 0 -1 8", "1 -1 -1 P1 for 8", "");
    }

    private static void loopIn64Bits() {
        Bench.says("numbers are reckoned in 64 bits: behind the greatest int there is none");
        ran(0, "2147483646 2147483647 8", "2147483646 1 2147483647 P1 for 8", "");
        ran(0, "2147483647 8", "2147483647 1 2147483647 P1 for 8", "");
        ran(0, "2147483647 8", "2147483647 2147483647 2147483647 P1 for 8", "");
        ran(0, "1 8", "1 2147483647 2147483647 P1 for 8", "");
        ran(0, "0 2147483647 8", "0 2147483647 2147483647 P1 for 8", "");
        ran(0, "-2147483648 -1 2147483646 8", "-2147483648 2147483647 2147483647 P1 for 8", "");
        // And none before the least one.
        ran(0, "-2147483647 -2147483648 8", "-2147483647 -1 -2147483648 P1 for 8", "");
        ran(0, "-2147483648 8", "-2147483648 -2147483648 -2147483648 P1 for 8", "");
        ran(0, "-1 8", "-1 -2147483648 -2147483647 P1 for 8", "");
        ran(0, "2147483647 -1 8", "2147483647 -2147483648 -2147483648 P1 for 8", "");
        ran(0, "8", "2147483647 1 -2147483648 P1 for 8", "");
        ran(0, "8", "-2147483648 -1 2147483647 P1 for 8", "");
    }

    private static void loopInATurn() {
        Bench.says("in a TURN the number comes to the pile, then p begins");
        ran(0, "1 4 9 8", "1 1 3 P1 for 8", "dup mul");
        // What p does with the number does not change the loop's.
        ran(0, "5 5 5 8", "1 1 3 P1 for 8", "pop 5");
        ErrorNames x = ran(0, "1 2", "1 1 2 P1 for", "");
        Bench.due("STEPS and frames", x.record(6) + " " + x.record(7), "11 3");
    }

    private static void loopWithoutEnd() {
        Bench.says("21 p: a loop without an end");
        ErrorNames x = ran(10, "", "P1 loop", "");
        Bench.due("STEPS", x.record(6), 5000);
        ran(0, "7 8", "P1 loop 8", "7 exit");
        fails(1, "", "loop");
        fails(3, "7", "loop");
        Bench.due("no room", Bench.deep(30, "P2 loop").run(19, 5000), 8);
    }

    private static void exits() {
        Bench.says("22 exit: the topmost loop goes with all above it");
        ran(0, "7 8", "P1 loop 8", "7 P2 exec 9", "P3 exec 9", "exit 9");
        ran(0, "7 8", "5 P1 repeat 8", "7 exit 9");
        ran(0, "3 8", "3 1 9 P1 for 8", "exit 9");
        // The loop below goes on.
        ran(0, "6 6 8", "2 P1 repeat 8", "P2 loop 6", "exit 9");
        // A loop in its last TURN is a loop still.
        ran(0, "8", "1 P1 repeat 8", "exit 9");
    }

    private static void exitsAboveAll() {
        Bench.says("(9: no loop above the topmost STOPPED or HANDLING)");
        fails(9, "", "exit");
        fails(9, "7", "exit");
        ErrorNames x = ran(0, "T1 8", "P1 loop 8", "P2 stopped exit", "exit");
        Bench.due("under STOPPED", Bench.told(x), "9 22 1 0 0 1");
        ErrorNames y = ran(9, "5 0", "6 P2 handle P1 loop", "5 0 div", "exit");
        Bench.due("under HANDLING", Bench.told(y), "9 22 1 6 2 2");
        ran(0, "9 T0 8", "P1 stopped 8", "P2 loop 9", "exit");
        ran(0, "5 0 9 8", "6 P1 handle 5 0 div 8", "P2 loop 9", "exit");
        // A loop that has gone is none.
        ran(9, "8", "1 P1 repeat 8 exit", "");
    }

    private static void stops() {
        Bench.says("23 STOP");
        ErrorNames x = ran(99, "7", "7 stop 8");
        Bench.due("told", Bench.told(x), "0 -1 0 0 0 0");
        ran(99, "", "stop");
        ErrorNames y = Bench.with("stop");
        Bench.fill(y, 60);
        Bench.due("on a full pile", y.run(0, 10), 99);
        Bench.due("size", y.size() + " " + y.value(59, 0), "60 0");
    }

    private static void framesOfStopped() {
        Bench.says("24 p: a frame STOPPED, and on it p's");
        ErrorNames x = ran(0, "7 T0", "P1 stopped", "7");
        Bench.due("frames", x.record(7), 3);
        fails(1, "", "stopped");
        fails(3, "7", "stopped");
        fails(3, "K1", "stopped");
        for (int frame = 27; frame <= 30; frame++) {
            ErrorNames y = Bench.deep(frame, "P2 stopped 8", "7");
            boolean room = frame <= 28;
            Bench.due("at frame " + frame, y.run(19, 5000), room ? STOPPED_AT_THE_END : 8);
            Bench.due("left", Bench.pile(y), room ? "7 T0 8" : "P2");
            Bench.due("frames", y.record(7), room ? frame + 2 : frame);
        }
        ErrorNames z = Bench.with("stopped", "");
        Bench.fill(z, 59);
        Bench.push(z, "P1");
        Bench.due("on a full pile", z.run(0, 10), 0);
        Bench.due("the TRUTH in p's place", z.size() + ": " + z.value(59, 0) + " " + z.value(59, 1), "60: 1 0");
    }

    private static void handlerGiven() {
        Bench.says("25 n x: error n has the HANDLER x, a PROCEDURE");
        ErrorNames x = ran(0, "", "1 P0 handle 9 P19 handle 11 P7 handle");
        Bench.due("handlers", x.handler(1) + " " + x.handler(9) + " " + x.handler(11), "0 19 7");
        Bench.load(x, 0, "1 P5 handle");
        Bench.due("run", x.run(0, 10), 0);
        Bench.due("the later one", x.handler(1), 5);
        onFull("7 6 P1", "handle", 58, "7");
        fails(1, "P1", "handle");
        fails(1, "", "handle");
    }

    private static void handlerTakenAway() {
        Bench.says("none for NUMBER -1");
        for (int error = 1; error <= 11; error++) {
            if (error != 10) {
                ErrorNames x = ran(0, "", error + " P0 handle " + error + " -1 handle");
                Bench.due("handler " + error, x.handler(error), ErrorNames.NONE);
            }
        }
        ran(0, "", "6 -1 handle");
        ran(6, "5 0", "6 P1 handle 6 -1 handle 5 0 div", "7");
    }

    private static void handlerErrors() {
        Bench.says("(4: n is not 1 .. 9 or 11, or x another NUMBER; 3: x is neither)");
        for (String n : new String[] {"0", "-1", "10", "12", "99", "-2147483648", "2147483647"}) {
            fails(4, n + " P1", "handle");
            fails(4, n + " -1", "handle");
        }
        for (String other : new String[] {"0", "1", "-2", "5", "-2147483648", "2147483647"}) {
            fails(4, "6 " + other, "handle");
        }
        for (String neither : new String[] {"T0", "T1", "K1", "M"}) {
            fails(3, "6 " + neither, "handle");
            fails(3, "0 " + neither, "handle");
        }
        fails(3, "T1 P1", "handle");
        fails(3, "T1 0", "handle");
    }

    private static void arises() {
        Bench.says("26 n: error n arises (4: as for 25), with the COMMAND 26, n still on the pile");
        for (int error = 1; error <= 11; error++) {
            if (error != 10) {
                fails(error, "8 " + error, "raise");
                ErrorNames x = ran(0, error + " 7 9", error + " P1 handle " + error + " raise 9", "7");
                Bench.due("handled", Bench.told(x), error + " 26 1 0 1 1");
            }
        }
        ErrorNames y = Bench.with("raise");
        Bench.fill(y, 59);
        Bench.push(y, "2");
        Bench.due("on a full pile", y.run(0, 10), 2);
        Bench.due("told", Bench.told(y), "2 26 1 0 60 1");
    }

    private static void arisesOutOfRange() {
        Bench.says("(4: as for 25)");
        for (String n : new String[] {"0", "-1", "10", "12", "99", "-2147483648", "2147483647"}) {
            fails(4, n, "raise");
        }
        fails(1, "", "raise");
        fails(3, "T1", "raise");
        fails(3, "P1", "raise");
    }

    private static void ofTheRecord() {
        Bench.says("27 n: of the RECORD: 0 the error, 1 COMMAND, 2 TRUTH whether it is NEW, 3 WITHIN, "
            + "4 how many values its pile has, 5 how many errors arose in all");
        String all = "0 tell 1 tell 3 tell 4 tell 5 tell 2 tell";
        ran(0, "0 -1 0 0 0 T0", all);
        ErrorNames x = Bench.with("6 P1 handle 5 0 div", "K7 load", all);
        Bench.due("run", x.run(0, 20), 5);
        x.drop();
        Bench.due("run", x.run(2, 20), 0);
        Bench.due("told", Bench.pile(x), "5 15 6 3 2 T1");
        ErrorNames y = Bench.with("7", all);
        Bench.fill(y, 60);
        Bench.due("a value's COMMAND", y.run(0, 20), 2);
        y.drop();
        Bench.due("run", y.run(1, 20), 0);
        Bench.due("told", Bench.pile(y), "2 -1 0 60 1 T1");
        onFull("1", "tell", 60, "-1");
        onFull("2", "tell", 60, "T0");
    }

    private static void ofTheRecordOthers() {
        Bench.says("(4: other n)");
        for (String n : new String[] {"6", "7", "8", "9", "-1", "-2147483648", "2147483647"}) {
            fails(4, n, "tell");
        }
        fails(1, "", "tell");
        fails(3, "T0", "tell");
        fails(3, "K0", "tell");
    }

    private static void newNoMore() {
        Bench.says("the RECORD is NEW no more by 2");
        ErrorNames x = Bench.with("5 0 div", "0 tell 1 tell 3 tell 4 tell 5 tell", "2 tell", "6 tell");
        Bench.due("run", x.run(0, 20), 6);
        Bench.due("run", x.run(1, 20), 0);
        Bench.due("NEW by the others", x.record(2), 1);
        Bench.due("looked at from outside", x.record(2), 1);
        x.drop();
        Bench.due("run", x.run(2, 20) + " " + x.run(2, 20), "0 0");
        Bench.due("once", Bench.pile(x), "T1 T0");
        Bench.due("the rest stays", Bench.told(x), "6 3 0 0 2 1");
        Bench.due("another error", x.run(3, 20), 4);
        Bench.due("is NEW", Bench.told(x), "4 27 1 0 3 2");
    }

    private static void goesFirst() {
        Bench.says("when the topmost frame is a procedure's without more tokens, that one goes first");
        for (String last : new String[] {"P1 exec", "T1 P1 if", "T1 P1 P2 ifelse", "T0 P2 P1 ifelse",
            "K1 P1 def K1 exec"}) {
            ErrorNames x = ran(0, "7", last, "7", "8");
            Bench.due(last + " frames", x.record(7), 1);
            ErrorNames y = ran(0, "7 9", last + " 9", "7", "8");
            Bench.due(last + " 9 frames", y.record(7), 2);
        }
        ErrorNames x = ran(10, "", "P0 exec");
        Bench.due("ever so many", x.record(7), 1);
        // One that does not begin leaves the frame, too.
        ErrorNames y = ran(0, "", "T0 P1 if", "7");
        Bench.due("STEPS", y.record(6), 4);
        // A TURN's procedure comes on the loop, which stays.
        ErrorNames z = ran(0, "7 7", "2 P1 repeat", "7");
        Bench.due("frames", z.record(7), 3);
    }

    private static void comesOnTopOfAll() {
        Bench.says("The frame of a loop, and that of STOPPED, come on top of all.");
        for (String last : new String[] {"1 P1 repeat", "1 1 1 P1 for", "P1 stopped"}) {
            ErrorNames x = Bench.with(last, "");
            Bench.due(last, x.run(0, 100), 0);
            Bench.due(last + " frames", x.record(7), 3);
        }
        ErrorNames y = Bench.with("P1 loop", "exit");
        Bench.due("loop", y.run(0, 100), 0);
        Bench.due("frames", y.record(7), 3);
        // So at 30 frames there is no room, though the procedure is through.
        for (String last : new String[] {"0 P2 repeat", "2 1 1 P2 for", "P2 loop", "P2 stopped"}) {
            ErrorNames x = Bench.deep(30, last);
            Bench.due(last + " at 30 frames", x.run(19, 5000), 8);
            Bench.due(last + " left", Bench.pile(x), last.substring(0, last.lastIndexOf(' ')));
        }
    }
}
