/** The operators 0 to 15: what they take and give, and that operands stay as an operator found them. */
public final class OperatorTest {
    public static void main(String[] args) {
        reckoning();
        comparing();
        moving();
        marks();
        names();
        fullPiles();
        tooFew();
        wrongKinds();
        Bench.end("OperatorTest");
    }

    private static void gives(String before, String operator, String after) {
        ErrorNames x = Bench.with(operator);
        Bench.push(x, before);
        Bench.due(before + " " + operator + " ended", x.run(0, 100), 0);
        Bench.due(before + " " + operator, Bench.pile(x), after);
        Bench.due("errors", x.record(5), 0);
    }

    private static void fails(String before, String operator, int error) {
        ErrorNames x = Bench.with(operator);
        Bench.push(x, before);
        String what = before + " " + operator;
        Bench.due(what + " ended", x.run(0, 100), error);
        Bench.due(what + " left", Bench.pile(x), before);
        Bench.due(what + " kept", Bench.kept(x), before);
        Bench.due(what + " told", Bench.told(x),
            error + " " + Bench.OPERATORS.indexOf(operator) + " 1 0 " + x.size() + " 1");
    }

    private static void reckoning() {
        gives("9 7 5", "add", "9 12");
        gives("7 5", "sub", "2");
        gives("7 5", "mul", "35");
        gives("7 5", "div", "1");
        gives("-7 2", "div", "-3");
        gives("7 -2", "div", "-3");
        gives("-7 -2", "div", "3");
        gives("0 5", "div", "0");
        gives("2147483647 1", "add", "-2147483648");
        gives("-2147483648 1", "sub", "2147483647");
        gives("65536 65536", "mul", "0");
        gives("2147483647 2147483647", "mul", "1");
        gives("-2147483648 -1", "div", "-2147483648");
        fails("3 0", "div", 6);
        fails("0 0", "div", 6);
    }

    private static void comparing() {
        gives("4 4", "same", "T1");
        gives("4 5", "same", "T0");
        gives("1 T1", "same", "T0");
        gives("0 M", "same", "T0");
        gives("M M", "same", "T1");
        gives("K3 P3", "same", "T0");
        gives("P3 P3", "same", "T1");
        gives("1 2", "less", "T1");
        gives("2 2", "less", "T0");
        gives("3 2", "less", "T0");
        gives("-2147483648 2147483647", "less", "T1");
        gives("2147483647 -2147483648", "less", "T0");
        gives("T0", "not", "T1");
        gives("T1", "not", "T0");
    }

    private static void moving() {
        gives("1 K2", "pop", "1");
        gives("M", "pop", "");
        gives("1 K2", "dup", "1 K2 K2");
        gives("1 K2 T0", "swap", "1 T0 K2");
        gives("1 K2 T0 0", "pick", "1 K2 T0 T0");
        gives("1 K2 T0 2", "pick", "1 K2 T0 1");
        fails("1 K2 T0 3", "pick", 1);
        fails("1 K2 T0 2147483647", "pick", 1);
        fails("1 K2 T0 -1", "pick", 4);
        fails("1 K2 T0 -2147483648", "pick", 4);
        fails("0", "pick", 1);
        fails("-1", "pick", 4);
        fails("T0", "pick", 3);
        gives("", "count", "0");
        gives("M M", "count", "M M 2");
    }

    private static void marks() {
        gives("M", "countmark", "M 0");
        gives("M 1 M 2 3", "countmark", "M 1 M 2 3 2");
        gives("M 1 M 2 3", "clearmark", "M 1");
        gives("M", "clearmark", "");
        fails("1 2", "countmark", 7);
        fails("1 2", "clearmark", 7);
        fails("", "countmark", 7);
        fails("", "clearmark", 7);
    }

    private static void names() {
        fails("1 K4", "load", 5);
        gives("1 K4 2", "def", "1");
        gives("K4 2", "def", "");
        ErrorNames x = Bench.with("K4 M def K4 load K5 K4 def K5 load K39 T1 def K39 load");
        Bench.due("run", x.run(0, 100), 0);
        Bench.due("pile", Bench.pile(x), "M K4 T1");
    }

    private static void fullPiles() {
        for (String operator : new String[] {"dup", "count", "countmark"}) {
            ErrorNames x = Bench.with(operator);
            Bench.push(x, "M");
            Bench.fill(x, 60);
            String before = Bench.pile(x);
            Bench.due(operator + " on a full pile", x.run(0, 10), 2);
            Bench.due(operator + " left", Bench.pile(x), before);
            Bench.due(operator + " told", Bench.told(x), "2 " + Bench.OPERATORS.indexOf(operator) + " 1 0 60 1");
        }
        ErrorNames x = Bench.with("countmark");
        Bench.fill(x, 60);
        Bench.due("7 before 2", x.run(0, 10), 7);
        ErrorNames y = Bench.with("dup");
        Bench.fill(y, 59);
        Bench.due("the last place", y.run(0, 10), 0);
        Bench.due("size", y.size(), 60);
        ErrorNames z = Bench.with("10 pick pop pop");
        Bench.fill(z, 59);
        Bench.due("no more than before", z.run(0, 10), 0);
        Bench.due("size", z.size(), 58);
    }

    private static void tooFew() {
        String[] needs = {"add:2", "sub:2", "mul:2", "div:2", "same:2", "less:2", "not:1", "pop:1", "dup:1", "swap:2",
            "pick:1", "def:2", "load:1", "exec:1", "if:2", "ifelse:3", "repeat:2", "for:4", "loop:1", "stopped:1",
            "handle:2", "raise:1", "tell:1"};
        for (String need : needs) {
            String operator = need.substring(0, need.indexOf(':'));
            int many = Integer.parseInt(need.substring(need.indexOf(':') + 1));
            // MARKS are wanted by none: 1 comes before 3.
            StringBuilder before = new StringBuilder();
            for (int i = 0; i < many; i++) {
                fails(before.toString(), operator, 1);
                before.append(i == 0 ? "M" : " M");
            }
        }
    }

    private static void wrongKinds() {
        for (String operator : new String[] {"add", "sub", "mul", "div", "less"}) {
            fails("T1 0", operator, 3);
            fails("1 T0", operator, 3);
            fails("P1 K0", operator, 3);
        }
        fails("1", "not", 3);
        fails("K1", "pick", 3);
        fails("1 2", "def", 3);
        fails("P1 2", "def", 3);
        fails("1", "load", 3);
        fails("T0 1", "if", 3);
        fails("0 P1", "if", 3);
        fails("T0 P1 1", "ifelse", 3);
        fails("T0 1 P1", "ifelse", 3);
        fails("1 P1 P1", "ifelse", 3);
        fails("-1 K1", "repeat", 3);
        fails("T1 P1", "repeat", 3);
        fails("1 0 1 M", "for", 3);
        fails("1 0 T1 P1", "for", 3);
        fails("1 T0 1 P1", "for", 3);
        fails("T1 0 1 P1", "for", 3);
        fails("1", "loop", 3);
        fails("K1", "stopped", 3);
        fails("0 T1", "handle", 3);
        fails("0 K1", "handle", 3);
        fails("0 M", "handle", 3);
        fails("T1 P1", "handle", 3);
        fails("T1 5", "handle", 3);
        fails("T1", "raise", 3);
        fails("T1", "tell", 3);
    }
}
