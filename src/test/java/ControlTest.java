/** Promise 6: procedures, loops, exit, stop and stopped, frames, steps and time. */
public final class ControlTest {
    private static final int NO_ERROR = 0;

    public static void main(String[] args) {
        wrongInputs();
        time();
        executing();
        choosing();
        lastCalls();
        repeating();
        countingThrough();
        leaving();
        stopping();
        deepFrames();
        fullPiles();
        Bench.end("ControlTest");
    }

    /** Runs procedure 0; the answer, the pile, and of the latest run the STEPS and frames at most. */
    private static ErrorNames ran(int ended, String pile, String latest, String... procedures) {
        ErrorNames x = Bench.with(procedures);
        String what = String.join(" / ", procedures);
        Bench.due(what + " ended", x.run(0, 5000), ended);
        Bench.due(what + " left", Bench.pile(x), pile);
        Bench.due(what + " latest", x.record(6) + " " + x.record(7), latest);
        return x;
    }

    private static void wrongInputs() {
        ErrorNames x = Bench.with("1");
        Bench.due("procedure -1", x.run(-1, 5), -1);
        Bench.due("procedure 20", x.run(20, 5), -1);
        Bench.due("-1 first", x.run(20, 0), -1);
        Bench.due("steps 0", x.run(0, 0), -2);
        Bench.due("steps -1", x.run(0, -1), -2);
        Bench.due("steps 5001", x.run(0, 5001), -2);
        Bench.due("nothing was run", Bench.pile(x) + Bench.latest(x), "0 0 0");
        Bench.due("steps 5000", x.run(0, 5000), 0);
        Bench.due("procedure 19", x.run(19, 1), 0);
    }

    private static void time() {
        ErrorNames x = Bench.with("1 2 3", "1 0 div", "P19 loop", "stop");
        Bench.due("3 of 4 steps", x.run(0, 3), 10);
        Bench.due("the pile stays", Bench.pile(x), "1 2 3");
        Bench.due("nothing is recorded", Bench.told(x), "0 -1 0 0 0 0");
        Bench.due("latest", Bench.latest(x), "3 1 0");
        Bench.due("4 of 4", x.run(0, 4), 0);
        Bench.due("the latest step's error", x.run(1, 3), 6);
        Bench.due("one fewer", x.run(1, 2), 10);
        Bench.due("the latest step stops", x.run(3, 1), 99);
        x.drop();
        Bench.due("without an end", x.run(2, 5000), 10);
        Bench.due("latest", Bench.latest(x), "5000 3 0");
        Bench.due("the frames are gone", x.run(0, 4), 0);
        Bench.due("latest", Bench.latest(x), "4 1 0");
    }

    private static void executing() {
        ran(0, "5 6", "6 2", "P1 exec 6", "5");
        ran(0, "5 T1 M", "7 1", "5 exec T1 exec M exec");
        ran(0, "9", "6 1", "K1 9 def K1 exec");
        ran(0, "K2", "6 1", "K1 K2 def K1 exec");
        ran(0, "M", "6 1", "K1 M def K1 exec");
        ran(0, "5 6", "9 2", "K1 P1 def K1 exec 6", "5");
        ErrorNames x = ran(5, "K1", "2 1", "K1 exec");
        Bench.due("told", Bench.told(x), "5 16 1 0 1 1");
        ran(0, "7", "5 2", "P1 exec 7");
    }

    private static void choosing() {
        ran(0, "5 6", "7 2", "T1 P1 if 6", "5");
        ran(0, "6", "5 1", "T0 P1 if 6", "5");
        ran(0, "5 6", "8 2", "T1 P1 P2 ifelse 6", "5", "4");
        ran(0, "4 6", "8 2", "T0 P1 P2 ifelse 6", "5", "4");
    }

    private static void lastCalls() {
        // A procedure that is through goes before the next one comes, so there is never more than one frame.
        ran(0, "5", "4 1", "P1 exec", "5");
        ran(0, "5", "5 1", "T1 P1 if", "5");
        ran(0, "5", "6 1", "T0 P2 P1 ifelse", "5");
        ran(0, "5", "7 1", "K1 P1 def K1 exec", "5");
        ErrorNames x = Bench.with("P0 exec");
        Bench.due("calls at the end", x.run(0, 5000), 10);
        Bench.due("latest", Bench.latest(x), "5000 1 0");
        // A loop and STOPPED come on top of all: the procedure stays below.
        ran(0, "", "5 2", "0 P1 repeat");
        ran(0, "T0", "5 3", "P1 stopped");
    }

    private static void repeating() {
        ran(0, "", "5 2", "0 P1 repeat", "1");
        ran(0, "1 1 1", "14 3", "3 P1 repeat", "1");
        ErrorNames x = ran(4, "-1 P1", "3 1", "-1 P1 repeat", "1");
        Bench.due("told", Bench.told(x), "4 19 1 0 2 1");
        ErrorNames y = Bench.with("2147483647 P1 repeat", "");
        Bench.due("many turns", y.run(0, 5000), 10);
        Bench.due("frames", y.record(7), 3);
        ran(0, "1 1 2 1 1 2", "31 5", "2 P1 repeat", "2 P2 repeat 2", "1");
    }

    private static void countingThrough() {
        ran(0, "1 3 5", "13 3", "1 2 5 P1 for", "");
        ran(0, "1 3", "11 3", "1 2 4 P1 for", "");
        ran(0, "", "7 2", "1 2 0 P1 for", "");
        ran(0, "5 3 1", "13 3", "5 -2 1 P1 for", "");
        ran(0, "5 3 1", "13 3", "5 -2 0 P1 for", "");
        ran(0, "", "7 2", "5 -2 6 P1 for", "");
        ran(0, "4", "9 3", "4 1 4 P1 for", "");
        ran(0, "2147483646 2147483647", "11 3", "2147483646 1 2147483647 P1 for", "");
        ran(0, "-2147483647 -2147483648", "11 3", "-2147483647 -1 -2147483648 P1 for", "");
        ran(0, "-2147483648 -1 2147483646", "13 3", "-2147483648 2147483647 2147483647 P1 for", "");
        ran(0, "2147483647 -1", "11 3", "2147483647 -2147483648 -2147483648 P1 for", "");
        ran(4, "1 0 5 P1", "5 1", "1 0 5 P1 for", "");
        ran(0, "0 1 4", "19 3", "0 1 2 P1 for", "dup mul");
    }

    private static void leaving() {
        ran(0, "7", "6 3", "P1 loop 7", "exit");
        ran(0, "1 7", "9 4", "P1 loop 7", "1 P2 exec 9", "exit 8");
        ran(0, "1 7", "8 3", "5 P1 repeat 7", "1 exit 3");
        ran(0, "4 7", "9 3", "4 1 9 P1 for 7", "exit");
        ErrorNames x = ran(9, "", "1 1", "exit");
        Bench.due("told", Bench.told(x), "9 22 1 0 0 1");
        // A STOPPED frame hides the loop below it; so does HANDLING.
        ran(0, "T1 7", "9 5", "P1 loop 7", "P2 stopped exit", "exit");
        ran(0, "8 T0 8", "11 5", "P1 stopped 8", "P2 loop 8", "exit");
        ErrorNames y = ran(9, "1 0", "10 5", "6 P2 handle P1 loop", "1 0 div", "exit");
        Bench.due("told", Bench.told(y), "9 22 1 6 2 2");
        // The innermost loop alone goes.
        ran(0, "3 3 4", "20 5", "2 P1 repeat 4", "P2 loop 3", "exit");
    }

    private static void stopping() {
        ErrorNames x = ran(99, "1", "2 1", "1 stop 2");
        Bench.due("no error", Bench.told(x), "0 -1 0 0 0 0");
        ran(0, "1 T1 3", "6 3", "P1 stopped 3", "1 stop 2");
        ran(0, "1 2 T0 3", "8 3", "P1 stopped 3", "1 2");
        // It goes to the nearest STOPPED, through loops and procedures.
        ran(0, "T1 1 T0 3", "13 7", "P1 stopped 3", "P2 stopped 1", "P3 loop 2", "stop");
        ran(0, "4 0 T1", "6 3", "P1 stopped", "4 0 div");
        // From a handler too.
        ErrorNames y = ran(0, "1 0 T1 7", "11 5", "6 P2 handle P1 stopped 7", "1 0 div 5", "stop");
        Bench.due("told", Bench.told(y), "6 3 1 0 2 1");
        Bench.due("handlers", y.record(8), 1);
    }

    private static void deepFrames() {
        // Each call but the last one of a procedure leaves a frame.
        ErrorNames x = Bench.with("P0 exec 1");
        Bench.due("30 frames", x.run(0, 5000), 8);
        Bench.due("latest", Bench.latest(x), "60 30 0");
        Bench.due("the operand stays", Bench.pile(x), "P0");
        Bench.due("told", Bench.told(x), "8 16 1 0 1 1");
        ErrorNames z = Bench.with("T1 P0 if 1");
        Bench.due("if", z.run(0, 5000), 8);
        Bench.due("operands stay", Bench.pile(z), "T1 P0");
        ErrorNames e = Bench.with("T0 P1 P0 ifelse 1", "");
        Bench.due("ifelse", e.run(0, 5000), 8);
        Bench.due("operands stay", Bench.pile(e), "T0 P1 P0");
        ErrorNames n = Bench.with("K1 P1 def P1 exec", "K1 exec 1");
        Bench.due("by a name", n.run(0, 5000), 8);
        Bench.due("the name stays", Bench.pile(n), "K1");
        // 8 only when something begins, and not when a procedure that is through goes first.
        atThirty("T0 P2 if 4", NO_ERROR, "4");
        atThirty("P2 exec", NO_ERROR, "");
        atThirty("T1 P2 if", NO_ERROR, "");
        atThirty("T0 P2 P2 ifelse", NO_ERROR, "");
        atThirty("P2 exec 5", 8, "P2");
        atThirty("1 P2 repeat", 8, "1 P2");
        atThirty("1 1 1 P2 for", 8, "1 1 1 P2");
        atThirty("P2 loop", 8, "P2");
        atThirty("P2 stopped", 8, "P2");
        // Wrong operands come before 8.
        atThirty("-1 P2 repeat", 4, "-1 P2");
        atThirty("1 0 1 P2 for", 4, "1 0 1 P2");
        atThirty("K7 exec 5", 5, "K7");
        turnWithoutRoom();
        stoppedWithoutRoom();
        justEnoughRoom();
    }

    private static void atThirty(String text, int error, String pile) {
        ErrorNames x = Bench.deep(30, text);
        String what = "at thirty: " + text;
        Bench.due(what + " ended", x.run(19, 5000), error == NO_ERROR ? 99 : error);
        Bench.due(what + " frames", x.record(7), 30);
        Bench.due(what + " told", x.record(0), error);
        Bench.due(what + " left", Bench.pile(x), pile);
    }

    private static void turnWithoutRoom() {
        // The loop is the 30th frame: its TURN has no room, and the loop is gone when the error arises.
        ErrorNames x = Bench.deep(29, "1 2 3 P2 for 5");
        Bench.due("29 frames and a loop", x.run(19, 5000), 8);
        Bench.due("frames", x.record(7), 30);
        Bench.due("told", Bench.told(x), "8 -2 1 0 0 1");
        Bench.load(x, 1, "1 P2 repeat 5");
        Bench.due("repeat", x.run(19, 5000), 8);
        Bench.due("told", Bench.told(x), "8 -2 1 0 0 2");
        Bench.load(x, 1, "P2 loop 5");
        Bench.due("loop", x.run(19, 5000), 8);
        Bench.due("told", Bench.told(x), "8 -2 1 0 0 3");
        Bench.load(x, 1, "0 P2 repeat 5");
        Bench.due("no TURN needs no room", x.run(19, 5000), 99);
        Bench.due("pile", Bench.pile(x), "5");
    }

    private static void stoppedWithoutRoom() {
        ErrorNames x = Bench.with("P0 stopped pop");
        Bench.due("stopped in stopped", x.run(0, 5000), 0);
        Bench.due("frames at most", x.record(7), 29);
        Bench.due("told", Bench.told(x), "8 24 1 0 1 1");
        Bench.due("pile", Bench.pile(x), "P0");
    }

    private static void justEnoughRoom() {
        ErrorNames x = Bench.deep(28, "1 P2 repeat 5", "4");
        Bench.due("a loop and its TURN", x.run(19, 5000), 99);
        Bench.due("pile", Bench.pile(x), "4 5");
        Bench.due("frames", x.record(7), 30);
        x.drop();
        Bench.load(x, 1, "P2 stopped 5");
        Bench.due("STOPPED and a procedure", x.run(19, 5000), 99);
        Bench.due("pile", Bench.pile(x), "4 T0 5");
        Bench.due("frames", x.record(7), 30);
    }

    private static void fullPiles() {
        ErrorNames x = Bench.with("5", "1 2 9 P2 for", "", "P4 stopped 3", "1 2 stop", "P3 stopped");
        Bench.fill(x, 60);
        String full = Bench.pile(x);
        Bench.due("a value", x.run(0, 10), 2);
        Bench.due("told", Bench.told(x), "2 -1 1 0 60 1");
        Bench.due("left", Bench.pile(x), full);
        x.drop();
        Bench.fill(x, 56);
        Bench.due("a loop's number", x.run(1, 100), 2);
        Bench.due("told", Bench.told(x), "2 -2 1 0 60 2");
        Bench.due("left", x.value(59, 1), 7);
        // STOP takes the topmost value's place.
        x.drop();
        Bench.fill(x, 58);
        Bench.due("TRUTH 1 in place of 2, then no room", x.run(3, 100), 2);
        Bench.due("told", Bench.told(x), "2 -1 1 0 60 3");
        Bench.due("the topmost", x.value(58, 1) + " " + x.value(59, 0) + " " + x.value(59, 1), "1 1 1");
        // STOPPED's own TRUTH finds a full pile when STOPPED has gone.
        x.drop();
        Bench.fill(x, 58);
        Bench.load(x, 4, "1 2");
        Bench.due("TRUTH 0 has no room", x.run(3, 100), 2);
        Bench.due("told", Bench.told(x), "2 -3 1 0 60 4");
        Bench.due("the topmost", x.value(59, 0) + " " + x.value(59, 1), "0 2");
        // An outer STOPPED takes that error.
        x.drop();
        Bench.fill(x, 58);
        Bench.due("the outer one", x.run(5, 100), 0);
        Bench.due("told", Bench.told(x), "2 -3 1 0 60 5");
        Bench.due("the topmost", x.value(59, 0) + " " + x.value(59, 1), "1 1");
    }
}
