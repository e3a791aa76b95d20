/** Promises 6, 7, 10 to 12: handlers, the record, errors in handlers, and which error comes first. */
public final class ErrorTest {
    public static void main(String[] args) {
        settingHandlers();
        raising();
        telling();
        handling();
        errorsInHandlers();
        handlersWithoutRoom();
        interrupts();
        withoutOperators();
        Bench.end("ErrorTest");
    }

    private static ErrorNames ran(int ended, String pile, String told, String... procedures) {
        ErrorNames x = Bench.with(procedures);
        String what = String.join(" / ", procedures);
        Bench.due(what + " ended", x.run(0, 5000), ended);
        Bench.due(what + " left", Bench.pile(x), pile);
        Bench.due(what + " told", Bench.told(x), told);
        return x;
    }

    private static void settingHandlers() {
        for (int error = -1; error <= 13; error++) {
            boolean may = error >= 1 && error <= 9 || error == 11;
            ErrorNames x = Bench.with(error + " P7 handle");
            Bench.due("handle " + error, x.run(0, 10), may ? 0 : 4);
            Bench.due("pile", Bench.pile(x), may ? "" : error + " P7");
            for (int other = 1; other <= 11; other++) {
                Bench.due("handler", x.handler(other), may && other == error ? 7 : ErrorNames.NONE);
            }
        }
        ErrorNames x = Bench.with("6 P7 handle", "6 -1 handle");
        x.run(0, 10);
        Bench.due("take it away", x.run(1, 10), 0);
        Bench.due("none", x.handler(6) + " " + x.size(), "-1 0");
        ran(4, "6 0", "4 25 1 0 2 1", "6 0 handle");
        ran(4, "6 -2", "4 25 1 0 2 1", "6 -2 handle");
        ran(4, "10 -1", "4 25 1 0 2 1", "10 -1 handle");
        ran(3, "10 T1", "3 25 1 0 2 1", "10 T1 handle");
        ran(3, "K6 P1", "3 25 1 0 2 1", "K6 P1 handle");
    }

    private static void raising() {
        for (int error = -1; error <= 13; error++) {
            int arises = error >= 1 && error <= 9 || error == 11 ? error : 4;
            ErrorNames x = Bench.with("8 " + error + " raise");
            Bench.due("raise " + error, x.run(0, 10), arises);
            Bench.due("pile", Bench.pile(x), "8 " + error);
            Bench.due("kept", Bench.kept(x), "8 " + error);
            Bench.due("told", Bench.told(x), arises + " 26 1 0 2 1");
        }
        ran(0, "7 70 5", "7 26 1 0 1 1", "7 P1 handle 7 raise 5", "70");
        ErrorNames x = ran(11, "11", "11 26 1 0 1 1", "11 raise");
        Bench.due("it was no interrupt", x.interrupt(), 1);
    }

    private static void telling() {
        ran(0, "0 -1 T0 0 0 0", "0 -1 0 0 0 0", "0 tell 1 tell 2 tell 3 tell 4 tell 5 tell");
        ran(4, "6", "4 27 1 0 1 1", "6 tell");
        ran(4, "-1", "4 27 1 0 1 1", "-1 tell");
        ran(0, "9 M 6 3 T1 T0 0 2 1", "6 3 0 0 2 1",
            "P1 stopped pop pop pop 9 M 0 tell 1 tell 2 tell 2 tell 3 tell 4 tell 5 tell", "9 0 div");
        ErrorNames x = Bench.with("1 0 div", "2 tell", "0 tell 5 tell");
        x.run(0, 10);
        x.drop();
        x.run(2, 10);
        Bench.due("others leave it NEW", x.record(2), 1);
        Bench.due("told", x.run(1, 10), 0);
        Bench.due("NEW no more", x.record(2), 0);
        x.run(0, 10);
        Bench.due("a new one is", x.record(2) + " " + x.record(5), "1 2");
    }

    private static void handling() {
        // The operands lie there for the handler; behind it the run goes on.
        ErrorNames x = ran(0, "5 8", "6 3 1 0 2 1", "6 P1 handle 5 0 div 8", "pop");
        Bench.due("latest", Bench.latest(x), "11 3 1");
        ErrorNames y = ran(0, "1 0 1 0 7", "6 3 1 0 4 2", "6 P1 handle 1 0 div 1 0 div 7", "");
        Bench.due("latest", Bench.latest(y), "15 3 2");
        Bench.due("kept", Bench.kept(y), "1 0 1 0");
        Bench.due("again", y.run(0, 5000), 0);
        Bench.due("of the latest run alone", Bench.latest(y), "15 3 2");
        // Another error's handler does not serve.
        ran(6, "1 0", "6 3 1 0 2 1", "5 P1 handle 1 0 div", "7");
        // A handler may end the run by stop.
        ran(99, "1 0", "6 3 1 0 2 1", "6 P1 handle 1 0 div", "stop");
        // An error at the end of a procedure: its frame stays below the handler's.
        ErrorNames z = ran(0, "1 0 7", "6 3 1 0 2 1", "6 P1 handle 1 0 div", "7");
        Bench.due("latest", Bench.latest(z), "10 3 1");
    }

    private static void errorsInHandlers() {
        ran(6, "1 0 3 0", "6 3 1 6 4 2", "6 P1 handle 1 0 div", "3 0 div");
        ran(7, "1 0", "7 13 1 6 2 2", "6 P1 handle 7 P2 handle 1 0 div", "clearmark", "5");
        ran(0, "1 0 T1", "7 13 1 6 2 2", "6 P1 handle P2 stopped", "clearmark", "1 0 div 5");
        // A STOPPED frame in the handler hides HANDLING: errors in it are handled anew.
        ErrorNames x = ran(0, "1 0 5 T0", "7 13 1 0 2 2", "6 P1 handle 7 P2 handle 1 0 div", "P3 stopped", "5",
            "clearmark");
        Bench.due("handlers", x.record(8), 2);
        ran(0, "1 0 T1", "7 13 1 0 2 2", "6 P1 handle 1 0 div", "P2 stopped", "clearmark");
        // WITHIN is that of the topmost HANDLING.
        ErrorNames y = ran(0, "1 0 0 T1", "6 3 1 7 3 3", "6 P1 handle 7 P2 handle 1 0 div", "P3 stopped", "0 div",
            "clearmark");
        Bench.due("handlers", y.record(8), 2);
        // Behind the handler it is handled no more: the next error is again.
        ErrorNames z = ran(7, "1 0 5", "7 13 1 0 3 2", "6 P1 handle 1 0 div clearmark", "5");
        Bench.due("handlers", z.record(8), 1);
        // Loops and procedures between do not hide HANDLING.
        ran(7, "1 0", "7 12 1 6 2 2", "6 P1 handle 7 P4 handle 1 0 div", "P2 loop", "P3 exec 1", "countmark", "");
    }

    private static void handlersWithoutRoom() {
        // 29 frames when the error arises: HANDLING and the procedure would come to 31.
        int[] frames = {27, 28, 29, 30};
        for (int many : frames) {
            ErrorNames x = Bench.deep(many, "1 0 div 5", "7", "6 P2 handle");
            Bench.due("handler", x.run(3, 10), 0);
            boolean room = many <= 28;
            Bench.due("at " + many, x.run(19, 5000), room ? 99 : 6);
            Bench.due("pile", Bench.pile(x), room ? "1 0 7 5" : "1 0");
            Bench.due("told", Bench.told(x), "6 3 1 0 2 1");
            Bench.due("frames and handlers", x.record(7) + " " + x.record(8),
                (room ? many + 2 : many) + " " + (room ? 1 : 0));
        }
    }

    private static void interrupts() {
        // It comes instead of any operator, before that one's own errors.
        ErrorNames x = Bench.with("1 add", "P2 stopped 5", "stop", "P4 loop", "5 exit");
        x.interrupt();
        Bench.due("before 1", x.run(0, 10), 11);
        Bench.due("told", Bench.told(x), "11 0 1 0 1 1");
        x.drop();
        Bench.due("once", x.run(0, 10), 1);
        x.drop();
        x.interrupt();
        Bench.due("stopped itself is gone by", x.run(1, 10), 11);
        Bench.due("told", Bench.told(x), "11 24 1 0 1 3");
        // In a handler.
        ErrorNames y = Bench.with("6 P1 handle 11 P2 handle", "dup 4", "9", "1 0 div 3", "1 2", "0 P1 handle");
        Bench.due("handlers", y.run(0, 10), 0);
        y.interrupt();
        Bench.due("the first operator alone", y.run(3, 20), 0);
        Bench.due("pile", Bench.pile(y), "1 0 9 3");
        Bench.due("told", Bench.told(y), "11 3 1 0 2 1");
        // Values and loops' TURNS pass by.
        y.interrupt();
        Bench.due("no operator", y.run(4, 20), 0);
        Bench.due("still", y.interrupt(), 0);
        Bench.due("time is over before it", y.run(4, 1), 10);
        Bench.due("still", y.interrupt(), 0);
    }

    private static void withoutOperators() {
        // A handler of 2 finds the pile full; the token is gone by.
        ErrorNames x = Bench.with("2 P1 handle", "pop pop", "500 600");
        Bench.due("handler", x.run(0, 10), 0);
        Bench.fill(x, 60);
        Bench.due("run", x.run(2, 20), 0);
        Bench.due("500 is gone by", x.size() + " " + x.value(58, 1), "59 600");
        Bench.due("told", Bench.told(x), "2 -1 1 0 60 1");
        // The loop has gone when its number finds no room; the handler's values and those behind the loop come.
        ErrorNames y = Bench.with("2 P1 handle", "pop pop pop", "1 1 9 P3 for 600", "");
        y.run(0, 10);
        Bench.fill(y, 56);
        Bench.due("run", y.run(2, 50), 0);
        Bench.due("the loop goes on no more", y.size() + " " + y.value(57, 1), "58 600");
        Bench.due("told", Bench.told(y), "2 -2 1 0 60 1");
        // STOPPED has gone: after the handler its procedure goes on.
        ErrorNames z = Bench.with("2 P1 handle", "pop", "P3 stopped 600", "1");
        z.run(0, 10);
        Bench.fill(z, 59);
        Bench.due("run", z.run(2, 50), 0);
        Bench.due("without a TRUTH", z.size() + " " + z.value(59, 1), "60 600");
        Bench.due("told", Bench.told(z), "2 -3 1 0 60 1");
    }
}
