/** Promise 6 and the terms but for the operators: a test for each sentence that names a boundary. */
public final class RunEdgesTest {
    private static final int LEAST = Integer.MIN_VALUE;
    private static final int GREATEST = Integer.MAX_VALUE;
    private static final int STOPPED_AT_THE_END = 99;

    public static void main(String[] args) {
        procedures();
        stepsAllowed();
        allFramesGone();
        mostValues();
        mostTokens();
        mostFrames();
        tokensThatEnd();
        loopsThatEnd();
        stoppedThatEnds();
        handlingThatEnds();
        timeIsOver();
        timeRecordsNothing();
        timePassesByStopped();
        orderOfErrors();
        orderBeforeTooManyFrames();
        whatItWouldComeTo();
        aValueOnAFullPile();
        aLoopsNumberOnAFullPile();
        stoppedsTruthOnAFullPile();
        aTurnWithoutRoom();
        theTokenIsGoneBy();
        theLoopHasGone();
        stoppedHasGone();
        thePileIsAsBefore();
        toldAnew();
        copyOfThePile();
        handlingDownToStopped();
        handlingOfAllFrames();
        theTopmostHandling();
        theDefaultInAHandler();
        aHandlerBegins();
        noRoomForBoth();
        stopDownToStopped();
        stopOnAFullPile();
        stopWithoutStopped();
        nextOperatorThatIsDue();
        interruptedInALaterRun();
        interruptedNoMore();
        Bench.end("RunEdgesTest");
    }

    /** A machine whose procedure 0 was run: how that ended, and what it left. */
    private static ErrorNames ran(int ended, String pile, String... procedures) {
        ErrorNames x = Bench.with(procedures);
        return ranOn(x, 0, ended, pile, String.join(" / ", procedures));
    }

    /** As ran(), of a machine whose procedure 1 comes to be the frame of this number. */
    private static ErrorNames ranDeep(int frame, int ended, String pile, String... fromOneOn) {
        ErrorNames x = Bench.deep(frame, fromOneOn);
        return ranOn(x, 19, ended, pile, "at frame " + frame + ": " + String.join(" / ", fromOneOn));
    }

    private static ErrorNames ranOn(ErrorNames x, int procedure, int ended, String pile, String what) {
        Bench.due(what + " ended", x.run(procedure, 5000), ended);
        Bench.due(what + " left", Bench.pile(x), pile);
        return x;
    }

    private static String topmost(ErrorNames x) {
        return x.value(x.size() - 1, 0) + " " + x.value(x.size() - 1, 1);
    }

    private static void procedures() {
        Bench.says("-1 no such procedure; -2 steps.");
        ErrorNames x = Bench.with("7");
        Bench.load(x, 19, "8");
        for (int procedure : new int[] {-1, 20, LEAST, GREATEST}) {
            Bench.due("run " + procedure, x.run(procedure, 10), -1);
            Bench.due("before -2", x.run(procedure, 0), -1);
        }
        Bench.due("nothing came", x.size(), 0);
        Bench.due("the first", x.run(0, 10), 0);
        Bench.due("the last", x.run(19, 10), 0);
        Bench.due("pile", Bench.pile(x), "7 8");
    }

    private static void stepsAllowed() {
        Bench.says("A RUN with so many STEPS allowed, 1 .. 5000");
        ErrorNames x = Bench.with("count", "P2 loop", "");
        x.interrupt();
        for (int steps : new int[] {0, -1, 5001, LEAST, GREATEST}) {
            Bench.due("STEPS " + steps, x.run(0, steps), -2);
        }
        Bench.due("nothing was run", x.size() + " " + x.record(5) + " " + Bench.latest(x), "0 0 0 0 0");
        Bench.due("nor is the interrupt gone", x.interrupt(), 0);
        Bench.due("1", x.run(0, 1), 11);
        Bench.due("5000", x.run(1, 5000), 10);
        Bench.due("done", x.record(6), 5000);
    }

    private static void allFramesGone() {
        Bench.says("0 when all frames are gone, else by what it ended.");
        ran(0, "");
        ran(0, "7", "7");
        ran(6, "1 0", "1 0 div");
        ran(99, "", "stop");
        // A STOP that a STOPPED frame takes is not the run's end.
        ran(0, "1 0 T1", "P1 stopped", "1 0 div");
        ran(0, "T1", "P1 stopped", "stop");
        ErrorNames x = Bench.with("P0 exec");
        Bench.due("time", x.run(0, 50), 10);
        Bench.due("what ended the one before is forgotten", x.run(1, 50), 0);
    }

    private static void mostValues() {
        Bench.says("THE PILE has at most 60 values");
        ErrorNames x = Bench.with("7 8", "pop 9");
        Bench.fill(x, 58);
        Bench.due("to 60", x.run(0, 10), 0);
        Bench.due("size", x.size(), 60);
        Bench.due("no more", x.run(0, 10), 2);
        Bench.due("size", x.size(), 60);
        Bench.due("one for another", x.run(1, 10), 0);
        Bench.due("the topmost", topmost(x), "0 9");
    }

    private static void mostTokens() {
        Bench.says("A PROCEDURE is a row of at most 24 TOKENS, at first none");
        ErrorNames x = ran(0, "26", "1 1 add 1 add 1 add 1 add 1 add 1 add 1 add 1 add 1 add 1 add 15 add");
        Bench.due("STEPS", x.record(6), 24);
        x.drop();
        Bench.due("token", x.token(0, 5, 11), 24);
        Bench.due("run", x.run(0, 5000), 0);
        Bench.due("the last token is done", Bench.pile(x) + " " + x.record(6), "26 1 25");
        Bench.due("none", x.run(1, 1), 0);
    }

    private static void mostFrames() {
        Bench.says("FRAMES, at most 30, one on top of the other");
        ErrorNames x = ranDeep(30, STOPPED_AT_THE_END, "7", "7");
        Bench.due("30", x.record(7), 30);
        ErrorNames y = ranDeep(31, 8, "T0 P0 P1", "7");
        Bench.due("not 31", y.record(7) + " " + Bench.told(y), "30 8 18 1 0 3 1");
        ErrorNames one = ran(0, "7", "7");
        Bench.due("one", one.record(7), 1);
    }

    private static void tokensThatEnd() {
        Bench.says("the frame of one that has no more goes");
        ErrorNames x = ran(0, "", "");
        Bench.due("a STEP of its own", Bench.latest(x), "1 1 0");
        ErrorNames y = ran(0, "7 8", "P1 exec 8", "7");
        Bench.due("STEPS", Bench.latest(y), "6 2 0");
        ErrorNames z = ran(0, "8", "P1 exec 8", "");
        Bench.due("of none", Bench.latest(z), "5 2 0");
    }

    private static void loopsThatEnd() {
        Bench.says("A loop's: its next TURN begins, or it goes.");
        ErrorNames none = ran(0, "8", "0 P1 repeat 8", "7");
        Bench.due("no TURN", Bench.latest(none), "6 2 0");
        ErrorNames one = ran(0, "7 8", "1 P1 repeat 8", "7");
        Bench.due("one TURN", Bench.latest(one), "9 3 0");
        ErrorNames two = ran(0, "7 7 8", "2 P1 repeat 8", "7");
        Bench.due("two", Bench.latest(two), "12 3 0");
    }

    private static void stoppedThatEnds() {
        Bench.says("STOPPED: it goes, and TRUTH 0 comes to the pile.");
        ErrorNames x = ran(0, "T0 8", "P1 stopped 8", "");
        Bench.due("STEPS", Bench.latest(x), "6 3 0");
        Bench.due("before it goes", x.run(0, 3) + " " + x.size(), "10 2");
        Bench.due("when it has gone", x.run(0, 4) + " " + x.size(), "10 3");
    }

    private static void handlingThatEnds() {
        Bench.says("HANDLING: it goes.");
        ErrorNames x = ran(0, "5 0 8", "6 P1 handle 5 0 div 8", "");
        Bench.due("STEPS", Bench.latest(x), "10 3 1");
        // One error more, behind it, is not WITHIN it.
        ErrorNames y = ran(7, "5 0", "6 P1 handle 5 0 div clearmark", "");
        Bench.due("told", Bench.told(y), "7 13 1 0 2 2");
        // What the handler's last token begins comes on it, when the handler's own frame has gone.
        ErrorNames z = ran(7, "5 0", "6 P1 handle 5 0 div", "P2 exec", "clearmark");
        Bench.due("told", Bench.told(z), "7 13 1 6 2 2");
        Bench.due("frames", z.record(7), 3);
    }

    private static void timeIsOver() {
        Bench.says("With as many STEPS done as are allowed, and a frame still there, TIME is over");
        endsAt(1, "");
        endsAt(2, "7");
        endsAt(2, "count");
        endsAt(3, "P1 exec", "");
        endsAt(5, "0 P1 repeat", "");
        endsAt(5, "P1 stopped", "");
        endsAt(9, "6 P1 handle 5 0 div", "");
        ErrorNames x = Bench.with("5 0 div", "stop");
        Bench.due("an error at the last STEP", x.run(0, 3), 6);
        Bench.due("stop at the last STEP", x.run(1, 1), 99);
    }

    /** Procedure 0 ends with so many STEPS, and not with one fewer. */
    private static void endsAt(int steps, String... procedures) {
        ErrorNames x = Bench.with(procedures);
        String what = String.join(" / ", procedures);
        for (int fewer = 1; fewer < steps; fewer++) {
            Bench.due(what + " in " + fewer, x.run(0, fewer), 10);
            Bench.due("done", x.record(6), fewer);
        }
        Bench.due(what + " in " + steps, x.run(0, steps), 0);
        Bench.due(what + " with more", x.run(0, steps + 1), 0);
        Bench.due("done", x.record(6), steps);
    }

    private static void timeRecordsNothing() {
        Bench.says("all frames go; the run has ended by 10 (nothing is recorded, the pile stays)");
        ErrorNames x = Bench.with("7 8 9", "5 0 div", "2 tell");
        Bench.due("run", x.run(0, 2), 10);
        Bench.due("no record", Bench.told(x), "0 -1 0 0 0 0");
        Bench.due("pile", Bench.pile(x), "7 8");
        Bench.due("the next run begins anew", x.run(0, 4), 0);
        Bench.due("pile", Bench.pile(x), "7 8 7 8 9");
        Bench.due("an error", x.run(1, 10), 6);
        String told = Bench.told(x);
        Bench.due("run", x.run(0, 1), 10);
        Bench.due("the record stays", Bench.told(x), told);
        Bench.due("and its pile", Bench.kept(x), "7 8 7 8 9 5 0");
    }

    private static void timePassesByStopped() {
        Bench.says("TIME is over: all frames go");
        ErrorNames x = Bench.with("P1 stopped 8", "P2 loop", "", "5 0 div");
        Bench.due("no STOPPED takes it", x.run(0, 100), 10);
        Bench.due("no TRUTH came", x.size(), 0);
        Bench.due("no STOPPED is left", x.run(3, 100), 6);
        Bench.due("pile", Bench.pile(x), "5 0");
        // Nor a HANDLING: the error behind is not WITHIN one.
        ErrorNames y = Bench.with("6 P1 handle 5 0 div", "P2 loop", "");
        Bench.due("in a handler", y.run(0, 100), 10);
        Bench.load(y, 0, "K9 load");
        Bench.due("run", y.run(0, 100), 5);
        Bench.due("told", Bench.told(y), "5 15 1 0 3 2");
    }

    private static void orderOfErrors() {
        Bench.says("For one step it is the first of 1, 3, 7, 4, 5, 6, 9, 8, 2");
        ran(1, "T1", "T1 add");
        ran(1, "0", "0 div");
        ran(1, "0", "0 handle");
        ran(1, "-1", "-1 repeat");
        ran(1, "P1 P1", "P1 P1 ifelse");
        ran(1, "1 0 M", "1 0 M for");
        ran(3, "T1 0", "T1 0 div");
        ran(3, "0 T1", "0 T1 div");
        ran(3, "-1 K1", "-1 K1 repeat");
        ran(3, "T1 0 1 P1", "T1 0 1 P1 for");
        ran(3, "0 M", "0 M handle");
        ran(3, "T0 7", "T0 7 handle");
        ran(3, "T0", "T0 pick");
        ErrorNames x = Bench.with("countmark");
        Bench.fill(x, 60);
        Bench.due("7 before 2", x.run(0, 10), 7);
    }

    private static void orderBeforeTooManyFrames() {
        Bench.says("first of 1, 3, 7, 4, 5, 6, 9, 8, 2 (8 and 2 by what it would come to)");
        ranDeep(30, 1, "", "exec 7");
        ranDeep(30, 1, "P2", "P2 repeat 7");
        ranDeep(30, 1, "", "stopped 7");
        ranDeep(30, 3, "0 P2", "0 P2 if 7");
        ranDeep(30, 3, "T1 P2 7", "T1 P2 7 ifelse 7");
        ranDeep(30, 3, "T0 P2", "T0 P2 repeat 7");
        ranDeep(30, 3, "7", "7 loop 7");
        ranDeep(30, 3, "7", "7 stopped 7");
        ranDeep(30, 4, "-1 P2", "-1 P2 repeat 7");
        ranDeep(30, 4, "1 0 1 P2", "1 0 1 P2 for 7");
        ranDeep(30, 5, "K7", "K7 exec 7");
        ranDeep(30, 9, "", "exit 7");
    }

    private static void whatItWouldComeTo() {
        Bench.says("(8 and 2 by what it would come to)");
        // Where a procedure that is through goes first, 30 frames stay 30.
        ErrorNames x = ranDeep(30, STOPPED_AT_THE_END, "7", "P2 exec", "7");
        Bench.due("frames", x.record(7), 30);
        ranDeep(30, 8, "P2", "P2 exec 7", "7");
        // STOPPED needs two places.
        ranDeep(28, STOPPED_AT_THE_END, "7 T0", "P2 stopped", "7");
        ranDeep(29, 8, "P2", "P2 stopped", "7");
        // On a full pile an operator that gives no more than it takes is done.
        ErrorNames y = Bench.with("add", "not", "swap");
        Bench.fill(y, 60);
        Bench.due("2 for 1", y.run(0, 10), 0);
        y.push(1, 0);
        Bench.due("1 for 1", y.run(1, 10), 0);
        Bench.due("size", y.size() + ": " + topmost(y), "60: 1 1");
        Bench.due("2 for 2", y.run(2, 10), 0);
        Bench.due("size", y.size() + ": " + topmost(y), "60: 0 117");
    }

    private static void aValueOnAFullPile() {
        Bench.says("2, when a value, a loop's number or STOPPED's TRUTH would come to a full pile");
        for (String value : new String[] {"7", "T1", "K7", "M", "P7"}) {
            ErrorNames x = Bench.with(value);
            Bench.fill(x, 59);
            Bench.due(value + " has room", x.run(0, 10), 0);
            String full = Bench.pile(x);
            Bench.due(value, x.run(0, 10), 2);
            Bench.due("told", Bench.told(x), "2 -1 1 0 60 1");
            Bench.due("left", Bench.pile(x), full);
        }
    }

    private static void aLoopsNumberOnAFullPile() {
        Bench.says("the COMMAND is -1 for a value, -2 for a TURN, -3 for STOPPED");
        ErrorNames x = Bench.with("1 1 5 P1 for", "");
        Bench.fill(x, 55);
        Bench.due("5 numbers have room", x.run(0, 100), 0);
        Bench.due("size", x.size(), 60);
        ErrorNames y = Bench.with("1 1 5 P1 for", "");
        Bench.fill(y, 56);
        Bench.due("4 have", y.run(0, 100), 2);
        Bench.due("told", Bench.told(y), "2 -2 1 0 60 1");
        Bench.due("the topmost", topmost(y), "0 4");
        // A loop that shows no number needs no place.
        ErrorNames z = Bench.with("2 P1 repeat", "");
        Bench.fill(z, 58);
        Bench.due("repeat", z.run(0, 100), 0);
        // Nor does the STEP in which a loop goes.
        ErrorNames w = Bench.with("5 1 5 P1 for", "8 9 10");
        Bench.fill(w, 56);
        Bench.due("full when it goes", w.run(0, 100), 0);
        Bench.due("size", w.size(), 60);
    }

    private static void stoppedsTruthOnAFullPile() {
        Bench.says("2, when a value, a loop's number or STOPPED's TRUTH would come to a full pile");
        ErrorNames x = Bench.with("P1 stopped", "7");
        Bench.fill(x, 58);
        Bench.due("there is room", x.run(0, 100), 0);
        Bench.due("the topmost", x.size() + ": " + topmost(x), "60: 1 0");
        ErrorNames y = Bench.with("P1 stopped", "7");
        Bench.fill(y, 59);
        Bench.due("there is none", y.run(0, 100), 2);
        Bench.due("told", Bench.told(y), "2 -3 1 0 60 1");
        Bench.due("the topmost", y.size() + ": " + topmost(y), "60: 0 7");
    }

    private static void aTurnWithoutRoom() {
        Bench.says("8 for a TURN whose procedure has no room (before 2)");
        for (String loop : new String[] {"1 P2 repeat", "1 1 1 P2 for", "P2 loop"}) {
            ErrorNames x = ranDeep(29, 8, "", loop, "");
            Bench.due(loop + " told", Bench.told(x), "8 -2 1 0 0 1");
            Bench.due(loop + " frames", x.record(7), 30);
        }
        // One frame fewer, and there is room.
        ErrorNames y = ranDeep(28, STOPPED_AT_THE_END, "7", "1 P2 repeat", "7");
        Bench.due("frames", y.record(7), 30);
        ranDeep(28, STOPPED_AT_THE_END, "1 7", "1 1 1 P2 for", "7");
        // A loop that has no TURN needs none.
        ranDeep(29, STOPPED_AT_THE_END, "", "0 P2 repeat", "7");
        ranDeep(29, STOPPED_AT_THE_END, "", "2 1 1 P2 for", "7");
        // The number of a TURN without room does not come, not even for the handler.
        ErrorNames z = Bench.deep(29, "5 1 5 P2 for 8", "", "8 P2 handle");
        Bench.due("handler", z.run(3, 10), 0);
        Bench.due("29 frames and two are too many", z.run(19, 5000), 8);
        Bench.due("pile", Bench.pile(z), "");
    }

    private static void theTokenIsGoneBy() {
        Bench.says("the token is gone by");
        ErrorNames x = Bench.with("2 P1 handle", "pop", "7 8");
        Bench.due("handler", x.run(0, 10), 0);
        Bench.fill(x, 60);
        Bench.due("run", x.run(2, 20), 0);
        Bench.due("8 alone came", x.size() + ": " + x.value(58, 1) + ", " + topmost(x), "60: 58, 0 8");
        // An operator is gone by, too.
        ran(0, "5 0 9 8", "6 P1 handle 5 0 div 8", "9");
    }

    private static void theLoopHasGone() {
        Bench.says("the loop, or STOPPED, has gone before the error arises");
        ErrorNames x = Bench.with("2 P1 handle", "pop", "1 1 9 P3 for 8", "");
        Bench.due("handler", x.run(0, 20), 0);
        Bench.fill(x, 56);
        Bench.due("run", x.run(2, 50), 0);
        Bench.due("the loop goes on no more", x.size() + ": " + x.value(58, 1) + ", " + topmost(x), "60: 3, 0 8");
        // The room that it took is free for the handler.
        ErrorNames y = Bench.deep(27, "P3 exec 6", "7", "1 1 3 P4 for 8", "", "2 P6 handle", "pop pop pop pop");
        Bench.due("handler", y.run(5, 20), 0);
        Bench.fill(y, 55);
        Bench.due("run", y.run(19, 5000), STOPPED_AT_THE_END);
        Bench.due("frames", y.record(7) + " " + y.record(8), "30 0");
        y.drop();
        Bench.fill(y, 56);
        Bench.load(y, 3, "1 1 5 P4 for 8");
        Bench.due("run", y.run(19, 5000), STOPPED_AT_THE_END);
        Bench.due("28 frames and two", y.record(7) + " " + y.record(8), "30 1");
        Bench.due("size", y.size() + ": " + topmost(y), "58: 0 6");
    }

    private static void stoppedHasGone() {
        Bench.says("the loop, or STOPPED, has gone before the error arises");
        // So the error goes to the next STOPPED below.
        ErrorNames x = Bench.with("P1 stopped", "P2 stopped 8", "7");
        Bench.fill(x, 59);
        Bench.due("run", x.run(0, 50), 0);
        Bench.due("TRUTH 1 in place of 7", x.size() + ": " + topmost(x), "60: 1 1");
        Bench.due("told", Bench.told(x), "2 -3 1 0 60 1");
        // And a HANDLING that lay below it is found.
        ErrorNames y = Bench.with("6 P1 handle", "P2 stopped", "7", "0 div");
        Bench.due("handler", y.run(0, 10), 0);
        Bench.fill(y, 58);
        Bench.due("run", y.run(3, 50), 2);
        Bench.due("told", Bench.told(y), "2 -3 1 6 60 2");
    }

    private static void thePileIsAsBefore() {
        Bench.says("An ERROR arises: the pile is as before the step");
        ran(6, "9 5 0", "9 5 0 div");
        ran(3, "9 5 T0", "9 5 T0 add");
        ran(4, "1 0 3 P1", "1 0 3 P1 for");
        ran(5, "K1", "K1 exec");
        ran(1, "M", "M swap");
        // The handler finds it so.
        ran(0, "9 5 1", "6 P1 handle 9 5 0 div", "pop 1");
        // And the table and handlers are as before it.
        ErrorNames x = ran(3, "7 8", "K7 1 def 7 8 def");
        Bench.due("named", x.named(7, 0) + " " + x.named(7, 1), "0 1");
        ErrorNames y = ran(4, "6 5", "6 P3 handle 6 5 handle");
        Bench.due("handler", y.handler(6), 3);
    }

    private static void toldAnew() {
        Bench.says("the RECORD is told anew: the error, its COMMAND (the operator's number), a copy of the pile, "
            + "WITHIN (0), one more in all, and it is NEW");
        ErrorNames x = Bench.with("6 P1 handle 5 0 div", "K7 load", "2 tell pop", "pop");
        Bench.due("run", x.run(0, 20), 5);
        Bench.due("told", Bench.told(x), "5 15 1 6 3 2");
        Bench.due("run", x.run(2, 20), 0);
        Bench.due("told", Bench.told(x), "5 15 0 6 3 2");
        x.drop();
        Bench.due("run", x.run(3, 20), 1);
        Bench.due("nothing is left of the one before", Bench.told(x), "1 7 1 0 0 3");
        Bench.dueThrown("kept", () -> x.kept(0, 0));
    }

    private static void copyOfThePile() {
        Bench.says("a copy of the pile");
        ErrorNames x = Bench.with("7");
        Bench.push(x, "T1 K39 M P19 -2147483648");
        Bench.fill(x, 60);
        String full = Bench.pile(x);
        Bench.due("run", x.run(0, 10), 2);
        x.drop();
        Bench.due("of 60", x.record(4) + " " + Bench.kept(x), "60 " + full);
        ErrorNames y = Bench.with("P1 stopped", "stop");
        Bench.load(y, 2, "5 0 div");
        Bench.load(y, 3, "P2 stopped pop pop pop 9");
        Bench.due("run", y.run(3, 20), 0);
        Bench.due("as it was when the error arose", Bench.kept(y), "5 0");
        Bench.due("what is now", Bench.pile(y), "9");
    }

    private static void handlingDownToStopped() {
        Bench.says("If, from the top down to the first STOPPED frame (or all frames), there is a frame HANDLING");
        // A STOPPED above HANDLING: the error in it has its handler.
        ErrorNames x = ran(0, "5 0 9 T0", "6 P1 handle 7 P2 handle 5 0 div", "P3 stopped", "9", "clearmark");
        Bench.due("told", Bench.told(x), "7 13 1 0 2 2");
        Bench.due("handlers begun", x.record(8), 2);
        // A STOPPED below HANDLING hides nothing.
        ErrorNames y = ran(0, "5 0 T1", "6 P1 handle 7 P2 handle P3 stopped", "clearmark", "9", "5 0 div");
        Bench.due("told", Bench.told(y), "7 13 1 6 2 2");
        Bench.due("handlers begun", y.record(8), 1);
    }

    private static void handlingOfAllFrames() {
        Bench.says("(or all frames)");
        // HANDLING lies under a loop and procedures, on the frame of the run alone.
        ErrorNames x = ran(7, "5 0", "6 P1 handle 7 P4 handle 5 0 div 8", "1 P2 repeat 8", "P3 exec 8", "clearmark",
            "9");
        Bench.due("told", Bench.told(x), "7 13 1 6 2 2");
        Bench.due("handlers begun", x.record(8), 1);
        // Without a HANDLING the handler begins, however many frames there are.
        ErrorNames y = Bench.deep(28, "clearmark 8", "9", "7 P2 handle");
        Bench.due("handler", y.run(3, 10), 0);
        Bench.due("run", y.run(19, 5000), STOPPED_AT_THE_END);
        Bench.due("told", Bench.told(y), "7 13 1 0 0 1");
        Bench.due("pile", Bench.pile(y), "9 8");
    }

    private static void theTopmostHandling() {
        Bench.says("WITHIN is the error that it is of (the topmost such one's), and the DEFAULT is done");
        // HANDLING 6, on it STOPPED, on that HANDLING 7: the third error is WITHIN 7.
        ErrorNames x = ran(0, "5 0 K9 T1", "6 P1 handle 7 P2 handle 5 0 div", "P3 stopped", "K9 load",
            "clearmark");
        Bench.due("told", Bench.told(x), "5 15 1 7 3 3");
        for (int error = 1; error <= 11; error++) {
            if (error != 10) {
                ErrorNames y = Bench.with(error + " P1 handle " + error + " raise", "clearmark");
                Bench.due("run", y.run(0, 20), 7);
                Bench.due("told", Bench.told(y), "7 13 1 " + error + " 1 2");
            }
        }
    }

    private static void theDefaultInAHandler() {
        Bench.says("and the DEFAULT is done");
        // Even with a handler for the second error, and for the same error.
        ErrorNames x = ran(7, "5 0", "6 P1 handle 7 P2 handle 5 0 div 8", "clearmark 9", "10");
        Bench.due("handlers begun", x.record(8), 1);
        ErrorNames y = ran(6, "5 0 4 0", "6 P1 handle 5 0 div 8", "4 0 div 9");
        Bench.due("told", Bench.told(y), "6 3 1 6 4 2");
        Bench.due("handlers begun", y.record(8), 1);
    }

    private static void aHandlerBegins() {
        Bench.says("if the error has a HANDLER, a frame HANDLING it and on that one of the handler's procedure come");
        // The frame that is through stays below: nothing goes first for a handler.
        ErrorNames x = ran(0, "5 0 9", "6 P1 handle 5 0 div", "9");
        Bench.due("latest", Bench.latest(x), "10 3 1");
        ErrorNames none = ran(0, "5 0", "6 P1 handle 5 0 div", "");
        Bench.due("a handler without tokens", Bench.latest(none), "9 3 1");
        ErrorNames y = ran(6, "5 0", "7 P1 handle 5 0 div", "9");
        Bench.due("another error's", Bench.latest(y), "6 1 0");
    }

    private static void noRoomForBoth() {
        Bench.says("(if there is no room for both: the DEFAULT)");
        for (int frame = 27; frame <= 30; frame++) {
            ErrorNames x = Bench.deep(frame, "5 0 div 8", "9", "6 P2 handle");
            Bench.due("handler", x.run(3, 10), 0);
            boolean room = frame <= 28;
            Bench.due("at frame " + frame, x.run(19, 5000), room ? STOPPED_AT_THE_END : 6);
            Bench.due("left", Bench.pile(x), room ? "5 0 9 8" : "5 0");
            Bench.due("told", Bench.told(x), "6 3 1 0 2 1");
            Bench.due("frames, handlers", x.record(7) + " " + x.record(8), room ? frame + 2 + " 1" : frame + " 0");
        }
    }

    private static void stopDownToStopped() {
        Bench.says("STOP goes down to the first STOPPED frame, which goes, too, and TRUTH 1 comes to the pile");
        ran(0, "T1 8 T0 9", "P1 stopped 9", "P2 stopped 8", "P3 exec 7", "P4 loop 7", "stop 7");
        // The second stop finds the second STOPPED: the first has gone.
        ran(0, "T1 T1 9", "P1 stopped 9", "P2 stopped stop 8", "stop");
        ran(0, "5 0 T1 T1 9", "P1 stopped 9", "P2 stopped stop 8", "5 0 div 7");
        ErrorNames x = Bench.with("P1 stopped", "stop");
        Bench.fill(x, 58);
        Bench.due("run", x.run(0, 10), 0);
        Bench.due("no value's place is taken", x.size() + ": " + x.value(57, 1) + ", " + topmost(x), "59: 57, 1 1");
    }

    private static void stopOnAFullPile() {
        Bench.says("in place of the topmost value if it is full");
        ErrorNames x = Bench.with("P1 stopped", "7 stop");
        Bench.fill(x, 59);
        Bench.due("run", x.run(0, 10), 0);
        Bench.due("60", x.size() + ": " + x.value(58, 1) + ", " + topmost(x), "60: 58, 1 1");
        Bench.due("no error", x.record(5), 0);
        ErrorNames y = Bench.with("P1 stopped", "7 stop");
        Bench.fill(y, 58);
        Bench.due("run", y.run(0, 10), 0);
        Bench.due("59 have room", y.size() + ": " + y.value(58, 1) + ", " + topmost(y), "60: 7, 1 1");
        ErrorNames z = Bench.with("P1 stopped", "7 8");
        Bench.fill(z, 59);
        Bench.due("by an error", z.run(0, 10), 0);
        Bench.due("60", z.size() + ": " + z.value(58, 1) + ", " + topmost(z), "60: 58, 1 1");
        Bench.due("the copy is of before", z.kept(59, 0) + " " + z.kept(59, 1), "0 7");
    }

    private static void stopWithoutStopped() {
        Bench.says("without one all frames go, and the run has ended by the error (or, for the operator stop, by 99)");
        ErrorNames x = ran(99, "7", "P1 exec 9", "P2 loop 9", "7 stop 9");
        Bench.due("nothing is recorded", Bench.told(x), "0 -1 0 0 0 0");
        Bench.due("STEPS", x.record(6), 7);
        for (int error = 1; error <= 11; error++) {
            if (error != 10) {
                ErrorNames y = Bench.with("P1 exec 9", error + " raise 9");
                Bench.due("raise " + error, y.run(0, 20), error);
                Bench.due("nothing goes on", Bench.pile(y), "" + error);
            }
        }
        ErrorNames z = Bench.with("P1 stopped stop 9", "");
        Bench.due("a STOPPED that has gone takes none", z.run(0, 20), 99);
        Bench.due("pile", Bench.pile(z), "T0");
        Bench.load(z, 0, "stop");
        Bench.due("nor one of a run before", z.run(0, 20), 99);
    }

    private static void nextOperatorThatIsDue() {
        Bench.says("at the next OPERATOR that is due, in this run or a later one, error 11 arises instead of it "
            + "(its COMMAND is that OPERATOR, which is gone by)");
        for (int operator = 0; operator < 28; operator++) {
            String word = Bench.OPERATORS.get(operator);
            ErrorNames x = Bench.with("11 P1 handle", "9", word + " 8");
            Bench.due("handler", x.run(0, 10), 0);
            x.interrupt();
            // On an empty pile most operators would have an error of their own.
            Bench.due(word, x.run(2, 20), 0);
            Bench.due(word + " left", Bench.pile(x), "9 8");
            Bench.due(word + " told", Bench.told(x), "11 " + operator + " 1 0 0 1");
        }
        // Values, and what loops, STOPPED and HANDLING do, is no OPERATOR.
        ErrorNames y = Bench.with("1 2 3 pop 4");
        y.interrupt();
        Bench.due("run", y.run(0, 20), 11);
        Bench.due("pile", Bench.pile(y), "1 2 3");
    }

    private static void interruptedInALaterRun() {
        Bench.says("in this run or a later one");
        ErrorNames x = Bench.with("7 8", "", "9 pop", "7 8 9 pop");
        x.interrupt();
        Bench.due("no OPERATOR", x.run(0, 20), 0);
        Bench.due("no token", x.run(1, 20), 0);
        Bench.due("none before time is over", x.run(3, 3), 10);
        Bench.due("no error yet", x.record(5), 0);
        Bench.due("a later one", x.run(2, 20), 11);
        Bench.due("pile", Bench.pile(x), "7 8 7 8 9 9");
    }

    private static void interruptedNoMore() {
        Bench.says("then it is INTERRUPTED no more");
        ErrorNames x = Bench.with("11 P1 handle", "count", "count count");
        Bench.due("handler", x.run(0, 10), 0);
        x.interrupt();
        Bench.due("the handler's operators are done", x.run(2, 20), 0);
        Bench.due("pile", Bench.pile(x), "0 1");
        Bench.due("one error", x.record(5), 1);
        Bench.due("interrupt", x.interrupt(), 1);
        // In a handler it is an error as any other.
        ErrorNames y = Bench.with("2 P1 handle 11 P2 handle", "pop", "pop", "7");
        Bench.due("handlers", y.run(0, 10), 0);
        Bench.fill(y, 60);
        y.interrupt();
        Bench.due("instead of the handler's pop", y.run(3, 20), 11);
        Bench.due("told", Bench.told(y), "11 7 1 2 60 2");
        Bench.due("no more", y.interrupt(), 1);
        // An error 11 that an operator makes leaves it as it is.
        ErrorNames z = Bench.with("11 raise");
        Bench.due("raise", z.run(0, 20), 11);
        Bench.due("it was not so", z.interrupt(), 1);
        Bench.due("instead of raise", z.run(0, 20), 11);
        Bench.due("n is there", Bench.told(z), "11 26 1 0 2 2");
    }
}
