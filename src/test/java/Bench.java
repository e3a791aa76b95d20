import java.util.Arrays;
import java.util.List;

/**
 * What the tests share: procedures and piles written as texts, and the count of wrong answers.
 *
 * <p>A text has a word a value: 7 a NUMBER, T0 and T1 TRUTHS, K5 a NAME, M a MARK, P3 a PROCEDURE; in a procedure
 * also the operators, by the names below.
 */
final class Bench {
    static final List<String> OPERATORS = Arrays.asList(
        "add", "sub", "mul", "div", "same", "less", "not", "pop", "dup", "swap", "pick", "count",
        "countmark", "clearmark", "def", "load", "exec", "if", "ifelse", "repeat", "for", "loop",
        "exit", "stop", "stopped", "handle", "raise", "tell");
    static final int THROWN = Integer.MIN_VALUE + 77;

    private static final String KINDS = "NTKMP";
    private static int wrong = 0;
    private static String sentence = "";

    private Bench() {
    }

    /** A call that may throw the exception that the document names. */
    interface Call {
        int answer();
    }

    /** The document's words that the answers from here on are due by. */
    static void says(String words) {
        sentence = "'" + words + "': ";
    }

    static void due(String what, Object got, Object want) {
        if (!got.equals(want)) {
            wrong++;
            System.out.println(sentence + what + " answered " + got + ", due is " + want);
        }
    }

    static void dueThrown(String what, Call call) {
        due(what, outcome(call), THROWN);
    }

    static int outcome(Call call) {
        try {
            return call.answer();
        } catch (IndexOutOfBoundsException e) {
            // The machine's own exceptions are of classes below this one.
            due("the exception's class", e.getClass(), IndexOutOfBoundsException.class);
            return THROWN;
        }
    }

    static void end(String test) {
        System.out.println(test + ": " + (wrong == 0 ? "all answers are as due" : wrong + " answers are not as due"));
        if (wrong != 0) {
            System.exit(1);
        }
    }

    /** A machine with these procedures, from 0 on. */
    static ErrorNames with(String... procedures) {
        ErrorNames x = new ErrorNames();
        for (int i = 0; i < procedures.length; i++) {
            load(x, i, procedures[i]);
        }
        return x;
    }

    static void load(ErrorNames x, int procedure, String text) {
        x.clear(procedure);
        int many = 0;
        for (String word : words(text)) {
            many++;
            due("token " + word, x.token(procedure, kindOf(word), numberOf(word)), many);
        }
    }

    /**
     * A machine whose procedure 19 comes, over frames of procedure 0, to a frame of procedure 1 that is the frame of
     * this number; behind procedure 1 there is a stop.
     */
    static ErrorNames deep(int frame, String... fromOneOn) {
        ErrorNames x = with("K0 K0 load 1 add def K0 load " + frame + " less P0 P1 ifelse stop");
        load(x, 19, "K0 1 def P0 exec");
        for (int i = 0; i < fromOneOn.length; i++) {
            load(x, i + 1, fromOneOn[i]);
        }
        return x;
    }

    static void fill(ErrorNames x, int many) {
        for (int i = x.size(); i < many; i++) {
            x.push(0, i);
        }
    }

    static void push(ErrorNames x, String text) {
        for (String word : words(text)) {
            due("push " + word, x.push(kindOf(word), numberOf(word)), x.size());
        }
    }

    static String pile(ErrorNames x) {
        StringBuilder text = new StringBuilder();
        int many = x.size();
        for (int i = 0; i < many; i++) {
            text.append(i == 0 ? "" : " ").append(word(x.value(i, 0), x.value(i, 1)));
        }
        return text.toString();
    }

    static String kept(ErrorNames x) {
        StringBuilder text = new StringBuilder();
        int many = x.record(4);
        for (int i = 0; i < many; i++) {
            text.append(i == 0 ? "" : " ").append(word(x.kept(i, 0), x.kept(i, 1)));
        }
        return text.toString();
    }

    /** The error, COMMAND, NEW, WITHIN, how many values, how many errors. */
    static String told(ErrorNames x) {
        return x.record(0) + " " + x.record(1) + " " + x.record(2) + " " + x.record(3) + " " + x.record(4) + " "
            + x.record(5);
    }

    /** STEPS, frames at most, handlers begun. */
    static String latest(ErrorNames x) {
        return x.record(6) + " " + x.record(7) + " " + x.record(8);
    }

    private static String word(int kind, int number) {
        if (kind == 0) {
            return "" + number;
        }
        return kind == 3 && number == 0 ? "M" : "" + KINDS.charAt(kind) + number;
    }

    private static String[] words(String text) {
        return text.isEmpty() ? new String[0] : text.split(" ");
    }

    static int kindOf(String word) {
        if (OPERATORS.contains(word)) {
            return 5;
        }
        return Math.max(0, KINDS.indexOf(word.charAt(0)));
    }

    static int numberOf(String word) {
        if (OPERATORS.contains(word)) {
            return OPERATORS.indexOf(word);
        }
        if (word.equals("M")) {
            return 0;
        }
        return Integer.parseInt(kindOf(word) == 0 ? word : word.substring(1));
    }
}
