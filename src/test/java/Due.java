import java.nio.charset.StandardCharsets;
import java.util.Arrays;
import java.util.function.IntUnaryOperator;

/** Counts the answers that are not as due, and puts texts on the tape. */
final class Due {
    private int calls = 0;
    private int wrong = 0;
    private String sentence = "";

    /** The sentence of the document that the answers from here on are about. */
    void of(String sentence) {
        this.sentence = "\"" + sentence + "\": ";
    }

    void due(String call, int got, int want) {
        calls++;
        if (got != want) {
            wrong++;
            System.out.println(sentence + call + " answered " + got + ", due is " + want);
        }
    }

    /** A number is taken from low to high; one below, one above and the ends of int are refused. */
    void bounds(String call, int low, int high, int refusal, IntUnaryOperator answer) {
        int[] outside = {low - 1, high + 1, Integer.MIN_VALUE, Integer.MAX_VALUE};
        for (int n : outside) {
            due(call + " of " + n, answer.applyAsInt(n), refusal);
        }
        takes(call, low, answer);
        takes(call, high, answer);
    }

    private void takes(String call, int n, IntUnaryOperator answer) {
        int got = answer.applyAsInt(n);
        due(call + " of " + n + " is taken, " + got, got >= 0 ? 1 : 0, 1);
    }

    /** Puts a text (signs 0 to 255) behind what the tape has. */
    static void tell(GownCourt x, String text) {
        tell(x, text.getBytes(StandardCharsets.ISO_8859_1));
    }

    static void tell(GownCourt x, byte[] bytes) {
        int before = x.count(6);
        for (int at = 0; at < bytes.length; at += 20) {
            byte[] row = Arrays.copyOfRange(bytes, at, at + 20);
            x.feed(word(row, 0), word(row, 4), word(row, 8), word(row, 12), word(row, 16));
        }
        x.end(before + bytes.length);
    }

    private static int word(byte[] row, int at) {
        return (row[at] & 255) << 24 | (row[at + 1] & 255) << 16 | (row[at + 2] & 255) << 8 | (row[at + 3] & 255);
    }

    static int act(GownCourt x, int day, String text) {
        tell(x, text);
        return x.act(day);
    }

    /** A text is an act with this number. */
    void stands(GownCourt x, int day, String text, int number) {
        due("act(" + day + ") of '" + text + "'", act(x, day, text), number);
        due("fault(0) behind '" + text + "'", x.fault(0), 0);
        due("fault(1) behind '" + text + "'", x.fault(1), -1);
    }

    /** A text is an act of a new court. */
    void good(String text) {
        stands(new GownCourt(), 0, text, 0);
    }

    /** A text has a fault; the tape is empty then. */
    void faulty(GownCourt x, int day, String text, int kind, int place) {
        int acts = x.count(0);
        due("act(" + day + ") of '" + text + "'", act(x, day, text), -1);
        due("fault(0) behind '" + text + "'", x.fault(0), kind);
        due("fault(1) behind '" + text + "'", x.fault(1), place);
        due("count(6) behind '" + text + "'", x.count(6), 0);
        due("count(0) behind '" + text + "'", x.count(0), acts);
    }

    /** A text has a fault in a new court. */
    void bad(String text, int kind, int place) {
        faulty(new GownCourt(), 0, text, kind, place);
    }

    void close() {
        System.out.println(calls + " answers, " + wrong + " not as due");
        if (wrong != 0 || calls == 0) {
            System.exit(1);
        }
    }
}
