import java.nio.charset.StandardCharsets;
import java.util.Arrays;
import java.util.Random;

/** Runs of calls by a fixed seed, on GownCourt and on PlainCourt, whose answers must be the same. */
public final class RandomRunsTest {
    private static final Due D = new Due();
    private static final int RUNS = 200;
    // An object is used for 512 calls, and the last text of a run may need some fifty.
    private static final int CALLS = 460;
    private static final int FILLING = 330;
    private static final int[] FILLERS = {0, 1, 2, 4, 5, 5, 6, 8, 15, 16, 16, 17};
    private static final String[] HEADS = {"sleeve", "train", "pearls", "chain", "cost", "stuff", "colour", "must"};
    private static final String[] WHENS = {"daily", "feast", "wedding", "always", "always"};
    private static final String[] STRAY = {";", " ", "all", "fine", "to", "ranks", "7", "12345", "10000", "seal", "part", "repeal 0;",
        "seal 3;", "part 20;", "x", "\u00e9", "\0", "16", "101", "cost"};

    private final Random random;
    private final GownCourt x = new GownCourt();
    private final PlainCourt y = new PlainCourt();
    // Few days and people make the runs meet themselves; some runs have many.
    private final int days;
    private final int people;
    private int calls = 0;
    private int firstDay = 0;

    private RandomRunsTest(int seed) {
        random = new Random(seed);
        days = seed % 4 == 0 ? 10000 : seed % 4 == 1 ? 12 : 60;
        people = seed % 3 == 0 ? 30 : 3;
    }

    public static void main(String[] args) {
        for (int seed = 0; seed < RUNS; seed++) {
            new RandomRunsTest(seed).run(seed);
        }
        D.close();
    }

    private void run(int seed) {
        boolean fills = seed % 5 == 0;
        while (calls < CALLS) {
            int kind = fills && calls < FILLING ? FILLERS[random.nextInt(FILLERS.length)] : random.nextInt(34);
            if (kind >= 28) {
                tellAct();
            } else if (calls > 150 || kind < 16 || random.nextBoolean()) {
                one(kind);
            }
        }
    }

    /** A number below n, seldom one at or beyond the edges. */
    private int below(int n) {
        int odd = random.nextInt(60);
        if (odd == 0) {
            return n;
        }
        if (odd == 1) {
            return -1;
        }
        if (odd == 2 && random.nextInt(10) == 0) {
            return random.nextInt();
        }
        return n <= 0 ? 0 : odd == 3 ? n - 1 : odd == 4 ? 0 : random.nextInt(n);
    }

    private int day() {
        return below(random.nextInt(20) == 0 ? 10000 : days);
    }

    private int measure() {
        return below(random.nextInt(4) == 0 ? 10000 : 20);
    }

    private int person() {
        return below(random.nextInt(20) == 0 ? 30 : people);
    }

    private int gown() {
        return below(y.count(1));
    }

    private void same(String call, int got, int want) {
        calls++;
        D.due(call, got, want);
    }

    private void one(int kind) {
        int p = person();
        int q = person();
        int g = gown();
        int d = day();
        int e = random.nextInt(5) == 0 ? day() : d + random.nextInt(20);
        int w = below(8);
        int a = below(y.count(0));
        int k = below(y.count(2));
        String of = " of " + p + ", " + q + ", " + g + ", " + d + ", " + e + ", " + w + ", " + a + ", " + k;
        switch (kind) {
            case 0: int r = below(10); same("rank" + of, x.rank(p, d, r), y.rank(p, d, r)); break;
            case 1: same("feast" + of, x.feast(d, e), y.feast(d, e)); break;
            case 2: same("wedding" + of, x.wedding(p, d, e), y.wedding(p, d, e)); break;
            case 3: same("on" + of, x.on(p, d, w & 1), y.on(p, d, w & 1)); same("on" + of, x.on(p, d, w), y.on(p, d, w)); break;
            case 4: case 5: newGown(); break;
            case 6: same("seal" + of, x.seal(g, d), y.seal(g, d)); break;
            case 7: same("about" + of, x.about(g, w), y.about(g, w)); break;
            case 8: int s = below(16); int as = below(s); same("like" + of, x.like(s, as, d), y.like(s, as, d)); break;
            case 9: int t = below(16); same("counts" + of, x.counts(t, d), y.counts(t, d)); break;
            case 10: same("fault" + of, x.fault(w - 3), y.fault(w - 3)); break;
            case 11: same("told" + of, x.told(a, w - 1), y.told(a, w - 1)); break;
            case 12: int rr = below(6); same("rule" + of, x.rule(a, rr, w - 1), y.rule(a, rr, w - 1)); break;
            case 13: same("force" + of, x.force(d), y.force(d)); break;
            case 14: int pence = below(random.nextInt(3) == 0 ? 1000 : 4); same("price" + of, x.price(w, pence), y.price(w, pence)); break;
            case 15: case 16: same("letter" + of, x.letter(q, p, g, d), y.letter(q, p, g, d)); break;
            case 17: case 18: same("judge" + of, x.judge(k), y.judge(k)); break;
            case 19: same("lettered" + of, x.lettered(k, w), y.lettered(k, w)); break;
            case 20: same("person" + of, x.person(p, w - 2), y.person(p, w - 2)); break;
            case 21: case 22: same("fine" + of, x.fine(p, g, d), y.fine(p, g, d)); break;
            case 23: same("broken" + of, x.broken(p, g, d, a), y.broken(p, g, d, a)); break;
            case 24: same("alter" + of, x.alter(p, g, d), y.alter(p, g, d)); break;
            case 25: same("best" + of, x.best(p, g, d), y.best(p, g, d)); break;
            case 26: wornOn(g, d); break;
            default: same("count" + of, x.count(w), y.count(w)); break;
        }
    }

    private void wornOn(int g, int from) {
        int rank = below(10);
        int to = from + below(random.nextInt(8) == 0 ? 501 : 30);
        int what = below(3);
        same("worn of " + g + ", " + rank + ", " + from + ", " + to + ", " + what,
            x.worn(g, rank, from, to, what), y.worn(g, rank, from, to, what));
    }

    private void newGown() {
        int[] m = {measure(), measure(), measure(), measure(), measure()};
        int stuff = below(16);
        int colour = below(8);
        same("gown", x.gown(m[0], m[1], m[2], m[3], m[4], stuff, colour), y.gown(m, stuff, colour));
    }

    private void tellAct() {
        StringBuilder text = new StringBuilder();
        int lines = random.nextInt(30) == 0 ? 14 : random.nextInt(5);
        for (int i = 0; i < lines; i++) {
            text.append(line()).append(random.nextInt(3) == 0 ? "\n" : "");
        }
        if (random.nextInt(4) == 0) {
            int at = random.nextInt(text.length() + 1);
            text.insert(at, STRAY[random.nextInt(STRAY.length)]);
        }
        if (random.nextInt(8) == 0) {
            text.setLength(random.nextInt(text.length() + 1));
        }
        give(text.toString());
        int d = random.nextInt(6) == 0 ? day() : firstDay + random.nextInt(Math.max(1, days / 8));
        same("act(" + d + ") of " + text, x.act(d), y.act(d));
        firstDay = Math.max(firstDay, Math.min(y.told(y.count(0) - 1, 0), 9999));
        same("count(6) behind " + text, x.count(6), y.count(6));
        same("fault(0) of " + text, x.fault(0), y.fault(0));
        same("fault(1) of " + text, x.fault(1), y.fault(1));
    }

    private void give(String text) {
        byte[] bytes = text.getBytes(StandardCharsets.ISO_8859_1);
        int before = y.tape.size();
        for (int at = 0; at < bytes.length; at += 20) {
            byte[] row = Arrays.copyOfRange(bytes, at, at + 20);
            int[] w = new int[5];
            for (int i = 0; i < 20; i++) {
                w[i / 4] = w[i / 4] << 8 | row[i] & 255;
            }
            same("feed", x.feed(w[0], w[1], w[2], w[3], w[4]), y.feed(w));
        }
        int n = before + bytes.length + (random.nextInt(40) == 0 ? random.nextInt(5) - 2 : 0);
        same("end(" + n + ")", x.end(n), y.end(n));
    }

    private String gap() {
        return random.nextInt(12) == 0 ? "\n  " : " ";
    }

    private String line() {
        int odd = random.nextInt(14);
        if (odd < 3) {
            int acts = y.count(0);
            int n = odd == 0 ? below(acts) : odd == 1 ? below(days) : below(101);
            return (odd == 0 ? "repeal " : odd == 1 ? "seal " : "part ") + Math.abs(n % 10000) + ";";
        }
        int head = random.nextInt(8);
        int top = head == 5 ? 16 : head > 5 ? 8 : random.nextInt(4) == 0 ? 10000 : 20;
        int low = below(10);
        String who = random.nextBoolean() ? "all" : "ranks" + gap() + Math.abs(low % 100) + gap() + "to" + gap() + Math.abs((low + below(5)) % 100);
        int pence = random.nextInt(4) == 0 ? below(10000) : below(30);
        return HEADS[head] + gap() + Math.abs(below(top) % 100000) + gap() + who + gap() + WHENS[random.nextInt(5)] + gap()
            + "fine" + gap() + Math.abs(pence % 100000) + (random.nextInt(10) == 0 ? " ;" : ";");
    }
}
