import java.util.ArrayList;
import java.util.HashSet;
import java.util.List;
import java.util.Set;

/**
 * A second court, told from the document alone and in another way than GownCourt: lists, whole texts, trying out.
 * Slow, and for comparing only.
 */
final class PlainCourt {
    record Told(int of, int day, int number) { }

    record Token(String text, int place) { }

    record Line(String head, int n, int low, int high, String when, int pence) { }

    static final class Law {
        int day;
        final List<Line> rules = new ArrayList<>();
        Integer seal;
        Integer part;
        final Set<Integer> repeals = new HashSet<>();
    }

    static final class Dress {
        int[] measures;
        int stuff;
        int colour;
        Integer sealed;
    }

    static final class Note {
        int by;
        int accused;
        int gown;
        int day;
        int verdict;
        int pence;
        int share;
    }

    private static final List<String> HEADS = List.of("sleeve", "train", "pearls", "chain", "cost", "stuff", "colour", "must");
    private static final List<String> WHENS = List.of("daily", "feast", "wedding", "always");
    private static final List<List<String>> PATTERNS = patterns();

    final List<Integer> tape = new ArrayList<>();
    final List<Told> ranks = new ArrayList<>();
    final List<Told> feasts = new ArrayList<>();
    final List<Told> weddings = new ArrayList<>();
    final List<Told> likes = new ArrayList<>();
    final List<Dress> gowns = new ArrayList<>();
    final List<Law> laws = new ArrayList<>();
    final List<Note> notes = new ArrayList<>();
    final int[] prices = {1, 1, 1, 1, 1, 1, 1};
    final int[] falsePaid = new int[30];
    int faultKind = 0;
    int faultPlace = -1;

    private static List<List<String>> patterns() {
        List<List<String>> all = new ArrayList<>();
        for (String one : List.of("repeal", "seal", "part")) {
            all.add(List.of(one, "N", ";"));
        }
        for (String head : HEADS) {
            for (String when : WHENS) {
                all.add(List.of(head, "N", "all", when, "fine", "N", ";"));
                all.add(List.of(head, "N", "ranks", "N", "to", "N", when, "fine", "N", ";"));
            }
        }
        return all;
    }

    int feed(int... words) {
        if (tape.size() + 20 > 800) {
            return -3;
        }
        for (int w : words) {
            for (int i = 3; i >= 0; i--) {
                tape.add((w >> (8 * i)) & 255);
            }
        }
        return tape.size();
    }

    int end(int n) {
        if (n < 0 || n > tape.size()) {
            return -1;
        }
        tape.subList(n, tape.size()).clear();
        return n;
    }

    private static boolean in(int low, int n, int high) {
        return low <= n && n <= high;
    }

    private static boolean day(int d) {
        return in(0, d, 9999);
    }

    private static int tell(List<Told> rows, Told row, int mostOfOne) {
        long of = rows.stream().filter(r -> r.of == row.of).count();
        if (of >= mostOfOne) {
            return -3;
        }
        rows.add(row);
        return (int) of + 1;
    }

    int rank(int p, int d, int rank) {
        return in(0, p, 29) && day(d) && in(0, rank, 9) ? tell(ranks, new Told(p, d, rank), 12) : -2;
    }

    int feast(int from, int to) {
        return day(from) && day(to) && from <= to ? tell(feasts, new Told(0, from, to), 20) : -2;
    }

    int wedding(int p, int from, int to) {
        return in(0, p, 29) && day(from) && day(to) && from <= to ? tell(weddings, new Told(p, from, to), 4) : -2;
    }

    /** Goes back day by day; on each the row told last. */
    private static Integer latest(List<Told> rows, int of, int d) {
        for (int back = d; back >= 0; back--) {
            for (int i = rows.size() - 1; i >= 0; i--) {
                if (rows.get(i).of == of && rows.get(i).day == back) {
                    return rows.get(i).number;
                }
            }
        }
        return null;
    }

    private int rankOn(int p, int d) {
        Integer told = latest(ranks, p, d);
        return told == null ? 5 : told;
    }

    private int occasion(int p, int d) {
        if (weddings.stream().anyMatch(w -> w.of == p && in(w.day, d, w.number))) {
            return 2;
        }
        return feasts.stream().anyMatch(f -> in(f.day, d, f.number)) ? 1 : 0;
    }

    int on(int p, int d, int what) {
        if (!in(0, p, 29) || !day(d) || !in(0, what, 1)) {
            return -2;
        }
        return what == 0 ? rankOn(p, d) : occasion(p, d);
    }

    int gown(int[] measures, int stuff, int colour) {
        for (int m : measures) {
            if (!in(0, m, 9999)) {
                return -2;
            }
        }
        if (!in(0, stuff, 15) || !in(0, colour, 7)) {
            return -2;
        }
        if (gowns.size() == 40) {
            return -3;
        }
        Dress dress = new Dress();
        dress.measures = measures.clone();
        dress.stuff = stuff;
        dress.colour = colour;
        gowns.add(dress);
        return gowns.size() - 1;
    }

    private boolean isGown(int g) {
        return in(0, g, gowns.size() - 1);
    }

    int seal(int g, int d) {
        if (!isGown(g) || !day(d)) {
            return -2;
        }
        if (gowns.get(g).sealed != null) {
            return -4;
        }
        gowns.get(g).sealed = d;
        return 1;
    }

    int about(int g, int what) {
        if (!isGown(g) || !in(0, what, 7)) {
            return -1;
        }
        Dress dress = gowns.get(g);
        if (what == 7) {
            return dress.sealed == null ? -1 : dress.sealed;
        }
        return what < 5 ? dress.measures[what] : what == 5 ? dress.stuff : dress.colour;
    }

    int like(int stuff, int as, int d) {
        if (!in(0, stuff, 15) || !in(0, as, stuff - 1) || !day(d)) {
            return -2;
        }
        if (likes.size() == 30) {
            return -3;
        }
        likes.add(new Told(stuff, d, as));
        return likes.size();
    }

    private int countsAs(int stuff, int d) {
        Integer told = latest(likes, stuff, d);
        return told == null ? stuff : countsAs(told, d);
    }

    int counts(int stuff, int d) {
        return in(0, stuff, 15) && day(d) ? countsAs(stuff, d) : -2;
    }

    private List<Token> tokens() {
        List<Token> all = new ArrayList<>();
        StringBuilder text = new StringBuilder();
        tape.forEach(b -> text.append((char) (int) b));
        java.util.regex.Matcher m = java.util.regex.Pattern.compile("[a-z]+|[0-9]+|[^ \\n]", java.util.regex.Pattern.DOTALL).matcher(text);
        while (m.find()) {
            all.add(new Token(m.group(), m.start()));
        }
        return all;
    }

    private static String classOf(Token t) {
        return t.text.matches("[0-9]{1,4}") ? "N" : t.text.matches("[0-9]+") ? "?" : t.text.equals("N") ? "?" : t.text;
    }

    private static boolean viable(List<String> line) {
        return PATTERNS.stream().anyMatch(p -> p.size() >= line.size() && p.subList(0, line.size()).equals(line));
    }

    private int kindOf(Law law, List<Token> line) {
        List<String> classes = new ArrayList<>();
        line.forEach(t -> classes.add(classOf(t)));
        if (!viable(classes)) {
            return 1;
        }
        String head = classes.get(0);
        String last = classes.get(classes.size() - 1);
        if (last.equals("N")) {
            int n = Integer.parseInt(line.get(line.size() - 1).text);
            int low = line.size() == 6 && classes.get(2).equals("ranks") ? Integer.parseInt(line.get(3).text) : 0;
            if (!in(low, n, top(head, classes))) {
                return 2;
            }
            return head.equals("repeal") && law.repeals.contains(n) ? 3 : 0;
        }
        if (line.size() == 1) {
            if (head.equals("seal") && law.seal != null || head.equals("part") && law.part != null) {
                return 3;
            }
            return HEADS.contains(head) && law.rules.size() == 12 ? 4 : 0;
        }
        return 0;
    }

    private int top(String head, List<String> classes) {
        int size = classes.size();
        if (size == 2) {
            switch (head) {
                case "stuff": return 15;
                case "colour": case "must": return 7;
                case "part": return 100;
                case "repeal": return laws.size() - 1;
                default: return 9999;
            }
        }
        return classes.get(2).equals("ranks") && size <= 6 ? 9 : 9999;
    }

    private static void take(Law law, List<Token> line) {
        String head = line.get(0).text;
        int n = Integer.parseInt(line.get(1).text);
        switch (head) {
            case "seal": law.seal = n; return;
            case "part": law.part = n; return;
            case "repeal": law.repeals.add(n); return;
            default: break;
        }
        boolean all = line.get(2).text.equals("all");
        int low = all ? 0 : Integer.parseInt(line.get(3).text);
        int high = all ? 9 : Integer.parseInt(line.get(5).text);
        int size = line.size();
        law.rules.add(new Line(head, n, low, high, line.get(size - 4).text, Integer.parseInt(line.get(size - 2).text)));
    }

    int act(int d) {
        if (!day(d) || !laws.isEmpty() && d < laws.get(laws.size() - 1).day) {
            tape.clear();
            return -2;
        }
        Law law = new Law();
        law.day = d;
        List<Token> line = new ArrayList<>();
        faultKind = 0;
        faultPlace = -1;
        for (Token t : tokens()) {
            line.add(t);
            faultKind = kindOf(law, line);
            if (faultKind != 0) {
                faultPlace = t.place;
                break;
            }
            if (t.text.equals(";")) {
                take(law, line);
                line.clear();
            }
        }
        if (faultKind == 0 && !line.isEmpty()) {
            faultKind = 1;
            faultPlace = tape.size();
        }
        tape.clear();
        if (faultKind != 0) {
            return -1;
        }
        if (laws.size() == 12) {
            return -3;
        }
        laws.add(law);
        return laws.size() - 1;
    }

    int fault(int what) {
        return what == 0 ? faultKind : what == 1 ? faultPlace : -1;
    }

    int told(int a, int what) {
        if (!in(0, a, laws.size() - 1) || !in(0, what, 4)) {
            return -9;
        }
        Law law = laws.get(a);
        int bits = law.repeals.stream().mapToInt(r -> 1 << r).sum();
        int[] answers = {law.day, law.rules.size(), law.seal == null ? 0 : law.seal, law.part == null ? -1 : law.part, bits};
        return answers[what];
    }

    int rule(int a, int r, int what) {
        if (!in(0, a, laws.size() - 1) || !in(0, r, laws.get(a).rules.size() - 1) || !in(0, what, 5)) {
            return -9;
        }
        Line l = laws.get(a).rules.get(r);
        int[] answers = {HEADS.indexOf(l.head), l.n, l.low, l.high, WHENS.indexOf(l.when), l.pence};
        return answers[what];
    }

    private boolean inForce(int a, int d) {
        return laws.get(a).day <= d && laws.stream().noneMatch(l -> l.day <= d && l.repeals.contains(a));
    }

    int force(int d) {
        if (!day(d)) {
            return -2;
        }
        int bits = 0;
        for (int a = 0; a < laws.size(); a++) {
            bits += inForce(a, d) ? 1 << a : 0;
        }
        return bits;
    }

    private boolean breaks(Law law, Line l, int rank, int occasion, Dress g, int d) {
        if (!in(l.low, rank, l.high) || !l.when.equals("always") && WHENS.indexOf(l.when) != occasion) {
            return false;
        }
        int seal = law.seal == null ? 0 : law.seal;
        if (g.sealed != null && g.sealed < law.day && d < law.day + seal) {
            return false;
        }
        switch (l.head) {
            case "stuff": return countsAs(g.stuff, d) == l.n;
            case "colour": return g.colour == l.n;
            case "must": return g.colour != l.n;
            default: return g.measures[HEADS.indexOf(l.head)] > l.n;
        }
    }

    private List<Line> allBroken(int rank, int occasion, Dress g, int d) {
        List<Line> all = new ArrayList<>();
        for (int a = 0; a < laws.size(); a++) {
            for (Line l : laws.get(a).rules) {
                if (inForce(a, d) && breaks(laws.get(a), l, rank, occasion, g, d)) {
                    all.add(l);
                }
            }
        }
        return all;
    }

    private boolean can(int p, int g, int d) {
        return in(0, p, 29) && isGown(g) && day(d);
    }

    private int convictions(int p) {
        return (int) notes.stream().filter(n -> n.verdict == 1 && n.accused == p).count();
    }

    int fine(int p, int g, int d) {
        if (!can(p, g, d)) {
            return -2;
        }
        int sum = allBroken(rankOn(p, d), occasion(p, d), gowns.get(g), d).stream().mapToInt(Line::pence).sum();
        return sum * Math.min(5, 1 + convictions(p));
    }

    int broken(int p, int g, int d, int a) {
        if (!can(p, g, d) || !in(0, a, laws.size() - 1)) {
            return -2;
        }
        int bits = 0;
        Law law = laws.get(a);
        for (int r = 0; r < law.rules.size(); r++) {
            boolean is = inForce(a, d) && breaks(law, law.rules.get(r), rankOn(p, d), occasion(p, d), gowns.get(g), d);
            bits += is ? 1 << r : 0;
        }
        return bits;
    }

    int letter(int by, int p, int g, int d) {
        if (!can(p, g, d) || !in(0, by, 29) || by == p) {
            return -2;
        }
        if (notes.size() == 60) {
            return -3;
        }
        Note note = new Note();
        note.by = by;
        note.accused = p;
        note.gown = g;
        note.day = d;
        notes.add(note);
        return notes.size() - 1;
    }

    int judge(int k) {
        if (!in(0, k, notes.size() - 1)) {
            return -2;
        }
        Note n = notes.get(k);
        if (n.verdict != 0) {
            return -4;
        }
        int pence = fine(n.accused, n.gown, n.day);
        if (notes.stream().anyMatch(o -> o.verdict == 1 && o.accused == n.accused && o.gown == n.gown && o.day == n.day)) {
            n.verdict = 3;
        } else if (pence > 0) {
            n.verdict = 1;
            n.pence = pence;
            int part = 0;
            for (int a = 0; a < laws.size(); a++) {
                part = inForce(a, n.day) && laws.get(a).part != null ? laws.get(a).part : part;
            }
            n.share = (int) Math.floor(pence * (double) part / 100 + 1e-9);
        } else {
            n.verdict = 2;
            falsePaid[n.by] += 50;
        }
        return n.verdict;
    }

    int lettered(int k, int what) {
        if (!in(0, k, notes.size() - 1) || !in(0, what, 6)) {
            return -9;
        }
        Note n = notes.get(k);
        int[] answers = {n.by, n.accused, n.gown, n.day, n.verdict, n.pence, n.share};
        return answers[what];
    }

    int person(int p, int what) {
        if (!in(0, p, 29) || !in(0, what, 2)) {
            return -2;
        }
        if (what == 0) {
            return convictions(p);
        }
        return what == 2 ? notes.stream().filter(n -> n.by == p).mapToInt(n -> n.share).sum()
            : falsePaid[p] + notes.stream().filter(n -> n.accused == p).mapToInt(n -> n.pence).sum();
    }

    int price(int k, int pence) {
        if (!in(0, k, 6) || !in(0, pence, 999)) {
            return -2;
        }
        int was = prices[k];
        prices[k] = pence;
        return was;
    }

    /** Tries each stuff and each colour, and lowers a measure as long as a rule of it is broken. */
    int alter(int p, int g, int d) {
        if (!can(p, g, d)) {
            return -2;
        }
        int rank = rankOn(p, d);
        int occasion = occasion(p, d);
        Dress old = gowns.get(g);
        int least = -1;
        for (int stuff = 0; stuff < 16; stuff++) {
            for (int colour = 0; colour < 8; colour++) {
                Dress changed = new Dress();
                changed.measures = old.measures.clone();
                changed.sealed = old.sealed;
                changed.stuff = stuff;
                changed.colour = colour;
                int cost = (stuff == old.stuff ? 0 : prices[5]) + (colour == old.colour ? 0 : prices[6]);
                List<Line> still = allBroken(rank, occasion, changed, d);
                while (!still.isEmpty() && HEADS.indexOf(still.get(0).head) < 5) {
                    int m = HEADS.indexOf(still.get(0).head);
                    cost += prices[m] * (changed.measures[m] - still.get(0).n);
                    changed.measures[m] = still.get(0).n;
                    still = allBroken(rank, occasion, changed, d);
                }
                if (still.isEmpty() && (least == -1 || cost < least)) {
                    least = cost;
                }
            }
        }
        return least;
    }

    int best(int p, int g, int d) {
        int pence = fine(p, g, d);
        if (pence <= 0) {
            return pence;
        }
        int cost = alter(p, g, d);
        return cost >= 0 && cost <= pence ? 1 : 2;
    }

    int worn(int g, int rank, int from, int to, int what) {
        if (!isGown(g) || !in(0, rank, 9) || !day(from) || !day(to) || from > to || to - from + 1 > 500 || !in(0, what, 2)) {
            return -2;
        }
        List<Integer> days = new ArrayList<>();
        for (int d = from; d <= to; d++) {
            if (allBroken(rank, 0, gowns.get(g), d).isEmpty()) {
                days.add(d);
            }
        }
        return what == 0 ? days.size() : days.isEmpty() ? -1 : what == 1 ? days.get(0) : days.get(days.size() - 1);
    }

    int count(int what) {
        int chest = notes.stream().mapToInt(n -> n.pence - n.share).sum() + java.util.Arrays.stream(falsePaid).sum();
        int[] answers = {laws.size(), gowns.size(), notes.size(), chest, likes.size(), feasts.size(), tape.size()};
        return in(0, what, 6) ? answers[what] : -1;
    }
}
