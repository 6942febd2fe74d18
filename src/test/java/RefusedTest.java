import java.util.ArrayList;
import java.util.Arrays;
import java.util.List;
import java.util.function.Consumer;
import java.util.function.ToIntFunction;

/**
 * A refused call changes nothing but what the document says, and a call that only asks changes nothing at all:
 * of two courts that were told the same, one has such a call more, and all that can be asked of both is the same then.
 */
public final class RefusedTest {
    private static final Due D = new Due();
    private static final int LEAST = Integer.MIN_VALUE;
    private static final int MOST = Integer.MAX_VALUE;
    private static final String LINE = "sleeve 3 ranks 2 to 8 always fine 20;";

    public static void main(String[] args) {
        List<Consumer<GownCourt>> states = List.of(RefusedTest::nothing, RefusedTest::some, RefusedTest::full);
        for (Consumer<GownCourt> state : states) {
            peopleOutOfRange(state);
            gownsOutOfRange(state);
            actsOutOfRange(state);
            lettersOutOfRange(state);
            pricesAndDaysOutOfRange(state);
            noSuchWhat(state);
        }
        noneThereYet();
        noRoom();
        notAsThingsAre();
        actsThatAreNone();
        askingChangesNothing();
        D.close();
    }

    // ---- states

    private static void nothing(GownCourt x) {
        D.due("nothing was told", x.count(1), 0);
    }

    /** Some of everything, a fault behind it, and a text on the tape. */
    private static void some(GownCourt x) {
        x.rank(0, 40, 2);
        x.rank(29, 60, 9);
        x.feast(45, 55);
        x.wedding(0, 50, 60);
        x.gown(5, 6, 7, 8, 9, 15, 7);
        x.gown(4, 3, 2, 1, 0, 1, 0);
        x.seal(0, 30);
        x.like(15, 7, 40);
        x.like(7, 1, 60);
        Due.act(x, 35, LINE + "stuff 7 all feast fine 30;part 33;seal 4;");
        Due.act(x, 50, "repeal 0;must 3 all always fine 7;sleeve 2 all always fine 5;");
        Due.act(x, 50, "seal 1; seal 2;");
        x.letter(0, 29, 0, 50);
        x.letter(1, 29, 0, 50);
        x.letter(1, 0, 1, 20);
        x.letter(2, 0, 1, 20);
        x.judge(0);
        x.judge(1);
        x.judge(2);
        x.price(0, 3);
        x.price(5, 40);
        x.price(6, 999);
        Due.tell(x, "seal 77;part 66;repeal 1;" + LINE);
    }

    /** All that has a limit is full: one of the people, feasts, gowns, likes, acts, letters and the tape. */
    private static void full(GownCourt x) {
        for (int i = 0; i < 12; i++) {
            x.rank(0, 10 * i, i % 10);
            Due.act(x, 4 * i, i % 2 == 0 ? "" : "seal " + i + ";");
        }
        for (int i = 0; i < 4; i++) {
            x.wedding(0, 20 * i, 20 * i + 5);
        }
        for (int i = 0; i < 20; i++) {
            x.feast(7 * i, 7 * i + 1);
        }
        for (int i = 0; i < 30; i++) {
            x.like(1 + i % 15, i % 15 / 2, i);
        }
        for (int i = 0; i < 40; i++) {
            x.gown(i, i + 1, i + 2, i + 3, i + 4, i % 16, i % 8);
            x.feed(0x20202020, 0x20202020, 0x20202020, 0x20202020, 0x2020207A);
        }
        for (int i = 0; i < 60; i++) {
            x.letter(i % 29, 29, i % 40, i);
        }
        x.judge(59);
    }

    // ---- all that can be asked

    /** Some 200 answers; the last ones change the court, and so tell what can't be asked. */
    private static int[] look(GownCourt x) {
        Answers all = new Answers();
        for (int what = 0; what < 7; what++) {
            all.add(x.count(what));
        }
        all.add(x.fault(0));
        all.add(x.fault(1));
        lookAtPeople(x, all);
        lookAtGowns(x, all);
        lookAtActs(x, all);
        lookAtLetters(x, all);
        lookByChanging(x, all);
        return all.numbers();
    }

    private static void lookAtPeople(GownCourt x, Answers all) {
        int[] people = {0, 1, 29};
        int[] days = {0, 40, 55, 9999};
        for (int p : people) {
            for (int what = 0; what < 3; what++) {
                all.add(x.person(p, what));
            }
            for (int day : days) {
                all.add(x.on(p, day, 0));
                all.add(x.on(p, day, 1));
            }
        }
    }

    private static void lookAtGowns(GownCourt x, Answers all) {
        int[] gowns = {0, 1, 39};
        int[] days = {0, 50, 9999};
        for (int g : gowns) {
            for (int what = 0; what < 8; what++) {
                all.add(x.about(g, what));
            }
            for (int day : days) {
                all.add(x.fine(0, g, day));
                all.add(x.alter(0, g, day));
                all.add(x.best(29, g, day));
            }
        }
        for (int day : days) {
            all.add(x.counts(15, day));
            all.add(x.counts(7, day));
            all.add(x.counts(1, day));
        }
        all.add(x.worn(0, 5, 0, 99, 0));
    }

    private static void lookAtActs(GownCourt x, Answers all) {
        int[] acts = {0, 1, 11};
        for (int a : acts) {
            for (int what = 0; what < 5; what++) {
                all.add(x.told(a, what));
            }
            for (int what = 0; what < 6; what++) {
                all.add(x.rule(a, 0, what));
            }
            all.add(x.rule(a, 1, 1));
        }
        all.add(x.force(0));
        all.add(x.force(40));
        all.add(x.force(9999));
    }

    private static void lookAtLetters(GownCourt x, Answers all) {
        int[] letters = {0, 1, 3, 59};
        for (int k : letters) {
            for (int what = 0; what < 7; what++) {
                all.add(x.lettered(k, what));
            }
        }
    }

    /** The numbers of changes and weddings, the prices, the room that is left and what the tape has. */
    private static void lookByChanging(GownCourt x, Answers all) {
        int[] people = {0, 1, 29};
        for (int p : people) {
            all.add(x.rank(p, 9999, 0));
            all.add(x.wedding(p, 9999, 9999));
        }
        for (int k = 0; k < 7; k++) {
            all.add(x.price(k, 1));
        }
        all.add(x.gown(0, 0, 0, 0, 0, 0, 0));
        all.add(x.letter(0, 1, 0, 9999));
        all.add(x.judge(3));
        all.add(x.act(9998));
        all.add(x.fault(0));
        all.add(x.fault(1));
        for (int what = 0; what < 5; what++) {
            all.add(x.told(x.count(0) - 1, what));
        }
        all.add(x.rule(x.count(0) - 1, 0, 5));
    }

    private static final class Answers {
        private final List<Integer> all = new ArrayList<>();

        void add(int answer) {
            all.add(answer);
        }

        int[] numbers() {
            return all.stream().mapToInt(Integer::intValue).toArray();
        }
    }

    // ---- twins

    private static void refused(String call, Consumer<GownCourt> state, int want, ToIntFunction<GownCourt> asked) {
        leaves(call, state, want, asked, x -> { });
    }

    /** A call leaves a court as another is that had the other's calls in its place. */
    private static void leaves(String call, Consumer<GownCourt> state, int want, ToIntFunction<GownCourt> asked,
            Consumer<GownCourt> other) {
        GownCourt x = new GownCourt();
        GownCourt y = new GownCourt();
        state.accept(x);
        state.accept(y);
        D.due(call, asked.applyAsInt(x), want);
        other.accept(y);
        int[] got = look(x);
        int[] due = look(y);
        D.due(call + " changed an answer; it is one of as many", got.length, due.length);
        for (int i = 0; i < Math.min(got.length, due.length); i++) {
            D.due(call + " changed answer " + i, got[i], due[i]);
        }
    }

    private interface Numbered {
        int answer(GownCourt x, int n);
    }

    /** One below, one above and the ends of int are refused. */
    private static void outside(String call, Consumer<GownCourt> state, int low, int high, int want, Numbered asked) {
        int[] numbers = {low - 1, high + 1, LEAST, MOST};
        for (int n : numbers) {
            refused(call + " of " + n, state, want, x -> asked.answer(x, n));
        }
    }

    // ---- RANGE

    private static void peopleOutOfRange(Consumer<GownCourt> s) {
        D.of("RANGE = -2: A number that can't be");
        outside("rank, p", s, 0, 29, -2, (x, n) -> x.rank(n, 45, 7));
        outside("rank, day", s, 0, 9999, -2, (x, n) -> x.rank(1, n, 7));
        outside("rank, rank", s, 0, 9, -2, (x, n) -> x.rank(1, 45, n));
        outside("feast, from", s, 0, 40, -2, (x, n) -> x.feast(n, 40));
        outside("feast, to", s, 40, 9999, -2, (x, n) -> x.feast(40, n));
        outside("wedding, p", s, 0, 29, -2, (x, n) -> x.wedding(n, 40, 40));
        outside("wedding, from", s, 0, 40, -2, (x, n) -> x.wedding(1, n, 40));
        outside("wedding, to", s, 40, 9999, -2, (x, n) -> x.wedding(1, 40, n));
        outside("person, p", s, 0, 29, -2, (x, n) -> x.person(n, 0));
        outside("on, p", s, 0, 29, -2, (x, n) -> x.on(n, 40, 0));
        outside("on, day", s, 0, 9999, -2, (x, n) -> x.on(0, n, 0));
    }

    private static void gownsOutOfRange(Consumer<GownCourt> s) {
        D.of("A GOWN comes: its number; RANGE; FULL");
        outside("gown, sleeve", s, 0, 9999, -2, (x, n) -> x.gown(n, 0, 0, 0, 0, 0, 0));
        outside("gown, train", s, 0, 9999, -2, (x, n) -> x.gown(0, n, 0, 0, 0, 0, 0));
        outside("gown, pearls", s, 0, 9999, -2, (x, n) -> x.gown(0, 0, n, 0, 0, 0, 0));
        outside("gown, chain", s, 0, 9999, -2, (x, n) -> x.gown(0, 0, 0, n, 0, 0, 0));
        outside("gown, cost", s, 0, 9999, -2, (x, n) -> x.gown(0, 0, 0, 0, n, 0, 0));
        outside("gown, stuff", s, 0, 15, -2, (x, n) -> x.gown(0, 0, 0, 0, 0, n, 0));
        outside("gown, colour", s, 0, 7, -2, (x, n) -> x.gown(0, 0, 0, 0, 0, 0, n));
        D.of("A GOWN is SEALED on a day: 1; RANGE; STATE");
        outside("seal, g", s, 0, 39, -2, (x, n) -> x.seal(n, 5));
        outside("seal, day", s, 0, 9999, -2, (x, n) -> x.seal(1, n));
        D.of("A STUFF counts as a lesser one from a day on: how many LIKES there are; RANGE; FULL");
        outside("like, stuff", s, 6, 15, -2, (x, n) -> x.like(n, 5, 0));
        outside("like, as", s, 0, 14, -2, (x, n) -> x.like(15, n, 0));
        outside("like, day", s, 0, 9999, -2, (x, n) -> x.like(15, 5, n));
        outside("counts, stuff", s, 0, 15, -2, (x, n) -> x.counts(n, 0));
        outside("counts, day", s, 0, 9999, -2, (x, n) -> x.counts(0, n));
    }

    private static void actsOutOfRange(Consumer<GownCourt> s) {
        D.of("RANGE: no such day, or below that of the latest ACT");
        int[] days = {-1, 10000, LEAST, MOST};
        for (int day : days) {
            leaves("act(" + day + ")", s, -2, x -> x.act(day), x -> x.end(0));
        }
        D.of("ACTS IN FORCE on a day, as bits; RANGE");
        outside("force, day", s, 0, 9999, -2, (x, n) -> x.force(n));
        D.of("NONE when it has not so many, or n is below 0");
        outside("end, n", s, 0, 800, -1, (x, n) -> x.end(n));
        refused("end of one byte more", s, -1, x -> x.end(x.count(6) + 1));
    }

    private static void lettersOutOfRange(Consumer<GownCourt> s) {
        D.of("A LETTER: its number; RANGE; FULL");
        outside("letter, by", s, 0, 29, -2, (x, n) -> x.letter(n, 1, 0, 0));
        outside("letter, p", s, 0, 29, -2, (x, n) -> x.letter(1, n, 0, 0));
        outside("letter, g", s, 0, 39, -2, (x, n) -> x.letter(0, 1, n, 0));
        outside("letter, day", s, 0, 9999, -2, (x, n) -> x.letter(0, 1, 0, n));
        refused("letter of oneself", s, -2, x -> x.letter(0, 0, 0, 50));
        D.of("A LETTER is judged: 1 .. 3; RANGE");
        outside("judge", s, 0, 59, -2, (x, n) -> x.judge(n));
    }

    private static void pricesAndDaysOutOfRange(Consumer<GownCourt> s) {
        D.of("6 of another COLOUR: what it was; RANGE");
        outside("price, k", s, 0, 6, -2, (x, n) -> x.price(n, 500));
        outside("price, pence", s, 0, 999, -2, (x, n) -> x.price(3, n));
        D.of("FINE of one of PEOPLE in a GOWN on a day (0: none); RANGE");
        outside("fine, p", s, 0, 29, -2, (x, n) -> x.fine(n, 0, 0));
        outside("fine, g", s, 0, 39, -2, (x, n) -> x.fine(0, n, 0));
        outside("fine, day", s, 0, 9999, -2, (x, n) -> x.fine(0, 0, n));
        outside("broken, a", s, 0, 11, -2, (x, n) -> x.broken(0, 0, 0, n));
        outside("alter, p", s, 0, 29, -2, (x, n) -> x.alter(n, 0, 0));
        outside("best, p", s, 0, 29, -2, (x, n) -> x.best(n, 0, 0));
        outside("worn, g", s, 0, 39, -2, (x, n) -> x.worn(n, 5, 0, 0, 0));
        outside("worn, to", s, 0, 499, -2, (x, n) -> x.worn(0, 5, 0, n, 0));
    }

    private static void noSuchWhat(Consumer<GownCourt> s) {
        D.of("when there is none such");
        outside("about, what", s, 0, 7, -1, (x, n) -> x.about(0, n));
        outside("fault, what", s, 0, 1, -1, (x, n) -> x.fault(n));
        outside("told, what", s, 0, 4, -9, (x, n) -> x.told(0, n));
        outside("told, a", s, 0, 11, -9, (x, n) -> x.told(n, 0));
        outside("rule, r", s, 0, 11, -9, (x, n) -> x.rule(0, n, 0));
        outside("lettered, what", s, 0, 6, -9, (x, n) -> x.lettered(0, n));
        outside("count, what", s, 0, 6, -1, (x, n) -> x.count(n));
        outside("person, what", s, 0, 2, -2, (x, n) -> x.person(0, n));
        outside("on, what", s, 0, 1, -2, (x, n) -> x.on(0, 0, n));
        outside("worn, what", s, 0, 2, -2, (x, n) -> x.worn(0, 5, 0, 0, n));
    }

    private static void noneThereYet() {
        D.of("No ACTS, no GOWNS");
        Consumer<GownCourt> s = RefusedTest::nothing;
        refused("seal", s, -2, x -> x.seal(0, 0));
        refused("about", s, -1, x -> x.about(0, 7));
        refused("told", s, -9, x -> x.told(0, 0));
        refused("rule", s, -9, x -> x.rule(0, 0, 0));
        refused("fine", s, -2, x -> x.fine(0, 0, 0));
        refused("broken", s, -2, x -> x.broken(0, 0, 0, 0));
        refused("letter", s, -2, x -> x.letter(0, 1, 0, 0));
        refused("judge", s, -2, x -> x.judge(0));
        refused("lettered", s, -9, x -> x.lettered(0, 4));
        refused("alter", s, -2, x -> x.alter(0, 0, 0));
        refused("best", s, -2, x -> x.best(0, 0, 0));
        refused("worn", s, -2, x -> x.worn(0, 5, 0, 0, 0));
    }

    // ---- FULL, STATE, NONE

    private static void noRoom() {
        D.of("FULL = -3: No room");
        Consumer<GownCourt> s = RefusedTest::full;
        refused("feed", s, -3, x -> x.feed(1, 2, 3, 4, 5));
        refused("rank", s, -3, x -> x.rank(0, 9999, 7));
        refused("feast", s, -3, x -> x.feast(0, 9999));
        refused("wedding", s, -3, x -> x.wedding(0, 0, 9999));
        refused("gown", s, -3, x -> x.gown(1, 1, 1, 1, 1, 1, 1));
        refused("like", s, -3, x -> x.like(15, 14, 9999));
        refused("letter", s, -3, x -> x.letter(0, 1, 0, 0));
        // What a refused call asks for wrongly is RANGE still.
        refused("rank that can't be", s, -2, x -> x.rank(0, 9999, 10));
        refused("feast that can't be", s, -2, x -> x.feast(1, 0));
        refused("wedding that can't be", s, -2, x -> x.wedding(0, 1, 0));
        refused("like that can't be", s, -2, x -> x.like(5, 5, 0));
        refused("letter that can't be", s, -2, x -> x.letter(3, 3, 0, 0));
    }

    private static void notAsThingsAre() {
        D.of("STATE = -4: Not as things are");
        Consumer<GownCourt> s = RefusedTest::some;
        refused("seal again", s, -4, x -> x.seal(0, 31));
        refused("seal again on that day", s, -4, x -> x.seal(0, 30));
        refused("judge one CONVICTED", s, -4, x -> x.judge(0));
        refused("judge one DISMISSED", s, -4, x -> x.judge(1));
        refused("judge one FALSE", s, -4, x -> x.judge(2));
        refused("judge one of sixty", RefusedTest::full, -4, x -> x.judge(59));
    }

    /** The tape is empty behind all of these; NONE and FULL have a fault of their own, RANGE leaves that of the one before. */
    private static void actsThatAreNone() {
        D.of("RANGE: no such day, or below that of the latest ACT; NONE with a FAULT; FULL (in this order)");
        leaves("act(49)", RefusedTest::some, -2, x -> x.act(49), x -> x.end(0));
        leaves("act(0)", RefusedTest::some, -2, x -> x.act(0), x -> x.end(0));
        leaves("act(43)", RefusedTest::full, -2, x -> x.act(43), x -> x.end(0));
        // The fault of the state "some" is the very same: what is left of the text is nothing.
        leaves("act of a fault", RefusedTest::some, -1, x -> actAnew(x, 50, "seal 1; seal 2;"), x -> x.end(0));
        leaves("act of a fault behind rules", RefusedTest::full, -1, x -> actAnew(x, 44, LINE + LINE + "x"),
                x -> actAnew(x, 44, " ".repeat(2 * LINE.length()) + "x"));
        leaves("act of the 13th", RefusedTest::full, -3, x -> actAnew(x, 44, "repeal 0;repeal 11;part 50;" + LINE), x -> x.end(0));
    }

    private static int actAnew(GownCourt x, int day, String text) {
        x.end(0);
        return Due.act(x, day, text);
    }

    private static void askingChangesNothing() {
        D.of("Nothing is promised beyond the answers and state changes described above");
        Consumer<GownCourt> s = RefusedTest::some;
        int worn = asked(s, x -> x.worn(0, 5, 0, 499, 0));
        refused("worn", s, worn, x -> x.worn(0, 5, 0, 499, 0));
        refused("fine", s, asked(s, x -> x.fine(0, 1, 50)), x -> x.fine(0, 1, 50));
        refused("broken", s, asked(s, x -> x.broken(0, 0, 50, 1)), x -> x.broken(0, 0, 50, 1));
        refused("alter", s, asked(s, x -> x.alter(0, 0, 50)), x -> x.alter(0, 0, 50));
        refused("best", s, asked(s, x -> x.best(29, 0, 50)), x -> x.best(29, 0, 50));
        refused("counts", s, 1, x -> x.counts(15, 9999));
        refused("on", s, 2, x -> x.on(0, 50, 0));
        refused("force", s, 2, x -> x.force(50));
        refused("fault", s, 3, x -> x.fault(0));
        refused("all that can be asked, but for changes", s, 3, RefusedTest::askAll);
    }

    private static int asked(Consumer<GownCourt> state, ToIntFunction<GownCourt> call) {
        GownCourt x = new GownCourt();
        state.accept(x);
        return call.applyAsInt(x);
    }

    private static int askAll(GownCourt x) {
        Answers all = new Answers();
        lookAtPeople(x, all);
        lookAtGowns(x, all);
        lookAtActs(x, all);
        lookAtLetters(x, all);
        int[] first = all.numbers();
        D.due("some were asked", Arrays.stream(first).distinct().count() > 10 ? 1 : 0, 1);
        return x.fault(0);
    }
}
