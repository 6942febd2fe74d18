/** The edges that the document names for promises 8 gown, 9 seal, 10 about, 11 like, 12 counts. */
public final class GownsEdgesTest {
    private static final Due D = new Due();

    public static void main(String[] args) {
        measureNumbers();
        stuffAndColourNumbers();
        refusedHaveNoNumber();
        fortyGowns();
        sealNumbers();
        sealedOnce();
        aboutNumbers();
        notSealed();
        likeNumbers();
        likeOfALesserOne();
        thirtyLikes();
        countsFromTheDayOn();
        countsToldLastOfOneDay();
        countsUntilThereIsNone();
        countsNumbers();
        D.close();
    }

    private static GownCourt withGowns(int n) {
        GownCourt x = new GownCourt();
        for (int g = 0; g < n; g++) {
            x.gown(g, 0, 0, 0, 0, 0, 0);
        }
        return x;
    }

    private static void measureNumbers() {
        D.of("MEASURES 0 sleeve, 1 train, 2 pearls, 3 chain, 4 cost (0 .. 9999 each)");
        GownCourt x = new GownCourt();
        D.bounds("gown of a sleeve", 0, 9999, -2, n -> x.gown(n, 1, 1, 1, 1, 1, 1));
        D.bounds("gown of a train", 0, 9999, -2, n -> x.gown(1, n, 1, 1, 1, 1, 1));
        D.bounds("gown of pearls", 0, 9999, -2, n -> x.gown(1, 1, n, 1, 1, 1, 1));
        D.bounds("gown of a chain", 0, 9999, -2, n -> x.gown(1, 1, 1, n, 1, 1, 1));
        D.bounds("gown of a cost", 0, 9999, -2, n -> x.gown(1, 1, 1, 1, n, 1, 1));
        for (int m = 0; m < 5; m++) {
            D.due("the least MEASURE " + m, x.about(2 * m, m), 0);
            D.due("the most MEASURE " + m, x.about(2 * m + 1, m), 9999);
            D.due("one beside it", x.about(2 * m, (m + 1) % 5), 1);
        }
    }

    private static void stuffAndColourNumbers() {
        D.of("a STUFF 0 .. 15, a COLOUR 0 .. 7");
        GownCourt x = new GownCourt();
        D.bounds("gown of a STUFF", 0, 15, -2, n -> x.gown(1, 1, 1, 1, 1, n, 1));
        D.bounds("gown of a COLOUR", 0, 7, -2, n -> x.gown(1, 1, 1, 1, 1, 1, n));
        D.due("the first STUFF", x.about(0, 5), 0);
        D.due("the last STUFF", x.about(1, 5), 15);
        D.due("the first COLOUR", x.about(2, 6), 0);
        D.due("the last COLOUR", x.about(3, 6), 7);
    }

    private static void refusedHaveNoNumber() {
        D.of("GOWNS, at most 40, numbered from 0");
        GownCourt x = new GownCourt();
        D.due("a wrong one", x.gown(10000, 0, 0, 0, 0, 0, 0), -2);
        D.due("count(1)", x.count(1), 0);
        D.due("about(0, 0)", x.about(0, 0), -1);
        D.due("the first", x.gown(1, 0, 0, 0, 0, 0, 0), 0);
        D.due("another wrong one", x.gown(0, 0, 0, 0, 0, 0, 8), -2);
        D.due("the second", x.gown(2, 0, 0, 0, 0, 0, 0), 1);
        D.due("about(0, 0)", x.about(0, 0), 1);
        D.due("about(1, 0)", x.about(1, 0), 2);
    }

    private static void fortyGowns() {
        D.of("GOWNS, at most 40");
        GownCourt x = withGowns(39);
        D.due("the 40th", x.gown(39, 9999, 9999, 9999, 9999, 15, 7), 39);
        D.due("the 41st", x.gown(40, 0, 0, 0, 0, 0, 0), -3);
        D.due("the 41st again", x.gown(40, 0, 0, 0, 0, 0, 0), -3);
        D.due("RANGE, though full", x.gown(40, 0, 0, 0, 0, 16, 0), -2);
        D.due("count(1)", x.count(1), 40);
        for (int g = 0; g < 40; g++) {
            D.due("about(" + g + ", 0)", x.about(g, 0), g);
        }
        D.due("about(40, 0)", x.about(40, 0), -1);
        D.due("the last is judged", x.fine(0, 39, 0), 0);
        D.due("none behind it is", x.fine(0, 40, 0), -2);
        D.due("the last is sealed", x.seal(39, 3), 1);
    }

    private static void sealNumbers() {
        D.of("A GOWN is SEALED on a day: 1; RANGE");
        D.due("no GOWNS", new GownCourt().seal(0, 0), -2);
        GownCourt x = withGowns(3);
        D.bounds("seal of a GOWN", 0, 2, -2, g -> x.seal(g, 9));
        D.bounds("seal on a day", 0, 9999, -2, day -> withGowns(1).seal(0, day));
        GownCourt y = withGowns(2);
        D.due("seal on the first day", y.seal(0, 0), 1);
        D.due("seal on the last day", y.seal(1, 9999), 1);
        D.due("the first day", y.about(0, 7), 0);
        D.due("the last day", y.about(1, 7), 9999);
    }

    private static void sealedOnce() {
        D.of("STATE: it is");
        GownCourt x = withGowns(2);
        x.seal(0, 0);
        D.due("sealed again on that day", x.seal(0, 0), -4);
        D.due("sealed again on another", x.seal(0, 9999), -4);
        D.due("the day stays", x.about(0, 7), 0);
        D.due("RANGE, though sealed: the day", x.seal(0, 10000), -2);
        D.due("RANGE, though sealed: the day", x.seal(0, -1), -2);
        D.due("another is not", x.about(1, 7), -1);
        D.due("another is sealed", x.seal(1, 9999), 1);
        D.due("and once", x.seal(1, 0), -4);
        D.due("the day stays", x.about(1, 7), 9999);
    }

    private static void aboutNumbers() {
        D.of("NONE when there is none such");
        GownCourt x = withGowns(2);
        x.seal(0, 4);
        x.seal(1, 4);
        D.bounds("about a GOWN", 0, 1, -1, g -> x.about(g, 5));
        D.bounds("the day of a GOWN's seal", 0, 1, -1, g -> x.about(g, 7));
        D.bounds("about of a what", 0, 7, -1, what -> x.about(0, what));
    }

    private static void notSealed() {
        D.of("7: the day on which it was SEALED (NONE)");
        GownCourt x = withGowns(1);
        D.due("about(0, 7)", x.about(0, 7), -1);
        x.seal(0, 10000);
        D.due("about(0, 7) behind RANGE", x.about(0, 7), -1);
        x.seal(0, 0);
        D.due("about(0, 7) of the first day", x.about(0, 7), 0);
    }

    private static void likeNumbers() {
        D.of("how many LIKES there are; RANGE");
        GownCourt x = new GownCourt();
        D.bounds("like of a STUFF", 1, 15, -2, stuff -> x.like(stuff, 0, 5));
        D.bounds("like as", 0, 14, -2, as -> x.like(15, as, 5));
        D.bounds("like from a day", 0, 9999, -2, day -> x.like(2, 1, day));
        D.due("count(4)", x.count(4), 6);
        D.due("like(16, 15, 0)", x.like(16, 15, 0), -2);
        D.due("like(-1, -2, 0)", x.like(-1, -2, 0), -2);
    }

    private static void likeOfALesserOne() {
        D.of("A STUFF counts as a lesser one from a day on");
        GownCourt x = new GownCourt();
        for (int stuff = 0; stuff < 16; stuff++) {
            D.due("as itself, " + stuff, x.like(stuff, stuff, 0), -2);
            D.due("as the next, " + stuff, x.like(stuff, stuff + 1, 0), -2);
            D.due("counts(" + stuff + ")", x.counts(stuff, 0), stuff);
        }
        D.due("count(4)", x.count(4), 0);
        for (int stuff = 1; stuff < 16; stuff++) {
            D.due("as the one below, " + stuff, x.like(stuff, stuff - 1, 0), stuff);
        }
    }

    private static void thirtyLikes() {
        D.of("LIKES, at most 30");
        GownCourt x = new GownCourt();
        for (int i = 1; i <= 29; i++) {
            D.due("like " + i, x.like(15, 1, 0), i);
        }
        D.due("the 30th", x.like(15, 2, 0), 30);
        D.due("the 31st", x.like(15, 3, 0), -3);
        D.due("the 31st of another", x.like(1, 0, 0), -3);
        D.due("RANGE, though full", x.like(1, 1, 0), -2);
        D.due("the 30th counts", x.counts(15, 0), 2);
        D.due("the 31st doesn't", x.counts(1, 0), 1);
        D.due("count(4)", x.count(4), 30);
    }

    private static void countsFromTheDayOn() {
        D.of("of LIKES of it with a day not behind that the one with the latest day");
        GownCourt x = new GownCourt();
        x.like(9, 7, 200);
        x.like(9, 8, 100);
        x.like(9, 6, 9999);
        int[][] due = {{0, 9}, {99, 9}, {100, 8}, {199, 8}, {200, 7}, {201, 7}, {9998, 7}, {9999, 6}};
        for (int[] d : due) {
            D.due("counts(9, " + d[0] + ")", x.counts(9, d[0]), d[1]);
            D.due("the STUFF above", x.counts(10, d[0]), 10);
            D.due("the STUFF below", x.counts(8, d[0]), 8);
        }
        x.like(4, 3, 0);
        D.due("from the first day", x.counts(4, 0), 3);
    }

    private static void countsToldLastOfOneDay() {
        D.of("(of one day that told last) says as which");
        GownCourt x = new GownCourt();
        x.like(9, 3, 100);
        x.like(9, 8, 100);
        D.due("the second of one day", x.counts(9, 100), 8);
        x.like(9, 5, 99);
        D.due("a day below, told later", x.counts(9, 100), 8);
        D.due("on that day below", x.counts(9, 99), 5);
        x.like(9, 3, 100);
        D.due("the third of one day", x.counts(9, 100), 3);
    }

    private static void countsUntilThereIsNone() {
        D.of("then of that one likewise, until there is none");
        GownCourt x = new GownCourt();
        for (int stuff = 15; stuff >= 1; stuff--) {
            x.like(stuff, stuff - 1, 100 - stuff);
        }
        D.due("ahead of all", x.counts(15, 84), 15);
        D.due("the first step", x.counts(15, 85), 14);
        D.due("the second step", x.counts(15, 86), 13);
        D.due("all but the last step", x.counts(15, 98), 1);
        D.due("fifteen steps", x.counts(15, 99), 0);
        D.due("one step", x.counts(1, 99), 0);
        D.due("no step", x.counts(0, 9999), 0);
        GownCourt y = new GownCourt();
        y.like(5, 4, 100);
        y.like(4, 3, 101);
        D.due("the next one's day is behind", y.counts(5, 100), 4);
        D.due("the next one's day has come", y.counts(5, 101), 3);
    }

    private static void countsNumbers() {
        D.of("What a STUFF COUNTS AS on a day; RANGE");
        GownCourt x = new GownCourt();
        D.bounds("counts of a STUFF", 0, 15, -2, stuff -> x.counts(stuff, 7));
        D.bounds("counts on a day", 0, 9999, -2, day -> x.counts(7, day));
    }
}
