/** The edges that the document names for promises 24 price, 25 alter, 26 best, 27 worn. */
public final class AlterEdgesTest {
    private static final Due D = new Due();
    private static final String[] MEASURES = {"sleeve", "train", "pearls", "chain", "cost"};
    private static final String TAIL = " all always fine 1;";

    public static void main(String[] args) {
        priceNumbers();
        pricesAtFirst();
        priceAnswersWhatItWas();
        noneNeeded();
        measuresLoweredAsFarAsMustBe();
        theLeastOfSeveralBounds();
        theDearestChange();
        aPriceOfNought();
        stuffChangedIfItMustBe();
        oneStuffIsLeft();
        noStuffIsLeft();
        stuffThatMayBeWornThen();
        colourChangedIfItMustBe();
        oneColourIsLeft();
        noColourIsLeft();
        onlyRulesThatBind();
        aLaterDayFirst();
        sealedAsBefore();
        rulesWithoutAFine();
        alterNumbers();
        bestNoFine();
        bestAlteredIfNoDearer();
        bestWornAndPaid();
        bestWithGrowingFines();
        wornNumbers();
        wornFiveHundredDays();
        wornFromNotAboveTo();
        wornOneDay();
        wornFirstAndLast();
        wornOnNone();
        wornAsDaily();
        wornOfARank();
        wornByTheActsOfEachDay();
        D.close();
    }

    private static GownCourt withGown(int size, int stuff, int colour) {
        GownCourt x = new GownCourt();
        x.gown(size, size, size, size, size, stuff, colour);
        return x;
    }

    private static void priceNumbers() {
        D.of("PRICES (0 .. 999; 1 at first)");
        GownCourt x = new GownCourt();
        D.bounds("PRICE k", 0, 6, -2, k -> x.price(k, 5));
        for (int k = 0; k < 7; k++) {
            int of = k;
            D.bounds("pence of PRICE " + k, 0, 999, -2, pence -> x.price(of, pence));
            D.due("the last that was taken", x.price(k, 0), 999);
        }
    }

    private static void pricesAtFirst() {
        D.of("PRICES (0 .. 999; 1 at first)");
        GownCourt x = new GownCourt();
        for (int k = 0; k < 7; k++) {
            D.due("price(" + k + ", 0)", x.price(k, 0), 1);
        }
    }

    private static void priceAnswersWhatItWas() {
        D.of("6 of another COLOUR: what it was; RANGE");
        GownCourt x = new GownCourt();
        for (int k = 0; k < 7; k++) {
            D.due("at first", x.price(k, 10 + k), 1);
        }
        for (int k = 0; k < 7; k++) {
            D.due("1000", x.price(k, 1000), -2);
            D.due("-1", x.price(k, -1), -2);
            D.due("what it was", x.price(k, 999), 10 + k);
            D.due("the most", x.price(k, 0), 999);
            D.due("nought", x.price(k, 1), 0);
        }
    }

    private static void noneNeeded() {
        D.of("What the CHEAPEST change costs (0: none needed)");
        GownCourt x = withGown(9999, 15, 7);
        for (int k = 0; k < 7; k++) {
            x.price(k, 999);
        }
        D.due("no ACTS", x.alter(0, 0, 0), 0);
        Due.act(x, 0, "");
        D.due("no RULES", x.alter(0, 0, 0), 0);
        Due.act(x, 0, "sleeve 9999" + TAIL + "cost 9999" + TAIL + "stuff 14" + TAIL + "colour 6" + TAIL + "must 7" + TAIL);
        D.due("RULES at their edges, none BROKEN", x.alter(0, 0, 0), 0);
        D.due("best", x.best(0, 0, 0), 0);
    }

    private static void measuresLoweredAsFarAsMustBe() {
        D.of("MEASURES lowered as far as must be");
        for (int m = 0; m < 5; m++) {
            GownCourt x = withGown(100, 0, 0);
            x.price(m, 7);
            String[] bounds = {"9999", "101", "100", "99", "98", "0"};
            int[] due = {0, 0, 0, 7, 14, 700};
            for (int i = 0; i < bounds.length; i++) {
                Due.act(x, i, MEASURES[m] + " " + bounds[i] + TAIL);
                D.due(MEASURES[m] + " to " + bounds[i], x.alter(0, 0, i), due[i]);
            }
        }
    }

    private static void theLeastOfSeveralBounds() {
        D.of("so that no RULE that BINDS is BROKEN");
        GownCourt x = withGown(10, 0, 0);
        Due.act(x, 0, "sleeve 7" + TAIL + "sleeve 5" + TAIL + "sleeve 6" + TAIL);
        D.due("the least of three", x.alter(0, 0, 0), 5);
        Due.act(x, 1, "train 9" + TAIL + "sleeve 4" + TAIL);
        D.due("of two ACTS", x.alter(0, 0, 1), 6 + 1);
        D.due("of the one before", x.alter(0, 0, 0), 5);
    }

    private static void theDearestChange() {
        D.of("What the CHEAPEST change costs");
        GownCourt x = withGown(9999, 15, 7);
        StringBuilder text = new StringBuilder("stuff 15" + TAIL + "colour 7" + TAIL);
        for (String m : MEASURES) {
            text.append(m).append(" 0").append(TAIL);
        }
        Due.act(x, 0, text.toString());
        D.due("at the first PRICES", x.alter(0, 0, 0), 5 * 9999 + 2);
        for (int k = 0; k < 7; k++) {
            x.price(k, 999);
        }
        D.due("at the highest PRICES", x.alter(0, 0, 0), 5 * 9999 * 999 + 2 * 999);
        for (int k = 0; k < 7; k++) {
            x.price(k, 0);
        }
        D.due("at PRICES of 0", x.alter(0, 0, 0), 0);
    }

    private static void aPriceOfNought() {
        D.of("altered, if that costs no more than the FINE");
        GownCourt x = withGown(5, 0, 0);
        Due.act(x, 0, "sleeve 0" + TAIL);
        x.price(0, 0);
        D.due("alter", x.alter(0, 0, 0), 0);
        D.due("best is altered, not as it is", x.best(0, 0, 0), 1);
    }

    private static void stuffChangedIfItMustBe() {
        D.of("its STUFF changed, if it must be");
        GownCourt x = withGown(0, 5, 0);
        x.price(5, 33);
        Due.act(x, 0, "stuff 4" + TAIL + "stuff 6" + TAIL);
        D.due("other STUFFS are barred", x.alter(0, 0, 0), 0);
        Due.act(x, 1, "stuff 5" + TAIL);
        D.due("its own is barred", x.alter(0, 0, 1), 33);
    }

    /** Bars all stuffs but one (none for 16) from a day on, by two acts. */
    private static void barStuffsBut(GownCourt x, int day, int left) {
        StringBuilder low = new StringBuilder();
        StringBuilder high = new StringBuilder();
        for (int stuff = 0; stuff < 16; stuff++) {
            (stuff < 8 ? low : high).append(stuff == left ? "" : "stuff " + stuff + TAIL);
        }
        Due.act(x, day, low.toString());
        Due.act(x, day, high.toString());
    }

    private static void oneStuffIsLeft() {
        D.of("(for one that may be worn then: any 0 .. 15)");
        for (int left = 0; left < 16; left++) {
            GownCourt x = withGown(0, 5, 0);
            x.price(5, 33);
            barStuffsBut(x, 0, left);
            D.due("STUFF " + left + " is left", x.alter(0, 0, 0), left == 5 ? 0 : 33);
        }
    }

    private static void noStuffIsLeft() {
        D.of("NONE: there is none");
        GownCourt x = withGown(3, 5, 0);
        barStuffsBut(x, 10, 16);
        Due.act(x, 10, "sleeve 0" + TAIL);
        D.due("ahead of it", x.alter(0, 0, 9), 0);
        D.due("all STUFFS are barred", x.alter(0, 0, 10), -1);
        x.price(5, 0);
        D.due("at a PRICE of 0 too", x.alter(0, 0, 10), -1);
        D.due("then it is paid", x.best(0, 0, 10), 2);
    }

    private static void stuffThatMayBeWornThen() {
        D.of("for one that may be worn then");
        GownCourt x = withGown(0, 1, 0);
        Due.act(x, 0, "stuff 0" + TAIL);
        for (int stuff = 1; stuff < 16; stuff++) {
            x.like(stuff, 0, stuff == 15 ? 200 : 100);
        }
        D.due("its own may be worn", x.alter(0, 0, 99), 0);
        D.due("STUFF 15 alone may be worn", x.alter(0, 0, 199), 1);
        D.due("all count as one that is barred", x.alter(0, 0, 200), -1);
        GownCourt y = withGown(0, 15, 0);
        barStuffsBut(y, 0, 3);
        y.like(15, 3, 50);
        D.due("it must be changed", y.alter(0, 0, 49), 1);
        D.due("it counts as one that may be worn", y.alter(0, 0, 50), 0);
        y.like(3, 2, 60);
        D.due("none counts as that any more", y.alter(0, 0, 60), -1);
    }

    private static void colourChangedIfItMustBe() {
        D.of("its COLOUR likewise");
        GownCourt x = withGown(0, 0, 3);
        x.price(6, 44);
        Due.act(x, 0, "colour 2" + TAIL + "colour 4" + TAIL);
        Due.act(x, 1, "colour 3" + TAIL);
        Due.act(x, 2, "repeal 1;must 3" + TAIL);
        Due.act(x, 3, "repeal 2;must 5" + TAIL);
        int[] due = {0, 44, 0, 44};
        for (int day = 0; day < 4; day++) {
            D.due("day " + day, x.alter(0, 0, day), due[day]);
        }
    }

    private static void oneColourIsLeft() {
        D.of("a COLOUR 0 .. 7");
        for (int left = 0; left < 8; left++) {
            GownCourt x = withGown(0, 0, 3);
            StringBuilder text = new StringBuilder();
            for (int colour = 0; colour < 8; colour++) {
                text.append(colour == left ? "" : "colour " + colour + TAIL);
            }
            Due.act(x, 0, text.toString());
            D.due("COLOUR " + left + " is left", x.alter(0, 0, 0), left == 3 ? 0 : 1);
            Due.act(x, 1, "must " + left + TAIL);
            D.due("and must be", x.alter(0, 0, 1), left == 3 ? 0 : 1);
            Due.act(x, 2, "colour " + left + TAIL);
            D.due("and is barred", x.alter(0, 0, 2), -1);
        }
    }

    private static void noColourIsLeft() {
        D.of("NONE: there is none");
        GownCourt x = withGown(0, 0, 3);
        Due.act(x, 0, "must 3" + TAIL + "must 4" + TAIL);
        Due.act(x, 1, "repeal 0;must 4" + TAIL + "colour 4" + TAIL);
        Due.act(x, 2, "repeal 1;must 4" + TAIL + "must 4" + TAIL);
        D.due("must be two", x.alter(0, 0, 0), -1);
        D.due("must be one that is barred", x.alter(0, 0, 1), -1);
        D.due("must be one, told twice", x.alter(0, 0, 2), 1);
        GownCourt y = withGown(9, 5, 3);
        Due.act(y, 0, "sleeve 0" + TAIL + "stuff 5" + TAIL + "colour 3" + TAIL + "must 3" + TAIL);
        D.due("other changes don't help", y.alter(0, 0, 0), -1);
    }

    private static void onlyRulesThatBind() {
        D.of("so that no RULE that BINDS is BROKEN");
        GownCourt x = withGown(9, 0, 0);
        Due.act(x, 10, "sleeve 8 ranks 5 to 5 always fine 1;sleeve 6 ranks 0 to 4 always fine 1;sleeve 2 ranks 6 to 9 always fine 1;"
                + "train 8 all feast fine 1;pearls 5 all wedding fine 1;");
        Due.act(x, 30, "repeal 0;");
        x.feast(15, 16);
        x.wedding(0, 16, 17);
        x.rank(0, 20, 4);
        x.rank(0, 21, 6);
        int[][] due = {{9, 0}, {10, 1}, {14, 1}, {15, 2}, {16, 5}, {17, 5}, {18, 1}, {20, 3}, {21, 7}, {29, 7}, {30, 0}};
        for (int[] d : due) {
            D.due("day " + d[0], x.alter(0, 0, d[0]), d[1]);
        }
    }

    private static void aLaterDayFirst() {
        D.of("The CHEAPEST change of one in a GOWN on a day");
        GownCourt x = withGown(9, 5, 3);
        x.gown(9, 9, 9, 9, 9, 6, 4);
        Due.act(x, 10, "sleeve 0" + TAIL + "train 1" + TAIL + "stuff 5" + TAIL + "colour 3" + TAIL);
        for (int again = 0; again < 2; again++) {
            D.due("all is barred", x.alter(0, 0, 10), 9 + 8 + 1 + 1);
            D.due("nothing is barred yet", x.alter(0, 0, 9), 0);
            D.due("another GOWN", x.alter(0, 1, 10), 9 + 8);
            D.due("best of the one", x.best(0, 0, 9), 0);
        }
    }

    private static void sealedAsBefore() {
        D.of("(It is SEALED as before.)");
        GownCourt x = withGown(9, 0, 0);
        x.seal(0, 9);
        Due.act(x, 10, "seal 5;sleeve 0" + TAIL);
        D.due("let on its last day", x.alter(0, 0, 14), 0);
        D.due("no longer", x.alter(0, 0, 15), 9);
        D.due("best on the last day", x.best(0, 0, 14), 0);
        D.due("best behind it", x.best(0, 0, 15), 2);
        D.due("its day", x.about(0, 7), 9);
        D.due("its sleeve", x.about(0, 0), 9);
    }

    private static void rulesWithoutAFine() {
        D.of("so that no RULE that BINDS is BROKEN");
        GownCourt x = withGown(9, 0, 0);
        Due.act(x, 0, "sleeve 0 all always fine 0;");
        D.due("fine", x.fine(0, 0, 0), 0);
        D.due("alter", x.alter(0, 0, 0), 9);
        D.of("0: as it is (no FINE)");
        D.due("best", x.best(0, 0, 0), 0);
    }

    private static void alterNumbers() {
        D.of("RANGE as fine()");
        D.due("alter without GOWNS", new GownCourt().alter(0, 0, 0), -2);
        D.due("best without GOWNS", new GownCourt().best(0, 0, 0), -2);
        GownCourt x = withGown(1, 0, 0);
        x.gown(1, 0, 0, 0, 0, 0, 0);
        D.due("alter without ACTS", x.alter(0, 0, 0), 0);
        D.due("best without ACTS", x.best(0, 0, 0), 0);
        Due.act(x, 0, "sleeve 0" + TAIL);
        D.bounds("alter for one", 0, 29, -2, p -> x.alter(p, 0, 0));
        D.bounds("alter of a GOWN", 0, 1, -2, g -> x.alter(0, g, 0));
        D.bounds("alter on a day", 0, 9999, -2, day -> x.alter(0, 0, day));
        D.bounds("best for one", 0, 29, -2, p -> x.best(p, 0, 0));
        D.bounds("best of a GOWN", 0, 1, -2, g -> x.best(0, g, 0));
        D.bounds("best on a day", 0, 9999, -2, day -> x.best(0, 0, day));
    }

    private static void bestNoFine() {
        D.of("0: as it is (no FINE)");
        GownCourt x = withGown(5, 0, 0);
        Due.act(x, 10, "sleeve 5 all always fine 9999;");
        Due.act(x, 20, "sleeve 4 all always fine 0;");
        Due.act(x, 30, "sleeve 4 all always fine 1;");
        int[][] due = {{9, 0}, {10, 0}, {20, 0}, {29, 0}, {30, 1}};
        for (int[] d : due) {
            D.due("day " + d[0], x.best(0, 0, d[0]), d[1]);
        }
    }

    private static void bestAlteredIfNoDearer() {
        D.of("1: altered, if that costs no more than the FINE");
        int[][] due = {{9, 1}, {10, 1}, {11, 2}};
        for (int[] d : due) {
            GownCourt x = withGown(1, 0, 0);
            Due.act(x, 0, "sleeve 0 all always fine 10;");
            x.price(0, d[0]);
            D.due("a change of " + d[0] + " against 10", x.best(0, 0, 0), d[1]);
        }
    }

    private static void bestWornAndPaid() {
        D.of("2: worn and paid");
        GownCourt x = withGown(1, 0, 3);
        Due.act(x, 0, "must 2 all always fine 9999;must 4 all always fine 9999;");
        D.due("no change helps", x.alter(0, 0, 0), -1);
        D.due("best", x.best(0, 0, 0), 2);
    }

    private static void bestWithGrowingFines() {
        D.of("altered, if that costs no more than the FINE");
        GownCourt x = withGown(1, 0, 0);
        Due.act(x, 0, "sleeve 0 all always fine 10;");
        x.price(0, 50);
        for (int k = 0; k < 6; k++) {
            D.due("best, " + k + " times CONVICTED", x.best(0, 0, 99), k >= 4 ? 1 : 2);
            x.letter(1, 0, 0, k);
            x.judge(k);
        }
        x.price(0, 51);
        D.due("the FINE grows no more", x.best(0, 0, 99), 2);
        D.due("alter doesn't grow", x.alter(0, 0, 99), 51);
    }

    private static void wornNumbers() {
        D.of("RANGE (no such GOWN, RANK, days, what)");
        D.due("no GOWNS", new GownCourt().worn(0, 5, 0, 0, 0), -2);
        GownCourt x = withGown(1, 0, 0);
        x.gown(1, 0, 0, 0, 0, 0, 0);
        D.bounds("worn, a GOWN", 0, 1, -2, g -> x.worn(g, 5, 0, 0, 0));
        D.bounds("worn, a RANK", 0, 9, -2, rank -> x.worn(0, rank, 0, 0, 0));
        D.bounds("worn, a day", 0, 9999, -2, day -> x.worn(0, 5, day, day, 0));
        D.bounds("worn, what", 0, 2, -2, what -> x.worn(0, 5, 7, 7, what));
        D.due("from below the first day", x.worn(0, 5, -1, 0, 0), -2);
        D.due("to behind the last day", x.worn(0, 5, 9999, 10000, 0), -2);
        for (int what = 0; what < 3; what++) {
            D.due("no such days, what " + what, x.worn(0, 5, 0, 500, what), -2);
        }
    }

    private static void wornFiveHundredDays() {
        D.of("days from .. to (at most 500)");
        GownCourt x = withGown(1, 0, 0);
        D.due("499 days", x.worn(0, 5, 0, 498, 0), 499);
        D.due("500 days", x.worn(0, 5, 0, 499, 0), 500);
        D.due("501 days", x.worn(0, 5, 0, 500, 0), -2);
        D.due("500 days to the last", x.worn(0, 5, 9500, 9999, 0), 500);
        D.due("the last of these", x.worn(0, 5, 9500, 9999, 2), 9999);
        D.due("501 days to the last", x.worn(0, 5, 9499, 9999, 0), -2);
        D.due("all days", x.worn(0, 5, 0, 9999, 0), -2);
        D.due("from the least to the most int", x.worn(0, 5, Integer.MIN_VALUE, Integer.MAX_VALUE, 0), -2);
        D.due("from the most to the least int", x.worn(0, 5, Integer.MAX_VALUE, Integer.MIN_VALUE, 0), -2);
        D.due("to the most int", x.worn(0, 5, 0, Integer.MAX_VALUE, 0), -2);
        D.due("from the least int", x.worn(0, 5, Integer.MIN_VALUE, 0, 0), -2);
    }

    private static void wornFromNotAboveTo() {
        D.of("days from .. to");
        GownCourt x = withGown(1, 0, 0);
        for (int what = 0; what < 3; what++) {
            D.due("worn(.., 8, 7, " + what + ")", x.worn(0, 5, 8, 7, what), -2);
            D.due("worn(.., 9999, 0, " + what + ")", x.worn(0, 5, 9999, 0, what), -2);
        }
    }

    private static void wornOneDay() {
        D.of("what 0: on how many");
        GownCourt x = withGown(1, 0, 0);
        Due.act(x, 9999, "sleeve 0" + TAIL);
        int[][] due = {{0, 1}, {9998, 1}, {9999, 0}};
        for (int[] d : due) {
            D.due("day " + d[0], x.worn(0, 5, d[0], d[0], 0), d[1]);
            D.due("the first", x.worn(0, 5, d[0], d[0], 1), d[1] == 1 ? d[0] : -1);
            D.due("the last", x.worn(0, 5, d[0], d[0], 2), d[1] == 1 ? d[0] : -1);
        }
    }

    private static void wornFirstAndLast() {
        D.of("1: the first (NONE), 2: the last (NONE)");
        GownCourt x = withGown(1, 0, 0);
        Due.act(x, 0, "sleeve 0" + TAIL);
        Due.act(x, 10, "repeal 0;");
        Due.act(x, 20, "sleeve 0" + TAIL);
        // Days 10 to 19 are free.
        int[][] due = {{0, 30, 10, 10, 19}, {0, 9, 0, -1, -1}, {0, 10, 1, 10, 10}, {9, 11, 2, 10, 11}, {10, 19, 10, 10, 19},
            {19, 19, 1, 19, 19}, {19, 30, 1, 19, 19}, {20, 30, 0, -1, -1}, {18, 20, 2, 18, 19}};
        for (int[] d : due) {
            for (int what = 0; what < 3; what++) {
                D.due("worn(.., " + d[0] + ", " + d[1] + ", " + what + ")", x.worn(0, 5, d[0], d[1], what), d[2 + what]);
            }
        }
    }

    private static void wornOnNone() {
        D.of("1: the first (NONE), 2: the last (NONE)");
        GownCourt x = withGown(1, 0, 0);
        Due.act(x, 0, "sleeve 0 all daily fine 0;");
        D.due("on how many", x.worn(0, 5, 0, 499, 0), 0);
        D.due("the first", x.worn(0, 5, 0, 499, 1), -1);
        D.due("the last", x.worn(0, 5, 0, 499, 2), -1);
    }

    private static void wornAsDaily() {
        D.of("worn by one of a RANK on each as daily");
        GownCourt x = withGown(1, 0, 0);
        Due.act(x, 0, "sleeve 0 all feast fine 1;sleeve 0 all wedding fine 1;");
        x.feast(0, 9999);
        for (int p = 0; p < 30; p++) {
            x.wedding(p, 0, 9999);
        }
        D.due("feasts and weddings don't matter", x.worn(0, 5, 0, 99, 0), 100);
        Due.act(x, 50, "sleeve 0 all daily fine 1;");
        D.due("daily ones do", x.worn(0, 5, 0, 99, 0), 50);
        Due.act(x, 90, "sleeve 0 all always fine 1;repeal 1;");
        D.due("always ones do", x.worn(0, 5, 50, 99, 0), 0);
    }

    private static void wornOfARank() {
        D.of("WORN by one of a RANK");
        GownCourt x = withGown(1, 0, 0);
        Due.act(x, 0, "sleeve 0 ranks 3 to 5 always fine 1;");
        for (int p = 0; p < 30; p++) {
            x.rank(p, 0, 4);
        }
        for (int rank = 0; rank < 10; rank++) {
            D.due("RANK " + rank, x.worn(0, rank, 0, 9, 0), rank >= 3 && rank <= 5 ? 0 : 10);
        }
    }

    private static void wornByTheActsOfEachDay() {
        D.of("on which days from .. to a GOWN would break no RULE");
        GownCourt x = withGown(1, 8, 0);
        x.seal(0, 99);
        Due.act(x, 100, "seal 5;stuff 8" + TAIL);
        Due.act(x, 120, "stuff 7" + TAIL);
        x.like(8, 7, 110);
        x.like(8, 6, 130);
        // Barred from 105, when it is let no more, to 109, and from 120 to 129.
        D.due("on how many", x.worn(0, 5, 90, 139, 0), 50 - 5 - 10);
        int[][] due = {{104, 1}, {105, 0}, {109, 0}, {110, 1}, {119, 1}, {120, 0}, {129, 0}, {130, 1}};
        for (int[] d : due) {
            D.due("day " + d[0], x.worn(0, 5, d[0], d[0], 0), d[1]);
        }
    }
}
