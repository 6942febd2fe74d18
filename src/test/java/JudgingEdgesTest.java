/** The edges that the document names for promises 18 fine, 19 broken, 20 letter, 21 judge, 22 lettered, 23 person, 28 count. */
public final class JudgingEdgesTest {
    private static final Due D = new Due();
    private static final String[] MEASURES = {"sleeve", "train", "pearls", "chain", "cost"};
    private static final String BARE = "sleeve 0 all always fine 10;";

    public static void main(String[] args) {
        measureAboveN();
        stuffThatCountsAsN();
        colourAndMust();
        ranksFromTo();
        occasionOfWhen();
        inForceFromTheFirstDay();
        sealedBelowTheFirstDay();
        letBelowSealDays();
        sealBeyondTheLastDay();
        fineNumbers();
        brokenNumbers();
        brokenAsBits();
        fiveTimesInAll();
        theHighestFine();
        letterNumbers();
        sixtyLetters();
        judgeNumbers();
        judgedOnce();
        fineAboveNought();
        dismissedOfTheSame();
        partCut();
        partOfTheLatestInForce();
        falseOnesPay();
        letteredNumbers();
        noughtUnlessConvicted();
        personNumbers();
        countNumbers();
        countsOfTheFull();
        D.close();
    }

    private static GownCourt withGown(int sleeve) {
        GownCourt x = new GownCourt();
        x.gown(sleeve, 0, 0, 0, 0, 0, 0);
        return x;
    }

    private static void measureAboveN() {
        D.of("a MEASURE above N");
        for (int m = 0; m < 5; m++) {
            GownCourt x = new GownCourt();
            int[] sizes = {0, 1, 99, 100, 101, 9998, 9999};
            for (int size : sizes) {
                int[] g = new int[5];
                g[m] = size;
                x.gown(g[0], g[1], g[2], g[3], g[4], 0, 0);
            }
            Due.act(x, 0, MEASURES[m] + " 0 all always fine 1;" + MEASURES[m] + " 100 all always fine 1;"
                    + MEASURES[m] + " 9998 all always fine 1;" + MEASURES[m] + " 9999 all always fine 1;");
            int[] due = {0, 1, 1, 1, 3, 3, 7};
            for (int g = 0; g < due.length; g++) {
                D.due(MEASURES[m] + " " + sizes[g], x.broken(0, g, 0, 0), due[g]);
            }
        }
    }

    private static void stuffThatCountsAsN() {
        D.of("a STUFF that COUNTS AS N");
        GownCourt x = new GownCourt();
        x.gown(0, 0, 0, 0, 0, 0, 0);
        x.gown(0, 0, 0, 0, 0, 1, 0);
        x.gown(0, 0, 0, 0, 0, 15, 0);
        Due.act(x, 0, "stuff 0 all always fine 1;stuff 1 all always fine 1;stuff 14 all always fine 1;stuff 15 all always fine 1;");
        D.due("STUFF 0", x.broken(0, 0, 0, 0), 1);
        D.due("STUFF 1", x.broken(0, 1, 0, 0), 2);
        D.due("STUFF 15", x.broken(0, 2, 0, 0), 8);
        x.like(15, 1, 10);
        x.like(1, 0, 20);
        D.due("ahead of the day", x.broken(0, 2, 9, 0), 8);
        D.due("from the day on", x.broken(0, 2, 10, 0), 2);
        D.due("ahead of the next", x.broken(0, 2, 19, 0), 2);
        D.due("from the next on", x.broken(0, 2, 20, 0), 1);
    }

    private static void colourAndMust() {
        D.of("the COLOUR N; must: another COLOUR than N");
        GownCourt x = new GownCourt();
        for (int colour = 0; colour < 8; colour++) {
            x.gown(0, 0, 0, 0, 0, 0, colour);
        }
        Due.act(x, 0, "colour 0 all always fine 1;colour 7 all always fine 1;must 0 all always fine 1;must 7 all always fine 1;");
        for (int colour = 0; colour < 8; colour++) {
            D.due("COLOUR " + colour, x.broken(0, colour, 0, 0), colour == 0 ? 1 + 8 : colour == 7 ? 2 + 4 : 4 + 8);
        }
    }

    private static void ranksFromTo() {
        D.of("the RANK is of WHO (all, or from .. to)");
        GownCourt x = withGown(1);
        Due.act(x, 0, "sleeve 0 all always fine 1;sleeve 0 ranks 0 to 0 always fine 1;sleeve 0 ranks 9 to 9 always fine 1;"
                + "sleeve 0 ranks 3 to 5 always fine 1;sleeve 0 ranks 0 to 9 always fine 1;");
        for (int rank = 0; rank < 10; rank++) {
            x.rank(rank, 0, rank);
            int due = 1 + 16 + (rank == 0 ? 2 : 0) + (rank == 9 ? 4 : 0) + (rank >= 3 && rank <= 5 ? 8 : 0);
            D.due("RANK " + rank, x.broken(rank, 0, 0, 0), due);
        }
    }

    private static void occasionOfWhen() {
        D.of("the OCCASION of WHEN");
        GownCourt x = withGown(1);
        Due.act(x, 0, "sleeve 0 all daily fine 1;sleeve 0 all feast fine 1;sleeve 0 all wedding fine 1;sleeve 0 all always fine 1;");
        x.feast(10, 20);
        x.wedding(0, 20, 30);
        int[][] due = {{9, 1}, {10, 2}, {19, 2}, {20, 4}, {21, 4}, {30, 4}, {31, 1}};
        for (int[] d : due) {
            D.due("day " + d[0], x.broken(0, 0, d[0], 0), 8 + d[1]);
        }
        D.due("another at the feast", x.broken(1, 0, 20, 0), 8 + 2);
    }

    private static void inForceFromTheFirstDay() {
        D.of("A RULE BINDS one in a GOWN on a day, if its ACT is IN FORCE");
        GownCourt x = withGown(1);
        Due.act(x, 10, BARE);
        Due.act(x, 20, "repeal 0;");
        int[][] due = {{9, 0}, {10, 10}, {19, 10}, {20, 0}};
        for (int[] d : due) {
            D.due("fine on " + d[0], x.fine(0, 0, d[0]), d[1]);
            D.due("broken on " + d[0], x.broken(0, 0, d[0], 0), d[1] / 10);
        }
    }

    private static void sealedBelowTheFirstDay() {
        D.of("LET: SEALED on a day below the ACT's first day");
        GownCourt x = new GownCourt();
        for (int g = 0; g < 5; g++) {
            x.gown(1, 0, 0, 0, 0, 0, 0);
        }
        Due.act(x, 100, "seal 50;" + BARE);
        x.seal(0, 0);
        x.seal(1, 99);
        x.seal(2, 100);
        x.seal(3, 101);
        int[] due = {0, 0, 10, 10, 10};
        for (int g = 0; g < 5; g++) {
            D.due("GOWN " + g, x.fine(0, g, 120), due[g]);
        }
        // An ACT of the first day lets none.
        GownCourt y = withGown(1);
        y.seal(0, 0);
        Due.act(y, 0, "seal 9999;" + BARE);
        D.due("SEALED on the first of all days", y.fine(0, 0, 0), 10);
    }

    private static void letBelowSealDays() {
        D.of("when the day is below that first day and seal (0 without) days");
        GownCourt x = withGown(1);
        x.seal(0, 5);
        Due.act(x, 100, "seal 3;sleeve 0 all always fine 1;");
        Due.act(x, 100, "seal 1;sleeve 0 all always fine 2;");
        Due.act(x, 100, "seal 0;sleeve 0 all always fine 4;");
        Due.act(x, 100, "sleeve 0 all always fine 8;");
        int[][] due = {{99, 0}, {100, 12}, {101, 14}, {102, 14}, {103, 15}, {104, 15}};
        for (int[] d : due) {
            D.due("fine on " + d[0], x.fine(0, 0, d[0]), d[1]);
        }
    }

    private static void sealBeyondTheLastDay() {
        D.of("the day is below that first day and seal (0 without) days");
        GownCourt x = withGown(1);
        x.seal(0, 0);
        Due.act(x, 1, "seal 9998;" + BARE);
        Due.act(x, 9999, "seal 9999;" + BARE);
        D.due("the last day but one", x.fine(0, 0, 9998), 0);
        D.due("the last day is let by the second alone", x.broken(0, 0, 9999, 0), 1);
        D.due("the second lets", x.broken(0, 0, 9999, 1), 0);
        D.due("fine", x.fine(0, 0, 9999), 10);
    }

    private static void fineNumbers() {
        D.of("FINE of one of PEOPLE in a GOWN on a day (0: none); RANGE");
        D.due("no GOWNS", new GownCourt().fine(0, 0, 0), -2);
        GownCourt x = withGown(1);
        D.due("no ACTS", x.fine(0, 0, 0), 0);
        x.gown(1, 0, 0, 0, 0, 0, 0);
        Due.act(x, 0, BARE);
        D.bounds("fine of one", 0, 29, -2, p -> x.fine(p, 0, 0));
        D.bounds("fine in a GOWN", 0, 1, -2, g -> x.fine(0, g, 0));
        D.bounds("fine on a day", 0, 9999, -2, day -> x.fine(0, 0, day));
    }

    private static void brokenNumbers() {
        D.of("RANGE likewise, no such ACT");
        GownCourt x = withGown(1);
        D.due("no ACTS", x.broken(0, 0, 0, 0), -2);
        x.gown(1, 0, 0, 0, 0, 0, 0);
        Due.act(x, 0, BARE);
        Due.act(x, 5, BARE);
        D.bounds("broken by one", 0, 29, -2, p -> x.broken(p, 0, 0, 0));
        D.bounds("broken in a GOWN", 0, 1, -2, g -> x.broken(0, g, 0, 0));
        D.bounds("broken on a day", 0, 9999, -2, day -> x.broken(0, 0, day, 0));
        D.bounds("broken of an ACT", 0, 1, -2, a -> x.broken(0, 0, 0, a));
        D.due("an ACT that isn't IN FORCE yet", x.broken(0, 0, 4, 1), 0);
        D.due("an ACT that is", x.broken(0, 0, 5, 1), 1);
    }

    private static void brokenAsBits() {
        D.of("The RULES that are BROKEN then, of ACT a, as bits");
        GownCourt x = withGown(6);
        StringBuilder text = new StringBuilder();
        for (int r = 0; r < 12; r++) {
            text.append("sleeve ").append(r % 2 == 0 ? 5 : 6).append(" all always fine 1;");
        }
        Due.act(x, 0, text.toString());
        Due.act(x, 0, "sleeve 5 all always fine 1;".repeat(12));
        Due.act(x, 0, "");
        D.due("each second", x.broken(0, 0, 0, 0), 0b010101010101);
        D.due("all twelve", x.broken(0, 0, 0, 1), 4095);
        D.due("none", x.broken(0, 0, 0, 2), 0);
        D.due("the FINE of all", x.fine(0, 0, 0), 18);
    }

    private static void fiveTimesInAll() {
        D.of("times 1 and how often they were CONVICTED so far (at most 5 times in all)");
        GownCourt x = withGown(1);
        Due.act(x, 0, BARE);
        int[] fines = {10, 20, 30, 40, 50, 50, 50};
        for (int i = 0; i < fines.length; i++) {
            D.due("fine, " + i + " times CONVICTED", x.fine(0, 0, 500), fines[i]);
            x.letter(1, 0, 0, 200 - i);
            D.due("judge", x.judge(i), 1);
            D.due("the FINE that was paid", x.lettered(i, 5), fines[i]);
            D.due("how often CONVICTED", x.person(0, 0), i + 1);
        }
        D.due("who denounced", x.fine(1, 0, 500), 10);
        D.due("on a day ahead of all of these", x.fine(0, 0, 0), 50);
        x.letter(1, 0, 0, 200);
        x.judge(7);
        D.due("DISMISSED makes it no more", x.person(0, 0), 7);
    }

    private static void theHighestFine() {
        D.of("the sum of fines of all RULES that are BROKEN");
        GownCourt x = withGown(9999);
        for (int a = 0; a < 12; a++) {
            Due.act(x, 0, "sleeve 0 all always fine 9999;".repeat(12));
        }
        int most = 12 * 12 * 9999;
        D.due("the most", x.fine(0, 0, 0), most);
        int times = 0;
        for (int k = 0; k < 60; k++) {
            x.letter(1, 0, 0, k);
            x.judge(k);
            times += Math.min(k + 1, 5);
        }
        D.due("five times the most", x.fine(0, 0, 9999), 5 * most);
        D.due("the last FINE that was paid", x.lettered(59, 5), 5 * most);
        D.due("paid in all", x.person(0, 1), times * most);
        D.due("the CHEST", x.count(3), times * most);
        D.due("sixty times CONVICTED", x.person(0, 0), 60);
    }

    private static void letterNumbers() {
        D.of("who denounces whom (unlike), in which GOWN, on which day");
        D.due("no GOWNS", new GownCourt().letter(0, 1, 0, 0), -2);
        GownCourt x = withGown(1);
        x.gown(1, 0, 0, 0, 0, 0, 0);
        D.bounds("letter by", 0, 29, -2, by -> x.letter(by, 1, 0, 0));
        D.bounds("letter of", 0, 29, -2, p -> x.letter(1, p, 0, 0));
        D.bounds("letter of a GOWN", 0, 1, -2, g -> x.letter(0, 1, g, 0));
        D.bounds("letter of a day", 0, 9999, -2, day -> x.letter(0, 1, 0, day));
        D.due("count(2)", x.count(2), 8);
        for (int p = 0; p < 30; p++) {
            D.due("of oneself, " + p, x.letter(p, p, 0, 0), -2);
        }
        D.due("count(2) still", x.count(2), 8);
    }

    private static void sixtyLetters() {
        D.of("LETTERS, at most 60, numbered from 0");
        GownCourt x = withGown(1);
        for (int k = 0; k < 60; k++) {
            D.due("letter " + k, x.letter(0, 1, 0, k), k);
        }
        D.due("the 61st", x.letter(0, 1, 0, 60), -3);
        D.due("the 61st again", x.letter(2, 3, 0, 60), -3);
        D.due("RANGE, though full", x.letter(0, 0, 0, 60), -2);
        D.due("count(2)", x.count(2), 60);
        D.due("the first", x.lettered(0, 3), 0);
        D.due("the last", x.lettered(59, 3), 59);
        D.due("none behind it", x.lettered(60, 3), -9);
        D.due("judge(59)", x.judge(59), 2);
        D.due("judge(60)", x.judge(60), -2);
        D.due("judged ones take room all the same", x.letter(0, 1, 0, 60), -3);
    }

    private static void judgeNumbers() {
        D.of("A LETTER is judged: 1 .. 3; RANGE");
        GownCourt x = withGown(1);
        D.due("no LETTERS", x.judge(0), -2);
        D.due("no LETTERS", x.judge(-1), -2);
        x.letter(0, 1, 0, 0);
        x.letter(0, 1, 0, 0);
        x.letter(0, 1, 0, 0);
        D.bounds("judge", 0, 2, -2, x::judge);
        D.due("the one between is as it was", x.lettered(1, 4), 0);
    }

    private static void judgedOnce() {
        D.of("STATE: it was");
        GownCourt x = withGown(1);
        for (int k = 0; k < 3; k++) {
            x.letter(0, 1, 0, k == 0 ? 4 : 5);
        }
        Due.act(x, 5, BARE);
        int[] due = {2, 1, 3};
        for (int k = 0; k < 3; k++) {
            D.due("judge(" + k + ")", x.judge(k), due[k]);
            int chest = x.count(3);
            int paid = x.person(0, 1);
            D.due("judge(" + k + ") again", x.judge(k), -4);
            D.due("judge(" + k + ") once more", x.judge(k), -4);
            D.due("it stays so", x.lettered(k, 4), due[k]);
            D.due("the CHEST stays", x.count(3), chest);
            D.due("nothing more was paid", x.person(0, 1), paid);
        }
        D.due("CONVICTED once", x.person(1, 0), 1);
        D.due("RANGE still", x.judge(3), -2);
    }

    private static void fineAboveNought() {
        D.of("else CONVICTED (1), if the FINE is above 0");
        GownCourt x = withGown(1);
        Due.act(x, 10, "sleeve 0 all always fine 0;");
        Due.act(x, 20, "sleeve 0 all always fine 1;");
        Due.act(x, 30, "repeal 1;");
        int[][] due = {{9, 2}, {10, 2}, {19, 2}, {20, 1}, {29, 1}, {30, 2}};
        for (int k = 0; k < due.length; k++) {
            x.letter(k, 20, 0, due[k][0]);
            D.due("day " + due[k][0], x.judge(k), due[k][1]);
            D.due("it is told", x.lettered(k, 4), due[k][1]);
            D.due("who denounced paid", x.person(k, 1), due[k][1] == 2 ? 50 : 0);
        }
        D.due("the accused paid 1 and 2", x.person(20, 1), 3);
    }

    private static void dismissedOfTheSame() {
        D.of("DISMISSED (3), if one of the same accused, GOWN and day was CONVICTED before");
        GownCourt x = withGown(1);
        x.gown(1, 0, 0, 0, 0, 0, 0);
        Due.act(x, 0, BARE + "part 50;");
        int[][] told = {{0, 1, 0, 50}, {0, 1, 0, 50}, {2, 1, 0, 50}, {0, 3, 0, 50}, {0, 1, 1, 50}, {0, 1, 0, 49}, {0, 1, 0, 51}};
        int[] due = {1, 3, 3, 1, 1, 1, 1};
        for (int k = 0; k < told.length; k++) {
            D.due("letter " + k, x.letter(told[k][0], told[k][1], told[k][2], told[k][3]), k);
            D.due("judge(" + k + ")", x.judge(k), due[k]);
        }
        D.due("the FINE of one DISMISSED", x.lettered(1, 5), 0);
        D.due("the part of one DISMISSED", x.lettered(1, 6), 0);
        D.due("who denounced then paid nothing", x.person(2, 1), 0);
        D.due("and had nothing", x.person(2, 2), 0);
        D.due("CONVICTED", x.person(1, 0), 4);
        // One not judged yet, and a FALSE one, dismiss none.
        GownCourt y = withGown(1);
        y.letter(0, 1, 0, 50);
        y.letter(0, 1, 0, 50);
        y.letter(0, 1, 0, 50);
        D.due("a FALSE one", y.judge(0), 2);
        Due.act(y, 0, BARE);
        D.due("behind a FALSE one, ahead of one not judged", y.judge(2), 1);
        D.due("a lower number, judged later", y.judge(1), 3);
        // Dismissed though no FINE would be due any more.
        GownCourt z = withGown(1);
        Due.act(z, 0, BARE);
        z.letter(0, 1, 0, 50);
        z.letter(0, 1, 0, 50);
        D.due("CONVICTED", z.judge(0), 1);
        Due.act(z, 0, "repeal 0;");
        D.due("the FINE is 0 now", z.fine(1, 0, 50), 0);
        D.due("DISMISSED all the same", z.judge(1), 3);
        D.due("nobody paid for it", z.person(0, 1), 0);
    }

    private static void partCut() {
        D.of("the part (hundredths, cut)");
        int[][] due = {{1, 99, 0}, {1, 100, 1}, {1, 0, 0}, {99, 1, 0}, {100, 1, 1}, {199, 1, 1}, {3, 33, 0}, {3, 34, 1}, {9999, 99, 9899},
            {9999, 100, 9999}, {9999, 0, 0}, {2, 50, 1}, {2, 49, 0}};
        for (int[] d : due) {
            GownCourt x = withGown(1);
            Due.act(x, 0, "sleeve 0 all always fine " + d[0] + ";part " + d[1] + ";");
            x.letter(0, 1, 0, 0);
            D.due("judge", x.judge(0), 1);
            String of = d[1] + " hundredths of " + d[0];
            D.due(of, x.lettered(0, 6), d[2]);
            D.due(of + ", had", x.person(0, 2), d[2]);
            D.due(of + ", the rest", x.count(3), d[0] - d[2]);
            D.due(of + ", paid", x.person(1, 1), d[0]);
        }
    }

    private static void partOfTheLatestInForce() {
        D.of("of the latest ACT IN FORCE that day with a part (0 without)");
        GownCourt x = withGown(1);
        Due.act(x, 0, "sleeve 0 all always fine 100;");
        Due.act(x, 10, "part 10;");
        Due.act(x, 20, "part 20;");
        Due.act(x, 20, "part 30;");
        Due.act(x, 30, "part 0;");
        Due.act(x, 40, "repeal 4;seal 7;");
        Due.act(x, 50, "repeal 3;");
        Due.act(x, 60, "repeal 1;repeal 2;");
        int[][] due = {{9, 0}, {10, 10}, {19, 10}, {20, 30}, {29, 30}, {30, 0}, {39, 0}, {40, 30}, {49, 30}, {50, 20}, {59, 20}, {60, 0}};
        for (int k = 0; k < due.length; k++) {
            x.letter(29, k, 0, due[k][0]);
            D.due("judge", x.judge(k), 1);
            D.due("part on " + due[k][0], x.lettered(k, 6), due[k][1]);
        }
    }

    private static void falseOnesPay() {
        D.of("else FALSE (2): who denounced pays 50 to the CHEST");
        GownCourt x = withGown(0);
        Due.act(x, 0, "sleeve 0 all always fine 9999;part 100;");
        for (int k = 0; k < 3; k++) {
            x.letter(0, 1, 0, 0);
            D.due("judge(" + k + ")", x.judge(k), 2);
            D.due("paid in all", x.person(0, 1), 50 * (k + 1));
            D.due("the CHEST", x.count(3), 50 * (k + 1));
        }
        D.due("had in all", x.person(0, 2), 0);
        D.due("not CONVICTED", x.person(0, 0), 0);
        D.due("the accused paid nothing", x.person(1, 1), 0);
        D.due("no FINE was paid", x.lettered(0, 5), 0);
        D.due("no part was had", x.lettered(0, 6), 0);
    }

    private static void letteredNumbers() {
        D.of("-9 when there is none such");
        GownCourt x = withGown(1);
        D.due("no LETTERS", x.lettered(0, 0), -9);
        x.letter(0, 1, 0, 0);
        x.letter(29, 28, 0, 9999);
        D.bounds("lettered", 0, 1, -9, k -> x.lettered(k, 0));
        D.bounds("lettered of a what", 0, 6, -9, what -> x.lettered(1, what));
        int[] due = {29, 28, 0, 9999, 0, 0, 0};
        for (int what = 0; what < 7; what++) {
            D.due("lettered(1, " + what + ")", x.lettered(1, what), due[what]);
        }
    }

    private static void noughtUnlessConvicted() {
        D.of("4: 0 not judged, 1 .. 3; 5: the FINE that was paid (0), 6: what the one who denounced had (0)");
        GownCourt x = withGown(1);
        Due.act(x, 10, "sleeve 0 all always fine 100;part 30;");
        int[] days = {10, 9, 10, 10};
        for (int day : days) {
            x.letter(0, 1, 0, day);
        }
        for (int k = 0; k < 3; k++) {
            for (int what = 4; what < 7; what++) {
                D.due("not judged yet, what " + what, x.lettered(k, what), 0);
            }
            x.judge(k);
        }
        int[][] due = {{1, 100, 30}, {2, 0, 0}, {3, 0, 0}, {0, 0, 0}};
        for (int k = 0; k < 4; k++) {
            for (int what = 4; what < 7; what++) {
                D.due("lettered(" + k + ", " + what + ")", x.lettered(k, what), due[k][what - 4]);
            }
        }
    }

    private static void personNumbers() {
        D.of("Of one of PEOPLE, what 0: how often CONVICTED, 1: paid in all (also for FALSE ones), 2: had in all. RANGE");
        GownCourt x = new GownCourt();
        D.bounds("person", 0, 29, -2, p -> x.person(p, 0));
        D.bounds("person of a what", 0, 2, -2, what -> x.person(0, what));
        GownCourt y = withGown(1);
        Due.act(y, 10, "sleeve 0 all always fine 100;part 30;");
        y.letter(29, 0, 0, 10);
        y.letter(0, 29, 0, 10);
        y.letter(0, 29, 0, 9);
        for (int k = 0; k < 3; k++) {
            y.judge(k);
        }
        int[] first = {1, 150, 30};
        int[] last = {1, 100, 30};
        for (int what = 0; what < 3; what++) {
            D.due("person(0, " + what + ")", y.person(0, what), first[what]);
            D.due("person(29, " + what + ")", y.person(29, what), last[what]);
            D.due("person(1, " + what + ")", y.person(1, what), 0);
        }
        D.due("the CHEST", y.count(3), 70 + 70 + 50);
    }

    private static void countNumbers() {
        D.of("NONE for others");
        GownCourt x = new GownCourt();
        D.bounds("count", 0, 6, -1, x::count);
    }

    private static void countsOfTheFull() {
        D.of("What 0: ACTS, 1: GOWNS, 2: LETTERS, 3: the CHEST, 4: LIKES, 5: FEASTS, 6: bytes of THE TAPE");
        GownCourt x = new GownCourt();
        for (int i = 0; i < 61; i++) {
            x.gown(0, 0, 0, 0, 0, 0, 0);
            x.letter(0, 1, 0, 0);
            x.like(15, 0, 0);
            x.feast(0, 0);
            x.act(0);
            x.feed(0, 0, 0, 0, 0);
            x.act(-1);
        }
        for (int i = 0; i < 41; i++) {
            x.feed(0, 0, 0, 0, 0);
        }
        x.judge(59);
        int[] due = {12, 40, 60, 50, 30, 20, 800};
        for (int what = 0; what < 7; what++) {
            D.due("count(" + what + ")", x.count(what), due[what]);
        }
    }
}
