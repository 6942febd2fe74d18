/** Promises 18 fine, 19 broken, 20 letter, 21 judge, 22 lettered, 23 person, 28 count. */
public final class JudgingTest {
    private static final Due D = new Due();

    public static void main(String[] args) {
        measures();
        stuffsAndColours();
        ranksAndOccasions();
        letGowns();
        repealed();
        growing();
        letters();
        parts();
        dismissed();
        dismissedByTheFirst();
        falseOnes();
        counts();
        D.close();
    }

    private static void measures() {
        GownCourt x = new GownCourt();
        x.gown(10, 20, 30, 40, 50, 3, 4);
        Due.act(x, 0, "sleeve 9 all always fine 1; train 19 all always fine 2; pearls 29 all always fine 4;"
                + "chain 39 all always fine 8; cost 49 all always fine 16;");
        Due.act(x, 0, "sleeve 10 all always fine 1; train 20 all always fine 2; pearls 30 all always fine 4;"
                + "chain 40 all always fine 8; cost 50 all always fine 16;");
        D.due("all above", x.broken(0, 0, 0, 0), 31);
        D.due("none above", x.broken(0, 0, 0, 1), 0);
        D.due("fine", x.fine(0, 0, 0), 31);
        Due.act(x, 5, "cost 0 all always fine 9999; cost 1 all always fine 9999;");
        D.due("fine of 4", x.fine(0, 0, 4), 31);
        D.due("fine of 5", x.fine(0, 0, 5), 31 + 2 * 9999);
        D.due("broken of 4", x.broken(0, 0, 4, 2), 0);
        D.due("broken of 5", x.broken(0, 0, 5, 2), 3);
    }

    private static void stuffsAndColours() {
        GownCourt x = new GownCourt();
        x.gown(0, 0, 0, 0, 0, 6, 2);
        Due.act(x, 0, "stuff 6 all always fine 1; stuff 4 all always fine 2; colour 2 all always fine 4;"
                + "colour 3 all always fine 8; must 2 all always fine 16; must 3 all always fine 32;");
        x.like(6, 5, 10);
        x.like(5, 4, 20);
        D.due("stuff 6", x.broken(0, 0, 9, 0), 1 + 4 + 32);
        D.due("stuff 6 as 5", x.broken(0, 0, 10, 0), 4 + 32);
        D.due("stuff 6 as 5 as 4", x.broken(0, 0, 20, 0), 2 + 4 + 32);
        D.due("fine", x.fine(0, 0, 20), 2 + 4 + 32);
    }

    private static void ranksAndOccasions() {
        GownCourt x = new GownCourt();
        x.gown(1, 0, 0, 0, 0, 0, 0);
        Due.act(x, 0, "sleeve 0 ranks 3 to 5 always fine 1; sleeve 0 all daily fine 2;"
                + "sleeve 0 all feast fine 4; sleeve 0 ranks 6 to 9 wedding fine 8; sleeve 0 all always fine 16;");
        x.rank(0, 100, 2);
        x.rank(0, 200, 3);
        x.rank(0, 300, 6);
        x.feast(150, 350);
        x.wedding(0, 340, 360);
        D.due("rank 5, daily", x.fine(0, 0, 99), 1 + 2 + 16);
        D.due("rank 2, daily", x.fine(0, 0, 100), 2 + 16);
        D.due("rank 2, feast", x.fine(0, 0, 150), 4 + 16);
        D.due("rank 3, feast", x.fine(0, 0, 200), 1 + 4 + 16);
        D.due("rank 6, feast", x.fine(0, 0, 300), 4 + 16);
        D.due("rank 6, wedding", x.fine(0, 0, 340), 8 + 16);
        D.due("rank 6, wedding alone", x.broken(0, 0, 360, 0), 8 + 16);
        D.due("rank 6, daily", x.broken(0, 0, 361, 0), 2 + 16);
        D.due("another at the wedding", x.fine(1, 0, 340), 1 + 4 + 16);
    }

    private static void letGowns() {
        GownCourt x = new GownCourt();
        for (int g = 0; g < 4; g++) {
            x.gown(1, 0, 0, 0, 0, 0, 0);
        }
        Due.act(x, 100, "seal 10; sleeve 0 all always fine 1;");
        Due.act(x, 105, "sleeve 0 all always fine 2;");
        Due.act(x, 200, "seal 9999; sleeve 0 all always fine 4;");
        x.seal(0, 99);
        x.seal(1, 100);
        x.seal(2, 199);
        D.due("sealed 99, day 100", x.fine(0, 0, 100), 0);
        D.due("sealed 99, day 105", x.fine(0, 0, 105), 2);
        D.due("sealed 99, day 109", x.broken(0, 0, 109, 0), 0);
        D.due("sealed 99, day 110", x.fine(0, 0, 110), 3);
        D.due("sealed 99, day 9999", x.fine(0, 0, 9999), 3);
        D.due("sealed on the first day", x.fine(0, 1, 100), 1);
        D.due("sealed behind one act, ahead of another", x.fine(0, 2, 200), 3);
        D.due("not sealed", x.fine(0, 3, 200), 7);
    }

    private static void repealed() {
        GownCourt x = new GownCourt();
        x.gown(1, 0, 0, 0, 0, 0, 0);
        Due.act(x, 10, "sleeve 0 all always fine 1;");
        Due.act(x, 20, "repeal 0; sleeve 0 all always fine 2;");
        D.due("fine of 9", x.fine(0, 0, 9), 0);
        D.due("fine of 19", x.fine(0, 0, 19), 1);
        D.due("fine of 20", x.fine(0, 0, 20), 2);
        D.due("broken of 19", x.broken(0, 0, 19, 0), 1);
        D.due("broken of 20", x.broken(0, 0, 20, 0), 0);
    }

    private static void growing() {
        GownCourt x = new GownCourt();
        x.gown(1, 0, 0, 0, 0, 0, 0);
        Due.act(x, 0, "sleeve 0 all always fine 10;");
        int[] fines = {10, 20, 30, 40, 50, 50, 50};
        int sum = 0;
        for (int i = 0; i < fines.length; i++) {
            D.due("fine ahead of " + i, x.fine(0, 0, 0), fines[i]);
            D.due("letter " + i, x.letter(1, 0, 0, 100 - i), i);
            D.due("judge " + i, x.judge(i), 1);
            D.due("lettered 5 of " + i, x.lettered(i, 5), fines[i]);
            sum += fines[i];
            D.due("person 0", x.person(0, 0), i + 1);
            D.due("person 1", x.person(0, 1), sum);
            D.due("chest", x.count(3), sum);
        }
        D.due("another's fine", x.fine(1, 0, 0), 10);
        D.due("broken is no more", x.broken(0, 0, 0, 0), 1);
    }

    private static void letters() {
        GownCourt x = new GownCourt();
        x.gown(1, 0, 0, 0, 0, 0, 0);
        x.gown(0, 0, 0, 0, 0, 0, 0);
        D.due("letter 0", x.letter(7, 8, 1, 55), 0);
        D.due("by", x.lettered(0, 0), 7);
        D.due("accused", x.lettered(0, 1), 8);
        D.due("gown", x.lettered(0, 2), 1);
        D.due("day", x.lettered(0, 3), 55);
        D.due("not judged", x.lettered(0, 4), 0);
        D.due("paid", x.lettered(0, 5), 0);
        D.due("had", x.lettered(0, 6), 0);
        D.due("what 7", x.lettered(0, 7), -9);
        D.due("what -1", x.lettered(0, -1), -9);
        D.due("letter 1", x.lettered(1, 0), -9);
        D.due("letter -1", x.lettered(-1, 0), -9);
        for (int k = 1; k < 60; k++) {
            D.due("letter " + k, x.letter(k % 30, (k + 1) % 30, k % 2, k), k);
        }
        D.due("the 61st", x.letter(0, 1, 0, 0), -3);
        D.due("the 61st that can't be", x.letter(0, 0, 0, 0), -2);
        D.due("letter 59", x.lettered(59, 3), 59);
        D.due("letter 60", x.lettered(60, 3), -9);
        D.due("count(2)", x.count(2), 60);
    }

    private static void parts() {
        GownCourt x = new GownCourt();
        x.gown(1, 0, 0, 0, 0, 0, 0);
        Due.act(x, 10, "sleeve 0 all always fine 19; part 50;");
        Due.act(x, 20, "part 0;");
        Due.act(x, 30, "repeal 1;");
        Due.act(x, 40, "part 100; repeal 0; sleeve 0 all always fine 7;");
        int[] days = {10, 20, 30, 40};
        int[] shares = {9, 0, 9, 7};
        int[] fines = {19, 19, 19, 7};
        int chest = 0;
        int had = 0;
        for (int i = 0; i < 4; i++) {
            x.letter(29, i, 0, days[i]);
            D.due("judge", x.judge(i), 1);
            D.due("paid", x.lettered(i, 5), fines[i]);
            D.due("share", x.lettered(i, 6), shares[i]);
            chest += fines[i] - shares[i];
            had += shares[i];
            D.due("chest", x.count(3), chest);
            D.due("had in all", x.person(29, 2), had);
            D.due("paid in all", x.person(i, 1), fines[i]);
        }
        D.due("who denounced paid nothing", x.person(29, 1), 0);
        D.due("who denounced isn't convicted", x.person(29, 0), 0);
    }

    private static void dismissed() {
        GownCourt x = new GownCourt();
        x.gown(1, 0, 0, 0, 0, 0, 0);
        x.gown(1, 0, 0, 0, 0, 0, 0);
        x.letter(0, 1, 0, 10);
        x.letter(2, 1, 0, 10);
        D.due("false, there is no act", x.judge(0), 2);
        Due.act(x, 0, "sleeve 0 all always fine 10;");
        D.due("a false one before dismisses none", x.judge(1), 1);
        x.letter(0, 1, 0, 10);
        x.letter(0, 1, 1, 10);
        x.letter(0, 1, 0, 11);
        x.letter(0, 3, 0, 10);
        D.due("dismissed", x.judge(2), 3);
        D.due("verdict", x.lettered(2, 4), 3);
        D.due("its fine", x.lettered(2, 5), 0);
        D.due("its share", x.lettered(2, 6), 0);
        D.due("convicted once", x.person(1, 0), 1);
        D.due("another gown", x.judge(3), 1);
        D.due("another day", x.judge(4), 1);
        D.due("another one", x.judge(5), 1);
        D.due("convicted thrice", x.person(1, 0), 3);
        D.due("dismissed is judged", x.judge(2), -4);
        D.due("paid", x.person(1, 1), 10 + 20 + 30);
    }

    private static void dismissedByTheFirst() {
        GownCourt x = new GownCourt();
        x.gown(1, 0, 0, 0, 0, 0, 0);
        Due.act(x, 0, "sleeve 0 all always fine 1;");
        Due.act(x, 1, "sleeve 0 all always fine 9998;");
        x.letter(0, 1, 0, 0);
        x.letter(0, 1, 0, 0);
        x.letter(0, 1, 0, 1);
        x.letter(0, 1, 0, 1);
        D.due("a fine of 1", x.judge(0), 1);
        D.due("dismissed", x.judge(1), 3);
        D.due("a later letter first", x.judge(3), 1);
        D.due("its fine", x.lettered(3, 5), 2 * 9999);
        D.due("no act has a part", x.lettered(3, 6), 0);
        D.due("an earlier letter dismissed", x.judge(2), 3);
        D.due("chest", x.count(3), 1 + 2 * 9999);
    }

    private static void falseOnes() {
        GownCourt x = new GownCourt();
        x.gown(1, 0, 0, 0, 0, 0, 0);
        Due.act(x, 10, "sleeve 0 all always fine 0; part 50;");
        x.letter(4, 5, 0, 10);
        D.due("broken without a fine", x.broken(5, 0, 10, 0), 1);
        D.due("false", x.judge(0), 2);
        D.due("verdict", x.lettered(0, 4), 2);
        D.due("its fine", x.lettered(0, 5), 0);
        D.due("its share", x.lettered(0, 6), 0);
        D.due("who denounced paid", x.person(4, 1), 50);
        D.due("who denounced isn't convicted", x.person(4, 0), 0);
        D.due("the accused paid", x.person(5, 1), 0);
        D.due("chest", x.count(3), 50);
    }

    private static void counts() {
        GownCourt x = new GownCourt();
        x.gown(1, 0, 0, 0, 0, 0, 0);
        x.gown(1, 0, 0, 0, 0, 0, 0);
        Due.act(x, 0, "sleeve 0 all always fine 10;");
        x.letter(0, 1, 0, 0);
        x.letter(0, 1, 0, 0);
        x.letter(0, 1, 0, 0);
        x.judge(0);
        x.like(5, 4, 0);
        x.like(5, 3, 0);
        x.like(5, 2, 0);
        x.like(5, 1, 0);
        for (int i = 0; i < 5; i++) {
            x.feast(i, i);
        }
        x.feed(0, 0, 0, 0, 0);
        int[] due = {1, 2, 3, 10, 4, 5, 20};
        for (int what = 0; what < 7; what++) {
            D.due("count(" + what + ")", x.count(what), due[what]);
        }
        D.due("count(7)", x.count(7), -1);
        D.due("count(-1)", x.count(-1), -1);
    }
}
