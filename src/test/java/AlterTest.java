/** Promises 24 price, 25 alter, 26 best, 27 worn. */
public final class AlterTest {
    private static final Due D = new Due();

    public static void main(String[] args) {
        prices();
        measures();
        stuffs();
        colours();
        letAndUnbound();
        best();
        worn();
        wornAsDaily();
        wornOfLetGowns();
        D.close();
    }

    private static void prices() {
        GownCourt x = new GownCourt();
        for (int k = 0; k < 7; k++) {
            D.due("first price", x.price(k, 100 + k), 1);
        }
        for (int k = 0; k < 7; k++) {
            D.due("price before", x.price(k, 999), 100 + k);
            D.due("price 999", x.price(k, 0), 999);
            D.due("price 1000", x.price(k, 1000), -2);
            D.due("price -1", x.price(k, -1), -2);
            D.due("price 0", x.price(k, 1), 0);
        }
        D.due("price(-1, 1)", x.price(-1, 1), -2);
        D.due("price(7, 1)", x.price(7, 1), -2);
    }

    private static void measures() {
        GownCourt x = new GownCourt();
        x.gown(100, 100, 100, 100, 100, 0, 0);
        Due.act(x, 0, "sleeve 99 all always fine 1; train 98 all always fine 1; pearls 97 all always fine 1;"
                + "chain 96 all always fine 1; cost 95 all always fine 1;");
        D.due("price 1", x.alter(0, 0, 0), 15);
        int[] prices = {1, 10, 100, 0, 7};
        for (int k = 0; k < 5; k++) {
            x.price(k, prices[k]);
        }
        D.due("other prices", x.alter(0, 0, 0), 1 + 20 + 300 + 0 + 35);
        Due.act(x, 10, "sleeve 90 all always fine 0; sleeve 95 all always fine 5; train 100 all always fine 1;");
        D.due("the least bound", x.alter(0, 0, 10), 10 + 20 + 300 + 35);
        D.due("ahead of it", x.alter(0, 0, 9), 1 + 20 + 300 + 35);
        GownCourt y = new GownCourt();
        y.gown(9999, 9999, 9999, 9999, 9999, 15, 7);
        for (int k = 0; k < 7; k++) {
            y.price(k, 999);
        }
        Due.act(y, 0, "sleeve 0 all always fine 1; train 0 all always fine 1; pearls 0 all always fine 1;"
                + "chain 0 all always fine 1; cost 0 all always fine 1; stuff 15 all always fine 1; colour 7 all always fine 1;");
        D.due("the dearest", y.alter(0, 0, 0), 5 * 9999 * 999 + 2 * 999);
    }

    private static void stuffs() {
        GownCourt x = new GownCourt();
        x.gown(0, 0, 0, 0, 0, 5, 0);
        x.price(5, 33);
        Due.act(x, 0, "stuff 5 all always fine 1; stuff 4 all always fine 1;");
        D.due("another stuff", x.alter(0, 0, 0), 33);
        x.like(5, 3, 10);
        D.due("counts as one that may be", x.alter(0, 0, 10), 0);
        for (int stuff = 1; stuff < 16; stuff++) {
            x.like(stuff, 0, 20);
        }
        Due.act(x, 30, "stuff 0 all always fine 7;");
        D.due("all count as 0, which is free", x.alter(0, 0, 20), 0);
        D.due("all count as 0, which is barred", x.alter(0, 0, 30), -1);
        D.due("then it is paid", x.best(0, 0, 30), 2);
        x.like(15, 14, 40);
        D.due("one counts as one that counts as 0", x.alter(0, 0, 40), -1);
        GownCourt y = new GownCourt();
        y.gown(0, 0, 0, 0, 0, 5, 0);
        for (int half = 0; half < 2; half++) {
            StringBuilder text = new StringBuilder();
            for (int stuff = 8 * half; stuff < 8 * half + 8; stuff++) {
                text.append("stuff ").append(stuff).append(" all always fine 1;");
            }
            Due.act(y, half, text.toString());
        }
        D.due("half of the stuffs", y.alter(0, 0, 0), 1);
        D.due("all of the stuffs", y.alter(0, 0, 1), -1);
        oneStuffLeft(0);
        oneStuffLeft(15);
    }

    private static void oneStuffLeft(int left) {
        GownCourt x = new GownCourt();
        x.gown(0, 0, 0, 0, 0, 5, 0);
        for (int half = 0; half < 2; half++) {
            StringBuilder text = new StringBuilder();
            for (int stuff = 8 * half; stuff < 8 * half + 8; stuff++) {
                text.append(stuff == left ? "" : "stuff " + stuff + " all always fine 1;");
            }
            Due.act(x, 0, text.toString());
        }
        D.due("stuff " + left + " is left", x.alter(0, 0, 0), 1);
    }

    private static void colours() {
        GownCourt x = new GownCourt();
        x.gown(5, 0, 0, 0, 0, 0, 3);
        x.price(6, 44);
        Due.act(x, 10, "colour 3 all always fine 1;");
        Due.act(x, 20, "repeal 0; must 3 all always fine 1;");
        Due.act(x, 30, "must 2 all always fine 1;");
        Due.act(x, 40, "repeal 1; sleeve 4 all always fine 1;");
        Due.act(x, 50, "colour 2 all always fine 1;");
        D.due("free", x.alter(0, 0, 9), 0);
        D.due("barred", x.alter(0, 0, 10), 44);
        D.due("must be as it is", x.alter(0, 0, 20), 0);
        D.due("must be two colours", x.alter(0, 0, 30), -1);
        D.due("must be another", x.alter(0, 0, 40), 44 + 1);
        D.due("must be one that is barred", x.alter(0, 0, 50), -1);
        GownCourt y = new GownCourt();
        y.gown(0, 0, 0, 0, 0, 0, 7);
        StringBuilder text = new StringBuilder();
        for (int colour = 1; colour < 8; colour++) {
            text.append("colour ").append(colour).append(" all always fine 1;");
        }
        Due.act(y, 0, text.toString());
        D.due("one colour is left", y.alter(0, 0, 0), 1);
        Due.act(y, 1, "colour 0 all always fine 1;");
        D.due("no colour is left", y.alter(0, 0, 1), -1);
    }

    private static void letAndUnbound() {
        GownCourt x = new GownCourt();
        x.gown(9, 0, 0, 0, 0, 0, 0);
        x.seal(0, 5);
        Due.act(x, 10, "seal 10; sleeve 0 all always fine 1;");
        Due.act(x, 30, "repeal 0; sleeve 0 ranks 6 to 9 always fine 1; sleeve 4 all feast fine 1;");
        x.feast(40, 40);
        D.due("let", x.alter(0, 0, 19), 0);
        D.due("let no more", x.alter(0, 0, 20), 9);
        D.due("of no such rank", x.alter(0, 0, 30), 0);
        D.due("at a feast", x.alter(0, 0, 40), 5);
    }

    private static void best() {
        GownCourt x = new GownCourt();
        x.gown(10, 0, 0, 0, 0, 0, 0);
        Due.act(x, 0, "sleeve 0 all always fine 10;");
        Due.act(x, 10, "repeal 0; sleeve 0 all always fine 0;");
        D.due("as dear", x.best(0, 0, 0), 1);
        x.price(0, 2);
        D.due("dearer", x.best(0, 0, 0), 2);
        x.letter(1, 0, 0, 5);
        x.judge(0);
        D.due("the fine has grown", x.best(0, 0, 0), 1);
        D.due("no fine, though broken", x.best(0, 0, 10), 0);
        D.due("that change all the same", x.alter(0, 0, 10), 20);
    }

    private static void worn() {
        GownCourt x = new GownCourt();
        x.gown(10, 0, 0, 0, 0, 8, 0);
        Due.act(x, 100, "sleeve 9 ranks 0 to 4 always fine 0;");
        Due.act(x, 200, "repeal 0; stuff 7 all always fine 1;");
        x.like(8, 7, 300);
        x.like(8, 6, 400);
        D.due("how many", x.worn(0, 4, 0, 499, 0), 100 + 100 + 100);
        D.due("the first", x.worn(0, 4, 0, 499, 1), 0);
        D.due("the last", x.worn(0, 4, 0, 499, 2), 499);
        D.due("rank 5", x.worn(0, 5, 0, 499, 0), 400);
        D.due("days 100 to 250", x.worn(0, 4, 100, 250, 0), 51);
        D.due("the first of these", x.worn(0, 4, 100, 250, 1), 200);
        D.due("the last of 0 to 150", x.worn(0, 4, 0, 150, 2), 99);
        D.due("one day", x.worn(0, 4, 99, 99, 0), 1);
        D.due("another day", x.worn(0, 4, 100, 100, 0), 0);
        D.due("first of none", x.worn(0, 4, 100, 100, 1), -1);
        D.due("last of none", x.worn(0, 4, 100, 100, 2), -1);
        D.due("the last days", x.worn(0, 4, 9500, 9999, 0), 500);
    }

    private static void wornAsDaily() {
        GownCourt x = new GownCourt();
        x.gown(10, 0, 0, 0, 0, 0, 0);
        Due.act(x, 0, "sleeve 0 ranks 0 to 0 feast fine 1; sleeve 0 ranks 1 to 1 wedding fine 1;"
                + "sleeve 0 ranks 2 to 2 daily fine 1; sleeve 0 ranks 3 to 3 always fine 1;");
        x.feast(0, 9);
        for (int rank = 0; rank < 5; rank++) {
            D.due("rank " + rank, x.worn(0, rank, 0, 19, 0), rank == 2 || rank == 3 ? 0 : 20);
        }
    }

    private static void wornOfLetGowns() {
        GownCourt x = new GownCourt();
        x.gown(10, 0, 0, 0, 0, 0, 0);
        x.seal(0, 9);
        Due.act(x, 10, "seal 5; sleeve 0 all always fine 1;");
        D.due("how many", x.worn(0, 0, 0, 99, 0), 15);
        D.due("the last", x.worn(0, 0, 0, 99, 2), 14);
    }
}
