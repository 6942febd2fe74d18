/** Promises 8 gown, 9 seal, 10 about, 11 like, 12 counts. */
public final class GownsTest {
    private static final Due D = new Due();

    public static void main(String[] args) {
        gowns();
        seals();
        likes();
        D.close();
    }

    private static void gowns() {
        GownCourt x = new GownCourt();
        D.due("gown 0", x.gown(1, 2, 3, 4, 5, 6, 7), 0);
        D.due("gown 1", x.gown(9999, 9998, 0, 9997, 9996, 15, 0), 1);
        for (int what = 0; what <= 6; what++) {
            D.due("about(0, " + what + ")", x.about(0, what), what + 1);
        }
        D.due("about(0, 7)", x.about(0, 7), -1);
        D.due("about(1, 0)", x.about(1, 0), 9999);
        D.due("about(1, 1)", x.about(1, 1), 9998);
        D.due("about(1, 2)", x.about(1, 2), 0);
        D.due("about(1, 3)", x.about(1, 3), 9997);
        D.due("about(1, 4)", x.about(1, 4), 9996);
        D.due("about(1, 5)", x.about(1, 5), 15);
        D.due("about(1, 6)", x.about(1, 6), 0);
        D.due("about(1, 8)", x.about(1, 8), -1);
        D.due("about(1, -1)", x.about(1, -1), -1);
        D.due("about(2, 0)", x.about(2, 0), -1);
        D.due("about(-1, 0)", x.about(-1, 0), -1);
        D.due("count(1)", x.count(1), 2);
    }

    private static void seals() {
        GownCourt x = new GownCourt();
        D.due("seal none", x.seal(0, 5), -2);
        x.gown(0, 0, 0, 0, 0, 0, 0);
        x.gown(0, 0, 0, 0, 0, 0, 0);
        D.due("seal(0, -1)", x.seal(0, -1), -2);
        D.due("seal(0, 10000)", x.seal(0, 10000), -2);
        D.due("seal(-1, 0)", x.seal(-1, 0), -2);
        D.due("seal(2, 0)", x.seal(2, 0), -2);
        D.due("seal(0, 0)", x.seal(0, 0), 1);
        D.due("about(0, 7)", x.about(0, 7), 0);
        D.due("about(1, 7)", x.about(1, 7), -1);
        D.due("seal(0, 7)", x.seal(0, 7), -4);
        D.due("seal(0, 10000) of a sealed one", x.seal(0, 10000), -2);
        D.due("about(0, 7) still", x.about(0, 7), 0);
        D.due("seal(1, 9999)", x.seal(1, 9999), 1);
        D.due("about(1, 7)", x.about(1, 7), 9999);
    }

    private static void likes() {
        GownCourt x = new GownCourt();
        D.due("like(10, 7, 100)", x.like(10, 7, 100), 1);
        D.due("like(7, 3, 200)", x.like(7, 3, 200), 2);
        D.due("like(3, 0, 50)", x.like(3, 0, 50), 3);
        D.due("counts(10, 99)", x.counts(10, 99), 10);
        D.due("counts(10, 100)", x.counts(10, 100), 7);
        D.due("counts(10, 199)", x.counts(10, 199), 7);
        D.due("counts(10, 200)", x.counts(10, 200), 0);
        D.due("counts(7, 200)", x.counts(7, 200), 0);
        D.due("counts(3, 49)", x.counts(3, 49), 3);
        D.due("like(10, 9, 100)", x.like(10, 9, 100), 4);
        D.due("told last of one day", x.counts(10, 200), 9);
        D.due("like(10, 8, 90)", x.like(10, 8, 90), 5);
        D.due("an earlier day told later", x.counts(10, 100), 9);
        D.due("counts(10, 90)", x.counts(10, 90), 8);
        D.due("like(10, 7, 150)", x.like(10, 7, 150), 6);
        D.due("the latest day", x.counts(10, 150), 7);
        D.due("count(4)", x.count(4), 6);
        D.due("counts(0, 9999)", x.counts(0, 9999), 0);
        D.due("counts(15, 9999)", x.counts(15, 9999), 15);
        GownCourt y = new GownCourt();
        for (int stuff = 15; stuff >= 1; stuff--) {
            y.like(stuff, stuff - 1, 16 - stuff);
        }
        D.due("the longest chain", y.counts(15, 9999), 0);
        D.due("a part of it", y.counts(15, 5), 10);
    }
}
