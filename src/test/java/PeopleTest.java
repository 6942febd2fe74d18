/** Promises 1 (a new object), 4 rank, 5 feast, 6 wedding, 7 on. */
public final class PeopleTest {
    private static final Due D = new Due();

    public static void main(String[] args) {
        newObject();
        ranks();
        feasts();
        weddings();
        occasions();
        D.close();
    }

    private static void newObject() {
        GownCourt x = new GownCourt();
        for (int p = 0; p < 30; p++) {
            D.due("new on(p, 0, 0)", x.on(p, 0, 0), 5);
            D.due("new on(p, 9999, 0)", x.on(p, 9999, 0), 5);
            D.due("new on(p, 9999, 1)", x.on(p, 9999, 1), 0);
            for (int what = 0; what < 3; what++) {
                D.due("new person", x.person(p, what), 0);
            }
        }
        for (int what = 0; what <= 6; what++) {
            D.due("new count(" + what + ")", x.count(what), 0);
        }
        D.due("new about(0, 0)", x.about(0, 0), -1);
        D.due("new told(0, 0)", x.told(0, 0), -9);
        D.due("new rule(0, 0, 0)", x.rule(0, 0, 0), -9);
        D.due("new lettered(0, 0)", x.lettered(0, 0), -9);
        D.due("new fault(0)", x.fault(0), 0);
        D.due("new fault(1)", x.fault(1), -1);
        D.due("new force(0)", x.force(0), 0);
        GownCourt y = new GownCourt();
        x.rank(0, 0, 9);
        D.due("another object's rank", y.on(0, 0, 0), 5);
    }

    private static void ranks() {
        GownCourt x = new GownCourt();
        D.due("rank(3, 200, 1)", x.rank(3, 200, 1), 1);
        D.due("rank(3, 100, 8)", x.rank(3, 100, 8), 2);
        D.due("rank(4, 0, 0)", x.rank(4, 0, 0), 1);
        D.due("on 99", x.on(3, 99, 0), 5);
        D.due("on 100", x.on(3, 100, 0), 8);
        D.due("on 199", x.on(3, 199, 0), 8);
        D.due("on 200", x.on(3, 200, 0), 1);
        D.due("rank(3, 100, 2)", x.rank(3, 100, 2), 3);
        D.due("on 150, told last", x.on(3, 150, 0), 2);
        D.due("on 200, told earlier but later day", x.on(3, 200, 0), 1);
        D.due("another's", x.on(4, 150, 0), 0);
        D.due("rank on the last day", x.rank(3, 9999, 9), 4);
        D.due("on 9998", x.on(3, 9998, 0), 1);
        D.due("on 9999", x.on(3, 9999, 0), 9);
    }

    private static void feasts() {
        GownCourt x = new GownCourt();
        D.due("feast(5, 4)", x.feast(5, 4), -2);
        D.due("feast(-1, 4)", x.feast(-1, 4), -2);
        D.due("feast(0, 10000)", x.feast(0, 10000), -2);
        D.due("feast(10000, 10000)", x.feast(10000, 10000), -2);
        for (int i = 1; i <= 20; i++) {
            D.due("feast " + i, x.feast(i * 10, i * 10), i);
        }
        D.due("the 21st feast", x.feast(9, 9), -3);
        D.due("the 21st feast that can't be", x.feast(9, 8), -2);
        D.due("count(5)", x.count(5), 20);
        D.due("on 9", x.on(0, 9, 1), 0);
        D.due("on 10", x.on(0, 10, 1), 1);
        D.due("on 11", x.on(0, 11, 1), 0);
        D.due("on 200", x.on(29, 200, 1), 1);
    }

    private static void weddings() {
        GownCourt x = new GownCourt();
        D.due("wedding(-1, 0, 0)", x.wedding(-1, 0, 0), -2);
        D.due("wedding(30, 0, 0)", x.wedding(30, 0, 0), -2);
        D.due("wedding(0, 1, 0)", x.wedding(0, 1, 0), -2);
        D.due("wedding(0, -1, 0)", x.wedding(0, -1, 0), -2);
        D.due("wedding(0, 0, 10000)", x.wedding(0, 0, 10000), -2);
        for (int p = 0; p < 30; p++) {
            for (int i = 1; i <= 4; i++) {
                D.due("wedding " + i, x.wedding(p, 100 * i + p, 100 * i + p), i);
            }
            D.due("the 5th wedding", x.wedding(p, 1, 1), -3);
            D.due("the 5th wedding that can't be", x.wedding(p, 2, 1), -2);
        }
        D.due("on(29, 429, 1)", x.on(29, 429, 1), 2);
        D.due("on(29, 428, 1)", x.on(29, 428, 1), 0);
        D.due("on(28, 428, 1)", x.on(28, 428, 1), 2);
        D.due("feasts are none of these", x.count(5), 0);
    }

    private static void occasions() {
        GownCourt x = new GownCourt();
        x.feast(100, 110);
        x.feast(105, 120);
        x.wedding(0, 110, 111);
        x.wedding(0, 130, 9999);
        D.due("on 99", x.on(0, 99, 1), 0);
        D.due("on 100", x.on(0, 100, 1), 1);
        D.due("on 110", x.on(0, 110, 1), 2);
        D.due("on 110 of another", x.on(1, 110, 1), 1);
        D.due("on 111", x.on(0, 111, 1), 2);
        D.due("on 112", x.on(0, 112, 1), 1);
        D.due("on 120", x.on(0, 120, 1), 1);
        D.due("on 121", x.on(0, 121, 1), 0);
        D.due("on 9999", x.on(0, 9999, 1), 2);
    }
}
