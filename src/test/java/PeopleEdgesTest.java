/** The edges that the document names for promises 1 (a new object), 4 rank, 5 feast, 6 wedding, 7 on. */
public final class PeopleEdgesTest {
    private static final Due D = new Due();

    public static void main(String[] args) {
        nothingAtFirst();
        rankFiveAtFirst();
        theLastCall();
        rankNumbers();
        rankDays();
        rankHoldsFromItsDay();
        toldLastOfOneDay();
        twelveChangesEach();
        feastNumbers();
        feastFromNotAboveTo();
        feastHasItsFirstAndLastDay();
        twentyFeasts();
        weddingNumbers();
        weddingFromNotAboveTo();
        fourWeddingsEach();
        weddingHasItsFirstAndLastDay();
        weddingAheadOfFeast();
        onNumbers();
        D.close();
    }

    private static void nothingAtFirst() {
        D.of("No ACTS, no GOWNS");
        GownCourt x = new GownCourt();
        for (int what = 0; what <= 6; what++) {
            D.due("count(" + what + ")", x.count(what), 0);
        }
        D.due("told(0, 0)", x.told(0, 0), -9);
        D.due("rule(0, 0, 0)", x.rule(0, 0, 0), -9);
        D.due("about(0, 0)", x.about(0, 0), -1);
        D.due("lettered(0, 0)", x.lettered(0, 0), -9);
        D.due("force(0)", x.force(0), 0);
        D.due("force(9999)", x.force(9999), 0);
        D.due("counts(15, 9999)", x.counts(15, 9999), 15);
        D.due("end(0)", x.end(0), 0);
        D.due("end(1)", x.end(1), -1);
        for (int p = 0; p < 30; p++) {
            D.due("OCCASION", x.on(p, 5000, 1), 0);
            for (int what = 0; what < 3; what++) {
                D.due("person(" + p + ", " + what + ")", x.person(p, what), 0);
            }
        }
    }

    private static void rankFiveAtFirst() {
        D.of("all of RANK 5");
        GownCourt x = new GownCourt();
        for (int p = 0; p < 30; p++) {
            D.due("on(" + p + ", 0, 0)", x.on(p, 0, 0), 5);
            D.due("on(" + p + ", 9999, 0)", x.on(p, 9999, 0), 5);
        }
    }

    private static void theLastCall() {
        D.of("An object is used for at most 512 calls after it has been made");
        GownCourt x = new GownCourt();
        for (int call = 1; call < 510; call++) {
            x.worn(0, 0, 0, 499, 0);
        }
        D.due("the 510th call", x.gown(1, 2, 3, 4, 5, 6, 7), 0);
        D.due("the 511th call", x.rank(0, 0, 9), 1);
        D.due("the 512th call", x.worn(0, 9, 9500, 9999, 0), 500);
        // What later calls answer is free; that they end stands in LANGUAGE.md, rule 7.
        for (int call = 513; call < 3000; call++) {
            x.rank(call % 30, call, call % 10);
            x.gown(0, 0, 0, 0, 0, 0, 0);
            x.letter(0, 1, 0, call);
            x.judge(call % 70);
            Due.act(x, call, "seal 1;");
        }
    }

    private static void rankNumbers() {
        D.of("PEOPLE 0 .. 29: each of a RANK 0 .. 9");
        GownCourt x = new GownCourt();
        D.bounds("rank of one", 0, 29, -2, p -> x.rank(p, 0, 1));
        D.bounds("rank", 0, 9, -2, rank -> x.rank(1, 0, rank));
        D.due("the last of PEOPLE", x.on(29, 0, 0), 1);
        D.due("the first of PEOPLE", x.on(0, 0, 0), 1);
        D.due("the highest RANK", x.on(1, 0, 0), 9);
        D.due("the next to the last has none of it", x.on(28, 0, 0), 5);
        x.rank(1, 0, 0);
        D.due("the lowest RANK", x.on(1, 0, 0), 0);
    }

    private static void rankDays() {
        D.of("DAYS 0 .. 9999");
        GownCourt x = new GownCourt();
        D.bounds("rank from a day", 0, 9999, -2, day -> x.rank(0, day, 3));
        D.due("from the first day", x.on(0, 0, 0), 3);
        GownCourt y = new GownCourt();
        y.rank(0, 9999, 3);
        D.due("ahead of the last day", y.on(0, 9998, 0), 5);
        D.due("on the last day", y.on(0, 9999, 0), 3);
    }

    private static void rankHoldsFromItsDay() {
        D.of("on a day that holds which was told with the latest day not behind it");
        GownCourt x = new GownCourt();
        x.rank(0, 200, 2);
        x.rank(0, 100, 1);
        x.rank(0, 300, 3);
        int[][] due = {{0, 5}, {99, 5}, {100, 1}, {101, 1}, {199, 1}, {200, 2}, {201, 2}, {299, 2}, {300, 3}, {9999, 3}};
        for (int[] d : due) {
            D.due("on(0, " + d[0] + ", 0)", x.on(0, d[0], 0), d[1]);
            D.due("of another", x.on(1, d[0], 0), 5);
        }
    }

    private static void toldLastOfOneDay() {
        D.of("of one day that told last");
        GownCourt x = new GownCourt();
        x.rank(0, 100, 9);
        x.rank(0, 100, 1);
        D.due("the second of one day", x.on(0, 100, 0), 1);
        x.rank(0, 99, 7);
        D.due("a day below, told later", x.on(0, 100, 0), 1);
        D.due("on that day below", x.on(0, 99, 0), 7);
        x.rank(0, 100, 9);
        D.due("the third of one day", x.on(0, 100, 0), 9);
        x.rank(0, 100, 5);
        D.due("back to the first RANK", x.on(0, 9999, 0), 5);
    }

    private static void twelveChangesEach() {
        D.of("at most 12 times each");
        GownCourt x = new GownCourt();
        for (int p = 0; p < 30; p++) {
            for (int i = 1; i <= 12; i++) {
                D.due("change " + i + " of " + p, x.rank(p, 100, 1), i);
            }
            D.due("the 13th of " + p, x.rank(p, 100, 2), -3);
        }
        D.due("on of the first", x.on(0, 100, 0), 1);
        D.due("on of the last", x.on(29, 100, 0), 1);
        D.due("the 14th", x.rank(0, 0, 3), -3);
        D.due("on still", x.on(0, 0, 0), 5);
        D.due("RANGE, though full", x.rank(0, 0, 10), -2);
        GownCourt y = new GownCourt();
        for (int i = 1; i <= 12; i++) {
            y.rank(5, 0, 1);
        }
        D.due("another has room", y.rank(6, 0, 2), 1);
    }

    private static void feastNumbers() {
        D.of("A FEAST on days from .. to");
        GownCourt x = new GownCourt();
        D.bounds("feast to the last day from", 0, 9999, -2, from -> x.feast(from, 9999));
        D.bounds("feast from the first day to", 0, 9999, -2, to -> x.feast(0, to));
        D.due("both too low", x.feast(-2, -1), -2);
        D.due("both too high", x.feast(10000, 10001), -2);
        D.due("count(5)", x.count(5), 4);
    }

    private static void feastFromNotAboveTo() {
        D.of("(from not above to)");
        GownCourt x = new GownCourt();
        D.due("feast(5, 4)", x.feast(5, 4), -2);
        D.due("feast(9999, 0)", x.feast(9999, 0), -2);
        D.due("feast(1, 0)", x.feast(1, 0), -2);
        D.due("count(5)", x.count(5), 0);
        D.due("feast(5, 5)", x.feast(5, 5), 1);
        D.due("feast(0, 0)", x.feast(0, 0), 2);
        D.due("feast(9999, 9999)", x.feast(9999, 9999), 3);
    }

    private static void feastHasItsFirstAndLastDay() {
        D.of("else 1 a feast, if some FEAST has it; else 0 daily");
        GownCourt x = new GownCourt();
        x.feast(100, 102);
        x.feast(200, 200);
        x.feast(9999, 9999);
        int[][] due = {{0, 0}, {99, 0}, {100, 1}, {101, 1}, {102, 1}, {103, 0}, {199, 0}, {200, 1}, {201, 0}, {9998, 0}, {9999, 1}};
        for (int[] d : due) {
            D.due("on(0, " + d[0] + ", 1)", x.on(0, d[0], 1), d[1]);
            D.due("on(29, " + d[0] + ", 1)", x.on(29, d[0], 1), d[1]);
        }
        x.feast(0, 9999);
        D.due("a feast of all days", x.on(0, 0, 1), 1);
    }

    private static void twentyFeasts() {
        D.of("FEASTS: spans of days (at most 20)");
        GownCourt x = new GownCourt();
        for (int i = 1; i <= 20; i++) {
            D.due("feast " + i, x.feast(10 * i, 10 * i), i);
        }
        D.due("the 21st", x.feast(9, 9), -3);
        D.due("count(5)", x.count(5), 20);
        D.due("the 21st has no day", x.on(0, 9, 1), 0);
        D.due("the first has its day", x.on(0, 10, 1), 1);
        D.due("the 20th has its day", x.on(0, 200, 1), 1);
        D.due("RANGE, though full", x.feast(9, 8), -2);
        D.due("weddings have room", x.wedding(0, 9, 9), 1);
    }

    private static void weddingNumbers() {
        D.of("A WEDDING of one of PEOPLE");
        GownCourt x = new GownCourt();
        D.bounds("wedding of", 0, 29, -2, p -> x.wedding(p, 7, 7));
        D.bounds("wedding from", 0, 9999, -2, from -> x.wedding(1, from, 9999));
        D.bounds("wedding to", 0, 9999, -2, to -> x.wedding(2, 0, to));
        D.due("both too low", x.wedding(3, -2, -1), -2);
        D.due("both too high", x.wedding(3, 10000, 10001), -2);
        D.due("the first of PEOPLE", x.on(0, 7, 1), 2);
        D.due("the last of PEOPLE", x.on(29, 7, 1), 2);
        D.due("another", x.on(28, 7, 1), 0);
    }

    private static void weddingFromNotAboveTo() {
        D.of("WEDDINGS of one of PEOPLE: spans of days");
        GownCourt x = new GownCourt();
        D.due("wedding(0, 5, 4)", x.wedding(0, 5, 4), -2);
        D.due("wedding(0, 9999, 0)", x.wedding(0, 9999, 0), -2);
        D.due("wedding(0, 5, 5)", x.wedding(0, 5, 5), 1);
        D.due("wedding(0, 0, 0)", x.wedding(0, 0, 0), 2);
        D.due("wedding(0, 9999, 9999)", x.wedding(0, 9999, 9999), 3);
    }

    private static void fourWeddingsEach() {
        D.of("(at most 4 each)");
        GownCourt x = new GownCourt();
        for (int p = 0; p < 30; p++) {
            for (int i = 1; i <= 4; i++) {
                D.due("wedding " + i + " of " + p, x.wedding(p, 100 * i, 100 * i), i);
            }
            D.due("the 5th of " + p, x.wedding(p, 1, 1), -3);
            D.due("RANGE of " + p + ", though full", x.wedding(p, 2, 1), -2);
            D.due("the 5th has no day", x.on(p, 1, 1), 0);
            D.due("the 4th has its day", x.on(p, 400, 1), 2);
        }
        D.due("feasts have room", x.feast(1, 1), 1);
        GownCourt y = new GownCourt();
        for (int i = 1; i <= 4; i++) {
            y.wedding(5, 0, 0);
        }
        D.due("another has room", y.wedding(6, 0, 0), 1);
    }

    private static void weddingHasItsFirstAndLastDay() {
        D.of("2 a wedding, if one of theirs has it");
        GownCourt x = new GownCourt();
        x.wedding(3, 100, 102);
        x.wedding(3, 200, 200);
        x.wedding(3, 9999, 9999);
        int[][] due = {{0, 0}, {99, 0}, {100, 2}, {101, 2}, {102, 2}, {103, 0}, {199, 0}, {200, 2}, {201, 0}, {9998, 0}, {9999, 2}};
        for (int[] d : due) {
            D.due("on(3, " + d[0] + ", 1)", x.on(3, d[0], 1), d[1]);
            D.due("of another", x.on(4, d[0], 1), 0);
        }
    }

    private static void weddingAheadOfFeast() {
        D.of("OCCASION of one on a day: 2 a wedding, if one of theirs has it; else 1 a feast");
        GownCourt x = new GownCourt();
        x.wedding(0, 10, 12);
        x.feast(11, 13);
        int[] due = {0, 2, 2, 2, 1, 0};
        for (int i = 0; i < due.length; i++) {
            D.due("on(0, " + (9 + i) + ", 1)", x.on(0, 9 + i, 1), due[i]);
        }
        D.due("another at the feast", x.on(1, 12, 1), 1);
        D.due("another ahead of it", x.on(1, 10, 1), 0);
    }

    private static void onNumbers() {
        D.of("RANGE: no such, day, what");
        GownCourt x = new GownCourt();
        D.bounds("on of one", 0, 29, -2, p -> x.on(p, 0, 0));
        D.bounds("on of one's OCCASION", 0, 29, -2, p -> x.on(p, 0, 1));
        D.bounds("on a day", 0, 9999, -2, day -> x.on(0, day, 0));
        D.bounds("OCCASION on a day", 0, 9999, -2, day -> x.on(0, day, 1));
        D.bounds("on of a what", 0, 1, -2, what -> x.on(0, 0, what));
    }
}
