/** The edges that the document names for promises 2 feed, 3 end, 13 act, 14 fault. */
public final class TapeEdgesTest {
    private static final Due D = new Due();

    public static void main(String[] args) {
        eightHundredBytes();
        fullFeedLeavesTheTape();
        highestByteFirst();
        endNumbers();
        endCutsWhatIsBehind();
        feedBehindAnEnd();
        emptyBehindAnAct();
        actDays();
        actNotBelowTheLatest();
        rangeAheadOfNone();
        noneAheadOfFull();
        twelveActs();
        faultAheadOfAny();
        faultOfTheLatestNotRange();
        faultNumbers();
        D.close();
    }

    private static int feedBlanks(GownCourt x) {
        return x.feed(0x20202020, 0x20202020, 0x20202020, 0x20202020, 0x20202020);
    }

    private static void eightHundredBytes() {
        D.of("FULL when there would be more than 800");
        GownCourt x = new GownCourt();
        for (int i = 1; i <= 40; i++) {
            D.due("feed " + i, feedBlanks(x), 20 * i);
        }
        D.due("feed of 820", feedBlanks(x), -3);
        int[][] cuts = {{799, -3}, {781, -3}, {780, 800}, {779, 799}, {1, 21}, {0, 20}};
        for (int[] cut : cuts) {
            x.end(cut[0]);
            D.due("feed behind end(" + cut[0] + ")", feedBlanks(x), cut[1]);
            while (feedBlanks(x) > 0) {
                D.due("up to 800 at most", Math.max(x.count(6), 800), 800);
            }
        }
    }

    private static void fullFeedLeavesTheTape() {
        D.of("Twenty bytes come behind THE TAPE");
        GownCourt x = new GownCourt();
        Due.tell(x, " ".repeat(774) + "seal 5;");
        D.due("count(6)", x.count(6), 781);
        // "part 9; .." would be a second line.
        D.due("feed of 801", x.feed(0x70617274, 0x20393B20, 0x20202020, 0x20202020, 0x20202020), -3);
        D.due("count(6) still", x.count(6), 781);
        D.due("act", x.act(0), 0);
        D.due("its seal", x.told(0, 2), 5);
        D.due("no part of it", x.told(0, 3), -1);
    }

    private static void highestByteFirst() {
        D.of("the highest of each int first");
        // Nineteen blanks and a byte that is none: its place is where it came.
        for (int at = 0; at < 20; at++) {
            GownCourt x = new GownCourt();
            int[] w = {0x20202020, 0x20202020, 0x20202020, 0x20202020, 0x20202020};
            int shift = 24 - 8 * (at % 4);
            w[at / 4] = w[at / 4] & ~(255 << shift) | 0xFF << shift;
            D.due("feed", x.feed(w[0], w[1], w[2], w[3], w[4]), 20);
            D.due("act of byte 255 at " + at, x.act(0), -1);
            D.due("its KIND", x.fault(0), 1);
            D.due("its PLACE", x.fault(1), at);
        }
        GownCourt x = new GownCourt();
        x.feed(0x7365616C, 0x20313233, 0x343B7061, 0x72742037, 0x373B2020);
        D.due("act of \"seal 1234;part 77;  \"", x.act(0), 0);
        D.due("its seal", x.told(0, 2), 1234);
        D.due("its part", x.told(0, 3), 77);
    }

    private static void endNumbers() {
        D.of("NONE when it has not so many, or n is below 0");
        GownCourt x = new GownCourt();
        D.bounds("end of an empty tape", 0, 0, -1, x::end);
        feedBlanks(x);
        D.due("end(21) of 20", x.end(21), -1);
        D.due("end(-1) of 20", x.end(-1), -1);
        D.due("count(6) still", x.count(6), 20);
        D.due("end(20) of 20", x.end(20), 20);
        D.due("end(19) of 20", x.end(19), 19);
        D.due("end(20) of 19", x.end(20), -1);
        D.due("end(0)", x.end(0), 0);
        D.due("end(1) of 0", x.end(1), -1);
        for (int i = 0; i < 40; i++) {
            feedBlanks(x);
        }
        D.due("end(801) of 800", x.end(801), -1);
        D.due("end(800) of 800", x.end(800), 800);
        D.due("end(most)", x.end(Integer.MAX_VALUE), -1);
        D.due("end(least)", x.end(Integer.MIN_VALUE), -1);
        D.due("count(6)", x.count(6), 800);
    }

    private static void endCutsWhatIsBehind() {
        D.of("THE TAPE has its first n bytes alone: n");
        GownCourt x = new GownCourt();
        Due.tell(x, "seal 5; part 6;");
        D.due("end(7)", x.end(7), 7);
        D.due("act of \"seal 5;\"", x.act(0), 0);
        D.due("its seal", x.told(0, 2), 5);
        D.due("its part", x.told(0, 3), -1);
        Due.tell(x, "seal 5; part 6;");
        D.due("end(6)", x.end(6), 6);
        D.due("act of \"seal 5\"", x.act(0), -1);
        D.due("its PLACE, the text's length", x.fault(1), 6);
        Due.tell(x, "x");
        D.due("end(0)", x.end(0), 0);
        D.due("act of nothing", x.act(0), 1);
    }

    private static void feedBehindAnEnd() {
        D.of("Twenty bytes come behind THE TAPE");
        GownCourt x = new GownCourt();
        Due.tell(x, "seal 1xxxxxxxxxxxxxx");
        x.end(6);
        // "23; " and blanks: the number goes on where the tape was cut.
        x.feed(0x32333B20, 0x20202020, 0x20202020, 0x20202020, 0x20202020);
        D.due("count(6)", x.count(6), 26);
        D.due("act", x.act(0), 0);
        D.due("its seal", x.told(0, 2), 123);
    }

    private static void emptyBehindAnAct() {
        D.of("THE TAPE (read, and empty then)");
        GownCourt x = new GownCourt();
        D.due("act", Due.act(x, 5, "seal 1;"), 0);
        D.due("count(6) behind an ACT", x.count(6), 0);
        D.due("end(1) behind an ACT", x.end(1), -1);
        D.due("NONE", Due.act(x, 5, "seal"), -1);
        D.due("count(6) behind NONE", x.count(6), 0);
        D.due("RANGE, no such day", Due.act(x, 10000, "seal 1;"), -2);
        D.due("count(6) behind RANGE", x.count(6), 0);
        D.due("RANGE, a day below", Due.act(x, 4, "seal 1;"), -2);
        D.due("count(6) behind RANGE", x.count(6), 0);
        for (int a = 1; a < 12; a++) {
            x.act(5);
        }
        D.due("FULL", Due.act(x, 5, "seal 1;"), -3);
        D.due("count(6) behind FULL", x.count(6), 0);
        D.due("the next of nothing", x.act(5), -3);
        D.due("a feed behind it", feedBlanks(x), 20);
    }

    private static void actDays() {
        D.of("RANGE: no such day");
        GownCourt x = new GownCourt();
        D.bounds("act on", 0, 9999, -2, x::act);
        D.due("count(0)", x.count(0), 2);
        D.due("the first day", x.told(0, 0), 0);
        D.due("the last day", x.told(1, 0), 9999);
        D.due("once more on the last day", x.act(9999), 2);
    }

    private static void actNotBelowTheLatest() {
        D.of("each with a first day (not below that of the one before)");
        GownCourt x = new GownCourt();
        D.due("act(7)", x.act(7), 0);
        D.due("act(6)", x.act(6), -2);
        D.due("act(0)", x.act(0), -2);
        D.due("act(7) again", x.act(7), 1);
        D.due("act(6) still", x.act(6), -2);
        D.due("act(8)", x.act(8), 2);
        D.due("act(7), of an earlier one", x.act(7), -2);
        D.due("NONE is no ACT", Due.act(x, 100, "x"), -1);
        D.due("act(10000)", x.act(10000), -2);
        D.due("act(8) behind these", x.act(8), 3);
        D.due("act(9999)", x.act(9999), 4);
        D.due("act(9998)", x.act(9998), -2);
        D.due("count(0)", x.count(0), 5);
    }

    private static void rangeAheadOfNone() {
        D.of("RANGE: no such day, or below that of the latest ACT; NONE with a FAULT; FULL (in this order)");
        GownCourt x = new GownCourt();
        D.due("no such day, of a FAULT", Due.act(x, -1, "x"), -2);
        D.due("fault(0)", x.fault(0), 0);
        x.act(5);
        D.due("a day below, of a FAULT", Due.act(x, 4, "x"), -2);
        D.due("fault(0)", x.fault(0), 0);
        D.due("that day, of a FAULT", Due.act(x, 5, "x"), -1);
        D.due("fault(0)", x.fault(0), 1);
    }

    private static void noneAheadOfFull() {
        D.of("NONE with a FAULT; FULL (in this order)");
        GownCourt x = new GownCourt();
        for (int a = 0; a < 12; a++) {
            x.act(5);
        }
        String twelve = "cost 1 all always fine 1;".repeat(12);
        D.due("RANGE, though full", Due.act(x, 4, "x"), -2);
        D.due("SYNTAX, though full", Due.act(x, 5, "x"), -1);
        D.due("its KIND", x.fault(0), 1);
        D.due("an ACT that isn't there", Due.act(x, 5, "repeal 12;"), -1);
        D.due("its KIND", x.fault(0), 2);
        D.due("TWICE, though full", Due.act(x, 5, "repeal 11;repeal 11;"), -1);
        D.due("its KIND", x.fault(0), 3);
        D.due("ROOM, though full", Due.act(x, 5, twelve + "must"), -1);
        D.due("its KIND", x.fault(0), 4);
        D.due("its PLACE", x.fault(1), 300);
        D.due("without a FAULT", Due.act(x, 5, twelve + "repeal 11;"), -3);
        D.due("its KIND", x.fault(0), 0);
        D.due("its PLACE", x.fault(1), -1);
        D.due("nothing is repealed", x.force(5), 4095);
    }

    private static void twelveActs() {
        D.of("ACTS, at most 12, numbered from 0");
        GownCourt x = new GownCourt();
        for (int a = 0; a < 12; a++) {
            D.due("act " + a, Due.act(x, 100 + a, "seal " + a + ";"), a);
        }
        D.due("the 13th", Due.act(x, 200, "seal 50;"), -3);
        D.due("the 13th on the last day", x.act(9999), -3);
        D.due("count(0)", x.count(0), 12);
        D.due("told(11, 2)", x.told(11, 2), 11);
        D.due("told(12, 0)", x.told(12, 0), -9);
        D.due("the day of the latest is as it was", x.act(111), -3);
        D.due("a day below it", x.act(110), -2);
        D.due("force(111)", x.force(111), 4095);
    }

    private static void faultAheadOfAny() {
        D.of("0 without (and ahead of any), 1: its PLACE (NONE)");
        GownCourt x = new GownCourt();
        D.due("fault(0) ahead of any", x.fault(0), 0);
        D.due("fault(1) ahead of any", x.fault(1), -1);
        Due.act(x, -1, "x");
        D.due("fault(0) behind RANGE alone", x.fault(0), 0);
        D.due("fault(1) behind RANGE alone", x.fault(1), -1);
        Due.act(x, 0, "");
        D.due("fault(0) without", x.fault(0), 0);
        D.due("fault(1) without", x.fault(1), -1);
        Due.act(x, 0, "x");
        D.due("fault(0)", x.fault(0), 1);
        D.due("fault(1) at the first byte", x.fault(1), 0);
        Due.tell(x, "seal");
        D.due("fault(0) while the tape is told", x.fault(0), 1);
        x.end(0);
        D.due("fault(1) while the tape is cut", x.fault(1), 0);
        x.act(0);
        D.due("fault(0) without, again", x.fault(0), 0);
        D.due("fault(1) without, again", x.fault(1), -1);
    }

    private static void faultOfTheLatestNotRange() {
        D.of("Of the latest act() that was not RANGE");
        GownCourt x = new GownCourt();
        x.act(5);
        D.faulty(x, 5, "part 101;", 2, 5);
        Due.act(x, 10000, "seal 1;");
        D.due("fault(0) behind no such day", x.fault(0), 2);
        D.due("fault(1) behind no such day", x.fault(1), 5);
        Due.act(x, 4, "  x");
        D.due("fault(0) behind a day below", x.fault(0), 2);
        D.due("fault(1) behind a day below", x.fault(1), 5);
        D.faulty(x, 5, "seal 1; seal", 3, 8);
        for (int a = 1; a < 12; a++) {
            x.act(5);
        }
        D.faulty(x, 5, "seal 1; seal", 3, 8);
        D.due("FULL", x.act(5), -3);
        D.due("fault(0) behind FULL", x.fault(0), 0);
        D.due("fault(1) behind FULL", x.fault(1), -1);
    }

    private static void faultNumbers() {
        D.of("NONE for another what");
        GownCourt x = new GownCourt();
        D.bounds("fault ahead of any, its KIND", 0, 0, -1, x::fault);
        Due.act(x, 0, "seal");
        D.bounds("fault", 0, 1, -1, x::fault);
    }
}
