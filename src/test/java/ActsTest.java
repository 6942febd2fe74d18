/** Promises 2 feed, 3 end, 13 act, 14 fault, 15 told, 16 rule, 17 force. */
public final class ActsTest {
    private static final Due D = new Due();
    private static final String LINE = "cost 1 all always fine 1;";

    public static void main(String[] args) {
        tape();
        bytesInOrder();
        texts();
        blanks();
        syntaxFaults();
        firstFault();
        actOrder();
        emptyBehindRange();
        faultsKept();
        toldAndRule();
        force();
        D.close();
    }

    private static void tape() {
        GownCourt x = new GownCourt();
        D.due("end(0)", x.end(0), 0);
        D.due("end(1) of nothing", x.end(1), -1);
        D.due("end(-1)", x.end(-1), -1);
        for (int i = 1; i <= 40; i++) {
            D.due("feed " + i, x.feed(0, 0, 0, 0, 0), 20 * i);
        }
        D.due("feed of 820", x.feed(0, 0, 0, 0, 0), -3);
        D.due("count(6) behind it", x.count(6), 800);
        D.due("end(801)", x.end(801), -1);
        D.due("end(781)", x.end(781), 781);
        D.due("feed of 801", x.feed(0, 0, 0, 0, 0), -3);
        D.due("end(780)", x.end(780), 780);
        D.due("feed of 800", x.feed(0, 0, 0, 0, 0), 800);
        D.due("end(3)", x.end(3), 3);
        D.due("end(4)", x.end(4), -1);
        D.due("count(6)", x.count(6), 3);
        D.due("feed of 23", x.feed(0, 0, 0, 0, 0), 23);
        D.due("end(least)", x.end(Integer.MIN_VALUE), -1);
        D.due("end(most)", x.end(Integer.MAX_VALUE), -1);
    }

    private static void bytesInOrder() {
        GownCourt x = new GownCourt();
        // "seal" " 123" "4;pa" "rt 7" "7;  "
        x.feed(0x7365616C, 0x20313233, 0x343B7061, 0x72742037, 0x373B2020);
        D.due("act of bytes", x.act(0), 0);
        D.due("its seal", x.told(0, 2), 1234);
        D.due("its part", x.told(0, 3), 77);
        GownCourt y = new GownCourt();
        // A full tape: 32 lines of 25 bytes have too many rules, so blanks and one line.
        Due.tell(y, " ".repeat(775) + LINE);
        D.due("800 bytes", y.count(6), 800);
        D.due("act of 800 bytes", y.act(0), 0);
        D.due("its rules", y.told(0, 1), 1);
        // What was cut off is not read again.
        Due.tell(y, "seal 5; part 6;");
        y.end(7);
        D.due("act of a cut tape", y.act(0), 1);
        D.due("no part", y.told(1, 3), -1);
    }

    private static void texts() {
        GownCourt x = new GownCourt();
        D.stands(x, 0, "", 0);
        D.stands(x, 0, " \n ", 1);
        D.stands(x, 0, "sleeve 9999 all always fine 9999; stuff 15 ranks 0 to 9 wedding fine 0;"
                + " colour 7 all feast fine 1; must 0 ranks 9 to 9 daily fine 2; must 7 all always fine 1;", 2);
        D.stands(x, 0, "repeal 0; seal 0; part 0; repeal 1;", 3);
        D.stands(x, 0, "part 100; seal 9999;", 4);
        D.stands(x, 9999, "repeal 4; repeal 3; repeal 2;", 5);
        D.due("bits", x.told(5, 4), 28);
    }

    private static void blanks() {
        GownCourt x = new GownCourt();
        D.stands(x, 0, "cost1all always fine1;seal2;part3;", 0);
        D.stands(x, 0, "\n\ncost\n0001 ranks2to3feast fine\n0010\n;\n", 1);
        D.due("rule(1, 0, 1)", x.rule(1, 0, 1), 1);
        D.due("rule(1, 0, 5)", x.rule(1, 0, 5), 10);
        D.faulty(x, 0, "cost 1 all alwaysfine 1;", 1, 11);
        D.faulty(x, 0, "cost\t1 all always fine 1;", 1, 4);
        D.faulty(x, 0, "cost 1\r all always fine 1;", 1, 6);
        D.faulty(x, 0, "\0", 1, 0);
        D.faulty(x, 0, "seal 1;\0", 1, 7);
    }

    private static void syntaxFaults() {
        GownCourt x = new GownCourt();
        D.faulty(x, 0, ";", 1, 0);
        D.faulty(x, 0, "5", 1, 0);
        D.faulty(x, 0, "  fine", 1, 2);
        D.faulty(x, 0, "Cost 1 all always fine 1;", 1, 0);
        D.faulty(x, 0, "costs 1 all always fine 1;", 1, 0);
        D.faulty(x, 0, "costz 1 all always fine 1;", 1, 0);
        D.faulty(x, 0, "lost 1 all always fine 1;", 1, 0);
        D.faulty(x, 0, "cart 1;", 1, 0);
        D.faulty(x, 0, "cost{1 all always fine 1;", 1, 4);
        D.faulty(x, 0, "cost`1 all always fine 1;", 1, 4);
        D.faulty(x, 0, "seal 1/;", 1, 6);
        D.faulty(x, 0, "cos 1 all always fine 1;", 1, 0);
        D.faulty(x, 0, "cost all always fine 1;", 1, 5);
        D.faulty(x, 0, "cost 1 always fine 1;", 1, 7);
        D.faulty(x, 0, "cost 1 2 all always fine 1;", 1, 7);
        D.faulty(x, 0, "cost 1 ranks to 2 always fine 1;", 1, 13);
        D.faulty(x, 0, "cost 1 ranks 1 2 always fine 1;", 1, 15);
        D.faulty(x, 0, "cost 1 ranks 1 to always fine 1;", 1, 18);
        D.faulty(x, 0, "cost 1 all fine 1;", 1, 11);
        D.faulty(x, 0, "cost 1 all always 1;", 1, 18);
        D.faulty(x, 0, "cost 1 all always fine;", 1, 22);
        D.faulty(x, 0, "cost 1 all always fine 1 1;", 1, 25);
        D.faulty(x, 0, "cost 1 all always fine 1 seal 1;", 1, 25);
        D.faulty(x, 0, "cost 1 all always fine 1;;", 1, 25);
        D.faulty(x, 0, "cost -1 all always fine 1;", 1, 5);
        D.faulty(x, 0, "seal;", 1, 4);
        D.faulty(x, 0, "repeal;", 1, 6);
        D.faulty(x, 0, "part x;", 1, 5);
        D.faulty(x, 0, "part 1.", 1, 6);
        D.faulty(x, 0, "part 1:", 1, 6);
        D.faulty(x, 0, "part 00001;", 1, 5);
        D.faulty(x, 0, "12345", 1, 0);
        D.faulty(x, 0, "cost 1 all always fine 99999;", 1, 23);
        D.faulty(x, 0, "seal 1; \u00e9", 1, 8);
        D.faulty(x, 0, "seal 1; \u00ff", 1, 8);
    }

    private static void firstFault() {
        GownCourt x = new GownCourt();
        D.faulty(x, 0, "stuff 16 none", 2, 6);
        D.faulty(x, 0, "seal 1; seal 2; stuff 16;", 3, 8);
        D.faulty(x, 0, "cost x; stuff 16;", 1, 5);
        D.faulty(x, 0, "repeal 12345", 1, 7);
    }

    private static void actOrder() {
        GownCourt x = new GownCourt();
        D.due("act(7)", Due.act(x, 7, LINE), 0);
        D.due("the tape is empty", x.count(6), 0);
        D.due("act(6), a day below, of a fault", Due.act(x, 6, "x"), -2);
        D.due("fault(0) of the one before", x.fault(0), 0);
        D.due("act(7) of x", Due.act(x, 7, "x"), -1);
        for (int a = 1; a < 12; a++) {
            D.due("act " + a, Due.act(x, 7 + a, "repeal " + (a - 1) + ";"), a);
        }
        D.due("the 13th with a fault", Due.act(x, 18, "repeal 12;"), -1);
        D.due("its fault", x.fault(0), 2);
        D.due("the 13th on a day below", Due.act(x, 17, "x"), -2);
        D.due("the fault before", x.fault(0), 2);
        D.due("the tape behind it", x.count(6), 0);
        D.due("the 13th", Due.act(x, 18, "repeal 11;"), -3);
        D.due("fault(0) of the 13th", x.fault(0), 0);
        D.due("fault(1) of the 13th", x.fault(1), -1);
        D.due("tape of the 13th", x.count(6), 0);
        D.due("count(0)", x.count(0), 12);
        D.due("act 11 is in force still", x.force(18), 1 << 11);
    }

    /** Both reasons for RANGE: no such day, and a day below that of the latest act. */
    private static void emptyBehindRange() {
        int[] never = {-1, 10000, Integer.MIN_VALUE, Integer.MAX_VALUE};
        for (int wrong : never) {
            leavesNothing(new GownCourt(), wrong, 0);
            leavesNothing(withActOn(7), wrong, 7);
        }
        leavesNothing(withActOn(7), 6, 7);
        leavesNothing(withActOn(7), 0, 8);
        leavesNothing(withActOn(9999), 9998, 9999);
    }

    private static GownCourt withActOn(int day) {
        GownCourt x = new GownCourt();
        D.stands(x, day, "", 0);
        return x;
    }

    /** An act on a day that is RANGE empties the tape, is no act, and leaves the fault as it was. */
    private static void leavesNothing(GownCourt x, int wrong, int right) {
        String call = "act(" + wrong + ") ";
        int acts = x.count(0);
        D.faulty(x, right, "seal 1; seal 2;", 3, 8);
        D.due(call + "of a text", Due.act(x, wrong, "seal 3;"), -2);
        D.due(call + "of nothing", x.act(wrong), -2);
        D.due(call + "empties the tape", x.count(6), 0);
        D.due("end(1) behind " + call, x.end(1), -1);
        D.due("feed behind " + call, x.feed(0, 0, 0, 0, 0), 20);
        D.due(call + "of another fault", x.act(wrong), -2);
        D.due("fault(0) behind " + call, x.fault(0), 3);
        D.due("fault(1) behind " + call, x.fault(1), 8);
        D.due(call + "is no act", x.count(0), acts);
        D.stands(x, right, "part 4;", acts);
        D.due("seal of the next behind " + call, x.told(acts, 2), 0);
        D.due("part of the next behind " + call, x.told(acts, 3), 4);
        D.due(call + "of a full tape", Due.act(x, wrong, " ".repeat(800)), -2);
        D.due(call + "empties a full tape", x.count(6), 0);
    }

    private static void faultsKept() {
        GownCourt x = new GownCourt();
        D.due("fault(2)", x.fault(2), -1);
        D.due("fault(-1)", x.fault(-1), -1);
        Due.act(x, 5, "seal 1; x");
        D.due("fault(0)", x.fault(0), 1);
        D.due("fault(1)", x.fault(1), 8);
        D.due("fault(2) of one", x.fault(2), -1);
        x.act(10000);
        D.due("fault(0) behind RANGE", x.fault(0), 1);
        D.due("fault(1) behind RANGE", x.fault(1), 8);
        x.act(5);
        D.due("fault(0) of an empty one", x.fault(0), 0);
        D.due("fault(1) of an empty one", x.fault(1), -1);
    }

    private static void toldAndRule() {
        GownCourt x = new GownCourt();
        Due.act(x, 33, "sleeve 1 all always fine 10; train 2 all daily fine 11; pearls 3 all feast fine 12;"
                + "chain 4 all wedding fine 13; cost 5 ranks 1 to 2 always fine 14; stuff 6 ranks 3 to 3 always fine 15;"
                + "colour 7 all always fine 16; must 0 ranks 0 to 9 always fine 17;");
        int[] whens = {3, 0, 1, 2, 3, 3, 3, 3};
        int[] lows = {0, 0, 0, 0, 1, 3, 0, 0};
        int[] highs = {9, 9, 9, 9, 2, 3, 9, 9};
        for (int r = 0; r < 8; r++) {
            D.due("kind of " + r, x.rule(0, r, 0), r);
            D.due("N of " + r, x.rule(0, r, 1), (r + 1) % 8);
            D.due("low of " + r, x.rule(0, r, 2), lows[r]);
            D.due("high of " + r, x.rule(0, r, 3), highs[r]);
            D.due("when of " + r, x.rule(0, r, 4), whens[r]);
            D.due("fine of " + r, x.rule(0, r, 5), 10 + r);
        }
        D.due("rule(0, 8, 0)", x.rule(0, 8, 0), -9);
        D.due("rule(0, -1, 0)", x.rule(0, -1, 0), -9);
        D.due("rule(1, 0, 0)", x.rule(1, 0, 0), -9);
        D.due("rule(-1, 0, 0)", x.rule(-1, 0, 0), -9);
        D.due("rule(0, 0, 6)", x.rule(0, 0, 6), -9);
        D.due("rule(0, 0, -1)", x.rule(0, 0, -1), -9);
        D.due("told(0, 0)", x.told(0, 0), 33);
        D.due("told(0, 1)", x.told(0, 1), 8);
        D.due("told(0, 2)", x.told(0, 2), 0);
        D.due("told(0, 3)", x.told(0, 3), -1);
        D.due("told(0, 4)", x.told(0, 4), 0);
        D.due("told(0, 5)", x.told(0, 5), -9);
        D.due("told(0, -1)", x.told(0, -1), -9);
        D.due("told(1, 0)", x.told(1, 0), -9);
        D.due("told(-1, 0)", x.told(-1, 0), -9);
        Due.act(x, 34, "repeal 0; part 0; seal 7;");
        D.due("told(1, 2)", x.told(1, 2), 7);
        D.due("told(1, 3)", x.told(1, 3), 0);
        D.due("told(1, 4)", x.told(1, 4), 1);
    }

    private static void force() {
        GownCourt x = new GownCourt();
        Due.act(x, 10, "");
        Due.act(x, 20, "repeal 0;");
        Due.act(x, 30, "repeal 1;");
        Due.act(x, 30, "");
        D.due("force(9)", x.force(9), 0);
        D.due("force(10)", x.force(10), 1);
        D.due("force(19)", x.force(19), 1);
        D.due("force(20)", x.force(20), 2);
        // A repealed act repeals all the same.
        D.due("force(30)", x.force(30), 12);
        D.due("force(9999)", x.force(9999), 12);
        D.due("force(-1)", x.force(-1), -2);
        D.due("force(10000)", x.force(10000), -2);
    }
}
