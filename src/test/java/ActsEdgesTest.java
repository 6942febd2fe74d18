/** The edges that the document names for promises 15 told, 16 rule, 17 force. */
public final class ActsEdgesTest {
    private static final Due D = new Due();
    private static final String LINE = "cost 1 all always fine 1;";

    public static void main(String[] args) {
        toldNumbers();
        toldOfAnEmptyAct();
        toldOfAFullAct();
        repealsAsBits();
        ruleNumbers();
        ruleOfAnEmptyAct();
        theTwelfthRule();
        ranksOfAll();
        forceNumbers();
        forceFromTheFirstDay();
        repealedFromTheFirstDay();
        repealedByOneRepealed();
        repealedOnItsOwnDay();
        allActsAsBits();
        D.close();
    }

    private static void toldNumbers() {
        D.of("-9 when there is none such");
        GownCourt x = new GownCourt();
        D.due("told of no ACTS", x.told(0, 0), -9);
        D.due("told of no ACTS", x.told(-1, 0), -9);
        Due.act(x, 3, "part 1;");
        D.bounds("told of the only ACT", 0, 0, -9, a -> x.told(a, 3));
        Due.act(x, 4, "part 0;");
        D.bounds("told of an ACT", 0, 1, -9, a -> x.told(a, 0));
        D.bounds("told of a what", 0, 4, -9, what -> x.told(1, what));
        D.due("told(2, 3), not NONE", x.told(2, 3), -9);
        D.due("told(0, 5)", x.told(0, 5), -9);
    }

    private static void toldOfAnEmptyAct() {
        D.of("2: seal (0), 3: part (NONE)");
        GownCourt x = new GownCourt();
        x.act(0);
        int[] due = {0, 0, 0, -1, 0};
        for (int what = 0; what < 5; what++) {
            D.due("told(0, " + what + ")", x.told(0, what), due[what]);
        }
        Due.act(x, 0, "seal 0;part 0;");
        D.due("seal of 0", x.told(1, 2), 0);
        D.due("part of 0", x.told(1, 3), 0);
    }

    private static void toldOfAFullAct() {
        D.of("what 0: first day, 1: RULES, 2: seal (0), 3: part (NONE), 4: ACTS that it repeals");
        GownCourt x = new GownCourt();
        x.act(0);
        Due.act(x, 9999, LINE.repeat(12) + "repeal 0;seal 9999;part 100;");
        int[] due = {9999, 12, 9999, 100, 1};
        for (int what = 0; what < 5; what++) {
            D.due("told(1, " + what + ")", x.told(1, what), due[what]);
        }
    }

    private static void repealsAsBits() {
        D.of("4: ACTS that it repeals, as bits");
        GownCourt x = new GownCourt();
        StringBuilder all = new StringBuilder();
        for (int a = 0; a < 11; a++) {
            Due.act(x, 0, a == 0 ? "" : "repeal " + (a - 1) + ";");
            all.append("repeal ").append(a).append(';');
        }
        Due.act(x, 0, all.toString());
        D.due("none", x.told(0, 4), 0);
        for (int a = 1; a < 11; a++) {
            D.due("the one before", x.told(a, 4), 1 << a - 1);
        }
        D.due("all before", x.told(11, 4), 2047);
        D.due("only the last is in force", x.force(0), 2048);
    }

    private static void ruleNumbers() {
        D.of("Of RULE r of ACT a");
        GownCourt x = new GownCourt();
        D.due("rule of no ACTS", x.rule(0, 0, 0), -9);
        Due.act(x, 0, LINE + LINE);
        Due.act(x, 0, LINE);
        D.bounds("rule of an ACT", 0, 1, -9, a -> x.rule(a, 0, 0));
        D.bounds("RULE r of ACT 0", 0, 1, -9, r -> x.rule(0, r, 0));
        D.bounds("RULE r of ACT 1", 0, 0, -9, r -> x.rule(1, r, 0));
        D.bounds("rule of a what", 0, 5, -9, what -> x.rule(0, 0, what));
    }

    private static void ruleOfAnEmptyAct() {
        D.of("RULES are the lines with fine");
        GownCourt x = new GownCourt();
        x.act(0);
        Due.act(x, 0, "seal 1;part 2;repeal 0;");
        D.due("rule(0, 0, 0)", x.rule(0, 0, 0), -9);
        D.due("rule(1, 0, 0)", x.rule(1, 0, 0), -9);
        D.due("told(1, 1)", x.told(1, 1), 0);
        Due.act(x, 0, "seal 1;" + LINE + "part 2;must 3 all always fine 4;");
        D.due("told(2, 1)", x.told(2, 1), 2);
        D.due("the first RULE", x.rule(2, 0, 0), 4);
        D.due("the second RULE", x.rule(2, 1, 0), 7);
        D.due("the third", x.rule(2, 2, 0), -9);
    }

    private static void theTwelfthRule() {
        D.of("RULES are the lines with fine, at most 12 an ACT");
        GownCourt x = new GownCourt();
        StringBuilder text = new StringBuilder();
        for (int r = 0; r < 12; r++) {
            text.append("sleeve ").append(100 + r).append(" all always fine ").append(r).append(';');
        }
        D.stands(x, 0, text.toString(), 0);
        for (int r = 0; r < 12; r++) {
            D.due("N of RULE " + r, x.rule(0, r, 1), 100 + r);
            D.due("fine of RULE " + r, x.rule(0, r, 5), r);
        }
        D.due("RULE 12", x.rule(0, 12, 1), -9);
    }

    private static void ranksOfAll() {
        D.of("2, 3: ranks (0 and 9 of all)");
        GownCourt x = new GownCourt();
        Due.act(x, 0, "cost 1 ranks 4 to 4 daily fine 1;cost 1 all feast fine 1;cost 1 ranks 0 to 9 wedding fine 1;");
        int[][] due = {{4, 4, 0}, {0, 9, 1}, {0, 9, 2}};
        for (int r = 0; r < 3; r++) {
            for (int what = 0; what < 3; what++) {
                D.due("rule(0, " + r + ", " + (what + 2) + ")", x.rule(0, r, what + 2), due[r][what]);
            }
        }
    }

    private static void forceNumbers() {
        D.of("ACTS IN FORCE on a day, as bits; RANGE");
        GownCourt x = new GownCourt();
        D.bounds("force without ACTS", 0, 9999, -2, x::force);
        x.act(5);
        D.bounds("force", 0, 9999, -2, x::force);
    }

    private static void forceFromTheFirstDay() {
        D.of("An ACT is IN FORCE on a day, if its first day isn't behind it");
        GownCourt x = new GownCourt();
        x.act(0);
        x.act(10);
        x.act(10);
        x.act(9999);
        int[][] due = {{0, 1}, {9, 1}, {10, 7}, {11, 7}, {9998, 7}, {9999, 15}};
        for (int[] d : due) {
            D.due("force(" + d[0] + ")", x.force(d[0]), d[1]);
        }
    }

    private static void repealedFromTheFirstDay() {
        D.of("no ACT with a first day not behind it repeals it");
        GownCourt x = new GownCourt();
        x.act(10);
        Due.act(x, 20, "repeal 0;");
        int[][] due = {{9, 0}, {10, 1}, {19, 1}, {20, 2}, {21, 2}, {9999, 2}};
        for (int[] d : due) {
            D.due("force(" + d[0] + ")", x.force(d[0]), d[1]);
        }
        Due.act(x, 9999, "repeal 1;");
        D.due("force(9998)", x.force(9998), 2);
        D.due("force(9999)", x.force(9999), 4);
    }

    private static void repealedByOneRepealed() {
        D.of("(IN FORCE itself or not)");
        GownCourt x = new GownCourt();
        x.act(10);
        Due.act(x, 20, "repeal 0;");
        Due.act(x, 30, "repeal 1;");
        D.due("force(29)", x.force(29), 2);
        D.due("force(30)", x.force(30), 4);
        Due.act(x, 40, "repeal 0;repeal 2;");
        D.due("repealed by two", x.force(40), 8);
    }

    private static void repealedOnItsOwnDay() {
        D.of("no ACT with a first day not behind it repeals it");
        GownCourt x = new GownCourt();
        x.act(10);
        Due.act(x, 10, "repeal 0;");
        Due.act(x, 10, "repeal 1;");
        D.due("force(9)", x.force(9), 0);
        D.due("force(10)", x.force(10), 4);
    }

    private static void allActsAsBits() {
        D.of("ACTS IN FORCE on a day, as bits");
        GownCourt x = new GownCourt();
        for (int a = 0; a < 12; a++) {
            x.act(a);
        }
        for (int day = 0; day < 12; day++) {
            D.due("force(" + day + ")", x.force(day), (1 << day + 1) - 1);
        }
        D.due("force(9999)", x.force(9999), 4095);
    }
}
