/** The edges of an act's text (Terms II): tokens, grammar, bounds and faults, as promises 13 act and 14 fault tell them. */
public final class TextEdgesTest {
    private static final Due D = new Due();
    private static final String LINE = "cost 1 all always fine 1;";
    private static final String[] MEASURES = {"sleeve", "train", "pearls", "chain", "cost"};
    private static final String[] HEADS = {"sleeve", "train", "pearls", "chain", "cost", "stuff", "colour", "must"};
    private static final String[] TOKENS = {"sleeve", "train", "pearls", "chain", "cost", "stuff", "colour", "must", "repeal", "seal",
        "part", "all", "ranks", "to", "always", "daily", "feast", "wedding", "fine", "0", ";"};

    public static void main(String[] args) {
        blanks();
        noBlanks();
        everyByteThatIsNone();
        wordsAsLongAsTheyAre();
        wordsToTheLetter();
        fourDigits();
        emptyText();
        theEndOfTheText();
        whatGoesOn();
        boundsOfMeasures();
        boundsOfStuffAndColour();
        boundsOfRanks();
        boundsOfPart();
        boundsOfRepeal();
        boundsOfSealAndFine();
        kindsOfOutOfBounds();
        placeIsTheFirstByte();
        firstComeTo();
        leastKindOfOneToken();
        sealAndPartTwice();
        repealTwice();
        twelveRules();
        nothingStaysOfAFaultyText();
        D.close();
    }

    private static void blanks() {
        D.of("TOKENS with any blanks (32, 10) between");
        D.good("  \n\n seal \n 1 \n\n ; \n ");
        D.good("\ncost\n1\nall\nalways\nfine\n1\n;\n");
        D.good(" ".repeat(793) + "seal 1;");
        D.good("seal 1;" + "\n".repeat(793));
        int[] near = {0, 9, 11, 12, 13, 31, 33, 127, 128, 160, 255};
        for (int b : near) {
            D.bad("seal" + (char) b + "1;", 1, 4);
            D.bad("" + (char) b, 1, 0);
        }
    }

    private static void noBlanks() {
        D.of("TOKENS with any blanks (32, 10) between");
        D.good("cost1all always fine1;seal2;part3;must7ranks0to9daily fine0;");
        D.bad("cost 1 allalways fine 1;", 1, 7);
        D.bad("cost 1 all alwaysfine 1;", 1, 11);
        D.bad("cost 1 ranks 0 to 9always fine1 1;", 1, 32);
        D.bad("seal 1 2;", 1, 7);
        D.bad("se al 1;", 1, 0);
        D.bad("se\nal 1;", 1, 0);
    }

    private static void everyByteThatIsNone() {
        D.of("a TOKEN (or byte that is none, a run that is too long) with which no text goes on");
        for (int b = 0; b < 256; b++) {
            boolean token = b >= 'a' && b <= 'z' || b >= '0' && b <= '9' || b == ';' || b == ' ' || b == '\n';
            if (!token) {
                D.bad("" + (char) b, 1, 0);
                D.bad("seal 1" + (char) b + ";", 1, 6);
                D.bad("seal 1; " + (char) b, 1, 8);
            }
        }
        // The neighbours of a letter and of a digit, inside a run.
        D.bad("se`al 1;", 1, 0);
        D.bad("seal` 1;", 1, 4);
        D.bad("seal{ 1;", 1, 4);
        D.bad("seal 1/", 1, 6);
        D.bad("seal 1:", 1, 6);
        D.bad("seAl 1;", 1, 0);
        D.bad("SEAL 1;", 1, 0);
    }

    private static void wordsAsLongAsTheyAre() {
        D.of("WORDS (small letters, as many as there are)");
        for (String head : HEADS) {
            D.good(head + " 0 all always fine 0;");
            D.bad(head + "z 0 all always fine 0;", 1, 0);
            D.bad(head + head + " 0 all always fine 0;", 1, 0);
            D.bad(head.substring(0, head.length() - 1) + " 0 all always fine 0;", 1, 0);
            D.bad("a" + head + " 0 all always fine 0;", 1, 0);
        }
        D.bad("a".repeat(800), 1, 0);
        D.bad("z", 1, 0);
        D.bad("a", 1, 0);
        D.bad("cost 1 al always fine 1;", 1, 7);
        D.bad("cost 1 alll always fine 1;", 1, 7);
        D.bad("cost 1 all alway fine 1;", 1, 11);
        D.bad("cost 1 all dailyy fine 1;", 1, 11);
        D.bad("cost 1 rank 1 to 2 always fine 1;", 1, 7);
        D.bad("cost 1 ranks 1 t 2 always fine 1;", 1, 15);
        D.bad("cost 1 all always fines 1;", 1, 18);
    }

    /** Each letter of each word of a line is changed in turn, to the letter above it. */
    private static void wordsToTheLetter() {
        D.of("a TOKEN (or byte that is none, a run that is too long) with which no text goes on");
        String[] texts = {"cost 1 ranks 2 to 3 always fine 4;", "sleeve 1 all daily fine 4;", "train 1 all feast fine 4;",
            "pearls 1 all wedding fine 4;", "chain 1 all daily fine 4;", "stuff 1 all daily fine 4;", "colour 1 all daily fine 4;",
            "must 1 all daily fine 4;", "seal 1;", "part 1;"};
        for (String text : texts) {
            int word = 0;
            for (int at = 0; at < text.length(); at++) {
                char c = text.charAt(at);
                boolean letter = c >= 'a' && c <= 'z';
                word = letter ? word : at + 1;
                if (letter) {
                    D.bad(text.substring(0, at) + (char) (c == 'z' ? 'a' : c + 1) + text.substring(at + 1), 1, word);
                }
            }
            D.good(text);
        }
        D.bad("repebl 0;", 1, 0);
        D.bad("sepeal 0;", 1, 0);
        D.bad("repeam 0;", 1, 0);
    }

    private static void fourDigits() {
        D.of("N (digits, as many as there are, 4 at most)");
        D.good("seal 9;");
        D.good("seal 9999;");
        D.good("seal 0000;");
        D.bad("seal 00000;", 1, 5);
        D.bad("seal 10000;", 1, 5);
        D.bad("seal 99999;", 1, 5);
        D.bad("seal " + "9".repeat(795), 1, 5);
        D.bad("seal 4294967296;", 1, 5);
        D.bad("1".repeat(800), 1, 0);
        D.bad("cost 1 ranks 00001 to 2 always fine 1;", 1, 13);
        D.bad("cost 1 ranks 1 to 00002 always fine 1;", 1, 18);
        D.bad("cost 1 all always fine 00001;", 1, 23);
        D.bad("cost 00001 all always fine 1;", 1, 5);
        GownCourt x = new GownCourt();
        Due.act(x, 0, "seal 0012;part 0100;sleeve 0000 ranks 0001 to 0009 daily fine 0090;must 7 all always fine 1098;");
        D.due("seal", x.told(0, 2), 12);
        D.due("part", x.told(0, 3), 100);
        D.due("N", x.rule(0, 0, 1), 0);
        D.due("from", x.rule(0, 0, 2), 1);
        D.due("to", x.rule(0, 0, 3), 9);
        D.due("fine", x.rule(0, 0, 5), 90);
        D.due("digits in their order", x.rule(0, 1, 5), 1098);
    }

    private static void emptyText() {
        D.of("text = {line \";\"}");
        D.good("");
        D.good(" ");
        D.good("\n");
        D.good(" ".repeat(800));
        D.bad(";", 1, 0);
        D.bad(" ;", 1, 1);
        D.bad("seal 1;;", 1, 7);
        D.bad("seal 1; ;", 1, 8);
        D.good("seal 1;part 1;");
        D.bad("seal 1 part 1;", 1, 7);
    }

    private static void theEndOfTheText() {
        D.of("the text's length at its end");
        String whole = "cost 1 ranks 2 to 3 feast fine 4;";
        int[] cuts = {4, 6, 12, 14, 17, 19, 25, 30, 32};
        for (int cut : cuts) {
            D.bad(whole.substring(0, cut), 1, cut);
            D.bad(whole.substring(0, cut) + " \n", 1, cut + 2);
            D.bad(" ".repeat(800 - cut) + whole.substring(0, cut), 1, 800);
        }
        D.good(whole);
        String[] heads = {"repeal", "seal", "part"};
        for (String head : heads) {
            D.bad(head, 1, head.length());
        }
        D.bad("seal 1", 1, 6);
        D.bad("part 1", 1, 6);
        D.bad("seal 1; part 1", 1, 14);
        GownCourt x = new GownCourt();
        x.act(0);
        D.faulty(x, 0, "repeal 0", 1, 8);
        D.faulty(x, 0, "repeal 0  ", 1, 10);
    }

    /** At each place of a line every token is tried: those of the grammar go on to the end, all others are at fault. */
    private static void whatGoesOn() {
        D.of("line = (\"sleeve\" | \"train\" | \"pearls\" | \"chain\" | \"cost\" | \"stuff\" | \"colour\" | \"must\") N WHO WHEN \"fine\" N");
        tryAll("", "sleeve train pearls chain cost stuff colour must repeal seal part");
        tryAll("must ", "0");
        tryAll("must 0 ", "all ranks");
        tryAll("must 0 ranks ", "0");
        tryAll("must 0 ranks 0 ", "to");
        tryAll("must 0 ranks 0 to ", "0");
        tryAll("must 0 ranks 0 to 0 ", "always daily feast wedding");
        tryAll("must 0 all ", "always daily feast wedding");
        tryAll("must 0 all daily ", "fine");
        tryAll("must 0 all daily fine ", "0");
        tryAll("must 0 all daily fine 0 ", ";");
        D.of("\"repeal\" N | \"seal\" N | \"part\" N");
        tryAll("seal ", "0");
        tryAll("part ", "0");
        tryAll("repeal ", "0");
        tryAll("seal 0 ", ";");
        tryAll("part 0 ", ";");
        tryAll("repeal 0 ", ";");
        tryAll("seal 0; ", "sleeve train pearls chain cost stuff colour must repeal part");
    }

    private static void tryAll(String begun, String goOn) {
        for (String token : TOKENS) {
            boolean fits = (" " + goOn + " ").contains(" " + token + " ");
            boolean twice = begun.equals("seal 0; ") && token.equals("seal");
            GownCourt x = new GownCourt();
            x.act(0);
            if (fits && token.equals(";")) {
                D.stands(x, 0, begun + token, 1);
            } else if (fits) {
                D.faulty(x, 0, begun + token, 1, begun.length() + token.length());
            } else {
                D.faulty(x, 0, begun + token, twice ? 3 : 1, begun.length());
            }
        }
    }

    private static void boundsOfMeasures() {
        D.of("all others 0 .. 9999");
        for (int m = 0; m < 5; m++) {
            GownCourt x = new GownCourt();
            D.stands(x, 0, MEASURES[m] + " 0 all always fine 1;" + MEASURES[m] + " 9999 all always fine 1;", 0);
            D.due("the least N", x.rule(0, 0, 1), 0);
            D.due("the most N", x.rule(0, 1, 1), 9999);
            D.due("its kind", x.rule(0, 1, 0), m);
            D.bad(MEASURES[m] + " 10000 all always fine 1;", 1, MEASURES[m].length() + 1);
        }
    }

    private static void boundsOfStuffAndColour() {
        D.of("N of stuff 0 .. 15, of colour and must 0 .. 7");
        String tail = " all always fine 1;";
        D.good("stuff 0" + tail + "stuff 15" + tail);
        D.bad("stuff 16" + tail, 2, 6);
        D.bad("stuff 9999" + tail, 2, 6);
        D.good("colour 0" + tail + "colour 7" + tail);
        D.bad("colour 8" + tail, 2, 7);
        D.bad("colour 9999" + tail, 2, 7);
        D.good("must 0" + tail + "must 7" + tail);
        D.bad("must 8" + tail, 2, 5);
        D.bad("must 9999" + tail, 2, 5);
        // Each line has the bounds of its own first word.
        D.bad("stuff 15" + tail + "colour 8" + tail, 2, 34);
        D.good("colour 7" + tail + "cost 9999" + tail);
    }

    private static void boundsOfRanks() {
        D.of("of ranks 0 .. 9 (the second not below the first)");
        String tail = " always fine 1;";
        int[][] good = {{0, 0}, {9, 9}, {0, 9}, {5, 5}, {8, 9}, {0, 1}};
        for (int[] g : good) {
            GownCourt x = new GownCourt();
            D.stands(x, 0, "cost 1 ranks " + g[0] + " to " + g[1] + tail, 0);
            D.due("from", x.rule(0, 0, 2), g[0]);
            D.due("to", x.rule(0, 0, 3), g[1]);
        }
        D.bad("cost 1 ranks 10 to 10" + tail, 2, 13);
        D.bad("cost 1 ranks 9999 to 0" + tail, 2, 13);
        D.bad("cost 1 ranks 9 to 10" + tail, 2, 18);
        D.bad("cost 1 ranks 0 to 10" + tail, 2, 18);
        D.bad("cost 1 ranks 0 to 9999" + tail, 2, 18);
        D.bad("cost 1 ranks 1 to 0" + tail, 2, 18);
        D.bad("cost 1 ranks 9 to 8" + tail, 2, 18);
        D.bad("cost 1 ranks 9 to 0" + tail, 2, 18);
        // The ranks of the line before don't bind.
        D.good("cost 1 ranks 9 to 9" + tail + "cost 1 ranks 0 to 0" + tail);
    }

    private static void boundsOfPart() {
        D.of("of part 0 .. 100");
        int[] good = {0, 1, 99, 100};
        for (int n : good) {
            GownCourt x = new GownCourt();
            D.stands(x, 0, "part " + n + ";", 0);
            D.due("told(0, 3)", x.told(0, 3), n);
        }
        D.bad("part 101;", 2, 5);
        D.bad("part 9999;", 2, 5);
    }

    private static void boundsOfRepeal() {
        D.of("of repeal an ACT that is there");
        GownCourt x = new GownCourt();
        D.faulty(x, 0, "repeal 0;", 2, 7);
        D.stands(x, 0, "", 0);
        for (int acts = 1; acts < 12; acts++) {
            D.faulty(x, 0, "repeal " + acts + ";", 2, 7);
            D.faulty(x, 0, "repeal " + (acts + 1) + ";", 2, 7);
            D.stands(x, 0, "repeal " + (acts - 1) + ";", acts);
            D.due("the latest of " + acts, x.told(acts, 4), 1 << acts - 1);
        }
        D.faulty(x, 0, "repeal 12;", 2, 7);
        D.faulty(x, 0, "repeal 32;", 2, 7);
        D.faulty(x, 0, "repeal 9999;", 2, 7);
    }

    private static void boundsOfSealAndFine() {
        D.of("all others 0 .. 9999");
        GownCourt x = new GownCourt();
        D.stands(x, 0, "seal 0;", 0);
        D.stands(x, 0, "seal 9999; cost 1 all always fine 0; cost 1 all always fine 9999;", 1);
        D.due("the least seal", x.told(0, 2), 0);
        D.due("the most seal", x.told(1, 2), 9999);
        D.due("the least fine", x.rule(1, 0, 5), 0);
        D.due("the most fine", x.rule(1, 1, 5), 9999);
        D.faulty(x, 0, "seal 10000;", 1, 5);
        D.faulty(x, 0, "cost 1 all always fine 10000;", 1, 23);
    }

    /** Every N of the grammar has a fault of kind 2 where four digits can leave its bounds. */
    private static void kindsOfOutOfBounds() {
        D.of("2 RANGE: an N out of its bounds");
        String[] begun = {"stuff ", "colour ", "must ", "cost 1 ranks ", "cost 1 ranks 0 to ", "part ", "repeal "};
        for (String text : begun) {
            D.bad(text + "9999", 2, text.length());
            D.bad(text + "0101", 2, text.length());
            D.bad(text + "0101;", 2, text.length());
        }
        String[] free = {"sleeve ", "train ", "pearls ", "chain ", "cost ", "cost 1 all always fine ", "seal "};
        for (String text : free) {
            D.bad(text + "9999", 1, text.length() + 4);
        }
    }

    private static void placeIsTheFirstByte() {
        D.of("KIND and PLACE (a TOKEN's first byte");
        D.bad("   stuff   0016 all", 2, 11);
        D.bad("seal 1;   \n seal 2;", 3, 12);
        D.bad("   costume 1", 1, 3);
        D.bad("seal   123456789;", 1, 7);
        D.bad("seal 1;" + " ".repeat(792) + "x", 1, 799);
        D.bad(" ".repeat(799) + ";", 1, 799);
        D.bad(" ".repeat(795) + "costs", 1, 795);
        GownCourt x = new GownCourt();
        x.act(0);
        D.faulty(x, 0, "repeal 0;repeal   00;", 3, 18);
        D.faulty(x, 0, LINE.repeat(12) + " \n must", 4, 303);
    }

    private static void firstComeTo() {
        D.of("the first come to as TOKENS are read one by one");
        D.bad("stuff 16 x", 2, 6);
        D.bad("stuff x 16", 1, 6);
        D.bad("stuff 16", 2, 6);
        D.bad("part 101", 2, 5);
        D.bad("seal 1; seal x", 3, 8);
        D.bad("seal 1; seal", 3, 8);
        D.bad("seal 1; part 101; seal 2;", 2, 13);
        D.bad("part 1; seal 2; part 101;", 3, 16);
        D.bad("cost 1 ranks 10 x", 2, 13);
        D.bad("cost 1 ranks 5 to 4 x", 2, 18);
        D.bad(LINE.repeat(12) + "stuff 16", 4, 300);
        D.bad(LINE.repeat(11) + "stuff 16 x" + LINE + LINE, 2, 281);
        D.bad(LINE.repeat(12) + "seal 1; seal 1; must", 3, 308);
        D.bad(LINE.repeat(12) + "x must", 1, 300);
        D.bad(LINE.repeat(14), 4, 300);
    }

    private static void leastKindOfOneToken() {
        D.of("of one TOKEN the least KIND");
        D.bad("stuff 00016", 1, 6);
        D.bad("part 10001", 1, 5);
        D.bad("repeal 00000;", 1, 7);
        D.bad("seal 1 seal 2;", 1, 7);
        D.bad("part 1; part", 3, 8);
        D.bad("part 1 part 1;", 1, 7);
        D.bad(LINE.repeat(11) + "cost 1 all always fine 1 must", 1, 300);
        D.bad(LINE.repeat(12) + "musts", 1, 300);
        GownCourt x = new GownCourt();
        x.act(0);
        D.faulty(x, 0, "repeal 0;repeal 00000;", 1, 16);
        D.faulty(x, 0, "repeal 0 0;", 1, 9);
        D.faulty(x, 0, "repeal 0;repeal 1;", 2, 16);
    }

    private static void sealAndPartTwice() {
        D.of("3 TWICE: a second seal, part, at its WORD");
        D.bad("seal 0;seal 0;", 3, 7);
        D.bad("seal 5;seal 6;", 3, 7);
        D.bad("part 0;part 0;", 3, 7);
        D.bad("part 100;seal 1;part 1;", 3, 16);
        D.bad("seal 1;part 1;" + LINE + "seal 1;", 3, 39);
        D.good("seal 1;part 1;");
        D.good("part 1;seal 1;");
        // Once an act: the act before has its own.
        GownCourt x = new GownCourt();
        D.stands(x, 0, "seal 1;part 1;", 0);
        D.stands(x, 0, "seal 2;part 2;", 1);
    }

    private static void repealTwice() {
        D.of("the same ACT repealed twice, at its N");
        GownCourt x = new GownCourt();
        x.act(0);
        x.act(0);
        D.faulty(x, 0, "repeal 0;repeal 0;", 3, 16);
        D.faulty(x, 0, "repeal 1;repeal 1;", 3, 16);
        D.faulty(x, 0, "repeal 0;repeal 1;repeal 0;", 3, 25);
        D.faulty(x, 0, "repeal 0;repeal 1;repeal 1;", 3, 25);
        D.faulty(x, 0, "repeal 1;repeal 0001;", 3, 16);
        D.faulty(x, 0, "repeal 1;repeal 1", 3, 16);
        D.stands(x, 0, "repeal 0;repeal 1;", 2);
        D.due("told(2, 4)", x.told(2, 4), 3);
        D.stands(x, 0, "repeal 1;repeal 0;", 3);
        D.due("told(3, 4), by another ACT", x.told(3, 4), 3);
        D.stands(x, 0, "repeal 2;", 4);
        D.due("told(4, 4)", x.told(4, 4), 4);
    }

    private static void twelveRules() {
        D.of("4 ROOM: the 13th RULE, at its first WORD");
        for (String head : HEADS) {
            D.bad(LINE.repeat(12) + head, 4, 300);
        }
        GownCourt x = new GownCourt();
        D.stands(x, 0, LINE.repeat(11), 0);
        D.stands(x, 0, LINE.repeat(12), 1);
        D.stands(x, 0, LINE.repeat(12) + "seal 1;part 2;repeal 0;", 2);
        D.stands(x, 0, "seal 1;part 2;repeal 0;" + LINE.repeat(12), 3);
        D.due("eleven", x.told(0, 1), 11);
        D.due("twelve", x.told(1, 1), 12);
        D.due("twelve and other lines", x.told(2, 1), 12);
        D.faulty(x, 0, LINE.repeat(13), 4, 300);
        D.faulty(x, 0, "seal 1;part 2;repeal 0;" + LINE.repeat(13), 4, 323);
        D.faulty(x, 0, LINE.repeat(12) + "seal 1;part 2;repeal 0;" + LINE, 4, 323);
        D.stands(x, 0, LINE, 4);
        D.due("one", x.told(4, 1), 1);
    }

    private static void nothingStaysOfAFaultyText() {
        D.of("NONE with a FAULT");
        GownCourt x = new GownCourt();
        x.act(0);
        D.faulty(x, 0, LINE.repeat(12) + "seal 1;part 2;repeal 0;x", 1, 323);
        D.due("force(0)", x.force(0), 1);
        D.stands(x, 0, "", 1);
        D.due("rules", x.told(1, 1), 0);
        D.due("seal", x.told(1, 2), 0);
        D.due("part", x.told(1, 3), -1);
        D.due("repeals", x.told(1, 4), 0);
        D.due("rule(1, 0, 0)", x.rule(1, 0, 0), -9);
        D.faulty(x, 0, "cost 1 ranks 9 to 9 wedding fine 9 x", 1, 35);
        D.stands(x, 0, "cost 1 all always fine 1;", 2);
        D.due("from", x.rule(2, 0, 2), 0);
        D.due("to", x.rule(2, 0, 3), 9);
        D.due("WHEN", x.rule(2, 0, 4), 3);
    }
}
