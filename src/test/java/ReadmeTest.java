import java.io.IOException;
import java.lang.reflect.Method;
import java.lang.reflect.Modifier;
import java.nio.file.Files;
import java.nio.file.Path;
import java.util.ArrayList;
import java.util.List;
import java.util.function.IntSupplier;
import java.util.regex.Matcher;
import java.util.regex.Pattern;
import java.util.stream.Stream;

/** What README.md tells, done as it is told there. */
public final class ReadmeTest {
    private static final Due D = new Due();
    private static final int MOST_CALLS = 512;
    private static String page = "";

    public static void main(String[] args) throws Exception {
        page = Files.readString(Path.of("README.md"));
        commands();
        calls();
        answers();
        textOfAnAct();
        room();
        ends();
        testsAreNamed();
        D.close();
    }

    private static void holds(String what, boolean so) {
        D.due(what + " (1: so)", so ? 1 : 0, 1);
    }

    /** The blocks of one kind, in their order. */
    private static List<String> blocks(String kind) {
        List<String> found = new ArrayList<>();
        Matcher m = Pattern.compile("(?ms)^```" + kind + "\\n(.*?)^```$").matcher(page);
        while (m.find()) {
            found.add(m.group(1));
        }
        return found;
    }

    /** The number that stands ahead of (or behind) some words of the page. */
    private static int number(String pattern) {
        Matcher m = Pattern.compile(pattern).matcher(page.replaceAll("\\s+", " "));
        boolean found = m.find();
        holds("the page has '" + pattern + "'", found);
        return found ? Integer.parseInt(m.group(1)) : -1;
    }

    // ---- the commands, in a copy of the project's directory

    private static void commands() throws Exception {
        Path place = Files.createTempDirectory("readme");
        copy(Path.of("src"), place.resolve("src"));
        holds("there is one example", blocks("java").size() == 1);
        Files.writeString(place.resolve("Example.java"), blocks("java").get(0));
        int run = 0;
        for (String line : String.join("", blocks("sh")).split("\\n")) {
            if (line.equals(".ci/run")) {
                holds(".ci/run can be run", Files.isExecutable(Path.of(".ci/run")));
                continue;
            }
            run++;
            String printed = run(place, line);
            if (line.equals("java -cp out Example")) {
                same(printed, blocks("text").get(0));
            }
        }
        D.due("commands beside .ci/run", run, 4);
        remove(place);
    }

    private static String run(Path place, String line) throws Exception {
        Process p = new ProcessBuilder("sh", "-c", line).directory(place.toFile()).redirectErrorStream(true).start();
        String printed = new String(p.getInputStream().readAllBytes());
        int code = p.waitFor();
        D.due("exit code of '" + line + "', which printed '" + printed.trim() + "'", code, 0);
        return printed;
    }

    private static void same(String printed, String told) {
        String[] got = printed.split("\\R");
        String[] want = told.split("\\R");
        D.due("lines that the example prints", got.length, want.length);
        for (int i = 0; i < Math.min(got.length, want.length); i++) {
            holds("the example prints '" + want[i] + "', not '" + got[i] + "'", got[i].equals(want[i]));
        }
    }

    private static void copy(Path from, Path to) throws IOException {
        try (Stream<Path> all = Files.walk(from)) {
            for (Path p : (Iterable<Path>) all::iterator) {
                Files.copy(p, to.resolve(from.relativize(p)));
            }
        }
    }

    private static void remove(Path place) throws IOException {
        List<Path> all = new ArrayList<>();
        try (Stream<Path> walk = Files.walk(place)) {
            walk.forEach(all::add);
        }
        for (int i = all.size() - 1; i >= 0; i--) {
            Files.delete(all.get(i));
        }
    }

    // ---- the tables of calls and answers

    private static void calls() {
        int face = 0;
        for (Method m : GownCourt.class.getDeclaredMethods()) {
            if (Modifier.isPublic(m.getModifiers())) {
                face++;
                Matcher told = Pattern.compile("(?m)^\\| .*`" + m.getName() + "\\(([^)]*)\\)`.* \\|").matcher(page);
                boolean found = told.find();
                holds("the page tells of " + m.getName(), found);
                D.due(m.getName() + " takes, as the page says,", found ? told.group(1).split(", ").length : -1, m.getParameterCount());
            }
        }
        Matcher row = Pattern.compile("`\\w+\\([^)]*\\)`(?=[^\\n]* \\|)").matcher(page);
        int rows = 0;
        while (row.find()) {
            rows++;
        }
        D.due("calls in the table", rows, face);
    }

    private static void answers() {
        D.due("NONE", number("`NONE` \\((-\\d+)\\)"), GownCourt.NONE);
        D.due("RANGE", number("`RANGE` \\((-\\d+)\\)"), GownCourt.RANGE);
        D.due("FULL", number("`FULL` \\((-\\d+)\\)"), GownCourt.FULL);
        D.due("STATE", number("`STATE` \\((-\\d+)\\)"), GownCourt.STATE);
        noneAnswers();
        rangeAnswers();
        int none = number("\\| (-\\d+) \\| a number that can't be in `told`, `rule`, `lettered`");
        GownCourt x = new GownCourt();
        D.due("told", x.told(0, 0), none);
        D.due("rule", x.rule(0, 0, 0), none);
        D.due("lettered", x.lettered(0, 0), none);
        x.gown(0, 0, 0, 0, 0, 0, 0);
        x.seal(0, 5);
        D.due("a gown that is sealed already", x.seal(0, 6), GownCourt.STATE);
        x.letter(0, 1, 0, 5);
        x.judge(0);
        D.due("a letter that was judged", x.judge(0), GownCourt.STATE);
    }

    private static void noneAnswers() {
        GownCourt x = new GownCourt();
        x.gown(0, 0, 0, 0, 0, 0, 0);
        D.due("no seal", x.about(0, 7), GownCourt.NONE);
        Due.act(x, 0, "must 1 all always fine 1; must 2 all always fine 1;");
        D.due("no part", x.told(0, 3), GownCourt.NONE);
        D.due("no fault", x.fault(1), GownCourt.NONE);
        D.due("no lawful change", x.alter(0, 0, 0), GownCourt.NONE);
        D.due("no first day on which a gown breaks no rule", x.worn(0, 5, 0, 9, 1), GownCourt.NONE);
        D.due("no last day on which a gown breaks no rule", x.worn(0, 5, 0, 9, 2), GownCourt.NONE);
        D.due("a text with a fault", Due.act(x, 0, "must"), GownCourt.NONE);
        D.due("end", x.end(1), GownCourt.NONE);
        D.due("about", x.about(1, 0), GownCourt.NONE);
        D.due("fault", x.fault(2), GownCourt.NONE);
        D.due("count", x.count(7), GownCourt.NONE);
    }

    private static void rangeAnswers() {
        GownCourt x = new GownCourt();
        int[] got = {x.rank(-1, 0, 0), x.feast(-1, 0), x.wedding(-1, 0, 0), x.on(-1, 0, 0), x.gown(-1, 0, 0, 0, 0, 0, 0), x.seal(-1, 0),
            x.like(-1, 0, 0), x.counts(-1, 0), x.act(-1), x.force(-1), x.fine(-1, 0, 0), x.broken(-1, 0, 0, 0), x.letter(-1, 0, 0, 0),
            x.judge(-1), x.person(-1, 0), x.price(-1, 0), x.alter(-1, 0, 0), x.best(-1, 0, 0), x.worn(-1, 0, 0, 0, 0)};
        for (int i = 0; i < got.length; i++) {
            D.due("the other calls, " + i, got[i], GownCourt.RANGE);
        }
        x.act(5);
        D.due("act with a day below that of the latest act", x.act(4), GownCourt.RANGE);
    }

    // ---- the text of an act

    private static void textOfAnAct() {
        String[] lines = blocks("text").get(1).split("\\n");
        StringBuilder text = new StringBuilder();
        for (String line : lines) {
            text.append(line, 0, line.indexOf(';') + 1).append('\n');
        }
        GownCourt x = new GownCourt();
        x.act(0);
        D.stands(x, 10, text.toString(), 1);
        int[][] rules = {{0, 40, 0, 9, 3, 3}, {5, 4, 0, 6, 1, 20}, {6, 2, 0, 9, 2, 9}, {7, 1, 9, 9, 0, 2}};
        D.due("rules of the page's text", x.told(1, 1), rules.length);
        for (int r = 0; r < rules.length; r++) {
            for (int what = 0; what < 6; what++) {
                D.due("rule(1, " + r + ", " + what + ") of the page's text", x.rule(1, r, what), rules[r][what]);
            }
        }
        D.due("repeal 0", x.force(10), 2);
        D.due("seal 30", x.told(1, 2), 30);
        D.due("part 40", x.told(1, 3), 40);
        faults();
    }

    private static void faults() {
        D.bad("sleeve 40 all fine", number("`fault\\(0\\)` is (\\d) for a text that does not go on so"), 14);
        D.bad("repeal 0;", number("so, (\\d) for a number out of its bounds"), 7);
        int twice = number("bounds, (\\d) for a second `seal`, `part` or `repeal` of one act");
        D.bad("seal 1; seal 1;", twice, 8);
        D.bad("part 1; part 1;", twice, 8);
        GownCourt x = new GownCourt();
        x.act(0);
        D.faulty(x, 0, "repeal 0; repeal 0;", twice, 17);
        D.bad("cost 1 all daily fine 1;".repeat(13), number("act, (\\d) for a 13th rule"), 12 * 24);
    }

    // ---- the room

    private static void room() {
        GownCourt x = new GownCourt();
        filled("acts", number("room for (\\d+) acts"), () -> x.act(0));
        D.due("rules", number("(\\d+) rules in each"), 12);
        D.good("cost 1 all daily fine 1;".repeat(12));
        GownCourt y = new GownCourt();
        filled("bytes", number("(\\d+) bytes on the tape,") / 20, () -> y.feed(0, 0, 0, 0, 0));
        filled("gowns", number("(\\d+) gowns"), () -> y.gown(0, 0, 0, 0, 0, 0, 0));
        filled("letters", number("(\\d+) letters"), () -> y.letter(0, 1, 0, 0));
        filled("likes", number("(\\d+) likes"), () -> y.like(1, 0, 0));
        filled("feasts", number("(\\d+) feasts"), () -> y.feast(0, 0));
        filled("changes of rank", number("(\\d+) changes of rank"), () -> y.rank(0, 0, 0));
        filled("weddings", number("(\\d+) weddings"), () -> y.wedding(0, 0, 0));
    }

    private static void filled(String what, int room, IntSupplier call) {
        for (int i = 0; i < room; i++) {
            int got = call.getAsInt();
            holds("one more of the " + room + " " + what + ", " + got, got >= 0);
        }
        D.due("one more than the " + room + " " + what, call.getAsInt(), GownCourt.FULL);
    }

    private static void ends() {
        int day = number("Days are 0 to (\\d+)");
        int person = number("people 0 to (\\d+)");
        GownCourt x = new GownCourt();
        D.due("the last day and person", x.on(person, day, 0), number("all people are of rank (\\d)"));
        D.due("a day later", x.on(person, day + 1, 0), GownCourt.RANGE);
        D.due("a person more", x.on(person + 1, day, 0), GownCourt.RANGE);
        int days = number("at most (\\d+) days are asked for at once");
        x.gown(0, 0, 0, 0, 0, 0, 0);
        D.due("so many days", x.worn(0, 0, 1, days, 0), days);
        D.due("a day more", x.worn(0, 0, 0, days, 0), GownCourt.RANGE);
        D.due("calls of an object", number("good for (\\d+) calls"), MOST_CALLS);
    }

    private static void testsAreNamed() throws IOException {
        try (Stream<Path> all = Files.list(Path.of("src/test/java"))) {
            for (Path p : (Iterable<Path>) all.sorted()::iterator) {
                String name = p.getFileName().toString().replace(".java", "");
                holds("the page names " + name, page.contains("`" + name) || page.contains("\n| " + name + " |"));
            }
        }
        Matcher m = Pattern.compile("(?m)^\\| (\\w+Test) \\|").matcher(page);
        while (m.find()) {
            holds("there is a " + m.group(1), Files.exists(Path.of("src/test/java/" + m.group(1) + ".java")));
        }
    }
}
