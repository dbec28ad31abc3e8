import java.io.IOException;
import java.io.UncheckedIOException;
import java.nio.file.Files;
import java.nio.file.Path;
import java.util.ArrayList;
import java.util.List;
import java.util.NoSuchElementException;
import java.util.TreeSet;

/** A sentence of the document that names a boundary case, and what is looked at for it. */
final class Edge {
    static final int NONE = TableTower.NONE;
    static final int TERMS = 0;
    private static final int PROMISES = 45;

    private static final String[] SECTIONS = sections();
    private static final TreeSet<Integer> MET = new TreeSet<>();
    private static final TreeSet<String> SENTENCES = new TreeSet<>();
    private static String now = "";
    private static int looked;

    private Edge() {
    }

    /** The document's words under each promise, and under "Terms" at 0; blanks and line ends are one blank. */
    private static String[] sections() {
        String[] found = new String[PROMISES + 1];
        try {
            for (String part : Files.readString(Path.of("../shared/DOC.md")).split("\n## ")) {
                String words = part.replaceAll("\\s+", " ");
                if (words.startsWith("Terms ")) {
                    found[TERMS] = words;
                } else if (words.startsWith("Promise ")) {
                    found[Integer.parseInt(words.substring(8, words.indexOf(':')))] = words;
                }
            }
        } catch (IOException e) {
            throw new UncheckedIOException(e);
        }
        return found;
    }

    /** What is looked at from here on is for this sentence, that stands under this promise. */
    static void of(int promise, String sentence) {
        last();
        now = (promise == TERMS ? "Terms" : "promise " + promise) + ", \"" + sentence + "\": ";
        boolean written = SECTIONS[promise] != null && SECTIONS[promise].contains(sentence);
        Check.that(now + "stands in the document", written);
        Check.that(now + "is looked at once", SENTENCES.add(now));
        MET.add(promise);
        looked = 0;
    }

    private static void last() {
        Check.that(now + "something is looked at", now.isEmpty() || looked > 0);
    }

    static void end() {
        last();
        Check.that("Terms and all promises have their edges: " + MET, MET.size() == PROMISES + 1);
        System.out.println(SENTENCES.size() + " sentences");
        Check.end();
    }

    static void due(String what, long want, long got) {
        looked++;
        Check.due(now + what, want, got);
    }

    static void due(String what, boolean want, boolean got) {
        looked++;
        Check.due(now + what, want, got);
    }

    static void noSuch(String what, Check.Call call) {
        looked++;
        Check.thrown(now + what, NoSuchElementException.class, call);
    }

    static void wrong(String what, Check.Call call) {
        looked++;
        Check.thrown(now + what, IllegalArgumentException.class, call);
    }

    /** A call that is refused with NONE: it adds 1 to that STATUS, and nothing else is otherwise. */
    static void refused(String what, TableTower x, int status, Check.Call call) {
        refused(what, x, status, NONE, call);
    }

    static void refused(String what, TableTower x, int status, int answer, Check.Call call) {
        List<Integer> before = shot(x);
        due(what, answer, call.answer());
        before.set(12 + status, before.get(12 + status) + 1);
        same(what + ", then STATUS alone is otherwise", before, shot(x));
    }

    /** A call that throws: nothing is otherwise then, STATUS neither. */
    static void noSuchAndSame(String what, TableTower x, Check.Call call) {
        List<Integer> before = shot(x);
        noSuch(what, call);
        same(what + ", then nothing is otherwise", before, shot(x));
    }

    static void wrongAndSame(String what, TableTower x, Check.Call call) {
        List<Integer> before = shot(x);
        wrong(what, call);
        same(what + ", then nothing is otherwise", before, shot(x));
    }

    /** A call that only tells: nothing is otherwise then. */
    static void telling(String what, TableTower x, long want, Check.Call call) {
        List<Integer> before = shot(x);
        due(what, want, call.answer());
        same(what + ", then nothing is otherwise", before, shot(x));
    }

    static void same(String what, List<Integer> want, List<Integer> got) {
        looked++;
        Check.that(now + what + ": " + got + ", due is " + want, want.equals(got));
    }

    /** What count() tells first, so that STATUS is at 12 to 14; then the place, TABLES, LEVELS, what is by. */
    static List<Integer> shot(TableTower x) {
        List<Integer> all = new ArrayList<>();
        for (int what = 0; what < 15; what++) {
            all.add(x.count(what));
        }
        all.add(x.fault());
        for (int table = 0; table < x.count(0); table++) {
            for (int what = 0; what < 8; what++) {
                all.add(x.table(table, what));
            }
        }
        for (int level = 0; level < x.count(1); level++) {
            for (int what = 0; what < 4; what++) {
                all.add(x.level(level, what));
            }
        }
        all.add(x.by());
        all.add(x.which(0));
        all.add(x.which(2));
        return all;
    }

    static void order(String what, TableTower x, int... want) {
        due(what + ": LEVELS", want.length, x.count(1));
        for (int level = 0; level < want.length; level++) {
            due(what + ": LEVEL " + level, want[level], x.level(level, 0));
        }
    }

    static TableTower tower(String text) {
        looked++;
        return Check.tower(text);
    }

    static void row(String what, TableTower x, int... want) {
        due(what + ": how many", want.length, x.most(0));
        for (int i = 0; i < want.length; i++) {
            due(what + ": row " + i, want[i], x.row(i));
        }
    }
}
