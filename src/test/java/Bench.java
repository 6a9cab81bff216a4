import java.util.ArrayList;
import java.util.List;
import java.util.function.Supplier;
import java.util.function.ToIntBiFunction;
import java.util.function.ToIntFunction;

/** What the tests of DomeSlit share: domes and rows written in one go, and looks at what is refused. */
class Bench {
    static final int BAD = -1, FULL = -2, FINDING = -3, STATE = -4, NONE = -9;
    static final int NOTHING = 1, BEYOND = 2, UNLIKE = 3, NOUGHT = 4, SIZE = 5;
    static final int LOWEST = Integer.MIN_VALUE, HIGHEST = Integer.MAX_VALUE;

    static final Check check = new Check();
    static String about = "";

    /**
     * A sentence of the document and the test that is its own: ".." stands for words left out, and
     * behind the last colon may stand what of it is tried.
     */
    static void sentence(String words, Runnable test) {
        about = words;
        test.run();
    }

    static void due(String call, long got, long want) {
        check.due(about + " | " + call, got, want);
    }

    // ---- objects to ask

    static void write(DomeSlit x, int t, String text) {
        x.text(t, text.length());
        for (int k = 0; k < text.length(); k++) {
            x.put(t, k, text.charAt(k));
        }
    }

    static DomeSlit domeOf(String text) {
        DomeSlit x = new DomeSlit();
        write(x, 0, text);
        if (x.dome(0) < 1) {
            check.holds(about + " | " + text + " is a dome", false);
        }
        return x;
    }

    static DomeSlit domeAfter(int moments, String text) {
        DomeSlit x = domeOf(text);
        passAll(x, moments);
        return x;
    }

    static void layAll(DomeSlit x, int r, int... row) {
        x.row(r, row.length);
        for (int k = 0; k < row.length; k++) {
            x.lay(r, k, row[k]);
        }
    }

    static void passAll(DomeSlit x, int n) {
        for (int k = 0; k < n; k++) {
            x.moment();
        }
    }

    /**
     * Something of everything, so that a refused call has much that it could spoil: LIGHTS of five
     * KINDS (0 a STAR), four DEEDS, a DOME kept in 1, ROWS 0 to 2 (0 of TURNS, 1 of notes, 2 empty),
     * TEXTS 0 and 1 (1 of blanks alone), chances told.
     */
    static DomeSlit furnished() {
        DomeSlit x = domeOf("o302 s0039 l0147 h2225 v0336 f0921");
        x.turn(1);
        x.moment();
        x.keep(1);
        x.turn(-3);
        x.moment();
        layAll(x, 0, 1, 0, -2);
        layAll(x, 1, 9, 4);
        x.row(2, 0);
        x.text(1, 3);
        x.mid(0, 0, 5);
        x.at(1, 0);
        return x;
    }

    static DomeSlit furnishedWith(int r, int... row) {
        DomeSlit x = furnished();
        layAll(x, r, row);
        return x;
    }

    /** TEXT 2 is a DOME but for its last figure. */
    static DomeSlit furnishedHalfDome() {
        DomeSlit x = furnished();
        write(x, 2, "o511 s0539 l0640");
        return x;
    }

    static DomeSlit full() {
        DomeSlit x = furnished();
        passAll(x, 36);
        return x;
    }

    // ---- what an object tells

    static int askedBehind(DomeSlit x, int answer) {
        due("the call that tells by asked()", answer, 1);
        return x.asked();
    }

    static void rowIs(DomeSlit x, int r, int... row) {
        for (int k = 0; k < row.length; k++) {
            due("at(" + r + ", " + k + ")", x.at(r, k), 1);
            due("place " + k + " of row " + r, x.asked(), row[k]);
        }
        due("row " + r + " ends", x.at(r, row.length), FINDING);
    }

    static void chancesAre(DomeSlit x, int answer, long upper, long lower) {
        due("the call that tells chances", answer, 1);
        due("upper()", x.upper(), upper);
        due("lower()", x.lower(), lower);
    }

    static void countsAre(DomeSlit x, int... counts) {
        for (int what = 0; what < counts.length; what++) {
            due("count(" + what + ")", x.count(what), counts[what]);
        }
    }

    private static List<Long> foundBy(DomeSlit x) {
        List<Long> all = new ArrayList<>();
        all.add((long) x.finding());
        for (int f = 1; f <= 5; f++) {
            all.add((long) x.findings(f));
        }
        return all;
    }

    /** What it answers to a long row of calls, beside findings: two that tell the same stand alike. */
    private static List<Long> taleOf(DomeSlit x) {
        List<Long> tale = new ArrayList<>();
        tellAll(x, tale);
        for (int i = 0; i < 5; i++) {
            tale.add((long) x.stays(i));
            tale.add((long) x.place(i, 7));
        }
        tale.add((long) x.turn(6));
        tale.add((long) x.moment());
        tale.add((long) x.undo(1));
        tellAll(x, tale);
        for (int k = 0; k < 3; k++) {
            tale.add((long) x.on(k));
            tellAll(x, tale);
            tale.add((long) x.undo(1));
            tellAll(x, tale);
        }
        for (int t = 0; t < 4; t++) {
            tale.add((long) x.dome(t));
            tellAll(x, tale);
        }
        return tale;
    }

    private static void tellAll(DomeSlit x, List<Long> tale) {
        tale.add(x.digest());
        tale.add((long) x.asked());
        tale.add(x.upper());
        tale.add(x.lower());
    }

    // ---- refusals: each is asked of an object of its own, and looked at beside a twin that was not asked

    static void refused(Supplier<DomeSlit> maker, int want, int finding, String call, ToIntFunction<DomeSlit> ask) {
        DomeSlit x = maker.get();
        DomeSlit twin = maker.get();
        due(call, ask.applyAsInt(x), want);
        List<Long> found = foundBy(twin);
        if (finding != 0) {
            found.set(0, (long) finding);
            found.set(finding, found.get(finding) + 1);
        }
        check.holds(about + " | " + call + " tells its finding", foundBy(x).equals(found));
        check.holds(about + " | " + call + " changes nothing", taleOf(x).equals(taleOf(twin)));
    }

    static void bad(String call, ToIntFunction<DomeSlit> ask) {
        refused(Bench::furnished, BAD, 0, call, ask);
    }

    static void found(int finding, String call, ToIntFunction<DomeSlit> ask) {
        refused(Bench::furnished, FINDING, finding, call, ask);
    }

    /** A call by some numbers that it must refuse as BAD. */
    static void badBy(String call, ToIntBiFunction<DomeSlit, Integer> ask, int... numbers) {
        for (int n : numbers) {
            bad(call + " by " + n, x -> ask.applyAsInt(x, n));
        }
    }

    /** A call by some numbers that it must not refuse as BAD. */
    static void fineBy(String call, ToIntBiFunction<DomeSlit, Integer> ask, int... numbers) {
        for (int n : numbers) {
            check.holds(about + " | " + call + " by " + n + " is not BAD", ask.applyAsInt(furnished(), n) != BAD);
        }
    }
}
