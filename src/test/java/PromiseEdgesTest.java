import java.util.Arrays;
import java.util.function.ToIntBiFunction;

/** Each sentence of the document's promises 1 to 44 that names an edge, by a test of its own. */
public final class PromiseEdgesTest extends Bench {
    public static void main(String[] args) {
        aNewObject();
        rows();
        copying();
        means();
        texts();
        domes();
        marks();
        deedsDone();
        keeping();
        whatComes();
        longest();
        followed();
        rowsOfTurns();
        orders();
        notes();
        fainterNotes();
        clouds();
        sleeping();
        nightsByLots();
        whatIsTold();
        digests();
        check.end();
    }

    // ---- 1 to 11

    private static void aNewObject() {
        sentence("1: No ROWS, TEXTS, LIGHTS", () -> {
            DomeSlit x = new DomeSlit();
            countsAre(x, 0, 0, 0, 0, 0, 0, 0, 0, 0, 0, 0);
            due("tear(0)", x.tear(0), FINDING);
            due("fault(0)", x.fault(0), FINDING);
            due("light(0, 0)", x.light(0, 0), BAD);
        });
        sentence("1: the SLIT at 0, a wheel STICKS at 0", () -> {
            DomeSlit x = new DomeSlit();
            due("count(3)", x.count(3), 0);
            for (int by = -6; by <= 6; by++) {
                due("effort(" + by + "), away from 0", x.effort(by), Math.abs(by));
            }
        });
    }

    private static void rows() {
        sentence("2: A ROW is there with n ints 0: n", () -> {
            DomeSlit x = new DomeSlit();
            layAll(x, 0, 5, 6, 7);
            due("row(0, 2)", x.row(0, 2), 2);
            rowIs(x, 0, 0, 0);
            due("row(0, 3)", x.row(0, 3), 3);
            rowIs(x, 0, 0, 0, 0);
            due("row(0, 0)", x.row(0, 0), 0);
            rowIs(x, 0);
            due("row(0, 40)", x.row(0, 40), 40);
            rowIs(x, 0, new int[40]);
        });
        sentence("2: BAD: also n above 40", () -> badBy("row(0, n)", (x, n) -> x.row(0, n), 41, 60, HIGHEST));
        sentence("2: SIZE: below 0", () -> {
            found(SIZE, "row(0, -1)", x -> x.row(0, -1));
            found(SIZE, "row(3, lowest)", x -> x.row(3, LOWEST));
        });
        sentence("3: Place i of a ROW is v: what it was, told by asked(): 1", () -> {
            DomeSlit x = new DomeSlit();
            x.row(0, 3);
            due("the first place", askedBehind(x, x.lay(0, 0, LOWEST)), 0);
            due("again", askedBehind(x, x.lay(0, 0, HIGHEST)), LOWEST);
            due("the last place", askedBehind(x, x.lay(0, 2, -1)), 0);
            rowIs(x, 0, HIGHEST, 0, -1);
        });
        sentence("3: BAD; NOTHING; BEYOND", () -> {
            bad("lay(-1, -1, 0)", x -> x.lay(-1, -1, 0));
            found(NOTHING, "lay(3, -1, 0)", x -> x.lay(3, -1, 0));
            found(BEYOND, "lay(0, -1, 0)", x -> x.lay(0, -1, 0));
            found(BEYOND, "lay(0, 3, 0)", x -> x.lay(0, 3, 0));
            found(BEYOND, "lay(2, 0, 0)", x -> x.lay(2, 0, 0));
        });
        sentence("4: BAD; NOTHING; BEYOND", () -> {
            bad("at(6, 3)", x -> x.at(6, 3));
            found(NOTHING, "at(4, 3)", x -> x.at(4, 3));
            found(BEYOND, "at(0, 3)", x -> x.at(0, 3));
            found(BEYOND, "at(0, -1)", x -> x.at(0, -1));
            found(BEYOND, "at(2, 0)", x -> x.at(2, 0));
        });
        sentence("5: BAD; NOTHING", () -> {
            bad("tear(6)", x -> x.tear(6));
            found(NOTHING, "tear(3)", x -> x.tear(3));
            refused(() -> torn(0), FINDING, NOTHING, "tear(0), torn", x -> x.tear(0));
            refused(() -> torn(2), FINDING, NOTHING, "at(2, 0), torn", x -> x.at(2, 0));
            DomeSlit x = torn(0);
            due("a torn row comes anew", x.row(0, 2), 2);
            rowIs(x, 0, 0, 0);
        });
    }

    private static DomeSlit torn(int r) {
        DomeSlit x = furnished();
        due("tear(" + r + ")", x.tear(r), 1);
        return x;
    }

    private static void copying() {
        sentence("6: to those of another one (perhaps itself) from one on, as if taken ahead: 1", () -> {
            DomeSlit x = new DomeSlit();
            layAll(x, 0, 1, 2, 3, 4, 5);
            due("on by one", x.copy(0, 0, 0, 1, 4), 1);
            rowIs(x, 0, 1, 1, 2, 3, 4);
            due("back by one", x.copy(0, 1, 0, 0, 4), 1);
            rowIs(x, 0, 1, 2, 3, 4, 4);
            due("all of it, to where it is", x.copy(0, 0, 0, 0, 5), 1);
            rowIs(x, 0, 1, 2, 3, 4, 4);
            layAll(x, 1, 8, 9);
            due("to the ends of another one", x.copy(1, 0, 0, 3, 2), 1);
            rowIs(x, 0, 1, 2, 3, 8, 9);
            due("from the end of another one", x.copy(0, 4, 1, 0, 1), 1);
            rowIs(x, 1, 9, 9);
        });
        sentence("6: SIZE: n below 0", () -> {
            found(SIZE, "copy(0, 0, 1, 0, -1)", x -> x.copy(0, 0, 1, 0, -1));
            found(SIZE, "copy(0, 0, 1, 0, lowest)", x -> x.copy(0, 0, 1, 0, LOWEST));
        });
        sentence("6: NOTHING: either", () -> {
            found(NOTHING, "from a missing one", x -> x.copy(3, 0, 0, 0, 0));
            found(NOTHING, "to a missing one", x -> x.copy(0, 0, 3, 0, 0));
            found(NOTHING, "both", x -> x.copy(3, 0, 4, 0, 0));
        });
        sentence("6: BEYOND: not so many there", () -> {
            // ROW 0 is of 3, ROW 1 of 2, ROW 2 of none.
            found(BEYOND, "one too many from", x -> x.copy(0, 2, 1, 0, 2));
            found(BEYOND, "one too many to", x -> x.copy(0, 0, 1, 1, 2));
            found(BEYOND, "from below", x -> x.copy(0, -1, 1, 0, 1));
            found(BEYOND, "to below", x -> x.copy(0, 0, 1, -1, 1));
            found(BEYOND, "from an empty one", x -> x.copy(2, 0, 1, 0, 1));
            found(BEYOND, "to an empty one", x -> x.copy(0, 0, 2, 0, 1));
            found(BEYOND, "as many as can be", x -> x.copy(0, 1, 0, 1, HIGHEST));
            found(BEYOND, "from as far as can be", x -> x.copy(0, HIGHEST, 0, 0, HIGHEST));
            found(BEYOND, "to as far as can be", x -> x.copy(0, 0, 0, HIGHEST, 1));
        });
        sentence("6: with n 0, too, if i or j is below 0 or above the size", () -> {
            found(BEYOND, "i below 0", x -> x.copy(0, -1, 1, 0, 0));
            found(BEYOND, "i above the size", x -> x.copy(0, 4, 1, 0, 0));
            found(BEYOND, "j below 0", x -> x.copy(0, 0, 1, -1, 0));
            found(BEYOND, "j above the size", x -> x.copy(0, 0, 1, 3, 0));
            found(BEYOND, "i above 0 of an empty one", x -> x.copy(2, 1, 1, 0, 0));
            found(BEYOND, "i lowest", x -> x.copy(0, LOWEST, 1, 0, 0));
            found(BEYOND, "j highest", x -> x.copy(0, 0, 1, HIGHEST, 0));
            DomeSlit x = furnished();
            long before = x.digest();
            due("both at the size", x.copy(0, 3, 1, 2, 0), 1);
            due("both at 0", x.copy(0, 0, 1, 0, 0), 1);
            due("of an empty one", x.copy(2, 0, 2, 0, 0), 1);
            due("nothing comes", x.digest(), before);
        });
        sentence("6: (In this order.)", () -> {
            bad("copy(6, 9, 4, 9, -1)", x -> x.copy(6, 9, 4, 9, -1));
            bad("copy(3, 9, 6, 9, -1)", x -> x.copy(3, 9, 6, 9, -1));
            found(SIZE, "copy(3, 9, 4, 9, -1)", x -> x.copy(3, 9, 4, 9, -1));
            found(SIZE, "copy(0, -1, 0, 9, -1)", x -> x.copy(0, -1, 0, 9, -1));
            found(NOTHING, "copy(3, 9, 0, 9, 9)", x -> x.copy(3, 9, 0, 9, 9));
            found(NOTHING, "copy(0, 9, 3, 9, 9)", x -> x.copy(0, 9, 3, 9, 9));
        });
    }

    private static void meanIs(int want, int... row) {
        DomeSlit x = new DomeSlit();
        layAll(x, 0, row);
        due("the mean", askedBehind(x, x.mean(0)), want);
    }

    private static void means() {
        sentence("7: The mean of a ROW's ints, cut, told by asked(): 1", () -> {
            meanIs(2, 1, 2, 5);
            meanIs(2, 1, 2, 4);
            meanIs(-2, -1, -2, -4);
            meanIs(0, 0, -1);
            meanIs(0, 0, 1);
            meanIs(-7, -7);
            meanIs(0, new int[40]);
            meanIs(HIGHEST, HIGHEST, HIGHEST, HIGHEST);
            meanIs(LOWEST, LOWEST, LOWEST, LOWEST);
            meanIs(0, LOWEST, HIGHEST);
        });
        sentence("7: BAD; NOTHING; NOUGHT", () -> {
            bad("mean(6)", x -> x.mean(6));
            found(NOTHING, "mean(3)", x -> x.mean(3));
            found(NOUGHT, "mean(2)", x -> x.mean(2));
        });
    }

    private static void texts() {
        sentence("8: A TEXT is there with n blanks: n", () -> {
            DomeSlit x = new DomeSlit();
            due("text(3, 1)", x.text(3, 1), 1);
            due("a blank", x.put(3, 0, 65), 1032);
            due("text(3, 2)", x.text(3, 2), 2);
            due("a blank anew", x.put(3, 0, 65), 1032);
            due("another one", x.put(3, 1, 65), 1032);
            due("text(3, 60)", x.text(3, 60), 60);
            for (int i = 0; i < 60; i++) {
                due("blank " + i, x.put(3, i, 65), 1032);
            }
            due("text(3, 0)", x.text(3, 0), 0);
            due("put(3, 0, 65)", x.put(3, 0, 65), FINDING);
        });
        sentence("8: BAD: also n above 60", () -> badBy("text(0, n)", (x, n) -> x.text(0, n), 61, HIGHEST));
        sentence("8: SIZE: below 0", () -> {
            found(SIZE, "text(0, -1)", x -> x.text(0, -1));
            found(SIZE, "text(2, lowest)", x -> x.text(2, LOWEST));
        });
        sentence("9: Byte i of a TEXT is v, cut to a byte (-128 .. 127): what it was, and 1000 more", () -> {
            int[] puts = {127, 128, -128, -129, 255, 256, 0, HIGHEST, LOWEST, 65535, -1};
            int[] bytes = {127, -128, -128, 127, -1, 0, 0, -1, 0, -1, -1};
            DomeSlit x = new DomeSlit();
            x.text(0, 2);
            int was = 32;
            for (int k = 0; k < puts.length; k++) {
                due("put(0, 1, " + puts[k] + ")", x.put(0, 1, puts[k]), 1000 + was);
                was = bytes[k];
            }
            due("the other byte", x.put(0, 0, 1), 1032);
        });
        sentence("9: BAD; NOTHING; BEYOND", () -> {
            bad("put(4, 3, 0)", x -> x.put(4, 3, 0));
            found(NOTHING, "put(2, 3, 0)", x -> x.put(2, 3, 0));
            found(BEYOND, "put(1, 3, 0)", x -> x.put(1, 3, 0));
            found(BEYOND, "put(1, -1, 0)", x -> x.put(1, -1, 0));
        });
        sentence("10: A FAULT of a TEXT; NONE: there is none", () -> {
            DomeSlit x = furnished();
            due("fault(0)", x.fault(0), NONE);
            due("fault(1)", x.fault(1), 3);
        });
        sentence("10: BAD; NOTHING", () -> {
            bad("fault(-1)", x -> x.fault(-1));
            found(NOTHING, "fault(3)", x -> x.fault(3));
        });
    }

    private static void domes() {
        sentence("11: A DOME by a TEXT (anew: MOMENT 0, the SLIT at 0, no DEEDS; kept DOMES go)", () -> {
            DomeSlit x = full();
            x.keep(0);
            x.keep(2);
            due("dome(0)", x.dome(0), 5);
            countsAre(x, 5, 0, 0, 0, 3, 1, 2, 3, 2, 0, 0);
            for (int k = 0; k < 3; k++) {
                due("on(" + k + ")", x.on(k), FINDING);
            }
            due("undo(1)", x.undo(1), BAD);
            due("a MOMENT again", x.moment(), 9 + 14 + 0 + 0 + 0);
        });
        sentence("11: how many LIGHTS", () -> {
            for (int n = 1; n <= 5; n++) {
                DomeSlit x = new DomeSlit();
                write(x, 3, "o523" + " h2359".repeat(n));
                due("dome(3)", x.dome(3), n);
                due("count(0)", x.count(0), n);
                due("the last one is there", x.light(n - 1, 0), 1);
                due("no more", x.light(n, 0), BAD);
            }
        });
        sentence("11: STATE: a FAULT", () -> {
            refused(Bench::furnished, STATE, 0, "dome(1), blanks alone", x -> x.dome(1));
            refused(Bench::furnishedHalfDome, STATE, 0, "dome(2), but for a figure", x -> x.dome(2));
            refused(PromiseEdgesTest::emptyText, STATE, 0, "dome(0), empty", x -> x.dome(0));
        });
        sentence("11: (STATE behind NOTHING.)", () -> {
            bad("dome(4)", x -> x.dome(4));
            found(NOTHING, "dome(2)", x -> x.dome(2));
        });
        sentence("12: Of a LIGHT: 0 the KIND, .. 5 what the GLASS gets of it now. BAD", () -> {
            DomeSlit x = domeAfter(1, "o302 v2349");
            int[] facts = {3, 1, 2, 9, 4, 8};
            for (int what = 0; what < facts.length; what++) {
                due("light(0, " + what + ")", askedBehind(x, x.light(0, what)), facts[what]);
            }
            badBy("light(0, what)", (y, what) -> y.light(0, what), -1, 6, LOWEST, HIGHEST);
            badBy("light(i, 0)", (y, i) -> y.light(i, 0), -1, 5, LOWEST, HIGHEST);
        });
    }

    private static DomeSlit emptyText() {
        DomeSlit x = furnished();
        x.text(0, 0);
        return x;
    }

    // ---- 13

    private static void marks() {
        sentence("13: a LOW one (STILL, too) in how many of the next 8 MOMENTS it moves", () -> {
            due("from an even one on", domeOf("o302 l0051").mark(0, 1), 4);
            due("from an odd one on", domeAfter(1, "o302 l0051").mark(0, 1), 4);
            due("of SPEED 0", domeOf("o302 l0021").mark(0, 1), 0);
            due("a STILL one", domeOf("o302 p0051").mark(0, 1), 0);
        });
        sentence("13: a HIGH one behind how many MOMENTS it is at its PLACE again (1 .. 24)", () -> {
            int[] behind = {6, 12, 1, 12, 6, 4};
            for (int figure = 0; figure <= 5; figure++) {
                due("by " + figure, domeOf("o302 h23" + figure + "1").mark(0, 2), behind[figure]);
                due("a MOMENT on, by " + figure, domeAfter(1, "o302 h23" + figure + "1").mark(0, 2), behind[figure]);
            }
        });
        sentence("13: a VARYING one (FLARING, too) how BRIGHT it is in 4 MOMENTS from this one on together", () -> {
            due("faint", domeOf("o302 v0021").mark(0, 3), 1 + 0 + 1 + 0);
            due("odd", domeOf("o302 v0029").mark(0, 3), 9 + 4 + 9 + 4);
            due("from an odd one on", domeAfter(1, "o302 v0029").mark(0, 3), 4 + 9 + 4 + 9);
            due("a FLARING one", domeOf("o302 f0021").mark(0, 3), 4 + 0 + 1 + 0);
            due("from MOMENT 39 on", domeAfter(39, "o302 f0029").mark(0, 3), 4 + 12 + 4 + 9);
        });
        sentence("13: a STILL one how many PLACES the SLIT is to be turned at least, either way .. (0 .. 12)", () -> {
            stillsAre(1, 0, 1, 12, 11, 1);
            stillsAre(2, 0, 0, 11, 11, 1);
            stillsAre(3, 1, 0, 11, 12, 2);
            stillsAre(4, 1, 0, 10, 11, 2);
            stillsAre(5, 1, 0, 9, 10, 2);
        });
        sentence("13: a FLARING one in how many MOMENTS it flares next (0: now)", () -> {
            int[] waits = {0, 3, 2, 1, 0, 3};
            for (int moments = 0; moments < waits.length; moments++) {
                due("at MOMENT " + moments, domeAfter(moments, "o302 f0029").mark(0, 5), waits[moments]);
            }
            due("at MOMENT 40", domeAfter(40, "o302 f0029").mark(0, 5), 0);
        });
        sentence("13: BAD: also KIND 0", () -> {
            badBy("mark(0, kind)", (x, kind) -> x.mark(0, kind), 0, 6, -1, LOWEST, HIGHEST);
            badBy("mark(i, 1)", (x, i) -> x.mark(i, 1), 5, -1, LOWEST, HIGHEST);
        });
        sentence("13: UNLIKE", () -> {
            found(UNLIKE, "a STAR as a LOW one", x -> x.mark(0, 1));
            found(UNLIKE, "a LOW one as a STILL one", x -> x.mark(1, 4));
            found(UNLIKE, "a HIGH one as a LOW one", x -> x.mark(2, 1));
            found(UNLIKE, "a VARYING one as a FLARING one", x -> x.mark(3, 5));
            found(UNLIKE, "a FLARING one as a STILL one", x -> x.mark(4, 4));
        });
    }

    /** The way for STILL ones at 0, 1, 12, 13, 23 from the first PLACE 0 on. */
    private static void stillsAre(int broad, int... ways) {
        DomeSlit x = domeOf("o" + broad + "12 p0029 p0129 p1229 p1329 p2329");
        for (int i = 0; i < ways.length; i++) {
            due("broad " + broad + ", LIGHT " + i, x.mark(i, 4), ways[i]);
        }
    }

    // ---- 14 to 18

    private static void deedsDone() {
        sentence("14: A MOMENT passes: what the GLASS got of all LIGHTS ahead of that", () -> {
            DomeSlit x = domeOf("o312 s2359 v0228 s0021 p0321");
            due("ahead of the first", x.moment(), 0 + 8 + 1 + 0);
            due("ahead of the second", x.moment(), 9 + 4 + 1 + 0);
            due("ahead of the third", x.moment(), 0 + 8 + 1 + 0);
        });
        sentence("14: STATE: no LIGHTS", () -> refused(DomeSlit::new, STATE, 0, "moment()", DomeSlit::moment));
        sentence("14: FULL: 40 DEEDS", () -> {
            refused(Bench::full, FULL, 0, "moment()", DomeSlit::moment);
            DomeSlit x = full();
            x.undo(39);
            due("the fortieth", x.moment() >= 0 ? 1 : 0, 1);
            due("DEEDS", x.count(2), 40);
        });
        sentence("15: BAD: also by 0, below -6, above 6", () ->
            badBy("turn(by)", DomeSlit::turn, 0, -7, 7, LOWEST, HIGHEST));
        sentence("15: STATE: no LIGHTS", () -> refused(DomeSlit::new, STATE, 0, "turn(6)", x -> x.turn(6)));
        sentence("15: FULL", () -> {
            refused(Bench::full, FULL, 0, "turn(-6)", x -> x.turn(-6));
            DomeSlit x = full();
            x.undo(39);
            due("the fortieth", x.turn(1), 1);
            due("DEEDS", x.count(2), 40);
        });
        sentence("16: DEEDS from number n on (0 to how many there are: none then) are undone: how many", () -> {
            DomeSlit x = full();
            due("none", x.undo(40), 0);
            due("DEEDS", x.count(2), 40);
            due("the last one", x.undo(39), 1);
            due("DEEDS", x.count(2), 39);
            due("all", x.undo(0), 39);
            countsAre(x, 5, 0, 0, 0, 3, 1, 2, 3, 2, 1, 0);
            due("none of none", x.undo(0), 0);
            due("none without LIGHTS", new DomeSlit().undo(0), 0);
        });
        sentence("16: DEEDS from number n on .. are undone: what the ones ahead of them did stays", () -> {
            DomeSlit x = domeOf("o323 s0159");
            int[] turns = {1, -1, -6, 6, 2};
            long[] states = new long[41];
            for (int k = 0; k < 40; k++) {
                states[k] = x.digest();
                if (k % 2 == 0) {
                    x.turn(turns[k / 2 % turns.length]);
                } else {
                    x.moment();
                }
            }
            states[40] = x.digest();
            for (int n = 40; n >= 0; n--) {
                due("undo(" + n + ")", x.undo(n), n == 40 ? 0 : 1);
                due("as it was behind " + n + " DEEDS", x.digest(), states[n]);
            }
        });
        sentence("16: BAD", () -> {
            badBy("undo(n)", DomeSlit::undo, -1, 5, LOWEST, HIGHEST);
            refused(Bench::full, BAD, 0, "undo(41)", x -> x.undo(41));
            refused(DomeSlit::new, BAD, 0, "undo(1)", x -> x.undo(1));
        });
    }

    private static void keeping() {
        sentence("17: The DOME (as it is, DEEDS) is kept in a place (0 .. 2): how many DEEDS", () -> {
            DomeSlit x = full();
            due("keep(2)", x.keep(2), 40);
            x.undo(0);
            due("keep(0)", x.keep(0), 0);
            due("count(9)", x.count(9), 3);
            due("on(2)", x.on(2), 40);
            due("MOMENTS", x.count(1), 38);
            due("on(0)", x.on(0), 0);
            due("MOMENTS", x.count(1), 0);
            due("on(1), kept by furnished()", x.on(1), 2);
            badBy("keep(k)", DomeSlit::keep, -1, 3, LOWEST, HIGHEST);
        });
        sentence("17: STATE: no LIGHTS", () -> {
            for (int k = 0; k < 3; k++) {
                int at = k;
                refused(DomeSlit::new, STATE, 0, "keep(" + at + ")", x -> x.keep(at));
            }
        });
        sentence("18: The DOME is as it was kept: how many DEEDS", () -> {
            DomeSlit x = full();
            due("on(1) from a full one", x.on(1), 2);
            due("DEEDS can be done again", x.turn(6), 10);
            due("DEEDS", x.count(2), 3);
            due("what is kept stays", x.on(1), 2);
            due("its own can be undone", x.undo(0), 2);
            due("and it still stays", x.on(1), 2);
        });
        sentence("18: The DOME is as it was kept: the SLIT, its EFFORT, its DEEDS", () -> {
            DomeSlit x = domeOf("o323 s0159");
            x.keep(0);
            x.turn(-2);
            x.moment();
            x.turn(1);
            x.keep(2);
            long kept = x.digest();
            x.undo(0);
            x.moment();
            x.turn(5);
            x.turn(6);
            x.turn(6);
            due("on(2)", x.on(2), 3);
            due("as it was kept", x.digest(), kept);
            due("the SLIT", x.count(3), 23);
            due("the EFFORT", x.count(10), 2 + 4 + 1 + 4);
            x.undo(0);
            x.moment();
            x.moment();
            x.on(2);
            due("the last of its own DEEDS", x.undo(2), 1);
            countsAre(x, 1, 1, 2, 22, 3, 0, 0, 0, 1, 2, 2 + 4);
            due("on(0), none done", x.on(0), 0);
            due("the SLIT", x.count(3), 0);
            due("the EFFORT", x.count(10), 0);
        });
        sentence("18: BAD; NOTHING", () -> {
            badBy("on(k)", DomeSlit::on, -1, 3, LOWEST, HIGHEST);
            found(NOTHING, "on(0)", x -> x.on(0));
            found(NOTHING, "on(2)", x -> x.on(2));
        });
    }

    // ---- 19 to 24

    private static void whatComes() {
        sentence("19: The PLACE of a LIGHT; how BRIGHT it is by asked(). BAD", () -> {
            badBy("place(i, 0)", (x, i) -> x.place(i, 0), -1, 5, LOWEST, HIGHEST);
            badBy("place(0, n)", (x, n) -> x.place(0, n), -1, 100, LOWEST, HIGHEST);
            DomeSlit x = domeAfter(40, "o302 f2359");
            due("place(0, 99)", x.place(0, 99), (23 + 3 * 139) % 24);
            due("at an odd MOMENT", x.asked(), 4);
            due("place(0, 96)", x.place(0, 96), (23 + 3 * 136) % 24);
            due("at one that 4 divides", x.asked(), 12);
        });
        sentence("20: What the GLASS gets of a LIGHT. BAD", () -> {
            badBy("gets(i, 0)", (x, i) -> x.gets(i, 0), -1, 5, LOWEST, HIGHEST);
            badBy("gets(0, n)", (x, n) -> x.gets(0, n), -1, 100, LOWEST, HIGHEST);
            refused(DomeSlit::new, BAD, 0, "gets(0, 0)", x -> x.gets(0, 0));
        });
        sentence("21: LIGHTS (bits) of which the GLASS gets something. BAD", () -> {
            badBy("seen(n)", DomeSlit::seen, -1, 100, LOWEST, HIGHEST);
            DomeSlit x = domeOf("o312 v0021 p0021 p0121 p0221 p0321");
            due("seen(0)", x.seen(0), 1 + 2 + 4 + 8);
            due("seen(1), nothing of a faint one", x.seen(1), 2 + 4 + 8);
            due("without LIGHTS", new DomeSlit().seen(0), 0);
            due("without LIGHTS, the last MOMENT", new DomeSlit().seen(99), 0);
        });
        sentence("24: The EFFORT of a TURN by -6 .. 6 now (0: 0). BAD", () -> {
            badBy("effort(by)", DomeSlit::effort, -7, 7, LOWEST, HIGHEST);
            DomeSlit x = domeOf("o300 s0039");
            due("effort(0) where it sticks", x.effort(0), 0);
            due("effort(6)", x.effort(6), 6);
            due("effort(-6)", x.effort(-6), 6);
            x.turn(6);
            due("effort(-6) to where it sticks", x.effort(-6), 10);
            due("effort(0)", x.effort(0), 0);
            due("effort(6) without LIGHTS", new DomeSlit().effort(6), 6);
        });
    }

    private static void aheadIs(String text, int place, int lasts) {
        DomeSlit x = domeOf(text);
        due("ahead of " + text, x.ahead(0), place);
        due("how many for " + text, x.asked(), lasts);
    }

    private static void longest() {
        sentence("22: For how many MOMENTS, one behind the other, from this one on", () -> {
            due("on to the last PLACE", domeOf("o512 s0031").stays(0), 5);
            due("back to the first PLACE", domeOf("o512 s0411").stays(0), 5);
            due("it comes again only later", domeOf("o112 h0051").stays(0), 1);
            due("a faint one", domeOf("o512 v0121").stays(0), 1);
            due("over the end of the ring", domeAfterTurns("o512 s2231", -2).stays(0), 5);
        });
        sentence("22: (0: not now; 100 at most)", () -> {
            due("not now", domeOf("o312 s0331").stays(0), 0);
            due("at the next MOMENT only", domeOf("o312 s2331").stays(0), 0);
            due("out by itself", domeAfter(1, "o312 v0121").stays(0), 0);
            due("for ever", domeOf("o312 s0021").stays(0), 100);
            due("for ever, from MOMENT 40 on", domeAfter(40, "o312 p0021").stays(0), 100);
        });
        sentence("22: BAD", () -> badBy("stays(i)", DomeSlit::stays, -1, 5, LOWEST, HIGHEST));
        sentence("23: The PLACE (the first) at which the SLIT's first PLACE would have to be", () -> {
            aheadIs("o512 p0429", 0, 100);
            aheadIs("o512 p0529", 1, 100);
            aheadIs("o512 p0029", 0, 100);
            aheadIs("o512 p2329", 19, 100);
            aheadIs("o112 p2329", 23, 100);
            aheadIs("o112 s2359", 23, 1);
            aheadIs("o312 s2339", 23, 3);
            aheadIs("o312 s0019", 22, 3);
            aheadIs("o512 h0159", 0, 1);
            aheadIs("o512 h0559", 1, 1);
            aheadIs("o512 s0059", 0, 2);
        });
        sentence("23: how many (100 at most) by asked()", () -> {
            aheadIs("o312 s0029", 0, 100);
            DomeSlit x = domeAfter(40, "o312 p0029");
            due("from MOMENT 40 on", x.ahead(0), 0);
            due("how many", x.asked(), 100);
        });
        sentence("23: BAD", () -> badBy("ahead(i)", DomeSlit::ahead, -1, 5, LOWEST, HIGHEST));
    }

    private static DomeSlit domeAfterTurns(String text, int... turns) {
        DomeSlit x = domeOf(text);
        for (int by : turns) {
            x.turn(by);
        }
        return x;
    }

    // ---- 25 to 29

    private static void followed() {
        sentence("25: the first such row of TURNS comes to a ROW (anew)", () -> {
            DomeSlit x = domeOf("o112 s0021 p1821");
            x.row(0, 40);
            due("follow(0, 1, 0)", x.follow(0, 1, 0), 0);
            rowIs(x, 0, 0);
            due("follow(0, 8, 0)", x.follow(0, 8, 0), 0);
            rowIs(x, 0, new int[8]);
            due("follow(1, 1, 5), a missing row", x.follow(1, 1, 5), 6);
            rowIs(x, 5, -6);
        });
        sentence("25: NONE: by none", () -> {
            due("one PLACE too far on", domeOf("o112 p0721").follow(0, 1, 0), NONE);
            due("one PLACE too far back", domeOf("o112 p1721").follow(0, 1, 0), NONE);
            due("just near enough on", domeOf("o112 p0621").follow(0, 1, 0), 6);
            due("just near enough back", domeOf("o112 p1821").follow(0, 1, 0), 6);
            due("at the last MOMENT only", domeOf("o112 v0021").follow(0, 2, 0), NONE);
        });
        sentence("25: BAD", () -> {
            badBy("follow(i, 1, 0)", (x, i) -> x.follow(i, 1, 0), -1, 5, LOWEST, HIGHEST);
            badBy("follow(0, n, 0)", (x, n) -> x.follow(0, n, 0), 0, 9, LOWEST, HIGHEST);
            badBy("follow(0, 1, r)", (x, r) -> x.follow(0, 1, r), -1, 6, LOWEST, HIGHEST);
        });
        sentence("26: The fewest TURNS (not 0) by which it does", () -> {
            due("none", domeOf("o112 p0021").turns(0, 8), 0);
            due("at each MOMENT", domeOf("o112 h0651").turns(0, 8), 8);
            due("at each but the first", domeOf("o112 s0051").turns(0, 8), 7);
            // One TURN by 4 is fewer than four by 1.
            due("as far as one goes", domeOf("o512 s0031").turns(0, 8), 1);
        });
        sentence("26: NONE: by none", () -> {
            due("too far on", domeOf("o112 p0721").turns(0, 1), NONE);
            due("too far back", domeOf("o112 p1721").turns(0, 8), NONE);
            due("out by itself", domeOf("o112 v0021").turns(0, 2), NONE);
        });
        sentence("26: BAD", () -> {
            badBy("turns(i, 1)", (x, i) -> x.turns(i, 1), -1, 5, LOWEST, HIGHEST);
            badBy("turns(0, n)", (x, n) -> x.turns(0, n), 0, 9, LOWEST, HIGHEST);
        });
        sentence("27: in n MOMENTS by an EFFORT of e (0 .. 40) at most", () -> {
            // It goes 6 on at each MOMENT; the wheel STICKS once on the way: 6, 12, 22, 28, 34, 40.
            int[] efforts = {6, 12, 22, 28, 34, 40};
            for (int n = 1; n <= efforts.length; n++) {
                DomeSlit x = domeOf("o118 h0651");
                due("all of " + n, x.most(0, n, efforts[n - 1]), n);
                due("one short of all of " + n, x.most(0, n, efforts[n - 1] - 1), n - 1);
            }
            due("by none", domeOf("o112 p0021").most(0, 8, 0), 8);
            due("nothing by none", domeOf("o112 p0121").most(0, 8, 0), 0);
            due("farther than a TURN", domeOf("o112 p0721").most(0, 1, 40), 0);
            due("by two TURNS", domeOf("o112 p0721").most(0, 2, 7), 1);
            DomeSlit end = domeAfterTurns("o112 p0121", -2);
            due("over the end of the ring", end.most(0, 2, 3), 2);
            due("one short of that", end.most(0, 2, 2), 0);
        });
        sentence("27: BAD", () -> {
            badBy("most(i, 1, 0)", (x, i) -> x.most(i, 1, 0), -1, 5, LOWEST, HIGHEST);
            badBy("most(0, n, 0)", (x, n) -> x.most(0, n, 0), 0, 9, LOWEST, HIGHEST);
            badBy("most(0, 1, e)", (x, e) -> x.most(0, 1, e), -1, 41, LOWEST, HIGHEST);
        });
    }

    /** The promises 28, 35, 36 refuse the same rows of TURNS, in the same order. */
    private static void wrongTurns(String promise, ToIntBiFunction<DomeSlit, Integer> ofRow) {
        sentence(promise + " (1 to 8, each -6 .. 6): SIZE", () -> {
            found(SIZE, "no TURNS", x -> ofRow.applyAsInt(x, 2));
            for (int n : new int[] {9, 40}) {
                refused(() -> furnishedWith(4, new int[n]), FINDING, SIZE, n + " TURNS", x -> ofRow.applyAsInt(x, 4));
            }
            for (int n : new int[] {1, 8}) {
                due(n + " TURNS", ofRow.applyAsInt(furnishedWith(4, new int[n]), 4) >= 0 ? 1 : 0, 1);
            }
        });
        sentence(promise + " (1 to 8, each -6 .. 6): UNLIKE", () -> {
            int[][] rows = {{7}, {-7}, {0, 7}, {0, 0, 0, 0, 0, 0, 0, -7}, {HIGHEST, 0}, {LOWEST}};
            for (int[] row : rows) {
                refused(() -> furnishedWith(4, row), FINDING, UNLIKE, "a TURN too far", x -> ofRow.applyAsInt(x, 4));
            }
            due("TURNS by 6 and -6", ofRow.applyAsInt(furnishedWith(4, 6, -6), 4) >= 0 ? 1 : 0, 1);
        });
        sentence(promise + " NOTHING; SIZE; UNLIKE. (In this order.)", () -> {
            found(NOTHING, "a missing row", x -> ofRow.applyAsInt(x, 3));
            refused(() -> furnishedWith(4, 7, 0, 0, 0, 0, 0, 0, 0, 7), FINDING, SIZE, "nine, two too far",
                    x -> ofRow.applyAsInt(x, 4));
        });
    }

    private static void rowsOfTurns() {
        wrongTurns("28: By a row of TURNS in a ROW", (x, r) -> x.by(0, r));
        sentence("28: BAD", () -> {
            badBy("by(i, 0)", (x, i) -> x.by(i, 0), -1, 5, LOWEST, HIGHEST);
            badBy("by(i, 3), a missing row", (x, i) -> x.by(i, 3), -1, 5);
            badBy("by(i, 2), no TURNS", (x, i) -> x.by(i, 2), -1, 5);
            badBy("by(0, r)", (x, r) -> x.by(0, r), -1, 6, LOWEST, HIGHEST);
        });
        sentence("28: what the GLASS gets of a LIGHT together; the EFFORT by asked()", () -> {
            DomeSlit x = domeOf("o118 h0651 p0021");
            layAll(x, 0, 6, 6, 6, 6, 6, 6, 6, 6);
            due("all the way round, twice", x.by(0, 0), 8);
            due("its EFFORT", x.asked(), 48 + 4 + 4);
            due("once round to a still one, twice", x.by(1, 0), 2);
            layAll(x, 0, -6, -5);
            due("nothing", x.by(0, 0), 0);
            due("its EFFORT", x.asked(), 6 + 4 + 5);
            layAll(x, 0, 0);
            due("by no TURN", x.by(1, 0), 1);
            due("no EFFORT", x.asked(), 0);
        });
    }

    private static void orders() {
        sentence("29: All LIGHTS, each looked at in one MOMENT, one behind the other, in some order", () -> {
            DomeSlit one = domeOf("o112 p0621");
            due("one alone", one.order(0), 6);
            rowIs(one, 0, 0);
            DomeSlit five = domeOf("o112 p0521 p0421 p0321 p0221 p0121");
            due("five", five.order(0), 5);
            rowIs(five, 0, 4, 3, 2, 1, 0);
            DomeSlit round = domeOf("o112 p0121 p2321");
            due("over the end of the ring", round.order(0), 1 + 2);
            rowIs(round, 0, 0, 1);
            DomeSlit goes = domeOf("o118 s2341 s0021");
            due("one comes over the end of the ring", goes.order(0), 0 + 1);
            rowIs(goes, 0, 1, 0);
        });
        sentence("29: the first such order comes to a ROW (anew)", () -> {
            DomeSlit alike = domeOf("o512 p0221 p0221 p0221 p0221 p0221");
            alike.row(3, 40);
            due("all alike", alike.order(3), 0);
            rowIs(alike, 3, 0, 1, 2, 3, 4);
            due("to a missing row", alike.order(5), 0);
            rowIs(alike, 5, 0, 1, 2, 3, 4);
        });
        sentence("29: NONE: by none", () -> {
            due("one out of reach", domeOf("o112 p0721").order(0), NONE);
            due("one of two out of reach", domeOf("o112 p0021 p1221").order(0), NONE);
            due("just within reach, one behind the other", domeOf("o112 p0621 p1221").order(0), 6 + 6 + 4);
            due("no second TURN for one looked at again", domeOf("o118 p0921 s0051").order(0), NONE);
            due("both out at the second MOMENT", domeOf("o512 v0121 v0121").order(0), NONE);
        });
        sentence("29: BAD; STATE: no LIGHTS", () -> {
            badBy("order(r)", DomeSlit::order, -1, 6, LOWEST, HIGHEST);
            refused(DomeSlit::new, STATE, 0, "order(0)", x -> x.order(0));
            refused(DomeSlit::new, BAD, 0, "order(-1)", x -> x.order(-1));
        });
    }

    // ---- 30 to 33

    /** The promises 30 to 33 refuse the same notes, in the same order. */
    private static void wrongNotes(String promise, ToIntBiFunction<DomeSlit, Integer> ofRow) {
        sentence(promise + " SIZE: more than 20", () -> {
            for (int n : new int[] {21, 40}) {
                refused(() -> furnishedWith(4, new int[n]), FINDING, SIZE, n + " notes", x -> ofRow.applyAsInt(x, 4));
            }
            for (int n : new int[] {0, 1, 20}) {
                due(n + " notes", ofRow.applyAsInt(furnishedWith(4, new int[n]), 4) >= 0 ? 1 : 0, 1);
            }
        });
        sentence(promise + " UNLIKE: below 0", () -> {
            int[] twenty = new int[20];
            twenty[19] = -1;
            for (int[] row : new int[][] {{-1}, {0, -1}, {3, LOWEST, 3}, twenty}) {
                refused(() -> furnishedWith(4, row), FINDING, UNLIKE, "a note below 0", x -> ofRow.applyAsInt(x, 4));
            }
            due("0, the highest", ofRow.applyAsInt(furnishedWith(4, 0, HIGHEST), 4) >= 0 ? 1 : 0, 1);
        });
        sentence(promise + " NOTHING; SIZE; UNLIKE. (In this order.)", () -> {
            found(NOTHING, "a missing row", x -> ofRow.applyAsInt(x, 3));
            int[] many = new int[21];
            many[0] = -1;
            refused(() -> furnishedWith(4, many), FINDING, SIZE, "too many, one below 0", x -> ofRow.applyAsInt(x, 4));
        });
    }

    private static void wrongLights(String promise, ToIntBiFunction<DomeSlit, Integer> ofLight,
            ToIntBiFunction<DomeSlit, Integer> ofRow) {
        sentence(promise + " BAD", () -> {
            badBy("LIGHT i", ofLight, -1, 5, LOWEST, HIGHEST);
            badBy("ROW r", ofRow, -1, 6, LOWEST, HIGHEST);
        });
    }

    private static void notes() {
        wrongNotes("30: kinds:", (x, r) -> x.kinds(0, r));
        wrongLights("30: kinds:", (x, i) -> x.kinds(i, 3), (x, r) -> x.kinds(0, r));
        wrongNotes("31: places:", (x, r) -> x.places(0, r));
        wrongLights("31: places:", (x, i) -> x.places(i, 3), (x, r) -> x.places(0, r));
        wrongNotes("32: speeds:", (x, r) -> x.speeds(0, r));
        wrongLights("32: speeds:", (x, i) -> x.speeds(i, 3), (x, r) -> x.speeds(0, r));
        sentence("30: Notes: a ROW of what was got in MOMENTS from this one on (0 to 20 ints of 0 or more)", () -> {
            DomeSlit x = domeOf("o112 s0039");
            x.row(0, 0);
            due("kinds by none", x.kinds(0, 0), 63);
            due("places by none", x.places(0, 0), (1 << 24) - 1);
            due("speeds by none", x.speeds(0, 0), 63);
            int[] twenty = new int[20];
            twenty[0] = 9;
            layAll(x, 0, twenty);
            // A STAR and a VARYING one by 1 come again in 24 MOMENTS, a LOW one later still; a HIGH one in 12.
            due("kinds by twenty, the last ones of nothing", x.kinds(0, 0), 1 + 2 + 8);
            due("speeds by twenty, -2 and 2 come again at 12", x.speeds(0, 0), 2 + 8);
            layAll(x, 0, 9, 0, 0, 0, 0, 0, 0, 0, 0, 0, 0, 0, 9, 0, 0, 0, 0, 0, 0, 0);
            due("kinds by twenty, again at 12", x.kinds(0, 0), 4);
            due("speeds by twenty, again at 12", x.speeds(0, 0), 1 + 16);
            layAll(x, 0, HIGHEST);
            due("kinds by more than can be", x.kinds(0, 0), 0);
            due("places by more than can be", x.places(0, 0), 0);
            due("speeds by more than can be", x.speeds(0, 0), 0);
        });
        sentence("30: a LIGHT .. that is at its PLACE now: from an odd MOMENT, from the last one on", () -> {
            DomeSlit x = domeAfter(39, "o512 s0931 l0031");
            due("the STAR", x.place(0, 0), 0);
            layAll(x, 0, 1, 2, 2, 2, 1);
            due("kinds, at each MOMENT on", x.kinds(0, 0), 1);
            due("places", x.places(0, 0), 1);
            due("speeds", x.speeds(0, 0), 8);
            layAll(x, 0, 1, 1, 2, 2, 2);
            due("kinds, from even MOMENTS on", x.kinds(0, 0), 2);
            due("places of the LOW one", x.places(1, 0), 1);
            due("speeds of the LOW one, that is not there", x.speeds(1, 0), 0);
            x.moment();
            layAll(x, 0, 2, 2, 2, 1, 0);
            due("kinds behind 40 DEEDS", x.kinds(0, 0), 1);
            due("places behind 40 DEEDS", x.places(0, 0), 2);
            due("speeds behind 40 DEEDS", x.speeds(0, 0), 8);
        });
        sentence("31: At which PLACES (bits) it can be now, so", () -> {
            DomeSlit x = domeAfterTurns("o312 p1229 s1231", -1);
            layAll(x, 0, 18);
            due("between, over the end of the ring", x.places(0, 0), 1);
            layAll(x, 0, 9);
            due("at the ends", x.places(0, 0), (1 << 23) + 2);
            layAll(x, 0, 0, 1);
            due("about to come in over the end of the ring", x.places(1, 0), 1 << 22);
            layAll(x, 0, 1, 2, 1);
            due("coming over the end of the ring", x.places(1, 0), 1 << 23);
            layAll(x, 0, 1, 0);
            due("about to go", x.places(1, 0), 2);
        });
        sentence("32: Which SPEEDS (bits 0 .. 5: the SPEED and 2) it can have", () -> {
            DomeSlit x = domeOf("o112 s0039 s0239 s2139");
            layAll(x, 0, 0, 9);
            due("-2 alone", x.speeds(1, 0), 1);
            due("3 alone", x.speeds(2, 0), 32);
            layAll(x, 0, 9, 9);
            due("0 alone", x.speeds(0, 0), 4);
            due("a STILL one: any", domeSpeeds("o112 p0039"), 63);
        });
    }

    private static int domeSpeeds(String text) {
        DomeSlit x = domeOf(text);
        layAll(x, 0, 9, 9, 9);
        return x.speeds(0, 0);
    }

    private static void fainterIs(DomeSlit x, int want, int place, int... row) {
        layAll(x, 0, row);
        due("fainter by " + row.length + " notes", x.fainter(0, 0), want);
        due("the place", x.asked(), place);
    }

    private static void fainterNotes() {
        wrongNotes("33: fainter:", (x, r) -> x.fainter(0, r));
        wrongLights("33: fainter:", (x, i) -> x.fainter(i, 3), (x, r) -> x.fainter(0, r));
        sentence("33: The first place of notes that is less than the one ahead of it, by asked()", () -> {
            DomeSlit x = domeOf("o312 s0129");
            fainterIs(x, 0, 1, 1, 0);
            fainterIs(x, 0, 2, 1, 1, 0);
            fainterIs(x, 0, 2, 0, 5, 4, 3);
            fainterIs(x, 0, 1, HIGHEST, 0, HIGHEST, 0);
            int[] last = new int[20];
            Arrays.fill(last, 7);
            last[19] = 6;
            fainterIs(x, 0, 19, last);
        });
        sentence("33: (NONE: none; then 0)", () -> {
            DomeSlit x = domeOf("o312 v0227");
            fainterIs(x, 0, NONE);
            fainterIs(x, 0, NONE, 5);
            fainterIs(x, 0, NONE, 5, 5, 5);
            fainterIs(x, 0, NONE, 0, 1, HIGHEST);
            fainterIs(x, 0, NONE, new int[20]);
        });
        sentence("33: 1, if the LIGHT is less BRIGHT; 2, if the SLIT .. counts it less often; 3 both, 0 neither", () -> {
            fainterIs(domeOf("o312 v0129"), 1, 1, 2, 1);
            fainterIs(domeOf("o312 v0129"), 0, 2, 2, 2, 1);
            fainterIs(domeAfter(1, "o312 v0129"), 0, 1, 2, 1);
            fainterIs(domeOf("o312 f0121"), 1, 1, 2, 1);
            fainterIs(domeOf("o312 s0139"), 2, 1, 2, 1);
            fainterIs(domeOf("o312 s0039"), 2, 2, 2, 2, 1);
            fainterIs(domeOf("o312 s0239"), 2, 1, 2, 1);
            fainterIs(domeOf("o312 s0039"), 0, 1, 2, 1);
            fainterIs(domeOf("o312 s2339"), 0, 1, 2, 1);
            fainterIs(domeOf("o312 s0019"), 2, 1, 2, 1);
            fainterIs(domeOf("o312 v0139"), 3, 1, 2, 1);
            fainterIs(domeOf("o312 v0039"), 1, 1, 2, 1);
        });
    }

    // ---- 34 to 37

    private static void clouds() {
        sentence("34: By turns a TURN by -2 .. 2 is done (0: none)", () -> {
            due("0", domeOf("o112 p0021").cloud(0, 1), 1);
            due("2 on", domeOf("o112 p0221").cloud(0, 1), 1);
            due("3 on", domeOf("o112 p0321").cloud(0, 1), 0);
            due("2 back", domeOf("o112 p2221").cloud(0, 1), 1);
            due("3 back", domeOf("o112 p2121").cloud(0, 1), 0);
        });
        sentence("34: n (0 .. 4) MOMENTS, over half of them (cut) at most", () -> {
            DomeSlit x = domeOf("o112 p0029");
            int[] together = {0, 9, 9, 18, 18};
            for (int n = 0; n < together.length; n++) {
                due("cloud(0, " + n + ")", x.cloud(0, n), together[n]);
            }
            for (int n = together.length - 1; n >= 0; n--) {
                due("cloud(0, " + n + ") again", x.cloud(0, n), together[n]);
            }
            badBy("cloud(0, n)", (y, n) -> y.cloud(0, n), -1, 5, LOWEST, HIGHEST);
        });
        sentence("34: the one wanting much, the cloud little: over the end of the ring", () -> {
            due("two PLACES on", domeAfterTurns("o112 p0029", -2).cloud(0, 1), 9);
            DomeSlit x = domeAfterTurns("o112 p0029", -3);
            due("three PLACES on, one MOMENT", x.cloud(0, 1), 0);
            due("two MOMENTS, the second clouded", x.cloud(0, 2), 0);
            due("three MOMENTS, the second or third clouded", x.cloud(0, 3), 9);
            due("four MOMENTS, two clouded", x.cloud(0, 4), 9);
            due("two PLACES back", domeAfterTurns("o112 p2229").cloud(0, 3), 18);
        });
        sentence("34: BAD", () -> badBy("cloud(i, 1)", (x, i) -> x.cloud(i, 1), -1, 5, LOWEST, HIGHEST));
    }

    private static void sleeping() {
        wrongTurns("35: mid: a row of TURNS in a ROW", (x, r) -> x.mid(0, r, 5));
        sentence("35: by SLEEP of p (0 .. 12)", () -> {
            badBy("mid(0, 0, p)", (x, p) -> x.mid(0, 0, p), -1, 13, LOWEST, HIGHEST);
            badBy("mid(0, 3, p), a missing row", (x, p) -> x.mid(0, 3, p), -1, 13);
            DomeSlit x = domeOf("o112 p0129");
            layAll(x, 0, 1, 0);
            chancesAre(x, x.mid(0, 0, 0), 18, 1);
            chancesAre(x, x.mid(0, 0, 1), 33, 2);
            chancesAre(x, x.mid(0, 0, 11), 3, 2);
            chancesAre(x, x.mid(0, 0, 12), 0, 1);
        });
        wrongLights("35: mid:", (x, i) -> x.mid(i, 3, 5), (x, r) -> x.mid(0, r, 5));
        wrongTurns("36: odds: a row of TURNS in a ROW", (x, r) -> x.odds(0, r, 5));
        sentence("36: Chances that it gets something in each MOMENT, p 0 .. 12", () -> {
            badBy("odds(0, 0, p)", (x, p) -> x.odds(0, 0, p), -1, 13, LOWEST, HIGHEST);
            badBy("odds(0, 3, p), a missing row", (x, p) -> x.odds(0, 3, p), -1, 13);
            DomeSlit x = domeOf("o112 p0129");
            layAll(x, 0, 1, 0);
            chancesAre(x, x.odds(0, 0, 0), 1, 1);
            chancesAre(x, x.odds(0, 0, 1), 11, 12);
            chancesAre(x, x.odds(0, 0, 11), 1, 12);
            chancesAre(x, x.odds(0, 0, 12), 0, 1);
            // It comes back at the last MOMENT, but was not there in each.
            layAll(x, 0, 1, -1, 1);
            chancesAre(x, x.odds(0, 0, 0), 0, 1);
        });
        wrongLights("36: odds:", (x, i) -> x.odds(i, 3, 5), (x, r) -> x.odds(0, r, 5));
        sentence("35, 36: eight TURNS of chances each", () -> {
            DomeSlit x = domeOf("o112 s0131");
            layAll(x, 0, 1, 1, 1, 1, 1, 1, 1, 1);
            // Each TURN must be done: 7 of 12, eight times.
            chancesAre(x, x.odds(0, 0, 5), 5764801L, 429981696L);
            // It gets something in each MOMENT up to the first TURN slept over, and it never catches up.
            long sum = 0;
            long done = 1;
            for (int k = 1; k <= 8; k++) {
                done *= 7;
                sum = sum * 12 + done;
            }
            chancesAre(x, x.mid(0, 0, 5), sum, 429981696L);
        });
    }

    private static void nightsByLots() {
        sentence("37: n (1 .. 20) MOMENTS", () -> {
            badBy("lots(n, 1)", (x, n) -> x.lots(n, 1), 0, 21, -1, LOWEST, HIGHEST);
            DomeSlit x = domeOf("o312 p1229");
            due("lots(20, 1)", x.lots(20, 1) >= 0 ? 1 : 0, 1);
            due("MOMENTS", x.count(1), 20);
            due("DEEDS at most", x.count(2) <= 40 ? 1 : 0, 1);
            x.undo(0);
            due("lots(1, 1)", x.lots(1, 1), 0);
            due("MOMENTS", x.count(1), 1);
        });
        sentence("37: the TURN ahead of it (0: none, no DEED)", () -> {
            // From seed 1: by -1, then 0.
            DomeSlit x = domeOf("o323 s0039");
            due("lots(1, 1)", x.lots(1, 1), 18);
            due("a TURN and a MOMENT", x.count(2), 2);
            due("the EFFORT, to where it sticks", x.count(10), 5);
            x.undo(0);
            due("lots(2, 1)", x.lots(2, 1), 18 + 9);
            due("a TURN and two MOMENTS", x.count(2), 3);
            due("the last DEED is a MOMENT", x.undo(2), 1);
            due("MOMENTS", x.count(1), 1);
        });
        sentence("37: BAD; STATE: no LIGHTS", () -> {
            badBy("lots(1, seed)", (x, seed) -> x.lots(1, seed), 0, -1, LOWEST, HIGHEST);
            refused(DomeSlit::new, STATE, 0, "lots(1, 1)", x -> x.lots(1, 1));
            refused(DomeSlit::new, STATE, 0, "lots(20, greatest)", x -> x.lots(20, HIGHEST - 1));
            refused(DomeSlit::new, BAD, 0, "lots(21, 1)", x -> x.lots(21, 1));
        });
        sentence("37: FULL: with twice n more there would be more than 40 DEEDS", () -> {
            for (int n : new int[] {1, 2, 10, 19, 20}) {
                int just = 40 - 2 * n;
                DomeSlit x = domeAfter(just, "o312 s0039");
                due("lots(" + n + ", 1) by " + just, x.lots(n, 1) >= 0 ? 1 : 0, 1);
                refused(() -> domeAfter(just + 1, "o312 s0039"), FULL, 0, "lots(" + n + ", 1) by one more",
                        y -> y.lots(n, 1));
            }
            // It goes by twice n, even where fewer DEEDS would come of it.
            refused(() -> domeAfter(37, "o312 s0039"), FULL, 0, "lots(2, 1), three DEEDS", x -> x.lots(2, 1));
        });
    }

    // ---- 38 to 44

    private static void whatIsTold() {
        sentence("38: that was not refused told; 0 before", () -> {
            DomeSlit x = new DomeSlit();
            due("before", x.asked(), 0);
            x.at(0, 0);
            x.light(0, 0);
            due("behind refused ones", x.asked(), 0);
            layAll(x, 0, 6);
            due("behind a lay()", x.asked(), 0);
            x.at(0, 0);
            x.at(0, 1);
            x.at(6, 0);
            due("behind one told, two refused", x.asked(), 6);
            x.place(0, 0);
            x.ahead(0);
            x.by(0, 0);
            x.fainter(0, 0);
            x.mean(1);
            x.lay(0, 7, 1);
            due("behind more refused ones", x.asked(), 6);
        });
        sentence("39: The upper number of the chances that were told last; 0 before", () -> {
            DomeSlit x = domeOf("o312 p0029");
            due("before", x.upper(), 0);
            layAll(x, 0, 0);
            x.mean(0);
            x.mid(0, 0, 13);
            x.odds(0, 1, 0);
            due("behind refused ones", x.upper(), 0);
            x.mid(0, 0, 0);
            due("behind mid()", x.upper(), 9);
        });
        sentence("40: Its lower number; 1 before", () -> {
            DomeSlit x = domeOf("o312 p0029");
            due("before", x.lower(), 1);
            layAll(x, 0, -1);
            x.mid(0, 0, 13);
            due("behind a refused one", x.lower(), 1);
            x.mid(0, 0, 6);
            due("behind mid()", x.lower(), 2);
        });
        sentence("41: 4 how broad it is (0 without LIGHTS)", () -> {
            due("without", new DomeSlit().count(4), 0);
            for (int broad = 1; broad <= 5; broad++) {
                due("broad " + broad, domeOf("o" + broad + "12 s0039").count(4), broad);
            }
        });
        sentence("41: BAD", () -> badBy("count(what)", DomeSlit::count, -1, 11, LOWEST, HIGHEST));
        sentence("41: 7 ROWS, 8 TEXTS that are there, 9 kept DOMES", () -> {
            DomeSlit x = domeOf("o312 s0039");
            for (int n = 1; n <= 6; n++) {
                x.row(n - 1, 0);
                due("ROWS", x.count(7), n);
            }
            for (int n = 2; n <= 4; n++) {
                x.text(n - 1, 0);
                due("TEXTS", x.count(8), n);
            }
            for (int n = 1; n <= 3; n++) {
                x.keep(n - 1);
                due("kept DOMES", x.count(9), n);
            }
            x.row(5, 3);
            x.keep(2);
            due("ROWS, one anew", x.count(7), 6);
            due("kept DOMES, one again", x.count(9), 3);
        });
        sentence("42: The latest FINDING (0 before any)", () -> {
            DomeSlit x = new DomeSlit();
            due("before any", x.finding(), 0);
            x.tear(9);
            x.moment();
            due("behind BAD and STATE", x.finding(), 0);
            x.tear(0);
            due("behind NOTHING", x.finding(), NOTHING);
            x.row(0, -1);
            due("behind SIZE", x.finding(), SIZE);
            x.tear(9);
            x.row(0, 0);
            due("it stays", x.finding(), SIZE);
        });
        sentence("43: How often a FINDING (1 .. 5) was answered. BAD", () -> {
            badBy("findings(f)", DomeSlit::findings, 0, 6, -1, LOWEST, HIGHEST);
            DomeSlit x = new DomeSlit();
            for (int f = 1; f <= 5; f++) {
                due("findings(" + f + ")", x.findings(f), 0);
            }
            x.mean(0);
            x.row(0, 0);
            x.mean(0);
            x.mean(0);
            x.at(0, 0);
            x.mean(6);
            int[] often = {1, 1, 0, 2, 0};
            for (int f = 1; f <= 5; f++) {
                due("findings(" + f + ")", x.findings(f), often[f - 1]);
            }
        });
    }

    private static long mixed(long... values) {
        long h = 17;
        for (long v : values) {
            h = 31 * h + v;
        }
        return h;
    }

    private static void digests() {
        sentence("44: of each kept DOME how many DEEDS (-1: missing); of each ROW its size (-1: missing)", () -> {
            DomeSlit x = new DomeSlit();
            long[] none = new long[24];
            Arrays.fill(none, 11, 24, -1);
            due("a new object", x.digest(), mixed(none));
            x.row(5, 0);
            none[7] = 1;
            none[19] = 0;
            due("an empty row", x.digest(), mixed(none));
            x.text(3, 0);
            none[8] = 1;
            none[23] = 0;
            due("an empty text", x.digest(), mixed(none));
        });
        sentence("44: what it tells, not the 1 that it answers; asked() stays", () -> {
            DomeSlit x = domeAfterTurns("o312 s2359", -1);
            x.keep(2);
            layAll(x, 0, -7);
            x.at(0, 0);
            x.text(0, 0);
            due("digest()", x.digest(), mixed(1, 0, 1, 23, 3, 0, 0, 1, 1, 1, 1, 0, 23, 3, 9, 9, 9,
                    -1, -1, 1, 1, -7, -1, -1, -1, -1, -1, 0, -1, -1, -1));
            due("asked() stays", x.asked(), -7);
        });
    }
}
