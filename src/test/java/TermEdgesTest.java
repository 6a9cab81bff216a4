/** Each sentence of the document ahead of its promises that names an edge, by a test of its own. */
public final class TermEdgesTest extends Bench {
    public static void main(String[] args) {
        lastCall();
        refusals();
        findings();
        answers();
        rowsAndTexts();
        places();
        itemsOfDomes();
        faults();
        moves();
        brightness();
        slit();
        turns();
        deeds();
        following();
        sleepAndLots();
        check.end();
    }

    private static void lastCall() {
        sentence("An object is used for at most 512 calls after it has been made", () -> {
            DomeSlit x = new DomeSlit();
            x.row(0, 1);
            for (int call = 2; call <= 511; call++) {
                due("call " + call, x.lay(0, 0, call), 1);
            }
            due("call 512", x.asked(), 510);
        });
    }

    // ---- ANSWERS

    private static void refusals() {
        sentence("Refused is, the first of these that fits, in this order: BAD, .. STATE", () -> {
            refused(DomeSlit::new, BAD, 0, "turn(0) without LIGHTS", x -> x.turn(0));
            refused(DomeSlit::new, BAD, 0, "keep(3) without LIGHTS", x -> x.keep(3));
            refused(DomeSlit::new, BAD, 0, "order(6) without LIGHTS", x -> x.order(6));
            refused(DomeSlit::new, BAD, 0, "lots(0, 1) without LIGHTS", x -> x.lots(0, 1));
            refused(DomeSlit::new, BAD, 0, "lots(1, 0) without LIGHTS", x -> x.lots(1, 0));
        });
        sentence("Refused is, the first of these that fits, in this order: BAD, FULL", () -> {
            refused(Bench::full, BAD, 0, "turn(0) with 40 DEEDS", x -> x.turn(0));
            refused(Bench::full, BAD, 0, "turn(7) with 40 DEEDS", x -> x.turn(7));
            refused(Bench::full, BAD, 0, "lots(21, 1) with 40 DEEDS", x -> x.lots(21, 1));
            refused(Bench::full, BAD, 0, "lots(1, 0) with 40 DEEDS", x -> x.lots(1, 0));
        });
        sentence("Refused is, the first of these that fits, in this order: BAD, .. FINDING: rows, texts", () -> {
            bad("row(6, -1)", x -> x.row(6, -1));
            bad("lay(6, 99, 1)", x -> x.lay(6, 99, 1));
            bad("at(6, 99)", x -> x.at(6, 99));
            bad("copy(6, 0, 3, 0, -1)", x -> x.copy(6, 0, 3, 0, -1));
            bad("copy(3, 0, 6, 0, -1)", x -> x.copy(3, 0, 6, 0, -1));
            bad("text(4, -1)", x -> x.text(4, -1));
            bad("put(4, 99, 1)", x -> x.put(4, 99, 1));
        });
        sentence("Refused is, the first of these that fits, in this order: BAD, .. FINDING: lights", () -> {
            bad("mark(0, 0), a star", x -> x.mark(0, 0));
            bad("mark(0, 6), a star", x -> x.mark(0, 6));
            bad("mark(5, 4)", x -> x.mark(5, 4));
            bad("by(5, 3), no row", x -> x.by(5, 3));
            bad("kinds(5, 3), no row", x -> x.kinds(5, 3));
            bad("places(5, 3), no row", x -> x.places(5, 3));
            bad("speeds(5, 3), no row", x -> x.speeds(5, 3));
            bad("fainter(5, 3), no row", x -> x.fainter(5, 3));
            bad("mid(5, 3, 1), no row", x -> x.mid(5, 3, 1));
            bad("mid(0, 3, 13), no row", x -> x.mid(0, 3, 13));
            bad("odds(5, 3, 1), no row", x -> x.odds(5, 3, 1));
            bad("odds(0, 3, 13), no row", x -> x.odds(0, 3, 13));
        });
        sentence("What is refused changes nothing but finding(), findings()", () -> {
            // Each refused() of these tests looks at this; here those that might have begun to change something.
            bad("row(0, 41)", x -> x.row(0, 41));
            found(SIZE, "row(0, -1)", x -> x.row(0, -1));
            bad("text(0, 61)", x -> x.text(0, 61));
            found(SIZE, "text(0, -1)", x -> x.text(0, -1));
            found(BEYOND, "copy(0, 0, 1, 0, 3)", x -> x.copy(0, 0, 1, 0, 3));
            refused(Bench::furnished, STATE, 0, "dome(1)", x -> x.dome(1));
            refused(Bench::furnishedHalfDome, STATE, 0, "dome(2), broken behind a light", x -> x.dome(2));
            refused(Bench::full, FULL, 0, "moment()", DomeSlit::moment);
            refused(Bench::full, FULL, 0, "turn(1)", x -> x.turn(1));
            refused(Bench::full, FULL, 0, "lots(1, 1)", x -> x.lots(1, 1));
            found(NOTHING, "on(2)", x -> x.on(2));
            bad("undo(5)", x -> x.undo(5));
            bad("place(0, 100)", x -> x.place(0, 100));
            bad("light(0, 6)", x -> x.light(0, 6));
            bad("follow(0, 9, 0)", x -> x.follow(0, 9, 0));
        });
    }

    private static void findings() {
        sentence("FINDINGS: 1 NOTHING (a ROW, a TEXT, a kept DOME that is missing): a ROW", () -> {
            found(NOTHING, "lay(3, 0, 1)", x -> x.lay(3, 0, 1));
            found(NOTHING, "at(3, 0)", x -> x.at(3, 0));
            found(NOTHING, "tear(3)", x -> x.tear(3));
            found(NOTHING, "copy(3, 0, 0, 0, 0)", x -> x.copy(3, 0, 0, 0, 0));
            found(NOTHING, "copy(0, 0, 3, 0, 0)", x -> x.copy(0, 0, 3, 0, 0));
            found(NOTHING, "mean(3)", x -> x.mean(3));
            found(NOTHING, "by(0, 3)", x -> x.by(0, 3));
            found(NOTHING, "kinds(0, 3)", x -> x.kinds(0, 3));
            found(NOTHING, "places(0, 3)", x -> x.places(0, 3));
            found(NOTHING, "speeds(0, 3)", x -> x.speeds(0, 3));
            found(NOTHING, "fainter(0, 3)", x -> x.fainter(0, 3));
            found(NOTHING, "mid(0, 3, 5)", x -> x.mid(0, 3, 5));
            found(NOTHING, "odds(0, 3, 5)", x -> x.odds(0, 3, 5));
        });
        sentence("FINDINGS: 1 NOTHING (a ROW, a TEXT, a kept DOME that is missing): a TEXT", () -> {
            found(NOTHING, "put(2, 0, 1)", x -> x.put(2, 0, 1));
            found(NOTHING, "fault(2)", x -> x.fault(2));
            found(NOTHING, "dome(2)", x -> x.dome(2));
        });
        sentence("FINDINGS: 1 NOTHING (a ROW, a TEXT, a kept DOME that is missing): a kept DOME", () -> {
            found(NOTHING, "on(0)", x -> x.on(0));
            found(NOTHING, "on(2)", x -> x.on(2));
            refused(DomeSlit::new, FINDING, NOTHING, "on(1) of a new object", x -> x.on(1));
        });
        sentence("FINDINGS: 2 BEYOND (a place of a ROW, a TEXT that there is not)", () -> {
            for (int i : new int[] {-1, 3, LOWEST, HIGHEST}) {
                found(BEYOND, "lay(0, " + i + ", 1)", x -> x.lay(0, i, 1));
                found(BEYOND, "at(0, " + i + ")", x -> x.at(0, i));
                found(BEYOND, "put(1, " + i + ", 1)", x -> x.put(1, i, 1));
                found(BEYOND, "copy(0, " + i + ", 1, 0, 1)", x -> x.copy(0, i, 1, 0, 1));
                found(BEYOND, "copy(1, 0, 0, " + i + ", 1)", x -> x.copy(1, 0, 0, i, 1));
            }
            found(BEYOND, "at(2, 0), an empty row", x -> x.at(2, 0));
            found(BEYOND, "lay(2, 0, 1), an empty row", x -> x.lay(2, 0, 1));
        });
        sentence("FINDINGS: 3 UNLIKE (a LIGHT of another KIND; a number that is none): a LIGHT", () -> {
            // LIGHTS 0 to 4 are a STAR, a LOW, a HIGH, a VARYING, a FLARING one.
            int[][] others = {{1, 2, 3, 4, 5}, {2, 3, 4, 5}, {1, 3, 4, 5}, {1, 2, 4, 5}, {1, 2, 4}};
            for (int i = 0; i < others.length; i++) {
                int light = i;
                for (int kind : others[i]) {
                    found(UNLIKE, "mark(" + light + ", " + kind + ")", x -> x.mark(light, kind));
                }
            }
        });
        sentence("FINDINGS: 3 UNLIKE (a LIGHT of another KIND; a number that is none): a number", () -> {
            refused(() -> furnishedWith(0, 0, 7), FINDING, UNLIKE, "by a turn by 7", x -> x.by(0, 0));
            refused(() -> furnishedWith(1, 0, -1), FINDING, UNLIKE, "kinds by a note below 0", x -> x.kinds(0, 1));
        });
        sentence("FINDINGS: 4 NOUGHT (shared among none)", () -> found(NOUGHT, "mean(2)", x -> x.mean(2)));
        sentence("FINDINGS: 5 SIZE (fewer than none; too many, not as many as due): fewer than none", () -> {
            found(SIZE, "row(0, -1)", x -> x.row(0, -1));
            found(SIZE, "text(0, -1)", x -> x.text(0, -1));
            found(SIZE, "copy(0, 0, 1, 0, -1)", x -> x.copy(0, 0, 1, 0, -1));
        });
        sentence("FINDINGS: 5 SIZE (fewer than none; too many, not as many as due): too many", () ->
            refused(() -> furnishedWith(1, new int[21]), FINDING, SIZE, "places by 21 notes", x -> x.places(0, 1)));
        sentence("FINDINGS: 5 SIZE (fewer than none; too many, not as many as due): not as due", () -> {
            found(SIZE, "by(0, 2), no turns", x -> x.by(0, 2));
            refused(() -> furnishedWith(0, new int[9]), FINDING, SIZE, "by nine turns", x -> x.by(0, 0));
        });
    }

    private static void answers() {
        sentence("Chances, means are told by upper(), lower(), in lowest terms", () -> {
            DomeSlit x = domeOf("o302 p0129");
            layAll(x, 0, 2);
            // 18 if the turn is slept over, 0 if not; behind it the LIGHT is out of the slit.
            chancesAre(x, x.mid(0, 0, 4), 6, 1);
            chancesAre(x, x.mid(0, 0, 5), 15, 2);
            chancesAre(x, x.odds(0, 0, 4), 1, 3);
            chancesAre(x, x.odds(0, 0, 5), 5, 12);
            chancesAre(x, x.odds(0, 0, 12), 1, 1);
        });
        sentence("the lower number above 0 (0 by 1)", () -> {
            DomeSlit x = domeOf("o302 p1229");
            layAll(x, 0, 1, -1, 2);
            chancesAre(x, x.mid(0, 0, 5), 0, 1);
            chancesAre(x, x.odds(0, 0, 5), 0, 1);
        });
        sentence("Sets (of LIGHTS, of KINDS, of PLACES) are told by bits", () -> {
            DomeSlit last = domeOf("o300 s1221 s1221 s1221 s1221 p0129");
            due("the last LIGHT alone", last.seen(0), 16);
            DomeSlit first = domeOf("o300 p0129 s1221 s1221 s1221 s1221");
            due("the first LIGHT alone", first.seen(0), 1);
            DomeSlit x = domeOf("o122 f0021");
            x.turn(-1);
            layAll(x, 0, 4);
            due("the last PLACE alone", x.places(0, 0), 1 << 23);
            x.turn(1);
            due("the first PLACE alone", x.places(0, 0), 1);
            due("the last KIND alone", x.kinds(0, 0), 1 << 5);
        });
        sentence("NONE -9 (as an answer: a ROW that would come anew stays)", () -> {
            DomeSlit x = domeOf("o302 p1221 s0021");
            layAll(x, 0, 7, 8, 9, 10);
            long before = x.digest();
            due("follow(0, 2, 0)", x.follow(0, 2, 0), NONE);
            due("the row stays", x.digest(), before);
            due("order(0)", x.order(0), NONE);
            due("the row stays", x.digest(), before);
            due("follow(0, 2, 1), a missing row", x.follow(0, 2, 1), NONE);
            due("order(1), a missing row", x.order(1), NONE);
            due("it stays missing", x.count(7), 1);
            due("no finding", x.finding(), 0);
        });
    }

    // ---- 1: rows, texts

    private static void rowsAndTexts() {
        sentence("ROWS 0 .. 5", () -> {
            int[] none = {-1, 6, LOWEST, HIGHEST};
            int[] ends = {0, 5};
            badBy("row(r, 3)", (x, r) -> x.row(r, 3), none);
            badBy("lay(r, 0, 1)", (x, r) -> x.lay(r, 0, 1), none);
            badBy("at(r, 0)", (x, r) -> x.at(r, 0), none);
            badBy("tear(r)", DomeSlit::tear, none);
            badBy("copy(r, 0, 0, 0, 1)", (x, r) -> x.copy(r, 0, 0, 0, 1), none);
            badBy("copy(0, 0, r, 0, 1)", (x, r) -> x.copy(0, 0, r, 0, 1), none);
            badBy("mean(r)", DomeSlit::mean, none);
            fineBy("row(r, 3)", (x, r) -> x.row(r, 3), ends);
            fineBy("lay(r, 0, 1)", (x, r) -> x.lay(r, 0, 1), ends);
            fineBy("at(r, 0)", (x, r) -> x.at(r, 0), ends);
            fineBy("tear(r)", DomeSlit::tear, ends);
            fineBy("copy(r, 0, 0, 0, 1)", (x, r) -> x.copy(r, 0, 0, 0, 1), ends);
            fineBy("copy(0, 0, r, 0, 1)", (x, r) -> x.copy(0, 0, r, 0, 1), ends);
            fineBy("mean(r)", DomeSlit::mean, ends);
        });
        sentence("ROWS 0 .. 5: of turns and notes", () -> {
            int[] none = {-1, 6, LOWEST, HIGHEST};
            int[] ends = {0, 5};
            badBy("follow(0, 1, r)", (x, r) -> x.follow(0, 1, r), none);
            badBy("by(0, r)", (x, r) -> x.by(0, r), none);
            badBy("order(r)", DomeSlit::order, none);
            badBy("kinds(0, r)", (x, r) -> x.kinds(0, r), none);
            badBy("places(0, r)", (x, r) -> x.places(0, r), none);
            badBy("speeds(0, r)", (x, r) -> x.speeds(0, r), none);
            badBy("fainter(0, r)", (x, r) -> x.fainter(0, r), none);
            badBy("mid(0, r, 5)", (x, r) -> x.mid(0, r, 5), none);
            badBy("odds(0, r, 5)", (x, r) -> x.odds(0, r, 5), none);
            fineBy("follow(0, 1, r)", (x, r) -> x.follow(0, 1, r), ends);
            fineBy("by(0, r)", (x, r) -> x.by(0, r), ends);
            fineBy("order(r)", DomeSlit::order, ends);
            fineBy("kinds(0, r)", (x, r) -> x.kinds(0, r), ends);
            fineBy("places(0, r)", (x, r) -> x.places(0, r), ends);
            fineBy("speeds(0, r)", (x, r) -> x.speeds(0, r), ends);
            fineBy("fainter(0, r)", (x, r) -> x.fainter(0, r), ends);
            fineBy("mid(0, r, 5)", (x, r) -> x.mid(0, r, 5), ends);
            fineBy("odds(0, r, 5)", (x, r) -> x.odds(0, r, 5), ends);
        });
        sentence("ROWS .. are rows of 0 to 40 ints", () -> {
            DomeSlit x = new DomeSlit();
            due("row(5, 0)", x.row(5, 0), 0);
            due("an empty one is there", x.count(7), 1);
            due("row(0, 40)", x.row(0, 40), 40);
            due("lay(0, 39, lowest)", x.lay(0, 39, LOWEST), 1);
            due("lay(0, 38, highest)", x.lay(0, 38, HIGHEST), 1);
            due("at(0, 39)", askedBehind(x, x.at(0, 39)), LOWEST);
            due("at(0, 38)", askedBehind(x, x.at(0, 38)), HIGHEST);
            due("at(0, 40)", x.at(0, 40), FINDING);
            badBy("row(0, n)", (y, n) -> y.row(0, n), 41, HIGHEST);
        });
        sentence("TEXTS 0 .. 3", () -> {
            int[] none = {-1, 4, LOWEST, HIGHEST};
            badBy("text(t, 3)", (x, t) -> x.text(t, 3), none);
            badBy("put(t, 0, 65)", (x, t) -> x.put(t, 0, 65), none);
            badBy("fault(t)", DomeSlit::fault, none);
            badBy("dome(t)", DomeSlit::dome, none);
            fineBy("text(t, 3)", (x, t) -> x.text(t, 3), 0, 3);
            fineBy("put(t, 0, 65)", (x, t) -> x.put(t, 0, 65), 0, 3);
            fineBy("fault(t)", DomeSlit::fault, 0, 3);
            fineBy("dome(t)", DomeSlit::dome, 0, 3);
        });
        sentence("TEXTS .. rows of 0 to 60 bytes", () -> {
            DomeSlit x = new DomeSlit();
            due("text(3, 0)", x.text(3, 0), 0);
            due("an empty one is there", x.count(8), 1);
            due("text(0, 60)", x.text(0, 60), 60);
            due("put(0, 59, 127)", x.put(0, 59, 127), 1032);
            due("put(0, 59, -128)", x.put(0, 59, -128), 1127);
            due("put(0, 59, 0)", x.put(0, 59, 0), 872);
            due("put(0, 60, 0)", x.put(0, 60, 0), FINDING);
            badBy("text(0, n)", (y, n) -> y.text(0, n), 61, HIGHEST);
        });
        sentence("or missing (at first)", () -> {
            for (int r = 0; r < 6; r++) {
                int row = r;
                refused(DomeSlit::new, FINDING, NOTHING, "tear(" + row + ")", x -> x.tear(row));
            }
            for (int t = 0; t < 4; t++) {
                int text = t;
                refused(DomeSlit::new, FINDING, NOTHING, "fault(" + text + ")", x -> x.fault(text));
            }
        });
    }

    // ---- 1: places, the language

    private static void goes(String light, int from, int to) {
        DomeSlit x = domeOf("o302" + light);
        due(light + " at first", x.place(0, 0), from);
        due(light + " a moment on", x.place(0, 1), to);
        x.moment();
        due(light + " when it has passed", askedBehind(x, x.light(0, 1)), to);
    }

    private static void places() {
        sentence("PLACES are 0 to 23, in a ring (behind 23: 0): LIGHTS", () -> {
            goes("s2331", 23, 0);
            goes("s2351", 23, 2);
            goes("s2251", 22, 1);
            goes("s0011", 0, 23);
            goes("s0001", 0, 22);
            goes("s0101", 1, 23);
            goes("h2351", 23, 5);
            goes("h0001", 0, 20);
            goes("l2331", 23, 0);
            goes("v0011", 0, 23);
            goes("f2341", 23, 1);
        });
        sentence("PLACES are 0 to 23, in a ring (behind 23: 0): many rounds", () -> {
            DomeSlit x = domeOf("o302 h0551 h0501");
            due("on by 6 in 99 moments", x.place(0, 99), 23);
            due("back by 4 in 99 moments", x.place(1, 99), 17);
        });
        sentence("PLACES are 0 to 23, in a ring (behind 23: 0): the SLIT", () -> {
            DomeSlit x = domeOf("o302 p2221 p2321 p0021 p0121 p0221");
            x.turn(-1);
            due("its first place", x.count(3), 23);
            int[] gets = {0, 1, 2, 1, 0};
            for (int i = 0; i < gets.length; i++) {
                due("gets(" + i + ", 0)", x.gets(i, 0), gets[i]);
            }
            x.turn(1);
            due("back at its first place", x.count(3), 0);
            x.turn(-6);
            x.turn(6);
            due("six back, six on", x.count(3), 0);
        });
        sentence("A DOME (without LIGHTS at first)", () -> {
            DomeSlit x = new DomeSlit();
            due("count(0)", x.count(0), 0);
            due("count(4)", x.count(4), 0);
            due("light(0, 0)", x.light(0, 0), BAD);
            due("seen(0)", x.seen(0), 0);
            due("moment()", x.moment(), STATE);
        });
        sentence("LIGHTS (1 to 5; 0, 1, .. as they come)", () -> {
            lightsAre("o302 s0021", 1);
            lightsAre("o302 s0021 s0121 s0221 s0321 s0421", 5);
            faultIs("o302", 4);
            DomeSlit x = domeOf("o302 s0521 l0421 h0321 v0221 f0121");
            int[] kinds = {0, 1, 2, 3, 5};
            for (int i = 0; i < 5; i++) {
                due("place of LIGHT " + i, x.place(i, 0), 5 - i);
                due("KIND of LIGHT " + i, askedBehind(x, x.light(i, 0)), kinds[i]);
            }
        });
    }

    /** All calls that take the number of a LIGHT, by as many LIGHTS as there are. */
    private static void lightsAre(String text, int count) {
        DomeSlit x = domeOf(text);
        due("count(0)", x.count(0), count);
        layAll(x, 0, 0);
        for (int i : new int[] {-1, 0, count - 1, count, LOWEST, HIGHEST}) {
            boolean there = i >= 0 && i < count;
            int[] answers = {x.light(i, 0), x.place(i, 0), x.gets(i, 0), x.stays(i), x.ahead(i),
                x.follow(i, 1, 1), x.turns(i, 1), x.most(i, 1, 0), x.by(i, 0), x.kinds(i, 0), x.places(i, 0),
                x.speeds(i, 0), x.fainter(i, 0), x.cloud(i, 1), x.mid(i, 0, 5), x.odds(i, 0, 5)};
            for (int k = 0; k < answers.length; k++) {
                due(text + ": call " + k + " of LIGHT " + i + " is BAD", answers[k] == BAD ? 1 : 0, there ? 0 : 1);
            }
            due(text + ": mark(" + i + ", 1)", x.mark(i, 2), there ? FINDING : BAD);
        }
    }

    private static void faultIs(String text, int want) {
        DomeSlit x = new DomeSlit();
        write(x, 2, text);
        due("fault of '" + text + "'", x.fault(2), want);
        int answer = x.dome(2);
        due("dome of '" + text + "' comes", answer > 0 ? 1 : 0, want == NONE ? 1 : 0);
        due("dome of '" + text + "' is refused", answer == STATE ? 1 : 0, want == NONE ? 0 : 1);
    }

    private static void itemsOfDomes() {
        sentence("blanks (32) ahead, between, behind as many as wanted", () -> {
            faultIs("o302s0039p0921", NONE);
            faultIs(" o302s0039p0921", NONE);
            faultIs("o302 s0039p0921", NONE);
            faultIs("o302s0039 p0921", NONE);
            faultIs("o302s0039p0921 ", NONE);
            faultIs(" ".repeat(46) + "o302s0039p0921", NONE);
            faultIs("o302" + " ".repeat(46) + "s0039p0921", NONE);
            faultIs("o302s0039" + " ".repeat(46) + "p0921", NONE);
            faultIs("o302s0039p0921" + " ".repeat(46), NONE);
            faultIs("o302\ts0039", 4);
            faultIs("o302" + (char) 0 + "s0039", 4);
            faultIs("o302" + (char) 160 + "s0039", 4);
        });
        sentence("none within items (an item: a letter and all its figures)", () -> {
            String whole = "o302 s0039";
            for (int k : new int[] {1, 2, 3, 6, 7, 8, 9}) {
                faultIs(whole.substring(0, k) + " " + whole.substring(k), k);
            }
        });
        sentence("First o (111)", () -> {
            faultIs("o302s0039", NONE);
            faultIs("n302s0039", 0);
            faultIs("p302s0039", 0);
            faultIs("O302s0039", 0);
            faultIs("s0039 o302", 0);
            faultIs("302s0039", 0);
            faultIs("o302 o302 s0039", 5);
        });
        sentence("how broad the SLIT is (1 .. 5, one figure)", () -> {
            faultIs("o002s0039", 1);
            faultIs("o602s0039", 1);
            faultIs("o902s0039", 1);
            faultIs("o-102s0039", 1);
            faultIs("o0302s0039", 1);
            faultIs("o1002s0039", 4);
            due("the narrowest", domeOf("o102s0039").count(4), 1);
            due("the broadest", domeOf("o502s0039").count(4), 5);
        });
        sentence("the PLACE at which a wheel STICKS (two figures, 00 .. 23)", () -> {
            due("it sticks at 00", domeAfterTurn("o300 s0039", 1).effort(-1), 5);
            due("it sticks at 23", domeOf("o323 s0039").effort(-1), 5);
            due("it sticks at 09", domeAfterTurn("o309 s0039", 6).effort(3), 7);
            due("it sticks at 10", domeAfterTurn("o310 s0039", 6).effort(4), 8);
            due("it sticks at 20", domeOf("o320 s0039").effort(-4), 8);
            faultIs("o324s0039", 3);
            faultIs("o329s0039", 3);
            faultIs("o330s0039", 2);
            faultIs("o3 2s0039", 2);
            faultIs("o32s0039", 3);
            faultIs("o3002s0039", 4);
        });
        sentence("the PLACE at MOMENT 0 (two figures, 00 .. 23)", () -> {
            due("at 00", domeOf("o302 s0039").place(0, 0), 0);
            due("at 09", domeOf("o302 s0939").place(0, 0), 9);
            due("at 10", domeOf("o302 s1039").place(0, 0), 10);
            due("at 19", domeOf("o302 s1939").place(0, 0), 19);
            due("at 20", domeOf("o302 s2039").place(0, 0), 20);
            due("at 23", domeOf("o302 s2339").place(0, 0), 23);
            faultIs("o302 s2439", 7);
            faultIs("o302 s2939", 7);
            faultIs("o302 s3039", 6);
            faultIs("o302 s9939", 6);
        });
        sentence("the SPEED and 2 together (0 .. 5, one figure: so SPEEDS are -2 .. 3)", () -> {
            for (int figure = 0; figure <= 5; figure++) {
                DomeSlit x = domeOf("o302 s00" + figure + "9");
                due("the SPEED by " + figure, askedBehind(x, x.light(0, 2)), figure - 2);
            }
            faultIs("o302 s0069", 8);
            faultIs("o302 s0099", 8);
            faultIs("o302 s00-29", 8);
        });
        sentence("how BRIGHT it is (1 .. 9, one figure)", () -> {
            for (int figure = 1; figure <= 9; figure++) {
                DomeSlit x = domeOf("o302 s003" + figure);
                due("how BRIGHT by " + figure, askedBehind(x, x.light(0, 3)), figure);
            }
            faultIs("o302 s0030", 9);
            faultIs("o302 s00310", 10);
        });
    }

    private static DomeSlit domeAfterTurn(String text, int by) {
        DomeSlit x = domeOf(text);
        x.turn(by);
        return x;
    }

    private static void faults() {
        sentence("A FAULT is the first place at which it can't go on so (a letter ..: its place)", () -> {
            faultIs("x302 s0039", 0);
            faultIs("  x302 s0039", 2);
            faultIs("o302 x0039", 5);
            faultIs("o302 S0039", 5);
            faultIs("o302 o0039", 5);
            faultIs("o302 0039", 5);
            faultIs("o302 s0039 x", 11);
            faultIs("o302 s0039 l0147 9", 17);
            faultIs("o302 s0039 l0147" + (char) 233, 16);
            // Only the first of several.
            faultIs("x902 x9960", 0);
            faultIs("o902 x9960", 1);
            faultIs("o302 x9960", 5);
        });
        sentence("A FAULT is the first place at which it can't go on so (.. a figure that is none such: its place)", () -> {
            String whole = "o302 s0039";
            for (int k : new int[] {1, 2, 3, 6, 7, 8, 9}) {
                for (char sign : new char[] {'/', ':', 'o', 's', '-', (char) 0, (char) 178, (char) 255}) {
                    faultIs(whole.substring(0, k) + sign + whole.substring(k + 1), k);
                }
            }
            faultIs("o302 s0039 h24", 13);
            faultIs("o302 s0039 h3", 12);
        });
        sentence("A FAULT is the first place at which it can't go on so (.. a sixth one: its place)", () -> {
            String five = "o302 s0039l0039h0039v0039p0039";
            faultIs(five, NONE);
            faultIs(five + "   ", NONE);
            faultIs(five + "f0039", 30);
            faultIs(five + "  f0039", 32);
            faultIs(five + "f", 30);
            faultIs(five + "  x", 32);
        });
        sentence("the TEXT's size, if its end comes too early", () -> {
            String whole = " o302 s0039";
            for (int size = 0; size < whole.length(); size++) {
                faultIs(whole.substring(0, size), size);
            }
            faultIs(whole, NONE);
            faultIs("o302   ", 7);
            for (int size = 1; size < 5; size++) {
                faultIs(whole + "l0147".substring(0, size), whole.length() + size);
            }
        });
        sentence("the TEXT's size, if .. there are blanks alone", () -> {
            for (int size : new int[] {0, 1, 7, 59, 60}) {
                DomeSlit x = new DomeSlit();
                x.text(1, size);
                due("fault of " + size + " blanks", x.fault(1), size);
                due("dome of " + size + " blanks", x.dome(1), STATE);
            }
        });
    }

    // ---- 1: kinds

    private static void placesAre(DomeSlit x, int i, int... places) {
        for (int n = 0; n < places.length; n++) {
            due("place(" + i + ", " + n + ")", x.place(i, n), places[n]);
        }
    }

    private static void brightsAre(DomeSlit x, int i, int... brights) {
        for (int n = 0; n < brights.length; n++) {
            x.place(i, n);
            due("how BRIGHT LIGHT " + i + " is in " + n + " MOMENTS", x.asked(), brights[n]);
        }
    }

    private static void moves() {
        sentence("MOMENTS are 0, 1, ..", () -> {
            DomeSlit x = domeOf("o302 s0039");
            for (int n = 0; n < 40; n++) {
                due("count(1)", x.count(1), n);
                x.moment();
            }
            due("the last one", x.count(1), 40);
        });
        sentence("From one MOMENT to the next one a LIGHT moves by its SPEED (round the ring)", () -> {
            placesAre(domeOf("o302 s0551"), 0, 5, 8, 11, 14, 17, 20, 23, 2);
            placesAre(domeOf("o302 s0501"), 0, 5, 3, 1, 23, 21);
            placesAre(domeOf("o302 s0521"), 0, 5, 5, 5);
        });
        sentence("a LOW one only from even ones on", () -> {
            placesAre(domeOf("o302 l2151"), 0, 21, 0, 0, 3, 3, 6);
            placesAre(domeAfter(1, "o302 l2151"), 0, 0, 0, 3, 3, 6);
            placesAre(domeOf("o302 l0101"), 0, 1, 23, 23, 21);
        });
        sentence("a HIGH one by twice that", () -> {
            placesAre(domeOf("o302 h2051"), 0, 20, 2, 8, 14);
            placesAre(domeOf("o302 h0301"), 0, 3, 23, 19, 15);
            placesAre(domeOf("o302 h0321"), 0, 3, 3);
        });
        sentence("a STILL one not at all", () -> {
            placesAre(domeOf("o302 p2351"), 0, 23, 23, 23, 23);
            due("in 99 MOMENTS", domeOf("o302 p0001").place(0, 99), 0);
        });
    }

    private static void brightness() {
        sentence("A VARYING one (FLARING, too) is half as BRIGHT (cut) at odd MOMENTS", () -> {
            brightsAre(domeOf("o302 v0529"), 0, 9, 4, 9, 4, 9, 4);
            brightsAre(domeOf("o302 v0528"), 0, 8, 4, 8, 4);
            brightsAre(domeOf("o302 v0521"), 0, 1, 0, 1, 0);
            brightsAre(domeAfter(1, "o302 v0523"), 0, 1, 3, 1);
            brightsAre(domeOf("o302 s0529 l0529 h0529 p0529"), 2, 9, 9, 9);
        });
        sentence("a FLARING one besides 3 more at MOMENTS that 4 divides", () -> {
            brightsAre(domeOf("o302 f0529"), 0, 12, 4, 9, 4, 12, 4, 9, 4, 12);
            brightsAre(domeOf("o302 f0521"), 0, 4, 0, 1, 0, 4, 0, 1, 0, 4);
            brightsAre(domeAfter(3, "o302 f0529"), 0, 4, 12, 4, 9, 4, 12);
        });
        sentence("FLARING besides 3 more at MOMENTS that 4 divides: from an odd MOMENT on", () -> {
            DomeSlit x = domeAfter(1, "o112 f0029");
            layAll(x, 0, 0, 0, 0, 0);
            due("by a row of no TURNS", x.by(0, 0), 4 + 9 + 4 + 12);
            due("the most of two MOMENTS", x.most(0, 2, 0), 4 + 9);
            due("the most of four MOMENTS", x.most(0, 4, 0), 4 + 9 + 4 + 12);
            due("by a cloud, three MOMENTS", x.cloud(0, 3), 4 + 4);
            chancesAre(x, x.mid(0, 0, 5), 29, 1);
            layAll(x, 0, 4, 9, 4, 12);
            due("as notes", x.kinds(0, 0), 1 << 5);
        });
        sentence("4 STILL (p, 112; a LOW), 5 FLARING (f, 102; a VARYING)", () -> {
            DomeSlit x = domeOf("o302 p0059 f0059 l0039 v0039");
            due("a STILL one as a LOW one", x.mark(0, 1), 0);
            due("a FLARING one as a VARYING one", x.mark(1, 3), 12 + 4 + 9 + 4);
            due("a LOW one is no STILL one", x.mark(2, 4), FINDING);
            due("a VARYING one is no FLARING one", x.mark(3, 5), FINDING);
            due("LOW ones", x.count(5), 2);
            due("VARYING ones", x.count(6), 2);
        });
    }

    // ---- 2

    private static void getsAre(String text, int first, int... gets) {
        DomeSlit x = domeOf(text);
        int way = first > 12 ? first - 24 : first;
        for (int k = 0; k < Math.abs(way); k++) {
            x.turn(way < 0 ? -1 : 1);
        }
        due(text + ", the first PLACE", x.count(3), first);
        for (int i = 0; i < gets.length; i++) {
            due(text + " from " + first + ", LIGHT " + i, x.gets(i, 0), gets[i]);
        }
    }

    private static void slit() {
        String fromOn = " p0021 p0121 p0221 p0321 p0421";
        sentence("The SLIT is over its first PLACE (0 at first) and those behind it, as many as it is broad", () -> {
            getsAre("o512 p0521 p2321 p0421 p0021", 0, 0, 0, 1, 1);
            getsAre("o112 p0121 p2321 p0021", 0, 0, 0, 1);
            getsAre("o512 p1821 p2321 p1921 p0021", 19, 0, 1, 1, 0);
            getsAre("o512 p2121 p0321 p2221 p0221", 22, 0, 0, 1, 1);
        });
        sentence("if its PLACE is the first or the last of these, as much as it is BRIGHT", () -> {
            getsAre("o112 p0029", 0, 9);
            getsAre("o212 p0029 p0129", 0, 9, 9);
            getsAre("o312 p0029 p0229", 0, 9, 9);
            getsAre("o512 p0029 p0429", 0, 9, 9);
            getsAre("o512 p2029 p0029", 20, 9, 9);
            getsAre("o212 p2329 p0029", 23, 9, 9);
        });
        sentence("if it is between them, twice that; else 0", () -> {
            getsAre("o112" + fromOn, 0, 1, 0, 0, 0, 0);
            getsAre("o212" + fromOn, 0, 1, 1, 0, 0, 0);
            getsAre("o312" + fromOn, 0, 1, 2, 1, 0, 0);
            getsAre("o412" + fromOn, 0, 1, 2, 2, 1, 0);
            getsAre("o512" + fromOn, 0, 1, 2, 2, 2, 1);
            getsAre("o512 p2129 p2229 p2329 p0029 p0129", 21, 9, 18, 18, 18, 9);
        });
    }

    private static void turns() {
        sentence("A TURN is by -6 to 6 PLACES", () -> {
            for (int by = -6; by <= 6; by++) {
                if (by != 0) {
                    due("the first PLACE behind turn(" + by + ")", domeAfterTurn("o312 s0039", by).count(3), (24 + by) % 24);
                }
            }
            badBy("turn(by)", DomeSlit::turn, 0, -7, 7, LOWEST, HIGHEST);
            badBy("effort(by)", DomeSlit::effort, -7, 7, LOWEST, HIGHEST);
        });
        sentence("the EFFORT is as many as these", () -> {
            for (int by = -6; by <= 6; by++) {
                due("effort(" + by + ")", domeOf("o312 s0039").effort(by), Math.abs(by));
            }
            due("turn(6)", domeOf("o312 s0039").turn(6), 6);
            due("turn(-6)", domeOf("o312 s0039").turn(-6), 6);
        });
        sentence("and 4 more for each time that the SLIT's first PLACE comes to where the wheel STICKS", () -> {
            DomeSlit x = domeOf("o306 s0039");
            due("one PLACE short of it", x.effort(5), 5);
            due("just to it", x.effort(6), 10);
            due("to it", x.turn(6), 10);
            due("staying there", x.effort(0), 0);
            due("away from it, on", x.effort(6), 6);
            due("away from it, back", x.turn(-2), 2);
            due("past it", x.turn(6), 10);
            due("back to it", x.effort(-4), 8);
            due("back, short of it", x.effort(-3), 3);
            due("back past it", x.turn(-6), 10);
            due("all EFFORT", x.count(10), 10 + 2 + 10 + 10);
        });
        sentence("comes to where the wheel STICKS: over the end of the ring", () -> {
            DomeSlit x = domeOf("o301 s0039");
            due("away, back", x.turn(-3), 3);
            due("on, short of it", x.effort(3), 3);
            due("on to it", x.effort(4), 8);
            due("on past it", x.effort(6), 10);
            DomeSlit last = domeOf("o323 s0039");
            due("back to 23", last.effort(-1), 5);
            due("back past 23", last.effort(-6), 10);
            due("on from 0", last.effort(6), 6);
            DomeSlit nought = domeAfterTurn("o300 s0039", -6);
            due("on to 0", nought.effort(6), 10);
            due("on, short of 0", nought.effort(5), 5);
        });
    }

    private static void deeds() {
        sentence("What is done: a MOMENT passes; a TURN. These are DEEDS 0, 1, .. (40 at most)", () -> {
            DomeSlit x = domeOf("o312 s0039");
            for (int k = 0; k < 20; k++) {
                due("DEEDS", x.count(2), 2 * k);
                x.moment();
                due("DEEDS", x.count(2), 2 * k + 1);
                x.turn(k % 2 == 0 ? 1 : -1);
            }
            due("DEEDS", x.count(2), 40);
            due("one more MOMENT", x.moment(), FULL);
            due("one more TURN", x.turn(1), FULL);
            due("lots of one MOMENT", x.lots(1, 1), FULL);
            due("DEEDS", x.count(2), 40);
            x.undo(39);
            due("a fortieth TURN", x.turn(1), 1);
            x.undo(39);
            due("a fortieth MOMENT", x.moment() >= 0 ? 1 : 0, 1);
        });
    }

    private static void following() {
        sentence("FOLLOWING n MOMENTS is one TURN (or 0: none) ahead of each MOMENT from this one on", () -> {
            DomeSlit x = domeOf("o112 p0121 s0221");
            due("a TURN ahead of this MOMENT", x.most(0, 1, 1), 1);
            due("none but one ahead of one MOMENT", x.follow(0, 1, 0), 1);
            rowIs(x, 0, 1);
            layAll(x, 0, 1, 0, 6);
            due("what the GLASS gets then is looked at", x.by(0, 0), 1 + 1 + 0);
            DomeSlit later = domeAfter(2, "o112 s2221");
            due("from this MOMENT on", later.follow(0, 2, 0), 2);
            rowIs(later, 0, -2, 0);
        });
        sentence("A row of such TURNS goes by the first ones, then second ones, .., less ahead of more", () -> {
            DomeSlit on = domeOf("o312 s0039");
            due("a TURN by 1 at the second, third or fourth MOMENT", on.follow(0, 4, 0), 1);
            rowIs(on, 0, 0, 0, 0, 1);
            DomeSlit back = domeOf("o312 s0101");
            due("a TURN by -1 at the first or second MOMENT", back.follow(0, 2, 0), 1);
            rowIs(back, 0, -1, 0);
        });
    }

    // ---- 3

    private static void sleepAndLots() {
        sentence("By SLEEP: each TURN (not 0) is not done (for no EFFORT), by p of 12", () -> {
            DomeSlit x = domeOf("o112 p0029 p0129");
            layAll(x, 0, 1, 0);
            chancesAre(x, x.mid(1, 0, 0), 18, 1);
            chancesAre(x, x.mid(1, 0, 12), 0, 1);
            chancesAre(x, x.mid(0, 0, 12), 18, 1);
            chancesAre(x, x.odds(1, 0, 11), 1, 12);
            layAll(x, 0, 0, 0, 0);
            chancesAre(x, x.odds(0, 0, 1), 1, 1);
            chancesAre(x, x.mid(0, 0, 11), 27, 1);
        });
        sentence("a number comes from the one ahead by 48271 times it modulo 2147483647", () -> {
            // From 1: 48271, 182605794; by 16 3016, 11412862; modulo 5 1, 2: TURNS by -1, 0.
            DomeSlit x = domeOf("o312 s0039");
            due("lots(2, 1)", x.lots(2, 1), 18 + 9);
            due("the SLIT", x.count(3), 23);
            due("DEEDS", x.count(2), 3);
            // From the greatest one: 2147435376, 1964877853; by 16 134214711, 122804865: by -1, -2.
            DomeSlit y = domeOf("o312 s0039");
            due("lots(2, greatest)", y.lots(2, HIGHEST - 1), 18 + 0);
            due("the SLIT", y.count(3), 21);
            due("DEEDS", y.count(2), 4);
        });
        sentence("the first from a seed (1 .. 2147483646)", () -> {
            badBy("lots(1, seed)", (x, seed) -> x.lots(1, seed), 0, -1, HIGHEST, LOWEST);
            fineBy("lots(1, seed)", (x, seed) -> x.lots(1, seed), 1, HIGHEST - 1);
        });
        sentence("n 0 .. 99 MOMENTS from now, nothing TURNED", () -> {
            badBy("place(0, n)", (x, n) -> x.place(0, n), -1, 100, LOWEST, HIGHEST);
            badBy("gets(0, n)", (x, n) -> x.gets(0, n), -1, 100, LOWEST, HIGHEST);
            badBy("seen(n)", DomeSlit::seen, -1, 100, LOWEST, HIGHEST);
            DomeSlit x = domeAfter(40, "o312 s0039");
            due("place(0, 0)", x.place(0, 0), 16);
            due("place(0, 99)", x.place(0, 99), 19);
            due("gets(0, 9)", x.gets(0, 9), 18);
            due("gets(0, 81)", x.gets(0, 81), 18);
            due("gets(0, 99)", x.gets(0, 99), 0);
            due("seen(0)", x.seen(0), 0);
            due("seen(82)", x.seen(82), 1);
            due("seen(99)", x.seen(99), 0);
        });
        sentence("following (n 1 .. 8 MOMENTS)", () -> {
            int[] none = {0, 9, -1, LOWEST, HIGHEST};
            badBy("follow(0, n, 0)", (x, n) -> x.follow(0, n, 0), none);
            badBy("turns(0, n)", (x, n) -> x.turns(0, n), none);
            badBy("most(0, n, 1)", (x, n) -> x.most(0, n, 1), none);
            DomeSlit x = domeOf("o112 s0039");
            due("follow(0, 1, 0)", x.follow(0, 1, 0), 0);
            rowIs(x, 0, 0);
            due("follow(0, 8, 0)", x.follow(0, 8, 0), 7);
            rowIs(x, 0, 0, 1, 1, 1, 1, 1, 1, 1);
            due("turns(0, 1)", x.turns(0, 1), 0);
            due("turns(0, 8)", x.turns(0, 8), 7);
            due("most(0, 1, 40)", x.most(0, 1, 40), 9);
            due("most(0, 8, 40)", x.most(0, 8, 40), 72);
        });
    }
}
