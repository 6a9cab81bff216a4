import java.util.Arrays;

/** Each promise by itself: ordinary inputs, the edges that the document names, wrong inputs. */
public final class PromisesTest extends Bench {
    /** A call that must be refused: nothing may be changed by it but the FINDING. */
    private static void refused(DomeSlit x, String call, long before, long got, long want) {
        due(call, got, want);
        due(call + " changed something", x.digest(), before);
    }

    private static void found(DomeSlit x, String call, long before, long got, int finding) {
        refused(x, call, before, got, FINDING);
        due(call + ": finding()", x.finding(), finding);
    }

    public static void main(String[] args) {
        Runnable[] tests = {
            PromisesTest::aNewObject, PromisesTest::row, PromisesTest::lay, PromisesTest::at, PromisesTest::tear,
            PromisesTest::copy, PromisesTest::mean, PromisesTest::text, PromisesTest::put, PromisesTest::fault,
            PromisesTest::dome, PromisesTest::light, PromisesTest::mark, PromisesTest::moment, PromisesTest::turn,
            PromisesTest::undo, PromisesTest::keep, PromisesTest::on, PromisesTest::place, PromisesTest::gets,
            PromisesTest::seen, PromisesTest::stays, PromisesTest::ahead, PromisesTest::effort, PromisesTest::follow,
            PromisesTest::turns, PromisesTest::most, PromisesTest::by, PromisesTest::order, PromisesTest::kinds,
            PromisesTest::places, PromisesTest::speeds, PromisesTest::fainter, PromisesTest::cloud, PromisesTest::mid,
            PromisesTest::odds, PromisesTest::lots, PromisesTest::asked, PromisesTest::upper, PromisesTest::lower,
            PromisesTest::count, PromisesTest::finding, PromisesTest::findings, PromisesTest::digest
        };
        for (int k = 0; k < tests.length; k++) {
            sentence("promise " + (k + 1), tests[k]);
        }
        due("promises tested", tests.length, 44);
        check.end();
    }

    private static void aNewObject() {
        DomeSlit x = new DomeSlit();
        for (int what = 0; what <= 10; what++) {
            due("count(" + what + ")", x.count(what), 0);
        }
        due("light(0, 0)", x.light(0, 0), BAD);
        due("at(0, 0)", x.at(0, 0), FINDING);
        due("fault(0)", x.fault(0), FINDING);
        due("finding()", x.finding(), NOTHING);
        due("on(0)", x.on(0), FINDING);
        // A wheel sticks at 0, where the slit is: going away from there is no coming to it.
        due("effort(6)", x.effort(6), 6);
        due("effort(-6)", x.effort(-6), 6);
        due("seen(0)", x.seen(0), 0);
        due("undo(0)", x.undo(0), 0);
        due("undo(1)", x.undo(1), BAD);
    }

    private static void row() {
        DomeSlit x = new DomeSlit();
        due("row(0, 3)", x.row(0, 3), 3);
        x.lay(0, 1, 7);
        due("row(0, 40)", x.row(0, 40), 40);
        due("row(0, ..) anew", askedBehind(x, x.at(0, 1)), 0);
        due("the last place", askedBehind(x, x.at(0, 39)), 0);
        due("row(5, 0)", x.row(5, 0), 0);
        due("count(7)", x.count(7), 2);
        x.lay(0, 2, 9);
        long before = x.digest();
        refused(x, "row(0, 41)", before, x.row(0, 41), BAD);
        refused(x, "row(-1, 3)", before, x.row(-1, 3), BAD);
        refused(x, "row(6, 3)", before, x.row(6, 3), BAD);
        refused(x, "row(6, -1)", before, x.row(6, -1), BAD);
        refused(x, "row(highest)", before, x.row(HIGHEST, HIGHEST), BAD);
        due("BAD is no finding", x.finding(), 0);
        found(x, "row(0, -1)", before, x.row(0, -1), SIZE);
        found(x, "row(0, lowest)", before, x.row(0, LOWEST), SIZE);
    }

    private static void lay() {
        DomeSlit x = new DomeSlit();
        x.row(2, 2);
        due("lay(2, 1, 5)", x.lay(2, 1, 5), 1);
        due("asked()", x.asked(), 0);
        due("lay(2, 1, -6)", x.lay(2, 1, LOWEST), 1);
        due("asked()", x.asked(), 5);
        due("what is there", askedBehind(x, x.at(2, 1)), LOWEST);
        long before = x.digest();
        refused(x, "lay(6, 0, 1)", before, x.lay(6, 0, 1), BAD);
        refused(x, "lay(-1, 0, 1)", before, x.lay(-1, 0, 1), BAD);
        found(x, "lay(3, 0, 1)", before, x.lay(3, 0, 1), NOTHING);
        found(x, "lay(3, 9, 1)", before, x.lay(3, 9, 1), NOTHING);
        found(x, "lay(2, 2, 1)", before, x.lay(2, 2, 1), BEYOND);
        found(x, "lay(2, -1, 1)", before, x.lay(2, -1, 1), BEYOND);
        due("asked() stays", x.asked(), LOWEST);
    }

    private static void at() {
        DomeSlit x = new DomeSlit();
        layAll(x, 1, 4, 5, 6);
        due("at(1, 0)", askedBehind(x, x.at(1, 0)), 4);
        due("at(1, 2)", askedBehind(x, x.at(1, 2)), 6);
        long before = x.digest();
        refused(x, "at(6, 0)", before, x.at(6, 0), BAD);
        refused(x, "at(lowest, 0)", before, x.at(LOWEST, 0), BAD);
        found(x, "at(0, 0)", before, x.at(0, 0), NOTHING);
        found(x, "at(1, 3)", before, x.at(1, 3), BEYOND);
        found(x, "at(1, lowest)", before, x.at(1, LOWEST), BEYOND);
        due("asked() stays", x.asked(), 6);
    }

    private static void tear() {
        DomeSlit x = new DomeSlit();
        x.row(4, 1);
        x.row(3, 1);
        due("tear(4)", x.tear(4), 1);
        due("count(7)", x.count(7), 1);
        long before = x.digest();
        found(x, "tear(4)", before, x.tear(4), NOTHING);
        found(x, "at(4, 0)", before, x.at(4, 0), NOTHING);
        refused(x, "tear(6)", before, x.tear(6), BAD);
        refused(x, "tear(-1)", before, x.tear(-1), BAD);
        due("an empty row is there", x.row(0, 0), 0);
        due("and can be torn", x.tear(0), 1);
    }

    private static void copy() {
        DomeSlit x = new DomeSlit();
        layAll(x, 0, 1, 2, 3, 4, 5);
        layAll(x, 1, 9, 9);
        due("copy to another", x.copy(0, 3, 1, 0, 2), 1);
        rowIs(x, 1, 4, 5);
        due("copy behind, on itself", x.copy(0, 0, 0, 1, 4), 1);
        rowIs(x, 0, 1, 1, 2, 3, 4);
        due("copy ahead, on itself", x.copy(0, 1, 0, 0, 4), 1);
        rowIs(x, 0, 1, 2, 3, 4, 4);
        due("none, at the ends", x.copy(0, 5, 1, 2, 0), 1);
        long before = x.digest();
        refused(x, "copy(6, ..)", before, x.copy(6, 0, 0, 0, -1), BAD);
        refused(x, "copy(.., -1, ..)", before, x.copy(0, 0, -1, 0, 1), BAD);
        found(x, "copy n below 0", before, x.copy(0, 9, 5, 9, -1), SIZE);
        found(x, "copy to missing", before, x.copy(0, 9, 5, 9, 1), NOTHING);
        found(x, "copy from missing", before, x.copy(5, 9, 0, 9, 1), NOTHING);
        found(x, "copy from beyond", before, x.copy(0, 4, 1, 0, 2), BEYOND);
        found(x, "copy to beyond", before, x.copy(0, 0, 1, 1, 2), BEYOND);
        found(x, "none from below", before, x.copy(0, -1, 1, 0, 0), BEYOND);
        found(x, "none from above", before, x.copy(0, 6, 1, 0, 0), BEYOND);
        found(x, "none to above", before, x.copy(0, 0, 1, 3, 0), BEYOND);
        found(x, "none to below", before, x.copy(0, 0, 1, -1, 0), BEYOND);
        found(x, "more than an int", before, x.copy(0, 1, 0, 1, HIGHEST), BEYOND);
        found(x, "places as far", before, x.copy(0, HIGHEST, 0, HIGHEST, HIGHEST), BEYOND);
    }

    private static void mean() {
        DomeSlit x = new DomeSlit();
        layAll(x, 0, 1, 2, 4);
        due("cut", askedBehind(x, x.mean(0)), 2);
        layAll(x, 0, -1, -2, -4);
        due("cut below 0", askedBehind(x, x.mean(0)), -2);
        layAll(x, 0, HIGHEST, HIGHEST, HIGHEST);
        due("the sum of great ones", askedBehind(x, x.mean(0)), HIGHEST);
        layAll(x, 0, LOWEST);
        due("one alone", askedBehind(x, x.mean(0)), LOWEST);
        x.row(2, 40);
        x.lay(2, 39, -80);
        due("forty of them", askedBehind(x, x.mean(2)), -2);
        x.tear(2);
        layAll(x, 0, LOWEST);
        x.mean(0);
        x.row(1, 0);
        long before = x.digest();
        refused(x, "mean(6)", before, x.mean(6), BAD);
        refused(x, "mean(-1)", before, x.mean(-1), BAD);
        found(x, "mean(2)", before, x.mean(2), NOTHING);
        found(x, "mean(1)", before, x.mean(1), NOUGHT);
        due("asked() stays", x.asked(), LOWEST);
    }

    private static void text() {
        DomeSlit x = new DomeSlit();
        due("text(0, 2)", x.text(0, 2), 2);
        due("blanks", x.put(0, 1, 65), 1032);
        due("text(0, 60)", x.text(0, 60), 60);
        due("blanks anew", x.put(0, 1, 65), 1032);
        due("to the end", x.put(0, 59, 65), 1032);
        due("text(3, 0)", x.text(3, 0), 0);
        due("count(8)", x.count(8), 2);
        long before = x.digest();
        refused(x, "text(0, 61)", before, x.text(0, 61), BAD);
        refused(x, "text(4, 1)", before, x.text(4, 1), BAD);
        refused(x, "text(-1, -1)", before, x.text(-1, -1), BAD);
        found(x, "text(0, -1)", before, x.text(0, -1), SIZE);
    }

    private static void put() {
        DomeSlit x = new DomeSlit();
        x.text(1, 3);
        due("put(1, 0, 200)", x.put(1, 0, 200), 1032);
        due("cut to a byte", x.put(1, 0, -129), 1000 + 200 - 256);
        due("cut from below", x.put(1, 0, 256), 1127);
        due("cut to 0", x.put(1, 0, 128), 1000);
        due("the least byte", x.put(1, 0, 1), 872);
        due("it is not told by asked()", x.asked(), 0);
        long before = x.digest();
        refused(x, "put(4, 0, 1)", before, x.put(4, 0, 1), BAD);
        refused(x, "put(-1, 0, 1)", before, x.put(-1, 0, 1), BAD);
        found(x, "put(0, 0, 1)", before, x.put(0, 0, 1), NOTHING);
        found(x, "put(1, 3, 1)", before, x.put(1, 3, 1), BEYOND);
        found(x, "put(1, -1, 1)", before, x.put(1, -1, 1), BEYOND);
    }

    private static void faultIs(String text, int want) {
        DomeSlit x = new DomeSlit();
        write(x, 2, text);
        long before = x.digest();
        due("fault of '" + text + "'", x.fault(2), want);
        due("fault changes nothing", x.digest(), before);
        due("dome of '" + text + "'", x.dome(2) > 0 ? NONE : STATE, want == NONE ? NONE : STATE);
    }

    private static void fault() {
        faultIs("o100s0001", NONE);
        faultIs("o523s2359", NONE);
        faultIs("   o302   s0039   p0921   ", NONE);
        faultIs("o302s0039l0147h2225v0336p0921", NONE);
        faultIs("o302f1212", NONE);
        faultIs("", 0);
        faultIs("     ", 5);
        faultIs("o", 1);
        faultIs("o3", 2);
        faultIs("o30", 3);
        faultIs("o302", 4);
        faultIs("o302  ", 6);
        faultIs("o302s", 5);
        faultIs("o302s0", 6);
        faultIs("o302s00", 7);
        faultIs("o302s003", 8);
        faultIs("o302 s0039 h12", 14);
        faultIs("s0039", 0);
        faultIs(" O302s0039", 1);
        faultIs("o002s0039", 1);
        faultIs("o602s0039", 1);
        faultIs("o332s0039", 2);
        faultIs("o324s0039", 3);
        faultIs("o219s0039", NONE);
        faultIs("o 302s0039", 1);
        faultIs("o3 02s0039", 2);
        faultIs("o30 2s0039", 3);
        faultIs("o302 s 0039", 6);
        faultIs("o302 s00 39", 8);
        faultIs("o302x0039", 4);
        faultIs("o302o0039", 4);
        faultIs("o3020039", 4);
        faultIs("o302s3039", 5);
        faultIs("o302s2439", 6);
        faultIs("o302s2369", 7);
        faultIs("o302s2350", 8);
        faultIs("o302s2359s", 10);
        faultIs("o302s2359 9", 10);
        faultIs("o302s0039s0039s0039s0039s0039 ", NONE);
        faultIs("o302s0039s0039s0039s0039s0039 s0039", 30);
        faultIs("o302s0039s0039s0039s0039s0039s", 29);
        faultIs("o302s0039s0039s0039s0039s0039  x", 31);
        faultIs("o302s0039\t", 9);
        faultIs("o302s003:", 8);
        faultIs("o302s003/", 8);
        faultIs("o302s00/9", 7);
        faultIs("o30:s0039", 3);
        faultIs("o3/2s0039", 2);
        faultIs("o302s1/39", 6);
        faultIs("\u00e9302s0039", 0);
        DomeSlit x = new DomeSlit();
        due("fault(4)", x.fault(4), BAD);
        due("fault(-1)", x.fault(-1), BAD);
        due("fault(0)", x.fault(0), FINDING);
        due("finding()", x.finding(), NOTHING);
    }

    private static void dome() {
        DomeSlit x = domeOf("o302 s0039 l0147");
        due("count(0)", x.count(0), 2);
        due("count(4)", x.count(4), 3);
        x.turn(3);
        x.moment();
        x.keep(1);
        x.text(1, 5);
        long before = x.digest();
        refused(x, "dome by a fault", before, x.dome(1), STATE);
        refused(x, "dome(4)", before, x.dome(4), BAD);
        refused(x, "dome(-1)", before, x.dome(-1), BAD);
        due("no finding yet", x.finding(), 0);
        found(x, "dome(2)", before, x.dome(2), NOTHING);
        write(x, 1, "o523 h1151");
        due("dome(1)", x.dome(1), 1);
        int[] counts = {1, 0, 0, 0, 5, 0, 0, 0, 2, 0, 0};
        for (int what = 0; what < counts.length; what++) {
            due("count(" + what + ")", x.count(what), counts[what]);
        }
        due("kept domes are gone", x.on(1), FINDING);
        due("light 1 is gone", x.light(1, 0), BAD);
        due("the new light", askedBehind(x, x.light(0, 1)), 11);
        due("dome(0) again", x.dome(0), 2);
        x.text(0, 0);
        due("it stays without its text", askedBehind(x, x.light(1, 3)), 7);
        DomeSlit all = domeOf("o101 s0039 s0039 s0039 s0039 s0039");
        due("five", all.count(0), 5);
        for (int k = 0; k < 3; k++) {
            all.keep(k);
        }
        write(all, 0, "o501 s0139");
        all.dome(0);
        for (int k = 0; k < 3; k++) {
            due("on(" + k + ") behind dome(0)", all.on(k), FINDING);
        }
        due("nothing is seen of the others", all.seen(0), 1);
        due("nothing comes of the others", all.moment(), 18);
        due("no order has the others", all.order(0), 0);
        rowIs(all, 0, 0);
    }

    private static void factsAre(DomeSlit x, int i, int... facts) {
        for (int what = 0; what < facts.length; what++) {
            due("light(" + i + ", " + what + ")", askedBehind(x, x.light(i, what)), facts[what]);
        }
    }

    private static void light() {
        DomeSlit x = domeOf("o300 s0053 l0104 v2245 p0152 f0249");
        factsAre(x, 0, 0, 0, 3, 3, 3, 3);
        factsAre(x, 1, 1, 1, -2, 4, 4, 8);
        factsAre(x, 2, 3, 22, 2, 5, 5, 0);
        factsAre(x, 3, 4, 1, 3, 2, 2, 4);
        factsAre(x, 4, 5, 2, 2, 9, 12, 12);
        x.moment();
        factsAre(x, 0, 0, 3, 3, 3, 3, 0);
        factsAre(x, 1, 1, 23, -2, 4, 4, 0);
        factsAre(x, 2, 3, 0, 2, 5, 2, 2);
        factsAre(x, 3, 4, 1, 3, 2, 2, 4);
        factsAre(x, 4, 5, 4, 2, 9, 4, 0);
        x.moment();
        factsAre(x, 1, 1, 23, -2, 4, 4, 0);
        factsAre(x, 2, 3, 2, 2, 5, 5, 5);
        factsAre(x, 4, 5, 6, 2, 9, 9, 0);
        // A slit of one PLACE: its first one is its last one, so nothing comes twice.
        DomeSlit narrow = domeOf("o105 h0039 s0149");
        factsAre(narrow, 0, 2, 0, 1, 9, 9, 9);
        factsAre(narrow, 1, 0, 1, 2, 9, 9, 0);
        narrow.moment();
        factsAre(narrow, 0, 2, 2, 1, 9, 9, 0);
        DomeSlit two = domeOf("o205 s0149 s0029");
        factsAre(two, 0, 0, 1, 2, 9, 9, 9);
        factsAre(two, 1, 0, 0, 0, 9, 9, 9);
        DomeSlit five = domeOf("o505 s0322 s0422 s0522");
        factsAre(five, 0, 0, 3, 0, 2, 2, 4);
        factsAre(five, 1, 0, 4, 0, 2, 2, 2);
        factsAre(five, 2, 0, 5, 0, 2, 2, 0);
        long before = x.digest();
        int stays = x.asked();
        refused(x, "light(5, 0)", before, x.light(5, 0), BAD);
        refused(x, "light(-1, 0)", before, x.light(-1, 0), BAD);
        refused(x, "light(0, 6)", before, x.light(0, 6), BAD);
        refused(x, "light(0, -1)", before, x.light(0, -1), BAD);
        due("asked() stays", x.asked(), stays);
    }

    private static void mark() {
        DomeSlit x = domeOf("o300 l0039 h0039 v0037 p1259 f0036");
        int[][] wants = {{4, -3, -3, -3, -3}, {-3, 12, -3, -3, -3}, {-3, -3, 20, -3, -3},
            {0, -3, -3, 11, -3}, {-3, -3, 21, -3, 0}};
        for (int i = 0; i < 5; i++) {
            for (int kind = 1; kind <= 5; kind++) {
                due("mark(" + i + ", " + kind + ")", x.mark(i, kind), wants[i][kind - 1]);
            }
        }
        due("finding()", x.finding(), UNLIKE);
        x.moment();
        due("low, a moment on", x.mark(0, 1), 4);
        due("high, a moment on", x.mark(1, 2), 12);
        due("varying, a moment on", x.mark(2, 3), 3 + 7 + 3 + 7);
        due("flaring, a moment on", x.mark(4, 5), 3);
        due("flaring's light, a moment on", x.mark(4, 3), 3 + 6 + 3 + 9);
        x.turn(-1);
        due("still, from the other side", x.mark(3, 4), 12);
        x.turn(-3);
        due("still, nearer by that side", x.mark(3, 4), 9);
        x.undo(0);
        int[] returns = {6, 12, 1, 12, 6, 4};
        for (int speed = 0; speed <= 5; speed++) {
            due("high of " + speed, domeOf("o300h05" + speed + "1").mark(0, 2), returns[speed]);
        }
        due("a low one of speed 0 does not move", domeOf("o300l0521").mark(0, 1), 0);
        due("still, got already", domeOf("o300p0121").mark(0, 4), 0);
        due("still, at the rim only", domeOf("o300p0021").mark(0, 4), 1);
        due("still, broad 2", domeOf("o200p0121").mark(0, 4), 0);
        due("still, broad 1", domeOf("o100p0121").mark(0, 4), 1);
        due("still, broad 1, farthest", domeOf("o100p1221").mark(0, 4), 12);
        due("still, broad 5, from behind", domeOf("o500p2021").mark(0, 4), 5);
        due("still, broad 5, from ahead", domeOf("o500p0521").mark(0, 4), 2);
        DomeSlit star = domeOf("o300s0021");
        long before = star.digest();
        for (int kind = 1; kind <= 5; kind++) {
            found(star, "mark(0, " + kind + ")", before, star.mark(0, kind), UNLIKE);
        }
        refused(star, "mark(0, 0)", before, star.mark(0, 0), BAD);
        refused(star, "mark(0, 6)", before, star.mark(0, 6), BAD);
        refused(star, "mark(0, -1)", before, star.mark(0, -1), BAD);
        refused(star, "mark(1, 1)", before, star.mark(1, 1), BAD);
        due("five found", star.findings(UNLIKE), 5);
    }

    private static void moment() {
        DomeSlit x = domeOf("o302 s0039 l0147 v0136");
        due("ahead of the moment", x.moment(), 9 + 14 + 12);
        due("count(1)", x.count(1), 1);
        due("count(2)", x.count(2), 1);
        due("and the next", x.moment(), 18 + 0 + 3);
        due("no effort", x.count(10), 0);
        passAll(x, 38);
        due("40 deeds", x.count(2), 40);
        long before = x.digest();
        refused(x, "moment()", before, x.moment(), FULL);
        DomeSlit none = new DomeSlit();
        due("no lights", none.moment(), STATE);
        due("nothing passed", none.count(1), 0);
    }

    private static void turn() {
        DomeSlit x = domeOf("o302 s0039");
        due("turn(1)", x.turn(1), 1);
        due("turn(1) to where it sticks", x.turn(1), 5);
        due("turn(6) away from there", x.turn(6), 6);
        due("turn(-6) to there", x.turn(-6), 10);
        due("turn(-3) away, round the ring", x.turn(-3), 3);
        due("the slit", x.count(3), 23);
        due("turn(4) through there", x.turn(4), 8);
        due("turn(-2) through there", x.turn(-2), 6);
        due("the slit", x.count(3), 1);
        due("deeds", x.count(2), 7);
        due("all effort", x.count(10), 39);
        due("no moment passed", x.count(1), 0);
        long before = x.digest();
        refused(x, "turn(0)", before, x.turn(0), BAD);
        refused(x, "turn(7)", before, x.turn(7), BAD);
        refused(x, "turn(-7)", before, x.turn(-7), BAD);
        refused(x, "turn(lowest)", before, x.turn(LOWEST), BAD);
        passAll(x, 32);
        due("the fortieth", x.turn(1), 5);
        before = x.digest();
        refused(x, "turn(1), 40 deeds", before, x.turn(1), FULL);
        refused(x, "turn(0), 40 deeds", before, x.turn(0), BAD);
        DomeSlit none = new DomeSlit();
        due("no lights", none.turn(1), STATE);
        due("no lights, a bad one", none.turn(0), BAD);
        DomeSlit atNought = domeOf("o300 s0039");
        due("it sticks at 0, leaving", atNought.turn(-1), 1);
        due("it sticks at 0, coming", atNought.turn(1), 5);
    }

    private static void undo() {
        DomeSlit x = domeOf("o302 s0039 f1111");
        long[] states = new long[6];
        states[0] = x.digest();
        x.turn(3);
        states[1] = x.digest();
        x.moment();
        states[2] = x.digest();
        x.turn(-5);
        states[3] = x.digest();
        x.moment();
        states[4] = x.digest();
        x.turn(6);
        states[5] = x.digest();
        due("undo(5)", x.undo(5), 0);
        due("none undone", x.digest(), states[5]);
        refused(x, "undo(6)", states[5], x.undo(6), BAD);
        refused(x, "undo(-1)", states[5], x.undo(-1), BAD);
        due("undo(3)", x.undo(3), 2);
        due("as it was", x.digest(), states[3]);
        refused(x, "undo(4)", states[3], x.undo(4), BAD);
        due("undo(2)", x.undo(2), 1);
        due("as it was", x.digest(), states[2]);
        due("undo(0)", x.undo(0), 2);
        due("as at first", x.digest(), states[0]);
        due("another turn", x.turn(2), 6);
        x.turn(1);
        x.turn(-1);
        x.moment();
        due("undo(2)", x.undo(2), 2);
        due("a turn by 1 is no moment", x.count(1), 0);
        due("the slit", x.count(3), 3);
    }

    private static void keep() {
        DomeSlit x = domeOf("o302 s0039");
        due("keep(0)", x.keep(0), 0);
        x.turn(1);
        x.moment();
        due("keep(2)", x.keep(2), 2);
        due("count(9)", x.count(9), 2);
        x.turn(1);
        due("keep(2) again", x.keep(2), 3);
        due("count(9)", x.count(9), 2);
        long before = x.digest();
        refused(x, "keep(3)", before, x.keep(3), BAD);
        refused(x, "keep(-1)", before, x.keep(-1), BAD);
        DomeSlit none = new DomeSlit();
        due("no lights", none.keep(0), STATE);
        due("no lights, a bad one", none.keep(3), BAD);
        due("none kept", none.count(9), 0);
    }

    private static void on() {
        DomeSlit x = domeOf("o302 s0039");
        x.turn(3);
        x.moment();
        x.keep(1);
        long then = x.digest();
        x.turn(-6);
        passAll(x, 5);
        due("on(1)", x.on(1), 2);
        due("as it was kept", x.digest(), then);
        due("its deeds can be undone", x.undo(1), 1);
        due("the slit", x.count(3), 3);
        due("what is kept stays", x.on(1), 2);
        x.turn(5);
        due("gone on from, twice", x.on(1), 2);
        due("as it was kept", x.digest(), then);
        x.undo(0);
        x.moment();
        x.turn(6);
        x.on(1);
        due("its own deeds are kept, too", x.undo(1), 1);
        due("the first was a turn by 3", x.count(3), 3);
        x.on(1);
        found(x, "on(0)", then, x.on(0), NOTHING);
        refused(x, "on(3)", then, x.on(3), BAD);
        refused(x, "on(-1)", then, x.on(-1), BAD);
    }

    private static void place() {
        DomeSlit x = domeOf("o302 s2359 l0058 h0006 p0351 f0415");
        int[] moments = {0, 1, 2, 3, 4, 99};
        int[][] places = {{23, 2, 5, 8, 11, 8}, {0, 3, 3, 6, 6, 6}, {0, 20, 16, 12, 8, 12}, {3, 3, 3, 3, 3, 3},
            {4, 3, 2, 1, 0, 1}};
        int[][] brights = {{9, 9, 9, 9, 9, 9}, {8, 8, 8, 8, 8, 8}, {6, 6, 6, 6, 6, 6}, {1, 1, 1, 1, 1, 1},
            {8, 2, 5, 2, 8, 2}};
        for (int i = 0; i < 5; i++) {
            for (int k = 0; k < moments.length; k++) {
                due("place(" + i + ", " + moments[k] + ")", x.place(i, moments[k]), places[i][k]);
                due("how bright", x.asked(), brights[i][k]);
            }
        }
        x.moment();
        due("a low one, from an odd moment on", x.place(1, 1), 3);
        due("and one more", x.place(1, 2), 6);
        due("flaring in 3", x.place(4, 3), 0);
        due("how bright", x.asked(), 8);
        long before = x.digest();
        refused(x, "place(5, 0)", before, x.place(5, 0), BAD);
        refused(x, "place(-1, 0)", before, x.place(-1, 0), BAD);
        refused(x, "place(0, 100)", before, x.place(0, 100), BAD);
        refused(x, "place(0, -1)", before, x.place(0, -1), BAD);
        due("asked() stays", x.asked(), 8);
        due("no lights", new DomeSlit().place(0, 0), BAD);
    }

    private static void gets() {
        DomeSlit x = domeOf("o302 s0039 v0137");
        int[] star = {9, 18, 9, 0};
        for (int n = 0; n < 4; n++) {
            due("gets(0, " + n + ")", x.gets(0, n), star[n]);
        }
        due("round the ring", x.gets(0, 25), 18);
        due("varying", x.gets(1, 0), 14);
        due("varying, half", x.gets(1, 1), 3);
        x.turn(1);
        due("the slit goes on", x.gets(0, 3), 9);
        due("and leaves", x.gets(0, 0), 0);
        due("it is not told by asked()", x.asked(), 0);
        due("gets(0, 99)", x.gets(0, 99), 9);
        due("gets(2, 0)", x.gets(2, 0), BAD);
        due("gets(-1, 0)", x.gets(-1, 0), BAD);
        due("gets(0, 100)", x.gets(0, 100), BAD);
        due("gets(0, -1)", x.gets(0, -1), BAD);
    }

    private static void seen() {
        DomeSlit x = domeOf("o302 s0039 l0147 s1229 v0121 p0251");
        due("seen(0)", x.seen(0), 1 + 2 + 8 + 16);
        due("a faint varying one is out", x.seen(1), 1 + 16);
        due("seen(12)", x.seen(12), 8 + 16);
        due("seen(99)", x.seen(99), 16);
        due("seen(100)", x.seen(100), BAD);
        due("seen(-1)", x.seen(-1), BAD);
        due("no lights", new DomeSlit().seen(99), 0);
        due("no lights, a bad one", new DomeSlit().seen(100), BAD);
    }

    private static void stays() {
        DomeSlit x = domeOf("o302 s0039 l0049 p0259 v0121 s0539");
        due("a star", x.stays(0), 3);
        due("a low one", x.stays(1), 3);
        due("a still one", x.stays(2), 100);
        due("a varying one of 1 goes out", x.stays(3), 1);
        due("not now", x.stays(4), 0);
        passAll(x, 1);
        due("a star, a moment on", x.stays(0), 2);
        due("a low one, a moment on", x.stays(1), 2);
        due("still out", x.stays(3), 0);
        due("stays(5)", x.stays(5), BAD);
        due("stays(-1)", x.stays(-1), BAD);
        due("a star back round the ring in time", domeOf("o302 s2319").stays(0), 0);
        due("from behind", domeOf("o302 s0219").stays(0), 3);
        due("one of 1, at the rim", domeOf("o302 p0021").stays(0), 100);
    }

    private static void aheadIs(String text, int moments, int place, int lasts) {
        DomeSlit x = domeOf(text);
        passAll(x, moments);
        due("ahead, " + text + ", moment " + moments, x.ahead(0), place);
        due("how many", x.asked(), lasts);
    }

    private static void ahead() {
        aheadIs("o302 s0539", 0, 5, 3);
        aheadIs("o302 s0519", 0, 3, 3);
        aheadIs("o302 s0529", 0, 3, 100);
        aheadIs("o302 s0129", 0, 0, 100);
        aheadIs("o302 s0029", 0, 0, 100);
        aheadIs("o302 s0059", 0, 0, 1);
        aheadIs("o302 l0539", 0, 5, 5);
        aheadIs("o302 l0539", 1, 6, 6);
        aheadIs("o502 h0139", 0, 1, 3);
        aheadIs("o502 h0239", 0, 2, 3);
        aheadIs("o102 s2319", 0, 23, 1);
        // The slit is over it all the same when nothing comes of it.
        aheadIs("o302 v0521", 0, 3, 100);
        DomeSlit x = domeOf("o302 s0539");
        x.turn(4);
        due("wherever the slit is now", x.ahead(0), 5);
        long before = x.digest();
        refused(x, "ahead(1)", before, x.ahead(1), BAD);
        refused(x, "ahead(-1)", before, x.ahead(-1), BAD);
        due("asked() stays", x.asked(), 3);
    }

    private static void effort() {
        DomeSlit x = domeOf("o302 s0539");
        int[] wants = {6, 5, 4, 3, 2, 1, 0, 1, 6, 7, 8, 9, 10};
        for (int by = -6; by <= 6; by++) {
            due("effort(" + by + ")", x.effort(by), wants[by + 6]);
        }
        x.turn(2);
        due("from where it sticks", x.effort(6), 6);
        due("from where it sticks", x.effort(-6), 6);
        due("none", x.effort(0), 0);
        x.turn(4);
        due("back to there", x.effort(-4), 8);
        due("not as far", x.effort(-3), 3);
        due("effort(7)", x.effort(7), BAD);
        due("effort(-7)", x.effort(-7), BAD);
        due("effort(lowest)", x.effort(LOWEST), BAD);
        due("it is no deed", x.count(2), 2);
    }

    private static void follow() {
        DomeSlit x = domeOf("o302 s0039 p0921 v0121");
        due("follow(0, 3, 0)", x.follow(0, 3, 0), 0);
        rowIs(x, 0, 0, 0, 0);
        due("follow(0, 4, 0)", x.follow(0, 4, 0), 1);
        // By 1 ahead of the fourth moment; ahead of an earlier one the slit leaves it or is later in the row.
        rowIs(x, 0, 0, 0, 0, 1);
        x.row(1, 2);
        x.lay(1, 1, 5);
        long before = x.digest();
        due("farther than a turn", x.follow(1, 1, 1), NONE);
        due("the row stays", x.digest(), before);
        due("out by itself", x.follow(2, 2, 1), NONE);
        due("the row stays", x.digest(), before);
        due("one moment of it", x.follow(2, 1, 1), 0);
        rowIs(x, 1, 0);
        DomeSlit narrow = domeOf("o112 s0259");
        due("a fast one, narrow", narrow.follow(0, 4, 5), 11);
        rowIs(narrow, 5, 2, 3, 3, 3);
        due("as far as it sticks", narrow.follow(0, 5, 5), 18);
        DomeSlit farthest = domeOf("o112 p0621 p1821 p0721");
        due("by 6", farthest.follow(0, 1, 0), 6);
        rowIs(farthest, 0, 6);
        due("by -6", farthest.follow(1, 1, 0), 6);
        rowIs(farthest, 0, -6);
        due("by 7", farthest.follow(2, 1, 0), NONE);
        DomeSlit flaring = domeOf("o312 f0121");
        due("goes out at odd moments", flaring.follow(0, 2, 0), NONE);
        DomeSlit way = domeOf("o223 p0221 s0001");
        due("a still one", way.follow(0, 3, 0), 1);
        rowIs(way, 0, 1, 0, 0);
        due("backwards, one place at a time over where it sticks", way.follow(1, 3, 0), 8);
        rowIs(way, 0, -1, -2, -1);
        long state = way.digest();
        refused(way, "follow(2, 1, 0)", state, way.follow(2, 1, 0), BAD);
        refused(way, "follow(-1, 1, 0)", state, way.follow(-1, 1, 0), BAD);
        refused(way, "follow(0, 0, 0)", state, way.follow(0, 0, 0), BAD);
        refused(way, "follow(0, 9, 0)", state, way.follow(0, 9, 0), BAD);
        refused(way, "follow(0, 1, 6)", state, way.follow(0, 1, 6), BAD);
        refused(way, "follow(0, 1, -1)", state, way.follow(0, 1, -1), BAD);
        due("nothing is done", way.count(2), 0);
    }

    private static void turns() {
        DomeSlit x = domeOf("o302 s0039 p0921 v0121 s0339");
        due("turns(0, 3)", x.turns(0, 3), 0);
        due("turns(0, 4)", x.turns(0, 4), 1);
        due("turns(0, 5)", x.turns(0, 5), 1);
        due("turns(0, 6)", x.turns(0, 6), 1);
        due("turns(0, 7)", x.turns(0, 7), 2);
        due("turns(3, 1)", x.turns(3, 1), 1);
        due("farther than a turn", x.turns(1, 8), NONE);
        due("out by itself", x.turns(2, 2), NONE);
        due("narrow, fast", domeOf("o112 s0259").turns(0, 8), 8);
        due("turns(4, 1)", x.turns(4, 1), BAD);
        due("turns(-1, 1)", x.turns(-1, 1), BAD);
        due("turns(0, 0)", x.turns(0, 0), BAD);
        due("turns(0, 9)", x.turns(0, 9), BAD);
    }

    private static void most() {
        DomeSlit x = domeOf("o302 s0039 p0921");
        due("by none", x.most(0, 3, 0), 36);
        due("by 1, back, at once", x.most(0, 1, 1), 18);
        due("by 1, on", x.most(0, 3, 1), 36 + 9);
        due("by enough", x.most(0, 3, 40), 54);
        due("back and on again", x.most(0, 2, 2), 36);
        due("too far", x.most(1, 8, 7), 0);
        due("to its rim, over where it sticks", x.most(1, 2, 11), 1);
        due("to its midst", x.most(1, 2, 12), 2);
        due("and it stays", x.most(1, 8, 12), 2 * 7);
        due("it sticks on that way", x.most(1, 2, 10), 0);
        DomeSlit farthest = domeOf("o112 p0621 p1821 p0721");
        due("by 6", farthest.most(0, 1, 6), 1);
        due("by -6", farthest.most(1, 1, 6), 1);
        due("by 7", farthest.most(2, 1, 40), 0);
        DomeSlit flaring = domeOf("o112 f0029");
        flaring.moment();
        due("flaring in 3", flaring.most(0, 3, 0), 4 + 9 + 4);
        due("flaring", flaring.most(0, 4, 0), 4 + 9 + 4 + 12);
        due("most(2, 1, 0)", x.most(2, 1, 0), BAD);
        due("most(-1, 1, 0)", x.most(-1, 1, 0), BAD);
        due("most(0, 0, 0)", x.most(0, 0, 0), BAD);
        due("most(0, 9, 0)", x.most(0, 9, 0), BAD);
        due("most(0, 1, -1)", x.most(0, 1, -1), BAD);
        due("most(0, 1, 41)", x.most(0, 1, 41), BAD);
    }

    private static void by() {
        DomeSlit x = domeOf("o302 s0039 v0137");
        layAll(x, 3, 2, -1, 0);
        due("by(0, 3)", x.by(0, 3), 0 + 9 + 18);
        due("its effort", x.asked(), 6 + 1);
        due("by(1, 3)", x.by(1, 3), 0 + 6 + 7);
        layAll(x, 3, -6);
        due("one turn", x.by(0, 3), 0);
        due("its effort", x.asked(), 6);
        layAll(x, 3, 0, 0, 0, 0, 0, 0, 0, 0);
        due("eight of none", x.by(0, 3), 36);
        due("no effort", x.asked(), 0);
        x.moment();
        due("from this moment on", x.by(0, 3), 27);
        long before = x.digest();
        refused(x, "by(2, 3)", before, x.by(2, 3), BAD);
        refused(x, "by(-1, 3)", before, x.by(-1, 3), BAD);
        refused(x, "by(0, 6)", before, x.by(0, 6), BAD);
        refused(x, "by(0, -1)", before, x.by(0, -1), BAD);
        wrongTurns(x, "by", 0);
        due("asked() stays", x.asked(), 0);
    }

    /** The same four ways to be no row of TURNS, in their order, for by(), mid(), odds(). */
    private static void wrongTurns(DomeSlit x, String call, int which) {
        int[][] rows = {null, {}, {0, 0, 0, 0, 0, 0, 0, 0, 9}, {7}, {0, -7}, {0, 0, LOWEST}};
        int[] findings = {NOTHING, SIZE, SIZE, UNLIKE, UNLIKE, UNLIKE};
        for (int k = 0; k < rows.length; k++) {
            x.tear(4);
            if (rows[k] != null) {
                int asked = x.asked();
                layAll(x, 4, rows[k]);
                x.row(5, 1);
                x.lay(5, 0, asked);
                x.at(5, 0);
            }
            long before = x.digest();
            int got = which == 0 ? x.by(0, 4) : which == 1 ? x.mid(0, 4, 5) : x.odds(0, 4, 5);
            found(x, call + " by " + Arrays.toString(rows[k]), before, got, findings[k]);
        }
    }

    private static void order() {
        DomeSlit x = domeOf("o302 s0039 s0139");
        due("both from here", x.order(0), 0);
        rowIs(x, 0, 0, 1);
        DomeSlit other = domeOf("o102 p0521 p0121 p0321");
        due("from near to far", other.order(1), 1 + 2 + 4 + 2);
        rowIs(other, 1, 1, 2, 0);
        other.turn(6);
        due("from there back", other.order(1), 1 + 2 + 2 + 4);
        rowIs(other, 1, 0, 2, 1);
        DomeSlit alike = domeOf("o318 p0121 p0121 p0121 p0121 p0121");
        due("all alike", alike.order(2), 0);
        rowIs(alike, 2, 0, 1, 2, 3, 4);
        alike.most(0, 8, 40);
        due("all alike, behind another search", alike.order(2), 0);
        alike.follow(0, 8, 1);
        due("all alike, behind yet another", alike.order(2), 0);
        rowIs(alike, 2, 0, 1, 2, 3, 4);
        DomeSlit goes = domeOf("o118 s0659 s0021");
        due("the one that goes off first", goes.order(2), 6 + 6);
        rowIs(goes, 2, 0, 1);
        DomeSlit never = domeOf("o118 p1221 p0021");
        never.row(0, 3);
        long before = never.digest();
        due("out of reach", never.order(0), NONE);
        due("the row stays", never.digest(), before);
        DomeSlit out = domeOf("o518 v0111 v0111");
        due("one goes out at the second moment", out.order(0), NONE);
        DomeSlit late = domeOf("o518 v0121 p0121");
        due("it is looked at while it is bright", late.order(0), 0);
        rowIs(late, 0, 0, 1);
        late.moment();
        due("from an odd moment on", late.order(0), 0);
        rowIs(late, 0, 1, 0);
        refused(late, "order(6)", late.digest(), late.order(6), BAD);
        refused(late, "order(-1)", late.digest(), late.order(-1), BAD);
        due("no lights", new DomeSlit().order(0), STATE);
        due("no lights, a bad one", new DomeSlit().order(6), BAD);
    }

    private static void kinds() {
        DomeSlit x = domeOf("o502 s0034 v0145");
        x.row(0, 0);
        due("by no notes", x.kinds(0, 0), 63);
        layAll(x, 0, 4, 8, 8);
        due("a star, a low one", x.kinds(0, 0), 1 + 2);
        layAll(x, 0, 4, 8);
        due("a star, a low one, a high one", x.kinds(0, 0), 1 + 2 + 4);
        layAll(x, 0, 4, 8, 8, 8, 4);
        due("a star, to its last place", x.kinds(0, 0), 1);
        layAll(x, 0, 4, 8, 4);
        due("a high one", x.kinds(0, 0), 4);
        layAll(x, 0, 4, 4);
        due("a varying one, a still one", x.kinds(0, 0), 8 + 16);
        layAll(x, 0, 7, 4);
        due("a flaring one", x.kinds(0, 0), 32);
        layAll(x, 0, 5);
        due("none", x.kinds(0, 0), 0);
        x.moment();
        layAll(x, 0, 8, 8);
        due("from an odd moment on, at its place now", x.kinds(0, 0), 1 + 2 + 4 + 16);
        wrongNotes(x, "kinds", 0);
    }

    /** The ways to be no notes, in their order, for kinds(), places(), speeds(), fainter(). */
    private static void wrongNotes(DomeSlit x, String call, int which) {
        int[] many = new int[21];
        many[20] = -1;
        int[][] rows = {null, many, {-1}, {3, 2, LOWEST}};
        int[] findings = {NOTHING, SIZE, UNLIKE, UNLIKE};
        for (int k = 0; k < rows.length; k++) {
            x.tear(4);
            if (rows[k] != null) {
                layAll(x, 4, rows[k]);
            }
            int asked = x.asked();
            long before = x.digest();
            found(x, call + " by " + Arrays.toString(rows[k]), before, notesCall(x, which, 0, 4), findings[k]);
            due("asked() stays", x.asked(), asked);
        }
        long before = x.digest();
        refused(x, call + "(5, 4)", before, notesCall(x, which, 5, 4), BAD);
        refused(x, call + "(-1, 4)", before, notesCall(x, which, -1, 4), BAD);
        refused(x, call + "(0, 6)", before, notesCall(x, which, 0, 6), BAD);
        refused(x, call + "(0, -1)", before, notesCall(x, which, 0, -1), BAD);
        x.row(4, 20);
        due(call + " by 20 notes", notesCall(x, which, 0, 4) >= 0 ? 1 : 0, 1);
    }

    private static int notesCall(DomeSlit x, int which, int i, int r) {
        switch (which) {
            case 0: return x.kinds(i, r);
            case 1: return x.places(i, r);
            case 2: return x.speeds(i, r);
            default: return x.fainter(i, r);
        }
    }

    private static void places() {
        DomeSlit x = domeOf("o302 s0039 v1122");
        x.row(0, 0);
        due("by no notes", x.places(0, 0), (1 << 24) - 1);
        layAll(x, 0, 9);
        due("at a rim", x.places(0, 0), 1 + 4);
        layAll(x, 0, 9, 0);
        due("and out", x.places(0, 0), 4);
        layAll(x, 0, 0, 9);
        due("coming in", x.places(0, 0), 1 << 23);
        layAll(x, 0, 18);
        due("between", x.places(0, 0), 2);
        layAll(x, 0, 2, 1);
        due("a varying one that stays", x.places(1, 0), 1 + 4);
        layAll(x, 0, 1, 2);
        due("not from an even moment on", x.places(1, 0), 0);
        x.moment();
        due("from an odd one on", x.places(1, 0), 1 + 4);
        x.turn(-2);
        due("where the slit is now", x.places(1, 0), (1 << 22) + 1);
        wrongNotes(x, "places", 1);
    }

    private static void speeds() {
        DomeSlit x = domeOf("o302 s0039 l0039 p0139");
        x.row(0, 0);
        due("by no notes", x.speeds(0, 0), 63);
        layAll(x, 0, 9, 9);
        due("0, 2", x.speeds(0, 0), 4 + 16);
        layAll(x, 0, 9, 0);
        due("-2, -1, 3", x.speeds(0, 0), 1 + 2 + 32);
        layAll(x, 0, 9, 18);
        due("1", x.speeds(0, 0), 8);
        layAll(x, 0, 9, 18, 18);
        due("a low one of 1", x.speeds(1, 0), 8);
        due("a star of none such", x.speeds(0, 0), 0);
        layAll(x, 0, 18, 18);
        due("a still one of any", x.speeds(2, 0), 63);
        x.moment();
        layAll(x, 0, 18, 9);
        due("from its place now on", x.speeds(0, 0), 2 + 8);
        wrongNotes(x, "speeds", 2);
    }

    private static void fainterIs(DomeSlit x, int i, int want, int place) {
        due("fainter(" + i + ", 0)", x.fainter(i, 0), want);
        due("the place", x.asked(), place);
    }

    private static void fainter() {
        DomeSlit x = domeOf("o302 s0039 v0137 v0127 s0129");
        x.row(0, 0);
        fainterIs(x, 0, 0, NONE);
        layAll(x, 0, 3, 3, 4);
        fainterIs(x, 0, 0, NONE);
        layAll(x, 0, 9, 18, 9, 0);
        fainterIs(x, 0, 2, 2);
        layAll(x, 0, 14, 3);
        fainterIs(x, 1, 3, 1);
        fainterIs(x, 2, 1, 1);
        fainterIs(x, 3, 0, 1);
        layAll(x, 0, 5, 6, 7, 6, 9, 1);
        fainterIs(x, 0, 2, 3);
        fainterIs(x, 1, 1, 3);
        x.moment();
        layAll(x, 0, 5, 4);
        fainterIs(x, 2, 0, 1);
        fainterIs(x, 0, 2, 1);
        wrongNotes(x, "fainter", 3);
    }

    private static void cloud() {
        DomeSlit x = domeOf("o302 s0039 p0921 v0136");
        due("no moment", x.cloud(0, 0), 0);
        due("one, without a cloud", x.cloud(0, 1), 18);
        due("two, one clouded", x.cloud(0, 2), 18);
        due("three, one clouded", x.cloud(0, 3), 36);
        due("four, two clouded", x.cloud(0, 4), 36);
        due("too far", x.cloud(1, 3), 0);
        due("coming near at the fourth, clouded", x.cloud(1, 4), 0);
        due("varying: the bright ones are clouded", x.cloud(2, 2), 6);
        due("varying, three", x.cloud(2, 3), 6 + 12);
        due("varying, four", x.cloud(2, 4), 6 + 6);
        DomeSlit near = domeOf("o302 p0421");
        due("within two", near.cloud(0, 1), 1);
        DomeSlit farther = domeOf("o302 p0521");
        due("within three", farther.cloud(0, 1), 0);
        due("three, the first for nothing, one clouded", farther.cloud(0, 3), 2);
        due("two back", domeOf("o118 p2221").cloud(0, 1), 1);
        due("three back", domeOf("o118 p2121").cloud(0, 1), 0);
        due("two on", domeOf("o118 p0221").cloud(0, 1), 1);
        due("three on", domeOf("o118 p0321").cloud(0, 1), 0);
        due("cloud(3, 1)", x.cloud(3, 1), BAD);
        due("cloud(-1, 1)", x.cloud(-1, 1), BAD);
        due("cloud(0, 5)", x.cloud(0, 5), BAD);
        due("cloud(0, -1)", x.cloud(0, -1), BAD);
        due("nothing is done", x.count(2), 0);
    }

    private static void mid() {
        DomeSlit x = domeOf("o302 s0039 p0039");
        layAll(x, 0, -1);
        chancesAre(x, x.mid(0, 0, 0), 18, 1);
        chancesAre(x, x.mid(0, 0, 12), 9, 1);
        chancesAre(x, x.mid(0, 0, 6), 27, 2);
        // 18 * 11 + 9 = 207 by 12
        chancesAre(x, x.mid(0, 0, 1), 69, 4);
        layAll(x, 0, 0, 0);
        chancesAre(x, x.mid(0, 0, 7), 27, 1);
        layAll(x, 0, 1, -1);
        // Of the still one: 0, 9 if both are done; 0, 0 the first alone; 9, 18 the second alone; 9, 9 none.
        // 81 * 9 + 27 * 0 + 27 * 27 + 9 * 18 = 1620 by 144
        chancesAre(x, x.mid(1, 0, 3), 45, 4);
        layAll(x, 0, 6);
        chancesAre(x, x.mid(0, 0, 0), 0, 1);
        layAll(x, 0, 1, 1, 1, 1, 1, 1, 1, 1);
        due("eight turns", x.mid(0, 0, 5), 1);
        due("in lowest terms", gcd(x.upper(), x.lower()), 1);
        long before = x.digest();
        refused(x, "mid(2, 0, 1)", before, x.mid(2, 0, 1), BAD);
        refused(x, "mid(-1, 0, 1)", before, x.mid(-1, 0, 1), BAD);
        refused(x, "mid(0, 6, 1)", before, x.mid(0, 6, 1), BAD);
        refused(x, "mid(0, -1, 1)", before, x.mid(0, -1, 1), BAD);
        refused(x, "mid(0, 0, 13)", before, x.mid(0, 0, 13), BAD);
        refused(x, "mid(0, 0, -1)", before, x.mid(0, 0, -1), BAD);
        wrongTurns(x, "mid", 1);
    }

    private static long gcd(long a, long b) {
        return b == 0 ? a : gcd(b, a % b);
    }

    private static void odds() {
        DomeSlit x = domeOf("o302 s0039 p0039");
        layAll(x, 0, 1);
        chancesAre(x, x.odds(1, 0, 0), 0, 1);
        chancesAre(x, x.odds(1, 0, 12), 1, 1);
        chancesAre(x, x.odds(1, 0, 4), 1, 3);
        chancesAre(x, x.odds(1, 0, 5), 5, 12);
        layAll(x, 0, 0, 0);
        chancesAre(x, x.odds(1, 0, 4), 1, 1);
        layAll(x, 0, 1, -1);
        // The first is to be slept over; the second is all the same.
        chancesAre(x, x.odds(1, 0, 5), 5, 12);
        layAll(x, 0, 0, 0, 0, 1, 0, 0);
        chancesAre(x, x.odds(0, 0, 5), 0, 1);
        layAll(x, 0, 0, 1, 1, 1, 1, 1);
        // At 5 with the slit broad 3, and never left behind it nor ahead of it.
        chancesAre(x, x.odds(0, 0, 0), 1, 1);
        long before = x.digest();
        refused(x, "odds(2, 0, 1)", before, x.odds(2, 0, 1), BAD);
        refused(x, "odds(0, 6, 1)", before, x.odds(0, 6, 1), BAD);
        refused(x, "odds(0, 0, 13)", before, x.odds(0, 0, 13), BAD);
        refused(x, "odds(0, 0, -1)", before, x.odds(0, 0, -1), BAD);
        wrongTurns(x, "odds", 2);
    }

    private static void lots() {
        DomeSlit x = domeOf("o302 s0039");
        // 48271 / 16 = 3016, modulo 5 = 1, less 2 = -1: the slit at 23 has the star between.
        due("lots(1, 1)", x.lots(1, 1), 18);
        due("the slit", x.count(3), 23);
        due("two deeds", x.count(2), 2);
        due("the effort", x.count(10), 1);
        due("the moment", x.count(1), 1);
        x.undo(0);
        // 48271 * 48271 modulo 2147483647 = 182605794; by 16 11412862; modulo 5 = 2: none.
        due("lots(2, 1)", x.lots(2, 1), 18 + 9);
        due("a turn of 0 is no deed", x.count(2), 3);
        x.undo(0);
        due("the greatest seed", x.lots(20, 2147483646) >= 0 ? 1 : 0, 1);
        due("twenty moments", x.count(1), 20);
        x.undo(0);
        passAll(x, 21);
        long before = x.digest();
        refused(x, "lots(10, 3)", before, x.lots(10, 3), FULL);
        due("just enough", x.lots(9, 3) >= 0 ? 1 : 0, 1);
        before = x.digest();
        refused(x, "lots(0, 1)", before, x.lots(0, 1), BAD);
        refused(x, "lots(21, 1)", before, x.lots(21, 1), BAD);
        refused(x, "lots(1, 0)", before, x.lots(1, 0), BAD);
        refused(x, "lots(1, -1)", before, x.lots(1, -1), BAD);
        refused(x, "lots(1, highest)", before, x.lots(1, HIGHEST), BAD);
        due("no lights", new DomeSlit().lots(1, 1), STATE);
        due("no lights, a bad one", new DomeSlit().lots(0, 1), BAD);
        DomeSlit full = domeOf("o302 s0039");
        passAll(full, 20);
        due("twice ten", full.lots(10, 1) >= 0 ? 1 : 0, 1);
    }

    private static void asked() {
        DomeSlit x = domeOf("o302 s0039");
        due("before", x.asked(), 0);
        layAll(x, 0, 2, 5);
        x.at(0, 1);
        due("at", x.asked(), 5);
        x.lay(0, 0, 8);
        due("lay", x.asked(), 2);
        x.mean(0);
        due("mean", x.asked(), 6);
        x.light(0, 3);
        due("light", x.asked(), 9);
        x.ahead(0);
        due("ahead", x.asked(), 3);
        x.place(0, 1);
        due("place", x.asked(), 9);
        layAll(x, 0, 2, 1);
        x.by(0, 0);
        due("by", x.asked(), 7);
        x.fainter(0, 0);
        due("fainter", x.asked(), 1);
        x.digest();
        x.count(3);
        x.follow(0, 4, 1);
        x.order(2);
        x.mid(0, 0, 3);
        x.stays(0);
        x.gets(0, 1);
        x.kinds(0, 0);
        x.moment();
        x.turn(2);
        x.put(0, 0, 5);
        due("what others answer stays away", x.asked(), 1);
        x.at(0, 9);
        x.light(4, 0);
        due("what is refused, too", x.asked(), 1);
    }

    private static void upper() {
        DomeSlit x = domeOf("o302 s0039");
        due("before", x.upper(), 0);
        layAll(x, 0, -1);
        x.mid(0, 0, 6);
        due("27 by 2", x.upper(), 27);
        x.mid(0, 0, 13);
        x.mid(0, 5, 1);
        due("stays", x.upper(), 27);
        x.odds(0, 0, 6);
        due("1 by 1", x.upper(), 1);
    }

    private static void lower() {
        DomeSlit x = domeOf("o302 s0039");
        due("before", x.lower(), 1);
        layAll(x, 0, -1);
        x.mid(0, 0, 6);
        due("27 by 2", x.lower(), 2);
        x.odds(1, 0, 1);
        due("stays", x.lower(), 2);
        layAll(x, 0, 6);
        x.odds(0, 0, 0);
        due("0 by 1", x.lower(), 1);
    }

    private static void count() {
        DomeSlit x = domeOf("o405 s0039 l0147 p0921 v0336 f0336");
        x.turn(6);
        x.moment();
        x.turn(-2);
        x.moment();
        x.keep(2);
        x.keep(0);
        x.row(1, 0);
        x.row(4, 3);
        x.row(5, 3);
        x.text(3, 0);
        int[] counts = {5, 2, 4, 4, 4, 2, 2, 3, 2, 2, 10 + 6};
        for (int what = 0; what < counts.length; what++) {
            due("count(" + what + ")", x.count(what), counts[what]);
        }
        due("count(11)", x.count(11), BAD);
        due("count(-1)", x.count(-1), BAD);
        due("count(highest)", x.count(HIGHEST), BAD);
    }

    private static void finding() {
        DomeSlit x = new DomeSlit();
        due("before", x.finding(), 0);
        x.at(0, 0);
        due("NOTHING", x.finding(), NOTHING);
        x.row(0, 0);
        x.at(0, 0);
        due("BEYOND", x.finding(), BEYOND);
        x.mean(0);
        due("NOUGHT", x.finding(), NOUGHT);
        x.row(0, -1);
        due("SIZE", x.finding(), SIZE);
        x.row(9, 0);
        x.moment();
        due("other refusals are no finding", x.finding(), SIZE);
        write(x, 0, "o302s0039");
        x.dome(0);
        x.mark(0, 1);
        due("UNLIKE", x.finding(), UNLIKE);
        x.row(0, 3);
        due("it stays", x.finding(), UNLIKE);
    }

    private static void findings() {
        DomeSlit x = new DomeSlit();
        for (int k = 0; k < 3; k++) {
            x.tear(0);
        }
        x.row(0, -5);
        x.row(0, 0);
        x.mean(0);
        x.mean(0);
        x.mean(9);
        int[] wants = {3, 0, 0, 2, 1};
        for (int f = 1; f <= 5; f++) {
            due("findings(" + f + ")", x.findings(f), wants[f - 1]);
        }
        due("findings(0)", x.findings(0), BAD);
        due("findings(6)", x.findings(6), BAD);
        due("findings(lowest)", x.findings(LOWEST), BAD);
    }

    private static long mixed(long... values) {
        long h = 17;
        for (long v : values) {
            h = 31 * h + v;
        }
        return h;
    }

    private static void digest() {
        DomeSlit x = new DomeSlit();
        due("a new object", x.digest(),
                mixed(0, 0, 0, 0, 0, 0, 0, 0, 0, 0, 0, -1, -1, -1, -1, -1, -1, -1, -1, -1, -1, -1, -1, -1));
        write(x, 1, "o302p0039");
        x.dome(1);
        x.turn(2);
        x.moment();
        x.keep(1);
        x.moment();
        layAll(x, 5, 7, -8);
        x.row(0, 0);
        x.text(3, 1);
        x.put(3, 0, -1);
        x.at(5, 0);
        due("all of it", x.digest(), mixed(1, 2, 3, 2, 3, 1, 0, 2, 2, 1, 6, 4, 0, 1, 9, 9, 0, -1, 2, -1,
                0, -1, -1, -1, -1, 2, 7, -8, -1, 9, 111, 51, 48, 50, 112, 48, 48, 51, 57, -1, 1, -1));
        due("asked() stays", x.asked(), 7);
    }
}
