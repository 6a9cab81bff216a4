import java.util.Random;

/** Runs of calls by lots, each answered by DomeSlit and by PlainDome, with all that they tell behind it. */
public final class ModelTest {
    private static final int RUNS = 700;
    private static final int CALLS = 150;
    private static final int CALL_KINDS = 43;
    private static final int[] ODD = {-1, Integer.MIN_VALUE, Integer.MAX_VALUE, -100, 100, 24, 41, 61, -7, 7};

    private final Check check = new Check();
    private final Random lots;
    private DomeSlit x = new DomeSlit();
    private PlainDome y = new PlainDome();
    private String where = "";

    private ModelTest(long seed) {
        lots = new Random(seed);
    }

    public static void main(String[] args) {
        ModelTest test = new ModelTest(20261118);
        for (int run = 0; run < RUNS && !test.check.isWrong(); run++) {
            test.oneRun(run);
        }
        test.check.end();
    }

    private void oneRun(int run) {
        x = new DomeSlit();
        y = new PlainDome();
        if (lots.nextInt(20) != 0) {
            write(0, domeText());
            same("dome 0", x.dome(0), y.dome(0));
        }
        for (int c = 0; c < CALLS && !check.isWrong(); c++) {
            where = "run " + run + " call " + c + ": ";
            call(lots.nextInt(CALL_KINDS));
            compareTold();
        }
    }

    private void same(String call, long got, long want) {
        check.due(where + call, got, want);
    }

    private void compareTold() {
        same("asked", x.asked(), y.asked);
        same("upper", x.upper(), y.upper);
        same("lower", x.lower(), y.lower);
        same("finding", x.finding(), y.finding);
        same("digest", x.digest(), y.digest());
        for (int f = 1; f <= 5; f++) {
            same("findings " + f, x.findings(f), y.findings(f));
        }
    }

    /** Mostly least .. most, now and then one beside, or far off. */
    private int some(int least, int most) {
        int kind = lots.nextInt(40);
        if (kind == 0) return ODD[lots.nextInt(ODD.length)];
        if (kind == 1) return least - 1;
        if (kind == 2) return most + 1;
        return least + lots.nextInt(most - least + 1);
    }

    private String blanks(int most) {
        return " ".repeat(lots.nextInt(most + 1));
    }

    private String domeText() {
        StringBuilder made = new StringBuilder(blanks(2));
        made.append('o').append(1 + lots.nextInt(5)).append(String.format("%02d", lots.nextInt(24))).append(blanks(2));
        int count = 1 + lots.nextInt(5);
        int near = lots.nextInt(24);
        boolean crowded = lots.nextBoolean();
        for (int k = 0; k < count; k++) {
            int place = crowded ? (near + lots.nextInt(7)) % 24 : lots.nextInt(24);
            int bright = lots.nextInt(3) == 0 ? 1 : 1 + lots.nextInt(9);
            made.append("slhvpf".charAt(lots.nextInt(6))).append(String.format("%02d", place));
            made.append(lots.nextInt(6)).append(bright).append(blanks(2));
        }
        return made.toString();
    }

    private String brokenText() {
        StringBuilder made = new StringBuilder(domeText());
        if (lots.nextInt(3) == 0) made.append(domeText().strip().substring(4).strip());
        int changes = lots.nextInt(3);
        for (int c = 0; c < changes; c++) {
            int at = lots.nextInt(made.length());
            switch (lots.nextInt(4)) {
                case 0: made.setCharAt(at, (char) lots.nextInt(256)); break;
                case 1: made.setCharAt(at, " oslhvpf0123456789".charAt(lots.nextInt(18))); break;
                case 2: if (made.length() > 1) made.deleteCharAt(at); break;
                default: made.setLength(Math.max(1, at)); break;
            }
        }
        return made.substring(0, Math.min(60, made.length()));
    }

    private void write(int t, String text) {
        same("text", x.text(t, text.length()), y.text(t, text.length()));
        for (int k = 0; k < text.length(); k++) {
            same("put", x.put(t, k, text.charAt(k)), y.put(t, k, text.charAt(k)));
        }
    }

    private void writeRow(int r, int[] row) {
        same("row", x.row(r, row.length), y.row(r, row.length));
        for (int k = 0; k < row.length; k++) {
            same("lay", x.lay(r, k, row[k]), y.lay(r, k, row[k]));
        }
    }

    private int aRow() {
        return some(0, 5);
    }

    private int aLight() {
        return some(0, lots.nextInt(3) == 0 ? 4 : Math.max(0, y.count(0) - 1));
    }

    private void turnsInto(int r) {
        int[] row = new int[lots.nextInt(12) == 0 ? lots.nextInt(12) : 1 + lots.nextInt(8)];
        int far = 1 + lots.nextInt(6);
        for (int k = 0; k < row.length; k++) row[k] = lots.nextInt(90) == 0 ? 7 : lots.nextInt(2 * far + 1) - far;
        writeRow(r, row);
    }

    /** Notes that some LIGHT like this one might truly have left, now and then spoiled. */
    private void notesInto(int r, int i) {
        int[] row = new int[lots.nextInt(12) == 0 ? 18 + lots.nextInt(6) : lots.nextInt(6)];
        for (int k = 0; k < row.length; k++) row[k] = Math.max(0, y.gets(i, k));
        if (row.length > 0 && lots.nextInt(4) == 0) row[lots.nextInt(row.length)] = some(0, 18);
        writeRow(r, row);
    }

    private void call(int kind) {
        if (kind < 14) {
            callRows(kind);
        } else if (kind < 30) {
            callDeeds(kind);
        } else {
            callSearches(kind);
        }
    }

    private void callRows(int kind) {
        int r = aRow();
        int i = some(0, 8);
        int v = lots.nextInt(4) == 0 ? lots.nextInt() : some(-6, 6);
        int n = some(0, 8);
        switch (kind) {
            case 0: n = lots.nextInt(4) == 0 ? some(0, 40) : n; same("row " + r + " " + n, x.row(r, n), y.row(r, n)); break;
            case 1: case 2: same("lay " + r + " " + i + " " + v, x.lay(r, i, v), y.lay(r, i, v)); break;
            case 3: same("at " + r + " " + i, x.at(r, i), y.at(r, i)); break;
            case 4: if (lots.nextInt(3) == 0) same("tear " + r, x.tear(r), y.tear(r)); break;
            case 5: case 6: copyCall(r, i, n); break;
            case 7: same("mean " + r, x.mean(r), y.mean(r)); break;
            case 8: int t = some(0, 3); n = some(0, 60); same("text " + t + " " + n, x.text(t, n), y.text(t, n)); break;
            case 9: putCall(); break;
            case 10: int b = lots.nextInt(4); write(b, brokenText()); same("fault " + b, x.fault(b), y.fault(b)); break;
            case 11: int f = some(0, 3); same("fault " + f, x.fault(f), y.fault(f)); break;
            case 12: if (lots.nextInt(4) == 0) domeCall(); break;
            default: same("count " + i, x.count(i), y.count(i)); same("findings " + v, x.findings(v), y.findings(v)); break;
        }
    }

    private void copyCall(int r, int i, int n) {
        int to = lots.nextInt(3) == 0 ? r : aRow();
        int j = some(0, 8);
        same("copy " + r + " " + i + " " + to + " " + j + " " + n, x.copy(r, i, to, j, n), y.copy(r, i, to, j, n));
    }

    private void putCall() {
        int t = some(0, 3);
        int i = some(0, 60);
        int v = lots.nextInt();
        same("put " + t + " " + i + " " + v, x.put(t, i, v), y.put(t, i, v));
    }

    private void domeCall() {
        int t = lots.nextInt(4);
        if (lots.nextInt(3) != 0) write(t, lots.nextInt(3) == 0 ? brokenText() : domeText());
        t = lots.nextInt(5) == 0 ? some(0, 3) : t;
        same("dome " + t, x.dome(t), y.dome(t));
    }

    private void callDeeds(int kind) {
        int i = aLight();
        int n = some(0, 99);
        int by = some(-6, 6);
        int k = some(0, 2);
        switch (kind) {
            case 14: case 15: same("moment", x.moment(), y.moment()); break;
            case 16: case 17: same("turn " + by, x.turn(by), y.turn(by)); break;
            case 18: int back = some(0, Math.max(0, y.count(2))); if (lots.nextInt(2) == 0) same("undo " + back, x.undo(back), y.undo(back)); break;
            case 19: same("keep " + k, x.keep(k), y.keep(k)); break;
            case 20: same("on " + k, x.on(k), y.on(k)); break;
            case 21: int what = some(0, 5); same("light " + i + " " + what, x.light(i, what), y.light(i, what)); break;
            case 22: case 23: int of = some(1, 5); same("mark " + i + " " + of, x.mark(i, of), y.mark(i, of)); break;
            case 24: same("place " + i + " " + n, x.place(i, n), y.place(i, n)); break;
            case 25: same("gets " + i + " " + n, x.gets(i, n), y.gets(i, n)); break;
            case 26: same("seen " + n, x.seen(n), y.seen(n)); break;
            case 27: same("stays " + i, x.stays(i), y.stays(i)); break;
            case 28: same("ahead " + i, x.ahead(i), y.ahead(i)); break;
            default: same("effort " + by, x.effort(by), y.effort(by)); break;
        }
    }

    private void callSearches(int kind) {
        int i = aLight();
        int n = some(1, 8);
        int r = aRow();
        int p = some(0, 12);
        boolean rowCall = kind == 33 || kind >= 39 && kind <= 40;
        if (rowCall && r >= 0 && r <= 5 && lots.nextInt(8) != 0) turnsInto(r);
        if (kind >= 35 && kind <= 38 && r >= 0 && r <= 5 && lots.nextInt(8) != 0) notesInto(r, i);
        switch (kind) {
            case 30: same("follow " + i + " " + n + " " + r, x.follow(i, n, r), y.follow(i, n, r)); break;
            case 31: same("turns " + i + " " + n, x.turns(i, n), y.turns(i, n)); break;
            case 32: int e = some(0, 40); n = some(1, lots.nextInt(6) == 0 ? 8 : 3); same("most " + i + " " + n + " " + e, x.most(i, n, e), y.most(i, n, e)); break;
            case 33: same("by " + i + " " + r, x.by(i, r), y.by(i, r)); break;
            case 34: if (lots.nextInt(3) == 0) same("order " + r, x.order(r), y.order(r)); break;
            case 35: same("kinds " + i + " " + r, x.kinds(i, r), y.kinds(i, r)); break;
            case 36: same("places " + i + " " + r, x.places(i, r), y.places(i, r)); break;
            case 37: same("speeds " + i + " " + r, x.speeds(i, r), y.speeds(i, r)); break;
            case 38: same("fainter " + i + " " + r, x.fainter(i, r), y.fainter(i, r)); break;
            case 39: same("mid " + i + " " + r + " " + p, x.mid(i, r, p), y.mid(i, r, p)); break;
            case 40: same("odds " + i + " " + r + " " + p, x.odds(i, r, p), y.odds(i, r, p)); break;
            case 41: int m = some(0, 4); same("cloud " + i + " " + m, x.cloud(i, m), y.cloud(i, m)); break;
            default: lotsCall(); break;
        }
    }

    private void lotsCall() {
        int n = some(1, lots.nextInt(5) == 0 ? 20 : 5);
        int seed = lots.nextInt(8) == 0 ? some(1, 5) : lots.nextInt();
        same("lots " + n + " " + seed, x.lots(n, seed), y.lots(n, seed));
    }
}
