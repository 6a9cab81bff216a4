import java.util.Arrays;

/**
 * A dome whose slit is turned by hand after its stars. The words in capitals, and the promises that
 * the comments name by number, are those of ../shared/DOC.md.
 */
public final class DomeSlit {
    public static final int BAD = -1, FULL = -2, FINDING = -3, STATE = -4, SPENT = -6, NONE = -9;

    private static final int NOTHING = 1, BEYOND = 2, UNLIKE = 3, NOUGHT = 4, SIZE = 5;
    private static final int STAR = 0, LOW = 1, HIGH = 2, VARYING = 3, STILL = 4, FLARING = 5;
    private static final int KINDS = 6;
    private static final int BLANK = 32;
    private static final int RING = 24;
    private static final int SLOWEST = -2, FASTEST = 3;
    private static final int MOST_LIGHTS = 5;
    private static final int MOST_DEEDS = 40;
    private static final int MOST_TURN = 6;
    private static final int MOST_FOLLOWED = 8;
    private static final int MOST_EFFORT = 40;
    private static final int MOST_NOTES = 20;
    private static final int MOST_CLOUDED = 4;
    private static final int FARTHEST = 99;
    private static final int LONGEST = 100;
    private static final int ALWAYS = 12;
    private static final int COUNTS = 11, FACTS = 6;
    private static final int MISSING = -1;
    private static final int GUESS_KIND = 0, GUESS_PLACE = 1, GUESS_SPEED = 2;

    private final Line[] rows = new Line[6];
    private final Line[] texts = new Line[4];
    private final Reader reader = new Reader();
    private final Light[] lights = new Light[MOST_LIGHTS];
    private final Light guess = new Light();
    private final Slit slit = new Slit();
    private final Night night = new Night();
    private final Night[] kept = new Night[3];
    private final View view = new View();
    private final Follower follower = new Follower(slit, view);
    private final Sleeper sleeper = new Sleeper(view);
    private final int[] foundCounts = new int[SIZE + 1];
    private int lightCount = 0;
    private int latestFound = 0;
    private int told = 0;
    private long upperPart = 0;
    private long lowerPart = 1;

    public DomeSlit() {
        for (int r = 0; r < rows.length; r++) {
            rows[r] = new Line(40);
        }
        for (int t = 0; t < texts.length; t++) {
            texts[t] = new Line(60);
        }
        for (int i = 0; i < lights.length; i++) {
            lights[i] = new Light();
        }
        for (int k = 0; k < kept.length; k++) {
            kept[k] = new Night();
            kept[k].forget();
        }
    }

    // ---- 1 rows, texts, domes

    public int row(int r, int n) {
        return renewed(lineAt(rows, r), n, 0);
    }

    public int lay(int r, int i, int v) {
        Line row = lineAt(rows, r);
        int refused = refusePlace(row, i);
        if (row == null || refused != 0) {
            return refused;
        }
        told = row.read(i);
        row.write(i, v);
        return 1;
    }

    public int at(int r, int i) {
        Line row = lineAt(rows, r);
        int refused = refusePlace(row, i);
        if (row == null || refused != 0) {
            return refused;
        }
        told = row.read(i);
        return 1;
    }

    public int tear(int r) {
        Line row = lineAt(rows, r);
        int refused = refuseLine(row);
        if (row == null || refused != 0) {
            return refused;
        }
        row.remove();
        return 1;
    }

    public int copy(int r, int i, int to, int j, int n) {
        Line source = lineAt(rows, r);
        Line target = lineAt(rows, to);
        if (source == null || target == null) {
            return BAD;
        }
        if (n < 0) {
            return found(SIZE);
        }
        if (source.isMissing() || target.isMissing()) {
            return found(NOTHING);
        }
        if (!source.holdsRun(i, n) || !target.holdsRun(j, n)) {
            return found(BEYOND);
        }
        target.take(j, source, i, n);
        return 1;
    }

    public int mean(int r) {
        Line row = lineAt(rows, r);
        int refused = refuseLine(row);
        if (row == null || refused != 0) {
            return refused;
        }
        int size = row.size();
        if (size <= 0) {
            return found(NOUGHT);
        }
        told = (int) (row.sum() / size);
        return 1;
    }

    public int text(int t, int n) {
        return renewed(lineAt(texts, t), n, BLANK);
    }

    public int put(int t, int i, int v) {
        Line text = lineAt(texts, t);
        int refused = refusePlace(text, i);
        if (text == null || refused != 0) {
            return refused;
        }
        int was = text.read(i);
        text.write(i, (byte) v);
        return was + 1000;
    }

    public int fault(int t) {
        Line text = lineAt(texts, t);
        int refused = refuseLine(text);
        if (text == null || refused != 0) {
            return refused;
        }
        return reader.faultOf(text);
    }

    public int dome(int t) {
        Line text = lineAt(texts, t);
        int refused = refuseLine(text);
        if (text == null || refused != 0) {
            return refused;
        }
        if (reader.faultOf(text) != NONE) {
            return STATE;
        }
        lightCount = reader.build(slit, lights);
        night.begin();
        for (int k = 0; k < kept.length; k++) {
            kept[k].forget();
        }
        return lightCount;
    }

    public int light(int i, int what) {
        Light light = lightAt(i);
        if (light == null || what < 0 || what >= FACTS) {
            return BAD;
        }
        told = factOf(light, what);
        return 1;
    }

    public int mark(int i, int kind) {
        Light light = lightAt(i);
        if (light == null || kind <= STAR || kind >= KINDS) {
            return BAD;
        }
        if (!light.isOf(kind)) {
            return found(UNLIKE);
        }
        switch (kind) {
            case LOW:
                return light.movesWithin(night.now(), 8);
            case HIGH:
                return light.returnsAfter(night.now());
            case VARYING:
                return light.brightTogether(night.now(), 4);
            case STILL:
                return slit.leastWayToBest(night.first(), light.placeAt(night.now()));
            default:
                return Math.floorMod(-night.now(), 4);
        }
    }

    // ---- 2 deeds

    public int moment() {
        if (lightCount == 0) {
            return STATE;
        }
        if (!night.hasRoom(1)) {
            return FULL;
        }
        return passMoment();
    }

    public int turn(int by) {
        if (by == 0 || by < -MOST_TURN || by > MOST_TURN) {
            return BAD;
        }
        if (lightCount == 0) {
            return STATE;
        }
        if (!night.hasRoom(1)) {
            return FULL;
        }
        return night.turnBy(by, slit);
    }

    public int undo(int n) {
        int done = night.done();
        if (n < 0 || n > done) {
            return BAD;
        }
        night.rewind(n, slit);
        return done - n;
    }

    public int keep(int k) {
        if (k < 0 || k >= kept.length) {
            return BAD;
        }
        if (lightCount == 0) {
            return STATE;
        }
        kept[k].become(night);
        return night.done();
    }

    public int on(int k) {
        if (k < 0 || k >= kept.length) {
            return BAD;
        }
        if (kept[k].isForgotten()) {
            return found(NOTHING);
        }
        night.become(kept[k]);
        return night.done();
    }

    // ---- 3 where it is, what comes

    public int place(int i, int n) {
        Light light = lightAt(i);
        if (light == null || isTooFar(n)) {
            return BAD;
        }
        told = light.brightAt(night.now() + n);
        return light.placeAt(night.now() + n);
    }

    public int gets(int i, int n) {
        Light light = lightAt(i);
        if (light == null || isTooFar(n)) {
            return BAD;
        }
        return gainIn(light, n);
    }

    public int seen(int n) {
        if (isTooFar(n)) {
            return BAD;
        }
        int bits = 0;
        for (int i = 0; i < lightCount && i < lights.length; i++) {
            if (gainIn(lights[i], n) > 0) {
                bits |= 1 << i;
            }
        }
        return bits;
    }

    public int stays(int i) {
        Light light = lightAt(i);
        if (light == null) {
            return BAD;
        }
        int n = 0;
        while (n < LONGEST && gainIn(light, n) > 0) {
            n++;
        }
        return n;
    }

    public int ahead(int i) {
        Light light = lightAt(i);
        if (light == null) {
            return BAD;
        }
        int best = 0;
        int longest = -1;
        for (int first = 0; first < RING; first++) {
            int n = overFor(light, first);
            if (n > longest) {
                longest = n;
                best = first;
            }
        }
        told = longest;
        return best;
    }

    public int effort(int by) {
        if (by < -MOST_TURN || by > MOST_TURN) {
            return BAD;
        }
        return slit.effortOf(night.first(), by);
    }

    // ---- 4 following

    public int follow(int i, int n, int r) {
        Light light = lightAt(i);
        Line row = lineAt(rows, r);
        if (light == null || row == null || isNoFollowing(n)) {
            return BAD;
        }
        view.fill(light, slit, night.now(), n);
        int least = follower.least(night.first(), n, false);
        if (least != NONE) {
            follower.writeTurns(night.first(), n, row);
        }
        return least;
    }

    public int turns(int i, int n) {
        Light light = lightAt(i);
        if (light == null || isNoFollowing(n)) {
            return BAD;
        }
        view.fill(light, slit, night.now(), n);
        return follower.least(night.first(), n, true);
    }

    public int most(int i, int n, int e) {
        Light light = lightAt(i);
        if (light == null || isNoFollowing(n) || e < 0 || e > MOST_EFFORT) {
            return BAD;
        }
        view.fill(light, slit, night.now(), n);
        return follower.mostWithin(night.first(), n, e);
    }

    public int by(int i, int r) {
        Light light = lightAt(i);
        Line row = lineAt(rows, r);
        if (light == null || row == null) {
            return BAD;
        }
        int refused = refuseTurns(row);
        if (refused != 0) {
            return refused;
        }
        int first = night.first();
        int spent = 0;
        int got = 0;
        for (int k = 0; k < row.size(); k++) {
            int by = row.read(k);
            spent += slit.effortOf(first, by);
            first = round(first + by);
            got += slit.gain(first, light, night.now() + k);
        }
        told = spent;
        return got;
    }

    public int order(int r) {
        Line row = lineAt(rows, r);
        if (row == null) {
            return BAD;
        }
        if (lightCount == 0) {
            return STATE;
        }
        return follower.leastOrder(lights, lightCount, night, row);
    }

    // ---- 5 the star, or the dome

    public int kinds(int i, int r) {
        return guessed(i, r, GUESS_KIND);
    }

    public int places(int i, int r) {
        return guessed(i, r, GUESS_PLACE);
    }

    public int speeds(int i, int r) {
        return guessed(i, r, GUESS_SPEED);
    }

    public int fainter(int i, int r) {
        Light light = lightAt(i);
        Line notes = lineAt(rows, r);
        if (light == null || notes == null) {
            return BAD;
        }
        int refused = refuseNotes(notes);
        if (refused != 0) {
            return refused;
        }
        int k = notes.firstLess();
        told = k;
        if (k == NONE) {
            return 0;
        }
        int then = night.now() + k;
        boolean star = light.brightAt(then) < light.brightAt(then - 1);
        boolean dome = timesOver(light, then) < timesOver(light, then - 1);
        return (star ? 1 : 0) + (dome ? 2 : 0);
    }

    // ---- 6 a cloud

    public int cloud(int i, int n) {
        Light light = lightAt(i);
        if (light == null || n < 0 || n > MOST_CLOUDED) {
            return BAD;
        }
        view.fill(light, slit, night.now(), n);
        return follower.mostByCloud(night.first(), n);
    }

    // ---- 7 sleep, lots

    public int mid(int i, int r, int p) {
        return bySleep(i, r, p, false);
    }

    public int odds(int i, int r, int p) {
        return bySleep(i, r, p, true);
    }

    public int lots(int n, int seed) {
        if (n < 1 || n > 20 || seed < 1 || seed > 2147483646) {
            return BAD;
        }
        if (lightCount == 0) {
            return STATE;
        }
        if (!night.hasRoom(2 * n)) {
            return FULL;
        }
        long number = seed;
        int got = 0;
        for (int k = 0; k < n; k++) {
            number = number * 48271 % 2147483647;
            int by = (int) (number / 16 % 5) - 2;
            if (by != 0) {
                night.turnBy(by, slit);
            }
            got += passMoment();
        }
        return got;
    }

    // ---- 8 what is told

    public int asked() {
        return told;
    }

    public long upper() {
        return upperPart;
    }

    public long lower() {
        return lowerPart;
    }

    public int count(int what) {
        if (what < 0 || what >= COUNTS) {
            return BAD;
        }
        return counted(what);
    }

    public int finding() {
        return latestFound;
    }

    public int findings(int f) {
        if (f < NOTHING || f > SIZE) {
            return BAD;
        }
        return foundCounts[f];
    }

    public long digest() {
        long h = 17;
        for (int what = 0; what < COUNTS; what++) {
            h = 31 * h + counted(what);
        }
        for (int i = 0; i < lightCount && i < lights.length; i++) {
            for (int what = 0; what < FACTS; what++) {
                h = 31 * h + factOf(lights[i], what);
            }
        }
        for (int k = 0; k < kept.length; k++) {
            h = 31 * h + kept[k].done();
        }
        for (int r = 0; r < rows.length; r++) {
            h = rows[r].mixedInto(h);
        }
        for (int t = 0; t < texts.length; t++) {
            h = texts[t].mixedInto(h);
        }
        return h;
    }

    // ---- what the calls share

    private static int round(int place) {
        return Math.floorMod(place, RING);
    }

    private static boolean isTooFar(int n) {
        return n < 0 || n > FARTHEST;
    }

    private static boolean isNoFollowing(int n) {
        return n < 1 || n > MOST_FOLLOWED;
    }

    private static Line lineAt(Line[] lines, int k) {
        return k >= 0 && k < lines.length ? lines[k] : null;
    }

    private Light lightAt(int i) {
        return i >= 0 && i < lightCount && i < lights.length ? lights[i] : null;
    }

    private int found(int what) {
        latestFound = what;
        if (what >= 0 && what < foundCounts.length) {
            foundCounts[what]++;
        }
        return FINDING;
    }

    private int renewed(Line line, int n, int filling) {
        if (line == null || n > line.room()) {
            return BAD;
        }
        if (n < 0) {
            return found(SIZE);
        }
        line.renew(n, filling);
        return n;
    }

    /** 0, if a ROW or a TEXT is there; else what refuses it. */
    private int refuseLine(Line line) {
        if (line == null) {
            return BAD;
        }
        return line.isMissing() ? found(NOTHING) : 0;
    }

    /** 0, if a place of a ROW or a TEXT can be used; else what refuses it. */
    private int refusePlace(Line line, int i) {
        int refused = refuseLine(line);
        if (line == null || refused != 0) {
            return refused;
        }
        return line.holds(i) ? 0 : found(BEYOND);
    }

    /** 0, if a ROW is a row of TURNS; else what refuses it. */
    private int refuseTurns(Line row) {
        int refused = refuseLine(row);
        if (row == null || refused != 0) {
            return refused;
        }
        if (isNoFollowing(row.size())) {
            return found(SIZE);
        }
        return row.isAllWithin(-MOST_TURN, MOST_TURN) ? 0 : found(UNLIKE);
    }

    /** 0, if a ROW is one of notes; else what refuses it. */
    private int refuseNotes(Line row) {
        int refused = refuseLine(row);
        if (row == null || refused != 0) {
            return refused;
        }
        if (row.size() > MOST_NOTES) {
            return found(SIZE);
        }
        return row.isAllWithin(0, Integer.MAX_VALUE) ? 0 : found(UNLIKE);
    }

    private int gainIn(Light light, int n) {
        return slit.gain(night.first(), light, night.now() + n);
    }

    private int timesOver(Light light, int moment) {
        return slit.times(night.first(), light.placeAt(moment));
    }

    /** Being over a LIGHT asks for no brightness: a LIGHT of 0 is there all the same. */
    private int overFor(Light light, int first) {
        int n = 0;
        while (n < LONGEST && slit.times(first, light.placeAt(night.now() + n)) > 0) {
            n++;
        }
        return n;
    }

    /** The bits of what a LIGHT can be by notes: one thing of it is guessed, the rest is as told. */
    private int guessed(int i, int r, int what) {
        Light light = lightAt(i);
        Line notes = lineAt(rows, r);
        if (light == null || notes == null) {
            return BAD;
        }
        int refused = refuseNotes(notes);
        if (refused != 0) {
            return refused;
        }
        int here = light.placeAt(night.now());
        int guesses = what == GUESS_PLACE ? RING : what == GUESS_KIND ? KINDS : FASTEST - SLOWEST + 1;
        int bits = 0;
        for (int g = 0; g < guesses; g++) {
            int kind = what == GUESS_KIND ? g : light.kind();
            int speed = what == GUESS_SPEED ? g + SLOWEST : light.speed();
            guess.become(kind, 0, speed, light.toldBright());
            guess.standAt(what == GUESS_PLACE ? g : here, night.now());
            bits |= guessFits(notes) ? 1 << g : 0;
        }
        return bits;
    }

    private boolean guessFits(Line notes) {
        for (int k = 0; k < notes.size(); k++) {
            if (gainIn(guess, k) != notes.read(k)) {
                return false;
            }
        }
        return true;
    }

    private int passMoment() {
        int got = 0;
        for (int i = 0; i < lightCount && i < lights.length; i++) {
            got += gainIn(lights[i], 0);
        }
        night.pass();
        return got;
    }

    private int bySleep(int i, int r, int p, boolean inEach) {
        Light light = lightAt(i);
        Line row = lineAt(rows, r);
        if (light == null || row == null || p < 0 || p > ALWAYS) {
            return BAD;
        }
        int refused = refuseTurns(row);
        if (refused != 0) {
            return refused;
        }
        view.fill(light, slit, night.now(), row.size());
        long upper = sleeper.weigh(night.first(), row, p, inEach);
        tellChances(upper, sleeper.whole());
        return 1;
    }

    private void tellChances(long upper, long lower) {
        long common = greatestCommon(lower, upper);
        if (common > 0) {
            upperPart = upper / common;
            lowerPart = lower / common;
        }
    }

    private static long greatestCommon(long a, long b) {
        // Euclid's steps for longs are fewer than 100.
        for (int step = 0; step < 100 && b != 0; step++) {
            long rest = a % b;
            a = b;
            b = rest;
        }
        return a;
    }

    private int factOf(Light light, int what) {
        switch (what) {
            case 0:
                return light.kind();
            case 1:
                return light.placeAt(night.now());
            case 2:
                return light.speed();
            case 3:
                return light.toldBright();
            case 4:
                return light.brightAt(night.now());
            default:
                return gainIn(light, 0);
        }
    }

    private int counted(int what) {
        switch (what) {
            case 0:
                return lightCount;
            case 1:
                return night.now();
            case 2:
                return night.done();
            case 3:
                return night.first();
            case 4:
                return slit.broad();
            case 5:
                return lightsOf(LOW);
            case 6:
                return lightsOf(VARYING);
            case 7:
                return linesThere(rows);
            case 8:
                return linesThere(texts);
            case 9:
                return keptThere();
            default:
                return night.spent();
        }
    }

    private int lightsOf(int kind) {
        int n = 0;
        for (int i = 0; i < lightCount && i < lights.length; i++) {
            n += lights[i].isOf(kind) ? 1 : 0;
        }
        return n;
    }

    private static int linesThere(Line[] lines) {
        int n = 0;
        for (int k = 0; k < lines.length; k++) {
            n += lines[k].isMissing() ? 0 : 1;
        }
        return n;
    }

    private int keptThere() {
        int n = 0;
        for (int k = 0; k < kept.length; k++) {
            n += kept[k].isForgotten() ? 0 : 1;
        }
        return n;
    }

    /** A ROW or a TEXT: its cells are made once, so that making it anew costs no room. */
    private static final class Line {
        private final int[] cells;
        private int size = MISSING;

        Line(int room) {
            cells = new int[Math.max(room, 0)];
        }

        int room() {
            return cells.length;
        }

        int size() {
            return size;
        }

        boolean isMissing() {
            return size < 0;
        }

        void remove() {
            size = MISSING;
        }

        void renew(int n, int filling) {
            size = Math.max(0, Math.min(n, cells.length));
            Arrays.fill(cells, filling);
        }

        boolean holds(int i) {
            return i >= 0 && i < size;
        }

        boolean holdsRun(int i, int n) {
            return i >= 0 && i <= size && n >= 0 && n <= size - i;
        }

        int read(int i) {
            return holds(i) ? cells[i] : 0;
        }

        void write(int i, int v) {
            if (holds(i)) {
                cells[i] = v;
            }
        }

        void take(int j, Line source, int i, int n) {
            if (source.holdsRun(i, n) && holdsRun(j, n)) {
                System.arraycopy(source.cells, i, cells, j, n);
            }
        }

        long sum() {
            long sum = 0;
            for (int i = 0; i < size; i++) {
                sum += cells[i];
            }
            return sum;
        }

        boolean isAllWithin(int least, int most) {
            for (int i = 0; i < size; i++) {
                if (cells[i] < least || cells[i] > most) {
                    return false;
                }
            }
            return true;
        }

        int firstLess() {
            for (int i = 1; i < size; i++) {
                if (cells[i] < cells[i - 1]) {
                    return i;
                }
            }
            return NONE;
        }

        long mixedInto(long h) {
            h = 31 * h + size;
            for (int i = 0; i < size; i++) {
                h = 31 * h + cells[i];
            }
            return h;
        }
    }

    /** Reads the small language; what it read is built only if there was no FAULT. */
    private static final class Reader {
        private static final int DOME_LETTER = 111;
        private static final int FIGURE_0 = 48;
        private static final int[] LETTERS = {115, 108, 104, 118, 112, 102};
        private static final int PARTS = 4;

        private final int[] parts = new int[MOST_LIGHTS * PARTS];
        private int broad = 0;
        private int sticks = 0;
        private int lightsRead = 0;
        private int here = 0;
        private boolean broken = false;

        /** Reading stops where it breaks, at the TEXT's end too: so that place is the FAULT. */
        int faultOf(Line text) {
            here = 0;
            broken = false;
            lightsRead = 0;
            skipBlanks(text);
            readDomeLetter(text);
            broad = figure(text, 1, 5);
            sticks = placeFigures(text);
            skipBlanks(text);
            for (int k = 0; k < MOST_LIGHTS && !broken; k++) {
                if (k == 0 || here < text.size()) {
                    readLight(text, k);
                    skipBlanks(text);
                }
            }
            return broken || here < text.size() ? here : NONE;
        }

        int build(Slit slit, Light[] lights) {
            slit.become(broad, sticks);
            for (int k = 0; k < lightsRead && k < lights.length && k < MOST_LIGHTS; k++) {
                int p = k * PARTS;
                lights[k].become(parts[p], parts[p + 1], parts[p + 2], parts[p + 3]);
            }
            return lightsRead;
        }

        private void readLight(Line text, int k) {
            int p = k * PARTS;
            parts[p] = kindLetter(text);
            parts[p + 1] = placeFigures(text);
            parts[p + 2] = figure(text, 0, FASTEST - SLOWEST) + SLOWEST;
            parts[p + 3] = figure(text, 1, 9);
            lightsRead = k + 1;
        }

        private void skipBlanks(Line text) {
            while (!broken && here < text.size() && text.read(here) == BLANK) {
                here++;
            }
        }

        private void readDomeLetter(Line text) {
            goOnIf(here < text.size() && text.read(here) == DOME_LETTER);
        }

        private int kindLetter(Line text) {
            int kind = MISSING;
            for (int k = 0; k < LETTERS.length && here < text.size(); k++) {
                if (text.read(here) == LETTERS[k]) {
                    kind = k;
                }
            }
            goOnIf(kind != MISSING);
            return kind;
        }

        private int placeFigures(Line text) {
            int tens = figure(text, 0, 2);
            return 10 * tens + figure(text, 0, tens == 2 ? 3 : 9);
        }

        private int figure(Line text, int least, int most) {
            int value = text.read(here) - FIGURE_0;
            goOnIf(here < text.size() && value >= least && value <= most);
            return value;
        }

        private void goOnIf(boolean fits) {
            broken = broken || !fits;
            here += broken ? 0 : 1;
        }
    }

    /** A LIGHT, by what it was told; where and how BRIGHT it is goes by the MOMENT alone. */
    private static final class Light {
        private int kind = STAR;
        private int start = 0;
        private int speed = 0;
        private int bright = 0;

        void become(int ofKind, int atStart, int bySpeed, int asBright) {
            kind = ofKind;
            start = atStart;
            speed = bySpeed;
            bright = asBright;
        }

        /** So that it is at a PLACE at a MOMENT: its start is reckoned back from there. */
        void standAt(int here, int moment) {
            start = round(here - movedBy(moment));
        }

        int kind() {
            return kind;
        }

        int speed() {
            return speed;
        }

        int toldBright() {
            return bright;
        }

        boolean isOf(int other) {
            return kind == other || kind == STILL && other == LOW || kind == FLARING && other == VARYING;
        }

        /** By how many PLACES it has moved since MOMENT 0, rounds of the ring counted too. */
        private int movedBy(int moment) {
            switch (kind) {
                case LOW:
                    return speed * ((moment + 1) / 2);
                case HIGH:
                    return 2 * speed * moment;
                case STILL:
                    return 0;
                default:
                    return speed * moment;
            }
        }

        int placeAt(int moment) {
            return round(start + movedBy(moment));
        }

        int brightAt(int moment) {
            int now = isOf(VARYING) && moment % 2 != 0 ? bright / 2 : bright;
            return kind == FLARING && moment % 4 == 0 ? now + 3 : now;
        }

        int brightTogether(int moment, int n) {
            int sum = 0;
            for (int k = 0; k < n; k++) {
                sum += brightAt(moment + k);
            }
            return sum;
        }

        int movesWithin(int moment, int n) {
            int moves = 0;
            for (int k = 0; k < n; k++) {
                moves += placeAt(moment + k) != placeAt(moment + k + 1) ? 1 : 0;
            }
            return moves;
        }

        int returnsAfter(int moment) {
            int n = 1;
            while (n < RING && placeAt(moment + n) != placeAt(moment)) {
                n++;
            }
            return n;
        }
    }

    /** How broad the SLIT is, and where its wheel STICKS; where it is stands in the Night. */
    private static final class Slit {
        private int broad = 0;
        private int sticks = 0;

        void become(int asBroad, int sticksAt) {
            broad = asBroad;
            sticks = sticksAt;
        }

        int broad() {
            return broad;
        }

        /** How often the GLASS gets a LIGHT at a PLACE: twice, once, not. */
        int times(int first, int place) {
            int behind = round(place - first);
            if (behind >= broad) {
                return 0;
            }
            return behind == 0 || behind == broad - 1 ? 1 : 2;
        }

        int gain(int first, Light light, int moment) {
            return times(first, light.placeAt(moment)) * light.brightAt(moment);
        }

        int effortOf(int first, int by) {
            int far = Math.abs(by);
            int toSticking = round(by < 0 ? first - sticks : sticks - first);
            // Going away from where it STICKS is no coming there.
            boolean comes = toSticking > 0 && toSticking <= far;
            return comes ? far + 4 : far;
        }

        int leastWayToBest(int first, int place) {
            int best = broad > 2 ? 2 : 1;
            int way = 0;
            while (way < RING / 2 && times(round(first + way), place) != best
                    && times(round(first - way), place) != best) {
                way++;
            }
            return way;
        }
    }

    /** The MOMENT, where the SLIT is, and the DEEDS that brought it there. */
    private static final class Night {
        private static final int PASSING = 0;

        private final int[] deeds = new int[MOST_DEEDS];
        private int done = 0;
        private int moment = 0;
        private int first = 0;
        private int spent = 0;

        void begin() {
            done = 0;
            moment = 0;
            first = 0;
            spent = 0;
        }

        void forget() {
            done = MISSING;
        }

        boolean isForgotten() {
            return done < 0;
        }

        int done() {
            return done;
        }

        int now() {
            return moment;
        }

        int first() {
            return first;
        }

        int spent() {
            return spent;
        }

        boolean hasRoom(int n) {
            return done >= 0 && done + n <= deeds.length;
        }

        void pass() {
            note(PASSING);
            moment++;
        }

        int turnBy(int by, Slit slit) {
            note(by);
            int effort = slit.effortOf(first, by);
            first = round(first + by);
            spent += effort;
            return effort;
        }

        void rewind(int n, Slit slit) {
            begin();
            for (int k = 0; k < n && k < deeds.length; k++) {
                if (deeds[k] == PASSING) {
                    pass();
                } else {
                    turnBy(deeds[k], slit);
                }
            }
        }

        void become(Night other) {
            System.arraycopy(other.deeds, 0, deeds, 0, MOST_DEEDS);
            done = other.done;
            moment = other.moment;
            first = other.first;
            spent = other.spent;
        }

        private void note(int deed) {
            if (hasRoom(1)) {
                deeds[done] = deed;
                done++;
            }
        }
    }

    /** What the GLASS would get of one LIGHT, for each MOMENT from now on and each first PLACE. */
    private static final class View {
        private final int[] gains = new int[MOST_FOLLOWED * RING];

        void fill(Light light, Slit slit, int moment, int n) {
            for (int k = 0; k < n && k < MOST_FOLLOWED; k++) {
                int place = light.placeAt(moment + k);
                int bright = light.brightAt(moment + k);
                for (int first = 0; first < RING; first++) {
                    gains[k * RING + first] = slit.times(first, place) * bright;
                }
            }
        }

        int gain(int k, int first) {
            return k >= 0 && k < MOST_FOLLOWED ? gains[k * RING + round(first)] : 0;
        }
    }

    /** Searches backwards, from the last MOMENT to this one, by tables that are used again. */
    private static final class Follower {
        private static final int NEVER = 1 << 29;
        private static final int EFFORTS = MOST_EFFORT + 1;
        private static final int CLOUDS = MOST_CLOUDED / 2 + 1;
        private static final int DIGIT_BITS = 3;
        private static final int ORDER_BITS = DIGIT_BITS * MOST_LIGHTS;

        private final Slit slit;
        private final View view;
        private int[] table = new int[RING * EFFORTS];
        private int[] later = new int[RING * EFFORTS];

        Follower(Slit ofDome, View ofLight) {
            slit = ofDome;
            view = ofLight;
        }

        /** The least EFFORT (or the fewest TURNS) by which something comes in each MOMENT, or NONE. */
        int least(int first, int n, boolean byTurns) {
            Arrays.fill(table, n * RING, (n + 1) * RING, 0);
            for (int k = n - 1; k >= 0; k--) {
                for (int s = 0; s < RING; s++) {
                    int least = NEVER;
                    for (int by = -MOST_TURN; by <= MOST_TURN; by++) {
                        least = Math.min(least, leastBehind(k, s, by, byTurns));
                    }
                    table[k * RING + s] = least;
                }
            }
            int least = table[round(first)];
            return least < NEVER ? least : NONE;
        }

        /** Goes again through the table that least() left for EFFORT. */
        void writeTurns(int first, int n, Line row) {
            row.renew(n, 0);
            int s = round(first);
            for (int k = 0; k < n; k++) {
                int by = -MOST_TURN;
                while (by < MOST_TURN && leastBehind(k, s, by, false) != table[k * RING + s]) {
                    by++;
                }
                row.write(k, by);
                s = round(s + by);
            }
        }

        /** What is needed from MOMENT k on, if the SLIT goes from s by this TURN first. */
        private int leastBehind(int k, int s, int by, boolean byTurns) {
            int to = round(s + by);
            if (view.gain(k, to) == 0) {
                return NEVER;
            }
            int price = byTurns ? Math.min(Math.abs(by), 1) : slit.effortOf(s, by);
            return Math.min(NEVER, price + table[(k + 1) * RING + to]);
        }

        int mostWithin(int first, int n, int e) {
            Arrays.fill(later, 0);
            for (int k = n - 1; k >= 0; k--) {
                Arrays.fill(table, 0);
                for (int s = 0; s < RING; s++) {
                    for (int by = -MOST_TURN; by <= MOST_TURN; by++) {
                        raiseMost(k, s, by, e);
                    }
                }
                swapTables();
            }
            return later[round(first) * EFFORTS + e];
        }

        private void raiseMost(int k, int s, int by, int e) {
            int to = round(s + by);
            int effort = slit.effortOf(s, by);
            int gain = view.gain(k, to);
            for (int left = effort; left <= e; left++) {
                int most = gain + later[to * EFFORTS + left - effort];
                table[s * EFFORTS + left] = Math.max(table[s * EFFORTS + left], most);
            }
        }

        int mostByCloud(int first, int n) {
            Arrays.fill(later, 0);
            for (int k = n - 1; k >= 0; k--) {
                for (int s = 0; s < RING; s++) {
                    for (int clouds = 0; clouds < CLOUDS; clouds++) {
                        table[s * CLOUDS + clouds] = mostBehindClouds(k, s, clouds);
                    }
                }
                swapTables();
            }
            return later[round(first) * CLOUDS + Math.min(n / 2, CLOUDS - 1)];
        }

        private int mostBehindClouds(int k, int s, int clouds) {
            int most = 0;
            for (int by = -2; by <= 2; by++) {
                int to = round(s + by);
                int little = view.gain(k, to) + later[to * CLOUDS + clouds];
                if (clouds > 0) {
                    little = Math.min(little, later[to * CLOUDS + clouds - 1]);
                }
                most = Math.max(most, little);
            }
            return most;
        }

        /**
         * A number holds an EFFORT above the figures of an order, so that the least number is the
         * first order of the least EFFORT: table[looked * RING + s] is it for the LIGHTS not yet in
         * the set looked, from the first PLACE s on.
         */
        int leastOrder(Light[] lights, int count, Night night, Line row) {
            int all = (1 << Math.min(count, MOST_LIGHTS)) - 1;
            Arrays.fill(table, 0, all * RING, NEVER);
            Arrays.fill(table, all * RING, (all + 1) * RING, 0);
            for (int looked = all - 1; looked >= 0; looked--) {
                int moment = night.now() + Integer.bitCount(looked);
                int digit = DIGIT_BITS * (count - 1 - Integer.bitCount(looked));
                for (int i = 0; i < count && i < lights.length; i++) {
                    if ((looked >> i & 1) == 0 && lights[i].brightAt(moment) > 0) {
                        lowerOrders(looked, looked | 1 << i, lights[i].placeAt(moment), i << digit);
                    }
                }
            }
            int least = table[round(night.first())];
            if (least >= NEVER) {
                return NONE;
            }
            row.renew(count, 0);
            for (int k = 0; k < count; k++) {
                row.write(k, least >> DIGIT_BITS * (count - 1 - k) & (1 << DIGIT_BITS) - 1);
            }
            return least >> ORDER_BITS;
        }

        private void lowerOrders(int looked, int then, int place, int figures) {
            for (int s = 0; s < RING; s++) {
                for (int by = -MOST_TURN; by <= MOST_TURN; by++) {
                    int to = round(s + by);
                    if (slit.times(to, place) > 0) {
                        int own = (slit.effortOf(s, by) << ORDER_BITS) + figures;
                        int number = own + table[then * RING + to];
                        table[looked * RING + s] = Math.min(table[looked * RING + s], number);
                    }
                }
            }
        }

        private void swapTables() {
            int[] made = table;
            table = later;
            later = made;
        }
    }

    /** Where the SLIT can be by SLEEP, each first PLACE weighed in twelfths of twelfths. */
    private static final class Sleeper {
        private final View view;
        private long[] weights = new long[RING];
        private long[] spare = new long[RING];
        private long whole = 1;

        Sleeper(View ofLight) {
            view = ofLight;
        }

        /** All weights together, as the latest weigh() had them. */
        long whole() {
            return whole;
        }

        /** What comes together, weighed; or, if inEach, the weight of getting something each time. */
        long weigh(int first, Line turns, int p, boolean inEach) {
            Arrays.fill(weights, 0);
            weights[round(first)] = 1;
            whole = 1;
            long got = 0;
            for (int k = 0; k < turns.size(); k++) {
                spread(turns.read(k), p);
                whole *= ALWAYS;
                got = got * ALWAYS + gotAt(k, inEach);
            }
            return inEach ? weightLeft() : got;
        }

        private void spread(int by, int p) {
            Arrays.fill(spare, 0);
            for (int s = 0; s < RING; s++) {
                spare[s] += weights[s] * p;
                spare[round(s + by)] += weights[s] * (ALWAYS - p);
            }
            long[] made = spare;
            spare = weights;
            weights = made;
        }

        private long gotAt(int k, boolean inEach) {
            long got = 0;
            for (int s = 0; s < RING; s++) {
                int gain = view.gain(k, s);
                got += weights[s] * gain;
                if (inEach && gain == 0) {
                    weights[s] = 0;
                }
            }
            return got;
        }

        private long weightLeft() {
            long left = 0;
            for (int s = 0; s < RING; s++) {
                left += weights[s];
            }
            return left;
        }
    }
}
