import java.math.BigInteger;
import java.util.ArrayList;
import java.util.Arrays;
import java.util.HashMap;
import java.util.List;
import java.util.Map;
import java.util.regex.Matcher;
import java.util.regex.Pattern;

/**
 * The document once more, as plainly as can be: it goes step by step and tries out everything, and
 * shares no way of reckoning with DomeSlit. It is asked only what DomeSlit is asked, by name.
 */
final class PlainDome {
    private static final int BAD = -1, FULL = -2, FINDING = -3, STATE = -4, NONE = -9;
    private static final String LETTERS = "slhvpf";
    private static final String PLACE = "(?:[01][0-9]|2[0-3])";
    private static final Pattern WHOLE =
            Pattern.compile(" *o[1-5]" + PLACE + " *(?:[slhvpf]" + PLACE + "[0-5][1-9] *){1,5}");

    /** kind, place at MOMENT 0, speed, brightness. */
    record Star(int kind, int start, int speed, int bright) { }

    private final int[][] rows = new int[6][];
    private final byte[][] texts = new byte[4][];
    private final List<Star> stars = new ArrayList<>();
    private int broad = 0;
    private int sticks = 0;
    private List<Integer> deeds = new ArrayList<>();
    private final List<List<Integer>> kept = new ArrayList<>(Arrays.asList(null, null, null));
    private final int[] foundCounts = new int[6];
    int finding = 0;
    int asked = 0;
    long upper = 0;
    long lower = 1;

    private int found(int f) {
        finding = f;
        foundCounts[f]++;
        return FINDING;
    }

    private static boolean in(int v, int least, int most) {
        return least <= v && v <= most;
    }

    // ---- rows, texts

    int row(int r, int n) {
        if (!in(r, 0, 5) || n > 40) return BAD;
        if (n < 0) return found(5);
        rows[r] = new int[n];
        return n;
    }

    int lay(int r, int i, int v) {
        int got = at(r, i);
        if (got == 1) rows[r][i] = v;
        return got;
    }

    int at(int r, int i) {
        if (!in(r, 0, 5)) return BAD;
        if (rows[r] == null) return found(1);
        if (!in(i, 0, rows[r].length - 1)) return found(2);
        asked = rows[r][i];
        return 1;
    }

    int tear(int r) {
        if (!in(r, 0, 5)) return BAD;
        if (rows[r] == null) return found(1);
        rows[r] = null;
        return 1;
    }

    int copy(int r, int i, int to, int j, int n) {
        if (!in(r, 0, 5) || !in(to, 0, 5)) return BAD;
        if (n < 0) return found(5);
        if (rows[r] == null || rows[to] == null) return found(1);
        if (i < 0 || j < 0 || (long) i + n > rows[r].length || (long) j + n > rows[to].length) return found(2);
        int[] taken = Arrays.copyOfRange(rows[r], i, i + n);
        for (int k = 0; k < n; k++) rows[to][j + k] = taken[k];
        return 1;
    }

    int mean(int r) {
        if (!in(r, 0, 5)) return BAD;
        if (rows[r] == null) return found(1);
        if (rows[r].length == 0) return found(4);
        BigInteger sum = BigInteger.ZERO;
        for (int v : rows[r]) sum = sum.add(BigInteger.valueOf(v));
        asked = sum.divide(BigInteger.valueOf(rows[r].length)).intValueExact();
        return 1;
    }

    int text(int t, int n) {
        if (!in(t, 0, 3) || n > 60) return BAD;
        if (n < 0) return found(5);
        texts[t] = new byte[n];
        Arrays.fill(texts[t], (byte) ' ');
        return n;
    }

    int put(int t, int i, int v) {
        if (!in(t, 0, 3)) return BAD;
        if (texts[t] == null) return found(1);
        if (!in(i, 0, texts[t].length - 1)) return found(2);
        int was = texts[t][i];
        texts[t][i] = (byte) v;
        return was + 1000;
    }

    // ---- domes

    private static String signs(byte[] text) {
        StringBuilder made = new StringBuilder();
        for (byte b : text) made.append((char) (b & 255));
        return made.toString();
    }

    /** The first sign that no DOME could have behind the signs ahead of it. */
    private static int faultOf(String text) {
        for (int k = 0; k < text.length(); k++) {
            Matcher ahead = WHOLE.matcher(text.substring(0, k + 1));
            if (!ahead.matches() && !ahead.hitEnd()) return k;
        }
        return WHOLE.matcher(text).matches() ? NONE : text.length();
    }

    int fault(int t) {
        if (!in(t, 0, 3)) return BAD;
        if (texts[t] == null) return found(1);
        return faultOf(signs(texts[t]));
    }

    int dome(int t) {
        int fault = fault(t);
        if (fault == BAD || fault == FINDING) return fault;
        if (fault != NONE) return STATE;
        String bare = signs(texts[t]).replace(" ", "");
        broad = bare.charAt(1) - '0';
        sticks = Integer.parseInt(bare.substring(2, 4));
        stars.clear();
        for (int k = 4; k < bare.length(); k += 5) {
            stars.add(new Star(LETTERS.indexOf(bare.charAt(k)), Integer.parseInt(bare.substring(k + 1, k + 3)),
                    bare.charAt(k + 3) - '0' - 2, bare.charAt(k + 4) - '0'));
        }
        deeds = new ArrayList<>();
        for (int k = 0; k < 3; k++) kept.set(k, null);
        return stars.size();
    }

    // ---- where things are, step by step

    private int now() {
        int n = 0;
        for (int deed : deeds) if (deed == 0) n++;
        return n;
    }

    private int slit() {
        int s = 0;
        for (int deed : deeds) s = go(s, deed);
        return s;
    }

    private static int go(int place, int by) {
        int p = place;
        for (int k = 0; k < Math.abs(by); k++) {
            p += by < 0 ? -1 : 1;
            if (p == 24) p = 0;
            if (p == -1) p = 23;
        }
        return p;
    }

    private int price(int s, int by) {
        int price = 0;
        int p = s;
        for (int k = 0; k < Math.abs(by); k++) {
            p = go(p, by < 0 ? -1 : 1);
            price++;
            if (p == sticks) price += 4;
        }
        return price;
    }

    /** Its PLACE at a MOMENT, if it is at a PLACE at an earlier one. */
    private static int walk(int kind, int speed, int place, int from, int to) {
        int p = place;
        for (int m = from; m < to; m++) {
            if (kind == 4) continue;
            if (kind == 1 && m % 2 == 1) continue;
            p = go(p, kind == 2 ? speed * 2 : speed);
        }
        return p;
    }

    private static int walk(Star star, int moment) {
        return walk(star.kind(), star.speed(), star.start(), 0, moment);
    }

    private static int brightness(int kind, int bright, int moment) {
        int b = bright;
        if ((kind == 3 || kind == 5) && moment % 2 == 1) b = bright / 2;
        if (kind == 5 && moment % 4 == 0) b += 3;
        return b;
    }

    private int times(int s, int place) {
        for (int k = 0; k < broad; k++) {
            if (go(s, k) == place) return k == 0 || k == broad - 1 ? 1 : 2;
        }
        return 0;
    }

    private int got(Star star, int s, int moment) {
        return times(s, walk(star, moment)) * brightness(star.kind(), star.bright(), moment);
    }

    private boolean noStar(int i) {
        return !in(i, 0, stars.size() - 1);
    }

    private int fact(Star star, int what) {
        return switch (what) {
            case 0 -> star.kind();
            case 1 -> walk(star, now());
            case 2 -> star.speed();
            case 3 -> star.bright();
            case 4 -> brightness(star.kind(), star.bright(), now());
            default -> got(star, slit(), now());
        };
    }

    int light(int i, int what) {
        if (noStar(i) || !in(what, 0, 5)) return BAD;
        asked = fact(stars.get(i), what);
        return 1;
    }

    int mark(int i, int kind) {
        if (noStar(i) || !in(kind, 1, 5)) return BAD;
        Star star = stars.get(i);
        int own = star.kind();
        int m = now();
        if (own != kind && !(own == 4 && kind == 1) && !(own == 5 && kind == 3)) return found(3);
        int n = 0;
        if (kind == 1) {
            for (int k = m; k < m + 8; k++) if (walk(star, k) != walk(star, k + 1)) n++;
        } else if (kind == 2) {
            do n++; while (walk(star, m + n) != walk(star, m));
        } else if (kind == 3) {
            for (int k = m; k < m + 4; k++) n += brightness(own, star.bright(), k);
        } else if (kind == 4) {
            n = 24;
            for (int by = -12; by <= 12; by++) {
                if (got(star, go(slit(), by), m) == star.bright() * (broad > 2 ? 2 : 1)) n = Math.min(n, Math.abs(by));
            }
        } else {
            while ((m + n) % 4 != 0) n++;
        }
        return n;
    }

    // ---- deeds

    int moment() {
        if (stars.isEmpty()) return STATE;
        if (deeds.size() >= 40) return FULL;
        int sum = 0;
        for (Star star : stars) sum += got(star, slit(), now());
        deeds.add(0);
        return sum;
    }

    int turn(int by) {
        if (!in(by, -6, 6) || by == 0) return BAD;
        if (stars.isEmpty()) return STATE;
        if (deeds.size() >= 40) return FULL;
        int price = price(slit(), by);
        deeds.add(by);
        return price;
    }

    int undo(int n) {
        if (!in(n, 0, deeds.size())) return BAD;
        int gone = deeds.size() - n;
        deeds = new ArrayList<>(deeds.subList(0, n));
        return gone;
    }

    int keep(int k) {
        if (!in(k, 0, 2)) return BAD;
        if (stars.isEmpty()) return STATE;
        kept.set(k, new ArrayList<>(deeds));
        return deeds.size();
    }

    int on(int k) {
        if (!in(k, 0, 2)) return BAD;
        if (kept.get(k) == null) return found(1);
        deeds = new ArrayList<>(kept.get(k));
        return deeds.size();
    }

    // ---- what comes

    int place(int i, int n) {
        if (noStar(i) || !in(n, 0, 99)) return BAD;
        asked = brightness(stars.get(i).kind(), stars.get(i).bright(), now() + n);
        return walk(stars.get(i), now() + n);
    }

    int gets(int i, int n) {
        if (noStar(i) || !in(n, 0, 99)) return BAD;
        return got(stars.get(i), slit(), now() + n);
    }

    int seen(int n) {
        if (!in(n, 0, 99)) return BAD;
        int bits = 0;
        for (int i = 0; i < stars.size(); i++) if (gets(i, n) > 0) bits += 1 << i;
        return bits;
    }

    int stays(int i) {
        if (noStar(i)) return BAD;
        for (int n = 0; n < 100; n++) if (got(stars.get(i), slit(), now() + n) == 0) return n;
        return 100;
    }

    int ahead(int i) {
        if (noStar(i)) return BAD;
        int[] lasts = new int[24];
        for (int s = 0; s < 24; s++) {
            while (lasts[s] < 100 && times(s, walk(stars.get(i), now() + lasts[s])) > 0) lasts[s]++;
        }
        asked = Arrays.stream(lasts).max().getAsInt();
        for (int s = 0; s < 24; s++) if (lasts[s] == asked) return s;
        return -100;
    }

    int effort(int by) {
        return in(by, -6, 6) ? price(slit(), by) : BAD;
    }

    // ---- following: every row of TURNS is tried, those that miss the LIGHT left at once

    private int best;
    private int[] bestRow;

    private void tryRows(Star star, int s, int k, int[] row, int spent, boolean countTurns) {
        if (k == row.length) {
            if (spent < best) {
                best = spent;
                bestRow = row.clone();
            }
            return;
        }
        for (int by = -6; by <= 6; by++) {
            int to = go(s, by);
            if (got(star, to, now() + k) > 0) {
                row[k] = by;
                int more = countTurns ? (by == 0 ? 0 : 1) : price(s, by);
                if (spent + more < best) tryRows(star, to, k + 1, row, spent + more, countTurns);
            }
        }
    }

    int follow(int i, int n, int r) {
        if (noStar(i) || !in(n, 1, 8) || !in(r, 0, 5)) return BAD;
        best = 9999;
        tryRows(stars.get(i), slit(), 0, new int[n], 0, false);
        if (best == 9999) return NONE;
        rows[r] = bestRow;
        return best;
    }

    int turns(int i, int n) {
        if (noStar(i) || !in(n, 1, 8)) return BAD;
        best = 9999;
        tryRows(stars.get(i), slit(), 0, new int[n], 0, true);
        return best == 9999 ? NONE : best;
    }

    int most(int i, int n, int e) {
        if (noStar(i) || !in(n, 1, 8) || !in(e, 0, 40)) return BAD;
        Map<List<Integer>, Integer> reached = new HashMap<>();
        reached.put(List.of(slit(), 0), 0);
        for (int k = 0; k < n; k++) {
            Map<List<Integer>, Integer> next = new HashMap<>();
            for (Map.Entry<List<Integer>, Integer> one : reached.entrySet()) {
                for (int by = -6; by <= 6; by++) {
                    int s = one.getKey().get(0);
                    int spent = one.getKey().get(1) + price(s, by);
                    if (spent <= e) {
                        int sum = one.getValue() + got(stars.get(i), go(s, by), now() + k);
                        next.merge(List.of(go(s, by), spent), sum, Math::max);
                    }
                }
            }
            reached = next;
        }
        return reached.values().stream().max(Integer::compare).get();
    }

    private int badTurns(int i, int r) {
        if (noStar(i) || !in(r, 0, 5)) return BAD;
        if (rows[r] == null) return found(1);
        if (!in(rows[r].length, 1, 8)) return found(5);
        for (int by : rows[r]) if (!in(by, -6, 6)) return found(3);
        return 0;
    }

    int by(int i, int r) {
        int bad = badTurns(i, r);
        if (bad != 0) return bad;
        int s = slit();
        int sum = 0;
        asked = 0;
        for (int k = 0; k < rows[r].length; k++) {
            asked += price(s, rows[r][k]);
            s = go(s, rows[r][k]);
            sum += got(stars.get(i), s, now() + k);
        }
        return sum;
    }

    private void tryOrders(int s, int k, int[] order, int spent) {
        if (k == order.length) {
            if (spent < best || spent == best && Arrays.compare(order, bestRow) < 0) {
                best = spent;
                bestRow = order.clone();
            }
            return;
        }
        for (int i = 0; i < order.length; i++) {
            boolean used = false;
            for (int a = 0; a < k; a++) used |= order[a] == i;
            if (used) continue;
            order[k] = i;
            for (int by = -6; by <= 6; by++) {
                int more = spent + price(s, by);
                if (more <= best && got(stars.get(i), go(s, by), now() + k) > 0) tryOrders(go(s, by), k + 1, order, more);
            }
        }
    }

    int order(int r) {
        if (!in(r, 0, 5)) return BAD;
        if (stars.isEmpty()) return STATE;
        best = 9999;
        tryOrders(slit(), 0, new int[stars.size()], 0);
        if (best == 9999) return NONE;
        rows[r] = bestRow;
        return best;
    }

    // ---- notes

    private int badNotes(int i, int r) {
        if (noStar(i) || !in(r, 0, 5)) return BAD;
        if (rows[r] == null) return found(1);
        if (rows[r].length > 20) return found(5);
        for (int v : rows[r]) if (v < 0) return found(3);
        return 0;
    }

    private boolean fits(int[] notes, int kind, int place, int speed, int bright) {
        boolean fits = true;
        for (int k = 0; k < notes.length; k++) {
            int then = now() + k;
            fits &= notes[k] == times(slit(), walk(kind, speed, place, now(), then)) * brightness(kind, bright, then);
        }
        return fits;
    }

    int kinds(int i, int r) {
        int bits = badNotes(i, r);
        if (bits != 0) return bits;
        Star star = stars.get(i);
        for (int k = 0; k < 6; k++) if (fits(rows[r], k, walk(star, now()), star.speed(), star.bright())) bits += 1 << k;
        return bits;
    }

    int places(int i, int r) {
        int bits = badNotes(i, r);
        if (bits != 0) return bits;
        Star star = stars.get(i);
        for (int p = 0; p < 24; p++) if (fits(rows[r], star.kind(), p, star.speed(), star.bright())) bits += 1 << p;
        return bits;
    }

    int speeds(int i, int r) {
        int bits = badNotes(i, r);
        if (bits != 0) return bits;
        Star star = stars.get(i);
        for (int v = 0; v < 6; v++) if (fits(rows[r], star.kind(), walk(star, now()), v - 2, star.bright())) bits += 1 << v;
        return bits;
    }

    int fainter(int i, int r) {
        int bad = badNotes(i, r);
        if (bad != 0) return bad;
        Star star = stars.get(i);
        for (int k = 1; k < rows[r].length; k++) {
            if (rows[r][k] < rows[r][k - 1]) {
                asked = k;
                int then = now() + k;
                int why = 0;
                if (brightness(star.kind(), star.bright(), then) < brightness(star.kind(), star.bright(), then - 1)) why += 1;
                if (times(slit(), walk(star, then)) < times(slit(), walk(star, then - 1))) why += 2;
                return why;
            }
        }
        asked = NONE;
        return 0;
    }

    // ---- a cloud, sleep, lots

    private int wanting(Star star, int s, int k, int n, int clouds) {
        if (k == n) return 0;
        int most = -1;
        for (int by = -2; by <= 2; by++) {
            int to = go(s, by);
            int clear = got(star, to, now() + k) + wanting(star, to, k + 1, n, clouds);
            int clouded = clouds > 0 ? wanting(star, to, k + 1, n, clouds - 1) : clear;
            most = Math.max(most, Math.min(clear, clouded));
        }
        return most;
    }

    int cloud(int i, int n) {
        if (noStar(i) || !in(n, 0, 4)) return BAD;
        return wanting(stars.get(i), slit(), 0, n, n / 2);
    }

    /** Every set of TURNS that is slept over, with its weight: {what comes, what comes in each}. */
    private int bySleep(int i, int r, int p, boolean each) {
        if (!in(p, 0, 12)) return BAD;
        int bad = badTurns(i, r);
        if (bad != 0) return bad;
        int[] row = rows[r];
        BigInteger sum = BigInteger.ZERO;
        for (int slept = 0; slept < 1 << row.length; slept++) {
            BigInteger weight = BigInteger.ONE;
            int s = slit();
            int gotten = 0;
            boolean always = true;
            for (int k = 0; k < row.length; k++) {
                boolean sleeps = (slept >> k & 1) == 1;
                weight = weight.multiply(BigInteger.valueOf(sleeps ? p : 12 - p));
                if (!sleeps) s = go(s, row[k]);
                int g = got(stars.get(i), s, now() + k);
                gotten += g;
                always &= g > 0;
            }
            sum = sum.add(weight.multiply(BigInteger.valueOf(each ? (always ? 1 : 0) : gotten)));
        }
        BigInteger whole = BigInteger.valueOf(12).pow(row.length);
        BigInteger common = sum.gcd(whole);
        upper = sum.divide(common).longValueExact();
        lower = whole.divide(common).longValueExact();
        return 1;
    }

    int mid(int i, int r, int p) {
        return bySleep(i, r, p, false);
    }

    int odds(int i, int r, int p) {
        return bySleep(i, r, p, true);
    }

    int lots(int n, int seed) {
        if (!in(n, 1, 20) || !in(seed, 1, 2147483646)) return BAD;
        if (stars.isEmpty()) return STATE;
        if (deeds.size() + 2 * n > 40) return FULL;
        BigInteger number = BigInteger.valueOf(seed);
        int sum = 0;
        for (int k = 0; k < n; k++) {
            number = number.multiply(BigInteger.valueOf(48271)).mod(BigInteger.valueOf(2147483647));
            int by = number.intValueExact() / 16 % 5 - 2;
            if (by != 0) turn(by);
            sum += moment();
        }
        return sum;
    }

    // ---- what is told

    private int counted(int what) {
        int n = 0;
        switch (what) {
            case 0: return stars.size();
            case 1: return now();
            case 2: return deeds.size();
            case 3: return slit();
            case 4: return broad;
            case 5: for (Star star : stars) if (star.kind() == 1 || star.kind() == 4) n++; return n;
            case 6: for (Star star : stars) if (star.kind() == 3 || star.kind() == 5) n++; return n;
            case 7: for (int[] row : rows) if (row != null) n++; return n;
            case 8: for (byte[] text : texts) if (text != null) n++; return n;
            case 9: for (List<Integer> one : kept) if (one != null) n++; return n;
            default:
                int s = 0;
                for (int deed : deeds) {
                    n += price(s, deed);
                    s = go(s, deed);
                }
                return n;
        }
    }

    int count(int what) {
        return in(what, 0, 10) ? counted(what) : BAD;
    }

    int findings(int f) {
        return in(f, 1, 5) ? foundCounts[f] : BAD;
    }

    long digest() {
        List<Integer> all = new ArrayList<>();
        for (int what = 0; what <= 10; what++) all.add(counted(what));
        for (Star star : stars) for (int what = 0; what <= 5; what++) all.add(fact(star, what));
        for (List<Integer> one : kept) all.add(one == null ? -1 : one.size());
        for (int[] row : rows) {
            all.add(row == null ? -1 : row.length);
            if (row != null) for (int v : row) all.add(v);
        }
        for (byte[] text : texts) {
            all.add(text == null ? -1 : text.length);
            if (text != null) for (byte v : text) all.add((int) v);
        }
        long h = 17;
        for (int v : all) h = 31 * h + v;
        return h;
    }
}
