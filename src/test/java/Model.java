import java.math.BigInteger;
import java.util.ArrayList;
import java.util.Arrays;
import java.util.List;
import java.util.regex.Matcher;
import java.util.regex.Pattern;

/** The document told a second time, plainly and by the Java library, to be compared with the class. */
final class Model {
    static final int BAD = -1, FULL = -2, FINDING = -3, STATE = -4, NONE = -9;
    static final String LETTERS = "mbyfav";

    /** The club as it is between two deeds. */
    static final class Moment {
        int[] smoke;
        int[] talked;
        int hour, heard, said;

        Moment(int cells, int members) {
            smoke = new int[cells];
            talked = new int[members];
        }

        Moment(Moment m) {
            smoke = m.smoke.clone();
            talked = m.talked.clone();
            hour = m.hour;
            heard = m.heard;
            said = m.said;
        }

        int all() {
            return Arrays.stream(smoke).sum();
        }
    }

    final int[][] rows = new int[6][];
    final byte[][] texts = new byte[4][];
    int leak, cells;
    final List<Integer> kind = new ArrayList<>();
    final List<Integer> cell = new ArrayList<>();
    List<Moment> moments = new ArrayList<>(List.of(new Moment(0, 0)));
    final List<List<Moment>> kept = new ArrayList<>(Arrays.asList(null, null, null));
    int asked, finding;
    long upper, lower = 1;
    final int[] findings = new int[6];

    Moment now() {
        return moments.get(moments.size() - 1);
    }

    int deeds() {
        return moments.size() - 1;
    }

    int found(int f) {
        finding = f;
        findings[f]++;
        return FINDING;
    }

    static boolean out(int x, int least, int most) {
        return x < least || x > most;
    }

    boolean noMember(int i) {
        return i < 0 || i >= kind.size();
    }

    boolean noCell(int c) {
        return c < 0 || c >= cells;
    }

    int row(int r, int n) {
        if (out(r, 0, 5) || n > 40) return BAD;
        if (n < 0) return found(5);
        rows[r] = new int[n];
        return n;
    }

    int lay(int r, int i, int v) {
        int a = at(r, i);
        if (a == 1) rows[r][i] = v;
        return a;
    }

    int at(int r, int i) {
        if (out(r, 0, 5)) return BAD;
        if (rows[r] == null) return found(1);
        if (out(i, 0, rows[r].length - 1)) return found(2);
        asked = rows[r][i];
        return 1;
    }

    int tear(int r) {
        if (out(r, 0, 5)) return BAD;
        if (rows[r] == null) return found(1);
        rows[r] = null;
        return 1;
    }

    int copy(int r, int i, int to, int j, int n) {
        if (out(r, 0, 5) || out(to, 0, 5)) return BAD;
        if (n < 0) return found(5);
        if (rows[r] == null || rows[to] == null) return found(1);
        if (i < 0 || j < 0 || (long) i + n > rows[r].length || (long) j + n > rows[to].length) return found(2);
        int[] taken = Arrays.copyOfRange(rows[r], i, i + n);
        for (int k = 0; k < n; k++) rows[to][j + k] = taken[k];
        return 1;
    }

    int mean(int r) {
        if (out(r, 0, 5)) return BAD;
        if (rows[r] == null) return found(1);
        if (rows[r].length == 0) return found(4);
        BigInteger sum = BigInteger.ZERO;
        for (int v : rows[r]) sum = sum.add(BigInteger.valueOf(v));
        asked = sum.divide(BigInteger.valueOf(rows[r].length)).intValueExact();
        return 1;
    }

    int text(int t, int n) {
        if (out(t, 0, 3) || n > 60) return BAD;
        if (n < 0) return found(5);
        texts[t] = new byte[n];
        Arrays.fill(texts[t], (byte) ' ');
        return n;
    }

    int put(int t, int i, int v) {
        if (out(t, 0, 3)) return BAD;
        if (texts[t] == null) return found(1);
        if (out(i, 0, texts[t].length - 1)) return found(2);
        int was = texts[t][i];
        texts[t][i] = (byte) v;
        return was + 1000;
    }

    static String signs(byte[] text) {
        StringBuilder s = new StringBuilder();
        for (byte b : text) s.append((char) (b & 255));
        return s.toString();
    }

    static Pattern grammar(int cells) {
        return Pattern.compile(" *p[0-9]" + cells + " *(?:[mbyfav][0-" + (cells - 1) + "] *){1,6}");
    }

    static int faultOf(byte[] text) {
        String all = signs(text);
        for (int k = 3; k <= 8; k++) {
            if (grammar(k).matcher(all).matches()) return NONE;
        }
        for (int n = 1; n <= all.length(); n++) {
            boolean goesOn = false;
            for (int k = 3; k <= 8; k++) {
                Matcher m = grammar(k).matcher(all.substring(0, n));
                goesOn |= m.matches() || m.hitEnd();
            }
            if (!goesOn) return n - 1;
        }
        return all.length();
    }

    int fault(int t) {
        if (out(t, 0, 3)) return BAD;
        if (texts[t] == null) return found(1);
        return faultOf(texts[t]);
    }

    int club(int t) {
        int f = fault(t);
        if (f == BAD || f == FINDING) return f;
        if (f != NONE) return STATE;
        String s = signs(texts[t]).replace(" ", "");
        leak = s.charAt(1) - '0';
        cells = s.charAt(2) - '0';
        kind.clear();
        cell.clear();
        for (int i = 3; i < s.length(); i += 2) {
            kind.add(LETTERS.indexOf(s.charAt(i)));
            cell.add(s.charAt(i + 1) - '0');
        }
        moments = new ArrayList<>(List.of(new Moment(cells, kind.size())));
        for (int k = 0; k < 3; k++) kept.set(k, null);
        return kind.size();
    }

    int fact(int i, int what) {
        return new int[] {kind.get(i), cell.get(i), now().smoke[cell.get(i)], now().talked[i]}[what];
    }

    int member(int i, int what) {
        if (noMember(i) || out(what, 0, 3)) return BAD;
        asked = fact(i, what);
        return 1;
    }

    static boolean bishop(int kind) {
        return kind == 1 || kind == 4;
    }

    static boolean young(int kind) {
        return kind == 2 || kind == 5;
    }

    int mark(int i, int k) {
        if (noMember(i) || out(k, 1, 5)) return BAD;
        int own = kind.get(i);
        if (k == 1 && bishop(own)) {
            int sum = 0;
            for (int d = -1; d <= 1; d++) sum += now().smoke[Math.floorMod(cell.get(i) + d, cells)];
            return sum;
        }
        if (k == 2 && young(own)) {
            int others = -1;
            for (int j = 0; j < kind.size(); j++) if (young(kind.get(j)) && cell.get(j).equals(cell.get(i))) others++;
            return others;
        }
        if (k == 3 && own == 3) {
            int others = -1;
            for (int other : kind) if (other == 3 || other == 5) others++;
            return others;
        }
        if (k == 4 && own == 4) return 4;
        if (k == 5 && own == 5) return 10;
        return found(3);
    }

    int smoke(int c) {
        return noCell(c) ? BAD : now().smoke[c];
    }

    static int said(int kind, int v) {
        int tens = v / 10 * 10;
        return new int[] {v / 2, v / 2, tens, v, v < 2 ? 0 : v / 2 - 1, v - tens}[kind];
    }

    int breath(int i, int v) {
        return v - said(kind.get(i), v);
    }

    void breatheInto(int[] smoke, int i, int v) {
        int b = breath(i, v), at = cell.get(i);
        if (!bishop(kind.get(i))) {
            smoke[at] += b;
        } else {
            int rest = b - b / 2;
            smoke[at] += b / 2;
            smoke[(at + 1) % cells] += rest / 2;
            smoke[(at + cells - 1) % cells] += rest - rest / 2;
        }
        for (int c = 0; c < cells; c++) smoke[c] = Math.min(999, smoke[c]);
    }

    Moment next() {
        moments.add(new Moment(now()));
        return now();
    }

    int doTalk(int i, int v) {
        Moment m = next();
        m.talked[i]++;
        m.said += said(kind.get(i), v);
        breatheInto(m.smoke, i, v);
        return said(kind.get(i), v);
    }

    int doHour() {
        int before = now().all();
        Moment m = next();
        m.hour++;
        for (int c = 0; c < cells; c++) m.smoke[c] = Math.max(0, m.smoke[c] - leak);
        return before - m.all();
    }

    int doOpen(int c) {
        Moment m = next();
        int was = m.smoke[c];
        m.smoke[c] = 0;
        return was;
    }

    int doThunder() {
        Moment m = next();
        m.heard += m.all();
        Arrays.fill(m.smoke, 0);
        return m.heard;
    }

    int talk(int i, int v) {
        if (noMember(i) || out(v, 0, 99)) return BAD;
        return deeds() == 40 ? FULL : doTalk(i, v);
    }

    int hour() {
        if (kind.isEmpty()) return STATE;
        return deeds() == 40 ? FULL : doHour();
    }

    int open(int c) {
        if (noCell(c)) return BAD;
        if (now().smoke[c] == 0) return STATE;
        return deeds() == 40 ? FULL : doOpen(c);
    }

    int thunder() {
        if (now().all() == 0) return STATE;
        return deeds() == 40 ? FULL : doThunder();
    }

    int undo(int n) {
        if (out(n, 0, deeds())) return BAD;
        int gone = deeds() - n;
        moments = new ArrayList<>(moments.subList(0, n + 1));
        return gone;
    }

    int keep(int k) {
        if (out(k, 0, 2)) return BAD;
        if (kind.isEmpty()) return STATE;
        kept.set(k, new ArrayList<>(moments));
        return deeds();
    }

    int on(int k) {
        if (out(k, 0, 2)) return BAD;
        if (kept.get(k) == null) return found(1);
        moments = new ArrayList<>(kept.get(k));
        return deeds();
    }

    int says(int i, int v) {
        return noMember(i) || out(v, 0, 99) ? BAD : said(kind.get(i), v);
    }

    int breathes(int i, int v) {
        return noMember(i) || out(v, 0, 99) ? BAD : breath(i, v);
    }

    int means(int i, int s) {
        if (noMember(i) || out(s, 0, 99)) return BAD;
        int n = 0;
        asked = NONE;
        for (int v = 99; v >= 0; v--) {
            if (said(kind.get(i), v) == s) {
                n++;
                asked = v;
            }
        }
        return n;
    }

    int least(int i, int b) {
        if (noMember(i) || out(b, 0, 99)) return BAD;
        int least = NONE;
        for (int v = 99; v >= 0; v--) if (breath(i, v) >= b) least = v;
        return least;
    }

    int hangs(int c, int n) {
        if (noCell(c) || out(n, 0, 60)) return BAD;
        int s = now().smoke[c];
        for (int h = 0; h < n; h++) s = Math.max(0, s - leak);
        return s;
    }

    int allIn(int n) {
        int sum = 0;
        for (int c = 0; c < cells; c++) sum += Math.max(0, now().smoke[c] - n * leak);
        return sum;
    }

    int clear() {
        if (kind.isEmpty()) return STATE;
        for (int n = 0; n <= 1000; n++) if (allIn(n) == 0) return n;
        return NONE;
    }

    int window(int w) {
        if (out(w, 0, 7992)) return BAD;
        if (kind.isEmpty()) return STATE;
        for (int n = 0; ; n++) {
            for (int set = 0; set < 1 << cells; set++) {
                int left = 0;
                for (int c = 0; c < cells; c++) if ((set & 1 << c) == 0) left += now().smoke[c];
                if (Integer.bitCount(set) == n && left <= w) {
                    asked = set;
                    return n;
                }
            }
        }
    }

    int[] line(int[] smoke, int v, int c, int w, int left) {
        if (left == 0) return smoke[c] >= w ? new int[0] : null;
        for (int i = 0; i < kind.size(); i++) {
            int[] then = smoke.clone();
            breatheInto(then, i, v);
            int[] rest = line(then, v, c, w, left - 1);
            if (rest != null) {
                int[] whole = new int[rest.length + 1];
                whole[0] = i;
                System.arraycopy(rest, 0, whole, 1, rest.length);
                return whole;
            }
        }
        return null;
    }

    int talks(int v, int c, int w, int r) {
        if (out(v, 0, 99) || noCell(c) || out(w, 0, 999) || out(r, 0, 5)) return BAD;
        for (int n = 0; n <= 3; n++) {
            int[] line = line(now().smoke, v, c, w, n);
            if (line != null) {
                rows[r] = line;
                return n;
            }
        }
        return NONE;
    }

    List<Integer> fitting(int v, int b) {
        List<Integer> fit = new ArrayList<>();
        for (int set = 0; set < 1 << kind.size(); set++) {
            int sum = 0;
            for (int i = 0; i < kind.size(); i++) if ((set & 1 << i) != 0) sum += breath(i, v);
            if (sum == b) fit.add(set);
        }
        return fit;
    }

    int sets(int v, int b) {
        if (out(v, 0, 99) || out(b, 0, 594)) return BAD;
        if (kind.isEmpty()) return STATE;
        List<Integer> fit = fitting(v, b);
        upper = fit.size();
        lower = 1;
        asked = fit.isEmpty() ? NONE : fit.get(0);
        return 1;
    }

    int sure(int v, int b) {
        if (out(v, 0, 99) || out(b, 0, 594)) return BAD;
        if (kind.isEmpty()) return STATE;
        List<Integer> fit = fitting(v, b);
        if (fit.isEmpty()) return found(4);
        int each = -1, some = 0;
        for (int set : fit) {
            each &= set;
            some |= set;
        }
        asked = (1 << kind.size()) - 1 - some;
        return each;
    }

    int ask(int v, int b) {
        if (out(v, 0, 99) || out(b, 0, 594)) return BAD;
        if (kind.isEmpty()) return STATE;
        List<Integer> fit = fitting(v, b);
        if (fit.isEmpty()) return found(4);
        int best = -1, least = 1000;
        for (int i = 0; i < kind.size(); i++) {
            int with = 0, without = 0;
            for (int set : fit) {
                if ((set & 1 << i) != 0) with++;
                else without++;
            }
            int greater = with > without ? with : without;
            if (greater < least) {
                least = greater;
                best = i;
            }
        }
        asked = least;
        return best;
    }

    int badNotes(int r) {
        if (out(r, 0, 5)) return BAD;
        if (rows[r] == null) return found(1);
        if (rows[r].length > 16 || rows[r].length % 2 == 1) return found(5);
        for (int v : rows[r]) if (out(v, 0, 99)) return found(3);
        return 0;
    }

    boolean canHaveSaid(int kind, int[] notes) {
        for (int i = 0; i < notes.length; i += 2) if (said(kind, notes[i]) != notes[i + 1]) return false;
        return true;
    }

    int who(int r) {
        int no = badNotes(r);
        if (no != 0) return no;
        int set = 0;
        for (int i = 0; i < kind.size(); i++) if (canHaveSaid(kind.get(i), rows[r])) set += 1 << i;
        return set;
    }

    int kinds(int r) {
        int no = badNotes(r);
        if (no != 0) return no;
        int set = 0;
        for (int k = 0; k < 6; k++) if (canHaveSaid(k, rows[r])) set += 1 << k;
        return set;
    }

    int test(int r) {
        int set = kinds(r);
        if (set < 0) return set;
        if (set == 0) return NONE;
        int best = -1, least = 1000;
        for (int v = 0; v <= 99; v++) {
            int[] parts = new int[100];
            for (int k = 0; k < 6; k++) if ((set & 1 << k) != 0) parts[said(k, v)]++;
            int greatest = Arrays.stream(parts).max().getAsInt();
            if (greatest < least) {
                least = greatest;
                best = v;
            }
        }
        asked = least;
        return best;
    }

    int leaks(int r) {
        if (out(r, 0, 5)) return BAD;
        if (rows[r] == null) return found(1);
        if (rows[r].length == 0) return found(5);
        for (int v : rows[r]) if (out(v, 0, 999)) return found(3);
        int set = 0;
        for (int l = 0; l <= 9; l++) {
            boolean so = true;
            for (int i = 1; i < rows[r].length; i++) so &= rows[r][i] == Math.max(0, rows[r][i - 1] - l);
            if (so) set += 1 << l;
        }
        return set;
    }

    int talkers(int[] smoke, int v, int n) {
        if (n == 0) return Arrays.stream(smoke).sum();
        int most = openers(smoke, v, n);
        for (int i = 0; i < kind.size(); i++) {
            int[] then = smoke.clone();
            breatheInto(then, i, v);
            most = Math.max(most, openers(then, v, n));
        }
        return most;
    }

    int openers(int[] smoke, int v, int n) {
        int least = talkers(smoke, v, n - 1);
        for (int c = 0; c < cells; c++) {
            int[] then = smoke.clone();
            then[c] = 0;
            least = Math.min(least, talkers(then, v, n - 1));
        }
        return least;
    }

    int evening(int v, int n) {
        if (out(v, 0, 99) || out(n, 0, 2)) return BAD;
        if (kind.isEmpty()) return STATE;
        return talkers(now().smoke, v, n);
    }

    void tellMean(int n, int p, int w) {
        BigInteger above = BigInteger.ZERO;
        for (int h = 0; h <= n; h++) {
            BigInteger weight = BigInteger.valueOf(12 - p).pow(h).multiply(BigInteger.valueOf(12).pow(n - h));
            if (h < n) weight = weight.multiply(BigInteger.valueOf(p)).divide(BigInteger.valueOf(12));
            int worth = w < 0 ? allIn(h) : allIn(h) >= w ? 1 : 0;
            above = above.add(weight.multiply(BigInteger.valueOf(worth)));
        }
        BigInteger below = BigInteger.valueOf(12).pow(n);
        BigInteger g = above.gcd(below);
        upper = above.divide(g).longValueExact();
        lower = below.divide(g).longValueExact();
    }

    int odds(int w, int n, int p) {
        if (out(w, 0, 7992) || out(n, 0, 6) || out(p, 0, 12)) return BAD;
        if (kind.isEmpty()) return STATE;
        tellMean(n, p, w);
        return 1;
    }

    int mid(int n, int p) {
        if (out(n, 0, 6) || out(p, 0, 12)) return BAD;
        if (kind.isEmpty()) return STATE;
        tellMean(n, p, -1);
        return 1;
    }

    int lots(int n, int seed) {
        if (out(n, 1, 20) || out(seed, 1, 2147483646)) return BAD;
        if (kind.isEmpty()) return STATE;
        if (deeds() + n > 40) return FULL;
        BigInteger x = BigInteger.valueOf(seed);
        for (int k = 0; k < n; k++) {
            x = x.multiply(BigInteger.valueOf(48271)).mod(BigInteger.valueOf(2147483647));
            int it = x.intValueExact();
            int what = it / 8 % 8;
            if (what == 0) doHour();
            else if (what == 1) doOpen(it % cells);
            else if (what == 2) doThunder();
            else doTalk(it % kind.size(), it / 64 % 100);
        }
        return now().all();
    }

    int count(int what) {
        switch (what) {
            case 0: return kind.size();
            case 1: return cells;
            case 2: return now().hour;
            case 3: return deeds();
            case 4: return now().all();
            case 5: return now().heard;
            case 6: return now().said;
            case 7: return leak;
            case 8: return (int) kind.stream().filter(k -> bishop(k)).count();
            case 9: return (int) kind.stream().filter(k -> young(k)).count();
            case 10: return (int) Arrays.stream(rows).filter(r -> r != null).count();
            case 11: return (int) Arrays.stream(texts).filter(t -> t != null).count();
            case 12: return (int) kept.stream().filter(k -> k != null).count();
            default: return BAD;
        }
    }

    int findings(int f) {
        return out(f, 1, 5) ? BAD : findings[f];
    }

    long digest() {
        List<Integer> told = new ArrayList<>();
        for (int what = 0; what <= 12; what++) told.add(count(what));
        for (int c = 0; c < cells; c++) told.add(now().smoke[c]);
        for (int i = 0; i < kind.size(); i++) for (int what = 0; what <= 3; what++) told.add(fact(i, what));
        for (List<Moment> k : kept) told.add(k == null ? -1 : k.size() - 1);
        for (int[] r : rows) {
            told.add(r == null ? -1 : r.length);
            if (r != null) for (int v : r) told.add(v);
        }
        for (byte[] t : texts) {
            told.add(t == null ? -1 : t.length);
            if (t != null) for (byte v : t) told.add((int) v);
        }
        long h = 17;
        for (int v : told) h = 31 * h + v;
        return h;
    }
}
