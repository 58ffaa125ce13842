import java.util.Random;

/** Runs of 512 calls by a fixed seed, on the class and on the model; all that can be seen is compared after each. */
final class ModelTest {
    private static final int RUNS = 500, CALLS = 512;
    private static final int[] WILD = {Integer.MIN_VALUE, Integer.MIN_VALUE + 1, -1000, -1, 0, 1, 1000,
        Integer.MAX_VALUE - 1, Integer.MAX_VALUE};

    private final Random random;
    private final ClubSmoke x = new ClubSmoke();
    private final Model m = new Model();
    private final int run;

    private ModelTest(int run) {
        this.run = run;
        this.random = new Random(run);
    }

    public static void main(String[] args) {
        for (int run = 0; run < RUNS; run++) {
            new ModelTest(run).go();
        }
        Check.end();
    }

    /** Mostly within, at times at an edge or just beyond it, seldom wild. */
    private int some(int least, int most) {
        int dice = random.nextInt(40);
        if (dice == 0) return WILD[random.nextInt(WILD.length)];
        if (dice == 1) return least - 1;
        if (dice == 2) return most + 1;
        if (dice < 5) return least;
        if (dice < 7) return most;
        return least + random.nextInt(Math.max(1, most - least + 1));
    }

    private void go() {
        int made = 0;
        if (run % 10 != 0) made = makeClub();
        for (; made < CALLS; made++) {
            boolean again = random.nextInt(run % 3 == 0 ? 60 : 400) == 0;
            if (again) {
                made += makeClub();
            } else {
                call(random.nextInt(46));
            }
            compareTold();
        }
    }

    private String clubText() {
        StringBuilder s = new StringBuilder();
        int cells = 3 + random.nextInt(6);
        s.append(blanks()).append('p').append(random.nextInt(10)).append(cells).append(blanks());
        for (int n = 1 + random.nextInt(6); n > 0; n--) {
            s.append("mbyfav".charAt(random.nextInt(6))).append(random.nextInt(cells)).append(blanks());
        }
        if (random.nextInt(4) == 0) {
            int i = random.nextInt(s.length());
            int what = random.nextInt(3);
            if (what == 0) s.deleteCharAt(i);
            else if (what == 1) s.insert(i, " m09pz".charAt(random.nextInt(6)));
            else s.setLength(i);
        }
        return s.toString();
    }

    private String blanks() {
        return " ".repeat(Math.max(0, random.nextInt(7) - 4));
    }

    private int makeClub() {
        String s = clubText();
        int t = random.nextInt(4);
        int n = Math.min(60, s.length());
        due("text", x.text(t, n), m.text(t, n));
        for (int i = 0; i < n; i++) {
            due("put", x.put(t, i, s.charAt(i)), m.put(t, i, s.charAt(i)));
        }
        due("fault '" + s + "'", x.fault(t), m.fault(t));
        due("club '" + s + "'", x.club(t), m.club(t));
        return n + 3;
    }

    private void due(String call, long got, long want) {
        Check.due("run " + run + ": " + call, got, want);
    }

    private void compareTold() {
        due("asked", x.asked(), m.asked);
        due("upper", x.upper(), m.upper);
        due("lower", x.lower(), m.lower);
        due("finding", x.finding(), m.finding);
        for (int f = 1; f <= 5; f++) {
            due("findings " + f, x.findings(f), m.findings[f]);
        }
        due("digest", x.digest(), m.digest());
    }

    private int value() {
        return random.nextInt(4) == 0 ? some(-1000000, 2000000) : some(0, 99);
    }

    private void call(int which) {
        if (which < 12) {
            callRows(which);
        } else if (which < 24) {
            callDeeds(which);
        } else if (which < 34) {
            callSmoke(which);
        } else {
            callRest(which);
        }
    }

    private void callRows(int which) {
        int r = some(0, 5), t = some(0, 3), i = some(0, 10), v = value();
        switch (which) {
            case 0: { int n = random.nextBoolean() ? some(0, 40) : some(0, 16); due("row", x.row(r, n), m.row(r, n)); break; }
            case 1: due("lay", x.lay(r, i, v), m.lay(r, i, v)); break;
            case 2: due("at", x.at(r, i), m.at(r, i)); break;
            case 3: if (random.nextInt(4) == 0) due("tear", x.tear(r), m.tear(r)); break;
            case 4: { int to = some(0, 5), j = some(0, 10), n = some(0, 8);
                due("copy", x.copy(r, i, to, j, n), m.copy(r, i, to, j, n)); break; }
            case 5: due("mean", x.mean(r), m.mean(r)); break;
            case 6: { int n = some(0, 60); due("text", x.text(t, n), m.text(t, n)); break; }
            case 7: due("put", x.put(t, i, v), m.put(t, i, v)); break;
            case 8: due("fault", x.fault(t), m.fault(t)); break;
            case 9: if (random.nextInt(10) == 0) due("club", x.club(t), m.club(t)); break;
            case 10: notes(r); break;
            default: hours(r); break;
        }
    }

    /** A row as somebody of a kind would have said it, at times a sign off. */
    private void notes(int r) {
        int pairs = random.nextInt(4), kind = random.nextInt(6);
        due("row", x.row(r, 2 * pairs), m.row(r, 2 * pairs));
        for (int k = 0; k < pairs; k++) {
            int v = random.nextInt(20), s = random.nextInt(9) == 0 ? some(0, 99) : Model.said(kind, v);
            due("lay", x.lay(r, 2 * k, v), m.lay(r, 2 * k, v));
            due("lay", x.lay(r, 2 * k + 1, s), m.lay(r, 2 * k + 1, s));
        }
    }

    private void hours(int r) {
        int n = 1 + random.nextInt(5), leak = random.nextInt(10), s = some(0, 40);
        due("row", x.row(r, n), m.row(r, n));
        for (int k = 0; k < n; k++) {
            due("lay", x.lay(r, k, s), m.lay(r, k, s));
            s = Math.max(0, s - leak);
        }
    }

    private void callDeeds(int which) {
        int i = some(0, 5), v = some(0, 99), c = some(0, Math.max(2, m.cells - 1));
        switch (which) {
            case 12: { int what = some(0, 3); due("member", x.member(i, what), m.member(i, what)); break; }
            case 13: { int k = some(1, 5); due("mark", x.mark(i, k), m.mark(i, k)); break; }
            case 14: due("smoke", x.smoke(c), m.smoke(c)); break;
            case 15:
            case 16:
            case 17: due("talk", x.talk(i, v), m.talk(i, v)); break;
            case 18: due("hour", x.hour(), m.hour()); break;
            case 19: due("open", x.open(c), m.open(c)); break;
            case 20: if (random.nextInt(3) == 0) due("thunder", x.thunder(), m.thunder()); break;
            case 21: if (random.nextInt(3) == 0) { int n = some(0, m.deeds()); due("undo", x.undo(n), m.undo(n)); } break;
            case 22: { int k = some(0, 2); due("keep", x.keep(k), m.keep(k)); break; }
            default: { int k = some(0, 2); due("on", x.on(k), m.on(k)); break; }
        }
    }

    private void callSmoke(int which) {
        int i = some(0, 5), v = some(0, 99), c = some(0, Math.max(2, m.cells - 1));
        switch (which) {
            case 24: due("says", x.says(i, v), m.says(i, v)); break;
            case 25: due("breathes", x.breathes(i, v), m.breathes(i, v)); break;
            case 26: due("means", x.means(i, v), m.means(i, v)); break;
            case 27: due("least", x.least(i, v), m.least(i, v)); break;
            case 28: { int n = some(0, 60); due("hangs", x.hangs(c, n), m.hangs(c, n)); break; }
            case 29: due("clear", x.clear(), m.clear()); break;
            case 30: { int w = random.nextBoolean() ? some(0, 7992) : some(0, m.now().all() + 1);
                due("window", x.window(w), m.window(w)); break; }
            case 31:
            case 32: { int w = random.nextInt(4) == 0 ? some(0, 999) : some(0, 200), r = some(0, 5);
                due("talks", x.talks(v, c, w, r), m.talks(v, c, w, r)); break; }
            default: { int f = some(1, 5); due("findings", x.findings(f), m.findings(f)); break; }
        }
    }

    /** What some set breathes, so that sets are found. */
    private int breathOfSome(int v) {
        int b = 0;
        for (int i = 0; i < m.kind.size() && v >= 0 && v <= 99; i++) {
            b += random.nextBoolean() ? m.breath(i, v) : 0;
        }
        return random.nextInt(6) == 0 ? some(0, 594) : b;
    }

    private void callRest(int which) {
        int v = some(0, 99), b = breathOfSome(v), r = some(0, 5), n = some(0, 6), p = some(0, 12);
        switch (which) {
            case 34: due("sets", x.sets(v, b), m.sets(v, b)); break;
            case 35: due("sure", x.sure(v, b), m.sure(v, b)); break;
            case 36: due("ask", x.ask(v, b), m.ask(v, b)); break;
            case 37: due("who", x.who(r), m.who(r)); break;
            case 38: due("kinds", x.kinds(r), m.kinds(r)); break;
            case 39: due("test", x.test(r), m.test(r)); break;
            case 40: due("leaks", x.leaks(r), m.leaks(r)); break;
            case 41: { int k = some(0, 2); due("evening", x.evening(v, k), m.evening(v, k)); break; }
            case 42: { int w = random.nextBoolean() ? some(0, 7992) : some(0, m.now().all() + 1);
                due("odds", x.odds(w, n, p), m.odds(w, n, p)); break; }
            case 43: due("mid", x.mid(n, p), m.mid(n, p)); break;
            case 44: { int k = some(1, 20), seed = some(1, 2147483646); due("lots", x.lots(k, seed), m.lots(k, seed)); break; }
            default: { int what = some(0, 12); due("count", x.count(what), m.count(what)); break; }
        }
    }
}
