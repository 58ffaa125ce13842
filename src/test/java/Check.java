/** What the tests share: a count of wrong answers, and clubs by their texts. */
final class Check {
    private static int wrong = 0;
    private static int looked = 0;
    private static String part = "";

    private Check() {
    }

    /** What is looked at from here on, told ahead of each wrong answer. */
    static void inside(String name) {
        part = name;
    }

    static void due(String call, long got, long want) {
        looked++;
        if (got != want) {
            wrong++;
            if (wrong <= 40) {
                System.out.println(part + call + " answered " + got + ", due is " + want);
            }
        }
    }

    static void holds(String what, boolean so) {
        due(what, so ? 1 : 0, 1);
    }

    static void end() {
        System.out.println(looked + " answers looked at, " + wrong + " wrong");
        if (wrong != 0) {
            System.exit(1);
        }
    }

    static void write(ClubSmoke x, int t, String signs) {
        due("text(" + t + ", " + signs.length() + ")", x.text(t, signs.length()), signs.length());
        for (int i = 0; i < signs.length(); i++) {
            due("put(" + t + ", " + i + ", " + signs.charAt(i) + ")", x.put(t, i, signs.charAt(i)), 1032);
        }
    }

    static ClubSmoke club(String signs) {
        ClubSmoke x = new ClubSmoke();
        write(x, 0, signs);
        holds("club '" + signs + "'", x.club(0) > 0);
        return x;
    }

    static void fill(ClubSmoke x, int r, int... values) {
        due("row(" + r + ", " + values.length + ")", x.row(r, values.length), values.length);
        for (int i = 0; i < values.length; i++) {
            due("lay(" + r + ", " + i + ", " + values[i] + ")", x.lay(r, i, values[i]), 1);
        }
    }

    /** A place, or -77 - what at() answered, if it was refused. */
    static long place(ClubSmoke x, int r, int i) {
        int answer = x.at(r, i);
        return answer == 1 ? x.asked() : -77 + answer;
    }

    static void finds(String call, ClubSmoke x, long got, int finding) {
        due(call, got, ClubSmoke.FINDING);
        due(call + " finding()", x.finding(), finding);
    }
}
