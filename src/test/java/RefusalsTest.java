import java.util.Arrays;

/**
 * Every promise that names refusals: each call at its least and greatest arguments, one beyond and far beyond,
 * all of them together, so that the first refusal in the order in which they are told is seen.
 */
public final class RefusalsTest {
    private static final Check CHECK = new Check();
    private static final String SEVEN_CALLERS = "cc05007;ch14108;ct26209;cw35310;cs45411;cg59523;cc00000;";

    private interface Call {
        int on(TheEchosWidow x, int[] a);
    }

    /** An argument from least to greatest, with the refusals below and above; a promise tells them from left to right. */
    private record Arg(int least, int greatest, int below, int above) {
        boolean takes(int v) {
            return v >= least && v <= greatest;
        }

        int refusal(int v) {
            return v < least ? below : above;
        }

        int[] values() {
            return new int[] {Integer.MIN_VALUE, least - 1, least, greatest, greatest + 1, Integer.MAX_VALUE};
        }
    }

    private static Arg what(int greatest) {
        return new Arg(0, greatest, -2, -2);
    }

    private static Arg word() {
        return new Arg(0, 7, -1, -1);
    }

    private static Arg caller(int callers) {
        return new Arg(0, callers - 1, -1, -1);
    }

    private static Arg number(int least, int greatest) {
        return new Arg(least, greatest, -4, -6);
    }

    private static Arg ahead() {
        return number(0, 60);
    }

    private static TheEchosWidow withCallers(int callers) {
        TheEchosWidow x = new TheEchosWidow();
        if (callers > 0) {
            Check.gorge(x, SEVEN_CALLERS.substring(0, 8 * callers));
        }
        return x;
    }

    /** Tries all combinations of the arguments' values, each on an object of its own. */
    private static void call(String name, int callers, Call call, Arg... args) {
        int combinations = 1;
        for (int i = 0; i < args.length; i++) {
            combinations *= 6;
        }
        for (int n = 0; n < combinations; n++) {
            int[] a = new int[args.length];
            int rest = n;
            for (int i = 0; i < args.length; i++) {
                a[i] = args[i].values()[rest % 6];
                rest /= 6;
            }
            one(name, withCallers(callers), call, args, a);
        }
    }

    private static void one(String name, TheEchosWidow x, Call call, Arg[] args, int[] a) {
        int want = 0;
        for (int i = args.length - 1; i >= 0; i--) {
            want = args[i].takes(a[i]) ? want : args[i].refusal(a[i]);
        }
        String text = name + Arrays.toString(a);
        if (want != 0) {
            refused(text, x, call, a, want);
            return;
        }
        int answer = call.on(x, a);
        CHECK.holds(text + " is not refused: " + answer, answer >= 0 || answer == -9);
        CHECK.holds(text + " counts no refusal", Check.refusals(x).equals("0 0 0 0 0 0 "));
    }

    private static void refused(String text, TheEchosWidow x, Call call, int[] a, int want) {
        String before = Check.state(x);
        int[] counted = new int[6];
        for (int i = 0; i < 6; i++) {
            counted[i] = x.count(11 + i) + (want == -1 - i ? 1 : 0);
        }
        CHECK.due(text, call.on(x, a), want);
        for (int i = 0; i < 6; i++) {
            CHECK.due("refusals " + (-1 - i) + " behind " + text, x.count(11 + i), counted[i]);
        }
        CHECK.holds(text + " changes nothing else", Check.state(x).equals(before));
    }

    private static void refused(String text, TheEchosWidow x, Call call, int want) {
        refused(text, x, call, new int[0], want);
    }

    public static void main(String[] args) {
        comes();
        is();
        ahead0to60();
        plans();
        words();
        rows();
        states();
        never();
        CHECK.end("RefusalsTest");
    }

    private static void comes() {
        CHECK.begin("2 letter: -4; -6 (255");
        call("letter", 0, (x, a) -> x.letter(a[0]), number(0, 255));
        CHECK.begin("2 letter: 96, too)");
        TheEchosWidow full = new TheEchosWidow();
        Check.tell(full, "t5;".repeat(32));
        CHECK.due("letters", full.count(8), 96);
        refused("letter 97", full, (x, a) -> x.letter(59), -6);
        refused("letter 97, below", full, (x, a) -> x.letter(-1), -4);
        refused("letter 97, above", full, (x, a) -> x.letter(256), -6);
        CHECK.due("the 96 are a gorge", full.gorge(), 32);
        CHECK.due("and are no more", full.letter(59), 1);
        CHECK.begin("9 days: -4; -6 (60");
        call("days", 2, (x, a) -> x.days(a[0]), number(1, 60));
        CHECK.begin("9 days: DAY above 999)");
        TheEchosWidow late = atDay(940);
        refused("days(60) on day 940", late, (x, a) -> x.days(60), -6);
        CHECK.due("days(59) on day 940", late.days(59), 0);
        CHECK.due("day", late.count(1), 999);
        refused("days(1) on day 999", late, (x, a) -> x.days(1), -6);
        refused("days(0) on day 999", late, (x, a) -> x.days(0), -4);
        refused("days(MAX) on day 999", late, (x, a) -> x.days(Integer.MAX_VALUE), -6);
    }

    private static TheEchosWidow atDay(int day) {
        TheEchosWidow x = new TheEchosWidow();
        for (int left = day; left > 0; left -= 60) {
            x.days(Math.min(60, left));
        }
        CHECK.due("day", x.count(1), day);
        return x;
    }

    private static void is() {
        for (int callers : new int[] {0, 1, 7}) {
            CHECK.begin("4 caller: -1; -2 (" + callers + " callers)");
            call("caller", callers, (x, a) -> x.caller(a[0], a[1]), caller(callers), what(4));
            CHECK.begin("8 hour: -1; -4; -6 23 (" + callers + " callers)");
            call("hour", callers, (x, a) -> x.hour(a[0], a[1]), caller(callers), number(0, 23));
            CHECK.begin("10 answers: -1 (" + callers + " callers)");
            call("answers", callers, (x, a) -> x.answers(a[0]), caller(callers));
            CHECK.begin("11 says: -1 (" + callers + " callers)");
            call("says", callers, (x, a) -> x.says(a[0]), caller(callers));
        }
        CHECK.begin("5 known: -1");
        call("known", 0, (x, a) -> x.known(a[0]), word());
        CHECK.begin("6 learn: -1; -4; -6 20");
        call("learn", 0, (x, a) -> x.learn(a[0], a[1]), word(), number(0, 20));
        int[] least = {0, 0, 1};
        int[] greatest = {9, 99, 20};
        for (int w = 0; w < 3; w++) {
            int set = w;
            CHECK.begin("7 set: -4 (0; 0; 1); -6 (9; 99; 20), what " + w);
            call("set " + w, 0, (x, a) -> x.set(set, a[0]), number(least[w], greatest[w]));
        }
        CHECK.begin("7 set: -2");
        for (int what : new int[] {Integer.MIN_VALUE, -1, 3, Integer.MAX_VALUE}) {
            for (int v : new int[] {Integer.MIN_VALUE, -1, 0, 5, 100, Integer.MAX_VALUE}) {
                refused("set " + what + " to " + v, withCallers(1), (x, a) -> x.set(what, v), -2);
            }
        }
    }

    private static void ahead0to60() {
        CHECK.begin("12 behind: -4; -6 60; -2");
        call("behind", 2, (x, a) -> x.behind(a[0], a[1]), ahead(), what(4));
        CHECK.begin("13 knownIn: -4; -6 60; -1");
        call("knownIn", 2, (x, a) -> x.knownIn(a[0], a[1]), ahead(), word());
        for (int callers : new int[] {0, 1, 7}) {
            CHECK.begin("14 of: -1; -4; -6 60; -2 (" + callers + " callers)");
            call("of", callers, (x, a) -> x.of(a[0], a[1], a[2]), caller(callers), ahead(), what(1));
            CHECK.begin("21 bestHour: -1; -4; -6 60 (" + callers + " callers)");
            call("bestHour", callers, (x, a) -> x.bestHour(a[0], a[1]), caller(callers), ahead());
            CHECK.begin("29 heals: -1 (" + callers + " callers)");
            call("heals", callers, (x, a) -> x.heals(a[0]), caller(callers));
            CHECK.begin("19 bestTune: -4; -6 60 (" + callers + " callers)");
            call("bestTune", callers, (x, a) -> x.bestTune(a[0]), ahead());
            CHECK.begin("20 worst: -4; -6 60 (" + callers + " callers)");
            call("worst", callers, (x, a) -> x.worst(a[0]), ahead());
            CHECK.begin("22 keepAway: -4; -6 60; -2 (" + callers + " callers)");
            call("keepAway", callers, (x, a) -> x.keepAway(a[0], a[1]), ahead(), what(1));
            CHECK.begin("23 might: -4; -6 60 (" + callers + " callers)");
            call("might", callers, (x, a) -> x.might(a[0]), ahead());
            CHECK.begin("28 snow: -4; -6 60; -2 (" + callers + " callers)");
            call("snow", callers, (x, a) -> x.snow(a[0], a[1]), ahead(), what(1));
        }
        CHECK.begin("15 knows: -1; -4; -6 20");
        call("knows", 2, (x, a) -> x.knows(a[0], a[1]), word(), number(0, 20));
    }

    private static void plans() {
        CHECK.begin("17 week: -2");
        call("week", 1, (x, a) -> x.week(a[0]), what(1));
        for (int callers : new int[] {0, 1, 7}) {
            CHECK.begin("18 bestWeek: -4 below -1; -6 2 (" + callers + " callers)");
            call("bestWeek", callers, (x, a) -> x.bestWeek(a[0]), number(-1, 2));
        }
        CHECK.begin("27 byTurns: -1 either; -4; -6 60");
        for (int callers : new int[] {0, 1, 2, 7}) {
            for (int one = -1; one <= callers; one++) {
                turns(callers, one);
            }
        }
        CHECK.begin("27 byTurns: one twice, too");
        for (int n : new int[] {Integer.MIN_VALUE, -1, 0, 60, 61, Integer.MAX_VALUE}) {
            refused("byTurns(0, 0, " + n + ")", withCallers(1), (x, a) -> x.byTurns(0, 0, n), -1);
            refused("byTurns(6, 6, " + n + ")", withCallers(7), (x, a) -> x.byTurns(6, 6, n), -1);
        }
    }

    /** One as the first and as the second, with all values of the other. */
    private static void turns(int callers, int one) {
        for (int other : caller(callers).values()) {
            for (int n : ahead().values()) {
                boolean both = caller(callers).takes(one) && caller(callers).takes(other) && one != other;
                int want = !both ? -1 : ahead().takes(n) ? 0 : ahead().refusal(n);
                for (int[] pair : new int[][] {{one, other, n}, {other, one, n}}) {
                    Arg[] none = new Arg[0];
                    Call call = (x, a) -> x.byTurns(pair[0], pair[1], pair[2]);
                    String text = "byTurns" + Arrays.toString(pair);
                    if (want == 0) {
                        one(text, withCallers(callers), call, none, pair);
                    } else {
                        refused(text, withCallers(callers), call, want);
                    }
                }
            }
        }
    }

    private static void words() {
        for (int callers : new int[] {0, 1, 7}) {
            CHECK.begin("25 whose: -1 (" + callers + " callers)");
            call("whose", callers, (x, a) -> x.whose(a[0]), word());
        }
    }

    private static void rows() {
        CHECK.begin("30 row: -4; -6 (99");
        call("row", 0, (x, a) -> x.row(a[0]), number(0, 99));
        CHECK.begin("30 row: 12, too)");
        TheEchosWidow x = new TheEchosWidow();
        for (int i = 1; i <= 12; i++) {
            CHECK.due("row", x.row(i % 2 == 0 ? 0 : 99), i);
        }
        refused("row 13", x, (y, a) -> y.row(0), -6);
        refused("row 13, below", x, (y, a) -> y.row(-1), -4);
        refused("row 13, above", x, (y, a) -> y.row(100), -6);
        CHECK.due("the row had 12", x.clear(), 12);
        CHECK.due("room again", x.row(99), 1);
        CHECK.begin("34 lots: -4; -6 20; -2");
        for (int z : new int[] {Integer.MIN_VALUE, -1, 0, 1, Integer.MAX_VALUE}) {
            call("lots by " + z, 2, (y, a) -> y.lots(a[0], z, a[1]), number(1, 20), what(1));
        }
    }

    private static void states() {
        CHECK.begin("17 week: -3 one of it is no CALLER");
        for (int place = 0; place < 12; place++) {
            TheEchosWidow x = withCallers(3);
            for (int i = 0; i < 12; i++) {
                x.row(i == place ? 3 : i % 3);
            }
            refused("week, no caller at " + place, x, (y, a) -> y.week(0), -3);
            refused("week, no caller at " + place, x, (y, a) -> y.week(1), -3);
            refused("week, other, no caller at " + place, x, (y, a) -> y.week(2), -2);
            refused("week, other, no caller at " + place, x, (y, a) -> y.week(-1), -2);
        }
        TheEchosWidow none = withCallers(0);
        CHECK.due("an empty row, nobody there", none.week(0), 0);
        none.row(0);
        refused("week, nobody there", none, (y, a) -> y.week(0), -3);
        TheEchosWidow far = withCallers(7);
        far.row(99);
        refused("week, no caller 99", far, (y, a) -> y.week(0), -3);
        CHECK.begin("22 keepAway: -3 it is SILENT now");
        for (int patience : new int[] {1, 10, 20}) {
            TheEchosWidow x = withCallers(1);
            x.set(2, patience);
            x.set(1, patience);
            CHECK.due("not silent at " + patience, x.keepAway(0, 0), 0);
            x.set(1, patience + 1);
            refused("silent above " + patience, x, (y, a) -> y.keepAway(0, 0), -3);
            refused("silent, all days", x, (y, a) -> y.keepAway(60, 1), -3);
            refused("silent, below", x, (y, a) -> y.keepAway(-1, 0), -4);
            refused("silent, above", x, (y, a) -> y.keepAway(61, 0), -6);
            refused("silent, other", x, (y, a) -> y.keepAway(0, 2), -2);
            refused("silent, below and other", x, (y, a) -> y.keepAway(-1, -1), -4);
        }
        CHECK.begin("36 on: -3 there is none");
        refused("on", new TheEchosWidow(), (y, a) -> y.on(), -3);
        TheEchosWidow x = withCallers(2);
        refused("on", x, (y, a) -> y.on(), -3);
        refused("on again", x, (y, a) -> y.on(), -3);
        CHECK.due("image", x.image(), 0);
        CHECK.due("on from it", x.on(), 0);
        CHECK.due("on from it again", x.on(), 0);
    }

    /** What is never refused, and what answers -9, counts no refusal. */
    private static void never() {
        CHECK.begin("3 gorge: the FAULT (nothing is counted)");
        for (String letters : new String[] {"", "x", "t5", "ct", "p00;", "k800;", "h000;", "d61;", "cc00800;"}) {
            TheEchosWidow x = new TheEchosWidow();
            CHECK.holds("a fault", Check.gorge(x, letters) <= -1000);
            CHECK.holds("is not counted: " + letters, Check.refusals(x).equals("0 0 0 0 0 0 "));
        }
        CHECK.begin("37 count: -9 for another what");
        TheEchosWidow x = new TheEchosWidow();
        for (int what : new int[] {Integer.MIN_VALUE, -11, -2, -1, 9, 10, 17, 18, 27, Integer.MAX_VALUE}) {
            CHECK.due("count(" + what + ")", x.count(what), -9);
        }
        CHECK.due("refusals -5: there are none", x.count(15), 0);
        CHECK.holds("is not counted", Check.refusals(x).equals("0 0 0 0 0 0 "));
        CHECK.begin("-9 is no REFUSAL");
        TheEchosWidow y = Check.of("ct00107;u10;p10;");
        CHECK.due("says", y.says(0), -9);
        CHECK.due("behind", y.behind(60, 2), -9);
        CHECK.due("of", y.of(0, 60, 1), -9);
        CHECK.due("knows", y.knows(0, 1), -9);
        CHECK.due("worst", y.worst(1), -9);
        CHECK.due("keepAway", y.keepAway(1, 0), -9);
        CHECK.due("tellsMost", y.tellsMost(), -9);
        CHECK.due("heals", y.heals(0), -9);
        CHECK.due("judge", y.judge(), -9);
        y.set(0, 0);
        y.set(1, 0);
        CHECK.due("silent", y.silent(), -9);
        CHECK.due("bestWeek", new TheEchosWidow().bestWeek(0), -9);
        CHECK.holds("is not counted", Check.refusals(y).equals("0 0 0 0 0 0 "));
    }
}
