import java.util.Random;

/** Far-off arguments in many states: no call throws, and what is refused changes nothing but its count. */
public final class NeverThrowsTest {
    private static final int[] FAR = {Integer.MIN_VALUE, Integer.MIN_VALUE + 1, -1000000, -61, -10, -9, -2, -1, 0, 1, 2, 3,
        4, 5, 6, 7, 8, 9, 10, 12, 13, 19, 20, 21, 23, 24, 31, 32, 33, 59, 60, 61, 95, 96, 99, 100, 255, 256, 999, 1000,
        1000000, Integer.MAX_VALUE - 1, Integer.MAX_VALUE};
    private static final String SIGNS = "cchtwsgkupd0123456789;;\0\377";

    private final Check check = new Check();
    private final Random lot = new Random(36);

    public static void main(String[] args) {
        NeverThrowsTest test = new NeverThrowsTest();
        for (int run = 0; run < 150; run++) {
            test.run();
        }
        test.check.end("NeverThrowsTest");
    }

    private int far() {
        return FAR[lot.nextInt(FAR.length)];
    }

    private void run() {
        TheEchosWidow x = new TheEchosWidow();
        Check.gorge(x, "cc05007;ch14108;ct26209;cw35310;cs45411;cg59523;".substring(0, 8 * lot.nextInt(7)));
        for (int i = 0; i < 1200; i++) {
            int call = lot.nextInt(37);
            int a = far();
            int b = far();
            int c = far();
            String before = Check.state(x);
            int refusedBefore = refused(x);
            int answer = one(x, call, a, b, c);
            boolean refusal = answer <= -1 && answer >= -6;
            check.due("refusals behind call " + call, refused(x), refusedBefore + (refusal ? 1 : 0));
            if (refusal) {
                check.holds("call " + call + " (" + a + "," + b + "," + c + ") refused changes nothing", Check.state(x).equals(before));
            }
            if (lot.nextInt(9) == 0) {
                Check.tell(x, junk());
            }
        }
    }

    private String junk() {
        StringBuilder s = new StringBuilder();
        int n = lot.nextInt(40);
        for (int i = 0; i < n; i++) {
            s.append(SIGNS.charAt(lot.nextInt(SIGNS.length())));
        }
        return s.toString();
    }

    private static int refused(TheEchosWidow x) {
        int sum = 0;
        for (int what = 11; what <= 16; what++) {
            sum += x.count(what);
        }
        return sum;
    }

    private static int one(TheEchosWidow x, int call, int a, int b, int c) {
        switch (call) {
            case 0: return x.letter(a);
            case 1: return x.gorge();
            case 2: return x.caller(a, b);
            case 3: return x.known(a);
            case 4: return x.learn(a, b);
            case 5: return x.set(a, b);
            case 6: return x.hour(a, b);
            case 7: return x.days(a);
            case 8: return x.answers(a);
            case 9: return x.says(a);
            case 10: return x.behind(a, b);
            case 11: return x.knownIn(a, b);
            case 12: return x.of(a, b, c);
            case 13: return x.knows(a, b);
            case 14: return x.silent();
            case 15: return x.week(a);
            case 16: return x.bestWeek(a);
            case 17: return x.bestTune(a);
            case 18: return x.worst(a);
            case 19: return x.bestHour(a, b);
            case 20: return x.keepAway(a, b);
            case 21: return x.might(a);
            case 22: return x.never();
            case 23: return x.whose(a);
            case 24: return x.tellsMost();
            case 25: return x.byTurns(a, b, c);
            case 26: return x.snow(a, b);
            case 27: return x.heals(a);
            case 28: return x.row(a);
            case 29: return x.fits();
            case 30: return x.judge();
            case 31: return x.clear();
            case 32: return x.lots(a, b, c);
            case 33: return x.image();
            case 34: return x.on();
            default: return x.count(a);
        }
    }
}
