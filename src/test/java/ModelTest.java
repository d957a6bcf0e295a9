import java.util.Random;

/** Many runs by lot (always the same ones), each call answered by the class and by the Model. */
public final class ModelTest {
    private static final String[] CALLS = {
        "letter", "gorge", "caller", "known", "learn", "set", "hour", "days", "answers", "says", "behind", "knownIn",
        "of", "knows", "silent", "week", "bestWeek", "bestTune", "worst", "bestHour", "keepAway", "might", "never",
        "whose", "tellsMost", "byTurns", "snow", "heals", "row", "fits", "judge", "clear", "lots", "image", "on", "count"};

    private final Check check = new Check();
    private final Random lot = new Random(20261118);
    private TheEchosWidow x;
    private Model m;
    private String trail;

    public static void main(String[] args) {
        int runs = args.length > 0 ? Integer.parseInt(args[0]) : 400;
        ModelTest test = new ModelTest();
        for (int run = 0; run < runs; run++) {
            test.run(run);
        }
        test.check.end("ModelTest");
    }

    private void run(int run) {
        x = new TheEchosWidow();
        m = new Model();
        trail = "run " + run;
        tell(someGorge());
        for (int i = 0; i < 120; i++) {
            int pick = lot.nextInt(40);
            if (pick == 0) {
                tell(someGorge());
            } else if (pick == 1) {
                tell(broken(someGorge()));
            } else if (pick < 4) {
                tellTrueRow();
            } else {
                one(CALLS[lot.nextInt(CALLS.length)]);
            }
            look();
        }
    }

    private void look() {
        for (int what = -1; what < 18; what++) {
            check.due(trail + " count(" + what + ")", x.count(what), m.count(what));
        }
        for (int c = 0; c < m.now.callers.size(); c++) {
            for (int what = 0; what < 5; what++) {
                check.due(trail + " caller", x.caller(c, what), m.caller(c, what));
            }
        }
        for (int w = 0; w < 8; w++) {
            check.due(trail + " known(" + w + ")", x.known(w), m.known(w));
        }
    }

    private void tell(String letters) {
        for (int i = 0; i < letters.length() && i < 97; i++) {
            check.due(trail + " letter", x.letter(letters.charAt(i)), m.letter(letters.charAt(i)));
        }
        trail += " \"" + letters + "\"";
        check.due(trail, x.gorge(), m.gorge());
    }

    /** A row that begins as it is due, so that fits and judge come behind the first number. */
    private void tellTrueRow() {
        int n = lot.nextInt(12);
        int wrongAt = lot.nextInt(16);
        for (int i = 0; i < n; i++) {
            int v = Math.min(99, m.ahead(i).all()) + (i == wrongAt ? 1 : 0);
            check.due(trail + " row", x.row(v), m.row(v));
        }
        check.due(trail + " fits of a row", x.fits(), m.fits());
        if (lot.nextBoolean()) {
            check.due(trail + " judge of a row", x.judge(), m.judge());
        }
    }

    private String two(int greatest) {
        int v = lot.nextInt(greatest + 1);
        return v / 10 + "" + v % 10;
    }

    private String someGorge() {
        StringBuilder s = new StringBuilder();
        int callers = 0;
        int n = 1 + lot.nextInt(11);
        for (int i = 0; i < n; i++) {
            switch (lot.nextInt(14)) {
                case 0: s.append('k').append(lot.nextInt(8)).append(two(20)); break;
                case 1: s.append('t').append(lot.nextInt(10)); break;
                case 2: s.append('u').append(two(lot.nextInt(4) == 0 ? 99 : 15)); break;
                case 3: s.append('p').append(two(19).replace("00", "20")); break;
                case 4: s.append('h').append(lot.nextInt(Math.max(1, callers + m.now.callers.size()))).append(two(23)); break;
                case 5: s.append('d').append(two(60)); break;
                default:
                    s.append('c').append("chtwsg".charAt(lot.nextInt(6))).append(lot.nextInt(10));
                    s.append(lot.nextInt(3) == 0 ? lot.nextInt(10) : 3 + lot.nextInt(5)).append(lot.nextInt(8));
                    s.append(lot.nextBoolean() ? "07" : two(23));
                    callers++;
            }
            s.append(';');
        }
        return s.toString();
    }

    private String broken(String s) {
        StringBuilder b = new StringBuilder(s);
        int at = lot.nextInt(s.length());
        switch (lot.nextInt(4)) {
            case 0: b.setCharAt(at, "0123456789;chtwsgkupdx\0\377".charAt(lot.nextInt(24))); break;
            case 1: b.deleteCharAt(at); break;
            case 2: b.insert(at, lot.nextInt(10)); break;
            default: b.setLength(at);
        }
        return b.toString();
    }

    private int near(int greatest) {
        int pick = lot.nextInt(20);
        return pick == 0 ? -1 : pick == 1 ? greatest + 1 : lot.nextInt(greatest + 1);
    }

    private int who() {
        int n = m.now.callers.size();
        return lot.nextInt(12) == 0 ? n : lot.nextInt(16) == 0 ? -1 : lot.nextInt(Math.max(1, n));
    }

    private void one(String call) {
        int a = 0, b = 0, c = 0, got, want;
        switch (call) {
            case "letter": a = lot.nextInt(300) - 20; got = x.letter(a); want = m.letter(a); break;
            case "gorge": got = x.gorge(); want = m.gorge(); break;
            case "caller": a = who(); b = near(4); got = x.caller(a, b); want = m.caller(a, b); break;
            case "known": a = near(7); got = x.known(a); want = m.known(a); break;
            case "learn": a = near(7); b = near(20); got = x.learn(a, b); want = m.learn(a, b); break;
            case "set": a = near(2); b = near(a == 0 ? 9 : lot.nextInt(9) == 0 ? 99 : 20); got = x.set(a, b); want = m.set(a, b); break;
            case "hour": a = who(); b = lot.nextInt(3) == 0 ? 7 : near(23); got = x.hour(a, b); want = m.hour(a, b); break;
            case "days": a = lot.nextInt(3) == 0 ? near(60) : near(4); got = x.days(a); want = m.days(a); break;
            case "answers": a = who(); got = x.answers(a); want = m.answers(a); break;
            case "says": a = who(); got = x.says(a); want = m.says(a); break;
            case "behind": a = near(60); b = near(4); got = x.behind(a, b); want = m.behind(a, b); break;
            case "knownIn": a = near(60); b = near(7); got = x.knownIn(a, b); want = m.knownIn(a, b); break;
            case "of": a = who(); b = near(60); c = near(1); got = x.of(a, b, c); want = m.of(a, b, c); break;
            case "knows": a = near(7); b = near(20); got = x.knows(a, b); want = m.knows(a, b); break;
            case "silent": got = x.silent(); want = m.silent(); break;
            case "week": a = near(1); got = x.week(a); want = m.week(a); break;
            case "bestWeek": a = near(3) - 1; got = x.bestWeek(a); want = m.bestWeek(a); break;
            case "bestTune": a = near(60); got = x.bestTune(a); want = m.bestTune(a); break;
            case "worst": a = near(60); got = x.worst(a); want = m.worst(a); break;
            case "bestHour": a = who(); b = near(60); got = x.bestHour(a, b); want = m.bestHour(a, b); break;
            case "keepAway": a = near(lot.nextInt(4) == 0 ? 60 : 20); b = near(1); got = x.keepAway(a, b); want = m.keepAway(a, b); break;
            case "might": a = near(60); got = x.might(a); want = m.might(a); break;
            case "never": got = x.never(); want = m.never(); break;
            case "whose": a = near(7); got = x.whose(a); want = m.whose(a); break;
            case "tellsMost": got = x.tellsMost(); want = m.tellsMost(); break;
            case "byTurns": a = who(); b = who(); c = near(60); got = x.byTurns(a, b, c); want = m.byTurns(a, b, c); break;
            case "snow": a = near(60); b = near(1); got = x.snow(a, b); want = m.snow(a, b); break;
            case "heals": a = who(); got = x.heals(a); want = m.heals(a); break;
            case "row": a = lot.nextInt(5) == 0 ? near(99) : Math.max(0, who()); got = x.row(a); want = m.row(a); break;
            case "fits": got = x.fits(); want = m.fits(); break;
            case "judge": got = x.judge(); want = m.judge(); break;
            case "clear": got = x.clear(); want = m.clear(); break;
            case "lots": a = near(20); b = lot.nextInt(); c = near(1); got = x.lots(a, b, c); want = m.lots(a, b, c); break;
            case "image": got = x.image(); want = m.image(); break;
            case "on": got = x.on(); want = m.on(); break;
            default: a = near(17); got = x.count(a); want = m.count(a); break;
        }
        trail += " " + call + "(" + a + "," + b + "," + c + ")";
        check.due(trail, got, want);
    }
}
