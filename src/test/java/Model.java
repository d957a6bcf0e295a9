import java.util.ArrayList;
import java.util.Arrays;
import java.util.List;
import java.util.regex.Pattern;

/** The document told once more, as slowly and as near to its words as can be: what ModelTest compares with. */
final class Model {
    static class Caller {
        int figure, tone, word, hour;
        int kind() { return 0; }
        int reach() { return 2; }
        int gain() { return 1; }
        int harm() { return 0; }
        int word(Echo e) {
            int best = -1;
            for (int w = 7; w >= 0; w--) {
                if (w != word && e.known[w] > 0 && (best < 0 || e.known[w] >= e.known[best])) best = w;
            }
            return best < 0 ? word : best;
        }
        Caller fresh() { return new Caller(); }
        final Caller copy() {
            Caller c = fresh();
            c.figure = figure; c.tone = tone; c.word = word; c.hour = hour;
            return c;
        }
    }
    static class Child extends Caller {
        @Override int kind() { return 1; }
        @Override int reach() { return 4; }
        @Override int harm() { return 2; }
        @Override Caller fresh() { return new Child(); }
    }
    static class Tourist extends Caller {
        @Override int kind() { return 2; }
        @Override int gain() { return 0; }
        @Override int harm() { return 1; }
        @Override int word(Echo e) { return word; }
        @Override Caller fresh() { return new Tourist(); }
    }
    static class Widow extends Caller {
        @Override int kind() { return 3; }
        @Override int reach() { return -1; }
        @Override int gain() { return 0; }
        @Override int harm() { return -figure; }
        @Override Caller fresh() { return new Widow(); }
    }
    static class Singer extends Caller {
        @Override int kind() { return 4; }
        @Override int reach() { return 0; }
        @Override int gain() { return 2; }
        @Override Caller fresh() { return new Singer(); }
    }
    static class Grammophone extends Tourist {
        @Override int kind() { return 5; }
        @Override int reach() { return 9; }
        @Override int harm() { return figure; }
        @Override int word(Echo e) { return word == 7 ? 0 : word + 1; }
        @Override Caller fresh() { return new Grammophone(); }
    }

    static class Echo {
        List<Caller> callers = new ArrayList<>();
        int[] known = new int[8];
        int tune = 5, hurt = 0, patience = 10, day = 0;
        List<int[]> said = new ArrayList<>();
        int refusedCalls = 0;

        Echo copy() {
            Echo e = new Echo();
            for (Caller c : callers) e.callers.add(c.copy());
            e.known = known.clone();
            e.tune = tune; e.hurt = hurt; e.patience = patience; e.day = day;
            return e;
        }
        boolean silent() { return hurt > patience; }
        boolean answers(Caller c) { return !silent() && Math.abs(c.tone - tune) <= c.reach(); }
        int says(Caller c) { return answers(c) ? c.word(this) : -9; }
        int all() { return Arrays.stream(known).sum(); }
        int best() {
            int best = -9;
            for (int w = 0; w < 8; w++) if (known[w] > 0 && (best < 0 || known[w] > known[best])) best = w;
            return best;
        }
        void hurtMore(int v) { hurt = Math.min(99, Math.max(0, hurt + v)); }
        Echo go(int n, int away) { for (int i = 0; i < n; i++) dayWithout(away); return this; }
        void dayWithout(int away) {
            boolean any = false, heard = false;
            for (int h = 0; h < 24; h++) {
                for (int i = 0; i < callers.size(); i++) {
                    Caller c = callers.get(i);
                    if (c.hour != h || (away & 1 << i) != 0) continue;
                    boolean yes = answers(c);
                    if (h == 7) { any = true; heard |= yes; }
                    if (yes) {
                        said.add(new int[] {i, c.word(this)});
                        known[c.word] = Math.min(20, known[c.word] + c.gain());
                    } else {
                        refusedCalls++;
                        hurtMore(c.harm());
                    }
                }
            }
            if (!any) hurtMore(1);
            if (heard) hurtMore(-1);
            if (hurt >= 10 && best() >= 0) known[best()]--;
            day++;
        }
        void onlyAtSeven(int i) {
            int hour = callers.get(i).hour;
            callers.get(i).hour = 7;
            dayWithout(255 & ~(1 << i));
            callers.get(i).hour = hour;
        }
        int timesOf(int i) { int n = 0; for (int[] s : said) if (s[0] == i) n++; return n; }
        int lastTo(int i) { int w = -9; for (int[] s : said) if (s[0] == i) w = s[1]; return w; }
    }

    Echo now = new Echo();
    Echo image = null;
    StringBuilder letters = new StringBuilder();
    List<Integer> row = new ArrayList<>();
    int[] refused = new int[7];

    int no(int code) { refused[-code]++; return code; }
    boolean noCaller(int c) { return c < 0 || c >= now.callers.size(); }
    static boolean noWord(int w) { return w < 0 || w > 7; }
    Echo ahead(int n) { return now.copy().go(n, 0); }

    int letter(int c) {
        if (c < 0) return no(-4);
        if (c > 255 || letters.length() == 96) return no(-6);
        letters.append((char) c);
        return letters.length();
    }

    private static final Pattern STATEMENT =
        Pattern.compile("c[chtwsg]\\d{5};|k\\d{3};|t\\d;|[upd]\\d\\d;|h\\d{3};");

    /** Whether something put behind makes statements of it: tried, as "can go on" says it. */
    private static boolean canGoOn(String part) {
        int from = Math.max(part.lastIndexOf(';') + 1, 0);
        String ahead = part.substring(0, from);
        if (!Pattern.matches("(" + STATEMENT + ")*", ahead)) return false;
        String rest = part.substring(from);
        for (String end : new String[] {"", "c", "t"}) {
            for (String fill : new String[] {"cc00000;", "kc00000;", "k000;", "h000;", "t0;", "u00;", "p00;", "d00;"}) {
                for (int cut = 0; cut <= fill.length(); cut++) {
                    if (Pattern.matches(STATEMENT.pattern(), rest + end + fill.substring(cut))) return true;
                }
            }
        }
        return false;
    }

    int gorge() {
        String text = letters.toString();
        letters.setLength(0);
        for (int i = 0; i < text.length(); i++) {
            if (!canGoOn(text.substring(0, i + 1))) return -1000 - i;
        }
        if (!text.endsWith(";")) return -1000 - text.length();
        Echo e = now.copy();
        int n = 0;
        for (int at = 0; at < text.length(); at = text.indexOf(';', at) + 1) {
            if (!comes(e, text.substring(at, text.indexOf(';', at)))) return -2000 - at;
            n++;
        }
        now = e;
        return n;
    }

    private static boolean comes(Echo e, String s) {
        if (s.charAt(0) == 'c') {
            Caller c = switch (s.charAt(1)) {
                case 'c' -> new Caller();
                case 'h' -> new Child();
                case 't' -> new Tourist();
                case 'w' -> new Widow();
                case 's' -> new Singer();
                default -> new Grammophone();
            };
            c.figure = s.charAt(2) - '0';
            c.tone = s.charAt(3) - '0';
            c.word = s.charAt(4) - '0';
            c.hour = Integer.parseInt(s.substring(5));
            e.callers.add(c);
            return c.word <= 7 && c.hour <= 23 && e.callers.size() <= 7;
        }
        int v = Integer.parseInt(s.substring(1));
        switch (s.charAt(0)) {
            case 'k':
                if (v / 100 > 7 || v % 100 > 20) return false;
                e.known[v / 100] = v % 100;
                return true;
            case 't': e.tune = v; return true;
            case 'u': e.hurt = v; return true;
            case 'p': e.patience = v; return v >= 1 && v <= 20;
            case 'h':
                if (v / 100 >= e.callers.size() || v % 100 > 23) return false;
                e.callers.get(v / 100).hour = v % 100;
                return true;
            default:
                if (v < 1 || v > 60) return false;
                e.go(v, 0);
                return e.day <= 999;
        }
    }

    int caller(int c, int what) {
        if (noCaller(c)) return no(-1);
        if (what < 0 || what > 4) return no(-2);
        Caller x = now.callers.get(c);
        return new int[] {x.kind(), x.figure, x.tone, x.word, x.hour}[what];
    }
    int known(int w) { return noWord(w) ? no(-1) : now.known[w]; }
    int learn(int w, int v) {
        if (noWord(w)) return no(-1);
        if (v < 0) return no(-4);
        if (v > 20) return no(-6);
        int was = now.known[w];
        now.known[w] = v;
        return was;
    }
    int set(int what, int v) {
        if (what < 0 || what > 2) return no(-2);
        if (v < new int[] {0, 0, 1}[what]) return no(-4);
        if (v > new int[] {9, 99, 20}[what]) return no(-6);
        int was = new int[] {now.tune, now.hurt, now.patience}[what];
        if (what == 0) now.tune = v;
        if (what == 1) now.hurt = v;
        if (what == 2) now.patience = v;
        return was;
    }
    int hour(int c, int v) {
        if (noCaller(c)) return no(-1);
        if (v < 0) return no(-4);
        if (v > 23) return no(-6);
        int was = now.callers.get(c).hour;
        now.callers.get(c).hour = v;
        return was;
    }
    int days(int n) {
        if (n < 1) return no(-4);
        if (n > 60 || now.day + n > 999) return no(-6);
        now.said.clear();
        return now.go(n, 0).said.size();
    }
    int answers(int c) { return noCaller(c) ? no(-1) : now.answers(now.callers.get(c)) ? 1 : 0; }
    int says(int c) { return noCaller(c) ? no(-1) : now.says(now.callers.get(c)); }
    int span(int n) { return n < 0 ? no(-4) : n > 60 ? no(-6) : 0; }
    int behind(int n, int what) {
        if (n < 0 || n > 60) return span(n);
        if (what < 0 || what > 4) return no(-2);
        Echo e = ahead(n);
        return new int[] {e.hurt, e.all(), e.best(), e.said.size(), e.refusedCalls}[what];
    }
    int knownIn(int n, int w) {
        if (n < 0 || n > 60) return span(n);
        return noWord(w) ? no(-1) : ahead(n).known[w];
    }
    int of(int c, int n, int what) {
        if (noCaller(c)) return no(-1);
        if (n < 0 || n > 60) return span(n);
        if (what != 0 && what != 1) return no(-2);
        return what == 0 ? ahead(n).timesOf(c) : ahead(n).lastTo(c);
    }
    int knows(int w, int v) {
        if (noWord(w)) return no(-1);
        if (v < 0) return no(-4);
        if (v > 20) return no(-6);
        for (int n = 0; n <= 60; n++) if (ahead(n).known[w] >= v) return n;
        return -9;
    }
    int silent() {
        for (int n = 0; n <= 60; n++) if (ahead(n).silent()) return n;
        return -9;
    }
    int week(int what) {
        if (what != 0 && what != 1) return no(-2);
        for (int c : row) if (noCaller(c)) return no(-3);
        Echo e = now.copy();
        for (int c : row) e.onlyAtSeven(c);
        return what == 0 ? e.said.size() : e.hurt;
    }
    int bestWeek(int i) {
        if (i < -1) return no(-4);
        if (i > 2) return no(-6);
        int n = now.callers.size();
        int[] best = null;
        for (int a = 0; a < n; a++) for (int b = 0; b < n; b++) for (int c = 0; c < n; c++) {
            Echo e = now.copy();
            e.onlyAtSeven(a);
            e.onlyAtSeven(b);
            e.onlyAtSeven(c);
            int[] r = {a, b, c, e.said.size(), e.hurt};
            if (best == null || r[3] > best[3] || r[3] == best[3] && r[4] < best[4]) best = r;
        }
        return best == null ? -9 : i == -1 ? best[3] : best[i];
    }
    int bestTune(int n) {
        if (n < 0 || n > 60) return span(n);
        int best = 9, most = -1;
        for (int t = 9; t >= 0; t--) {
            Echo e = now.copy();
            e.tune = t;
            int got = e.go(n, 0).said.size();
            if (got >= most) { most = got; best = t; }
        }
        return best;
    }
    int worst(int n) {
        if (n < 0 || n > 60) return span(n);
        int least = ahead(n).hurt - 1, who = -9;
        for (int c = now.callers.size() - 1; c >= 0; c--) {
            int h = now.copy().go(n, 1 << c).hurt;
            if (h <= least) { least = h; who = c; }
        }
        return who;
    }
    int bestHour(int c, int n) {
        if (noCaller(c)) return no(-1);
        if (n < 0 || n > 60) return span(n);
        int best = 23, most = -1;
        for (int h = 23; h >= 0; h--) {
            Echo e = now.copy();
            e.callers.get(c).hour = h;
            int got = e.go(n, 0).said.size();
            if (got >= most) { most = got; best = h; }
        }
        return best;
    }
    int keepAway(int n, int what) {
        if (n < 0 || n > 60) return span(n);
        if (what != 0 && what != 1) return no(-2);
        if (now.silent()) return no(-3);
        int best = -9;
        for (int away = 0; away < 1 << now.callers.size(); away++) {
            Echo e = now.copy();
            boolean loud = true;
            for (int d = 1; d <= n; d++) { e.dayWithout(away); loud &= !e.silent(); }
            if (loud && (best < 0 || Integer.bitCount(away) < Integer.bitCount(best))) best = away;
        }
        return best < 0 || what == 0 ? best : Integer.bitCount(best);
    }
    int might(int n) {
        if (n < 0 || n > 60) return span(n);
        int bits = 0;
        for (int[] s : ahead(n).said) bits |= 1 << s[1];
        return bits;
    }
    int never() {
        int bits = 255;
        for (int w = 0; w < 8; w++) if (now.known[w] > 0) bits &= ~(1 << w);
        for (Caller c : now.callers) bits &= ~(1 << c.word);
        return bits;
    }
    int whose(int w) {
        if (noWord(w)) return no(-1);
        int bits = 0;
        for (int i = 0; i < now.callers.size(); i++) if (now.says(now.callers.get(i)) == w) bits |= 1 << i;
        return bits;
    }
    int tellsMost() {
        int best = -9, fewest = 99;
        for (int i = 0; i < now.callers.size(); i++) {
            int w = now.says(now.callers.get(i)), others = 0;
            if (w == -9) continue;
            for (int j = 0; j < now.callers.size(); j++) if (j != i && now.says(now.callers.get(j)) == w) others++;
            if (others < fewest) { fewest = others; best = i; }
        }
        return best;
    }
    int byTurns(int a, int b, int n) {
        if (noCaller(a) || noCaller(b) || a == b) return no(-1);
        if (n < 0 || n > 60) return span(n);
        int[][] gotA = new int[2][2], gotB = new int[2][2];
        for (int x = 0; x < 2; x++) for (int y = 0; y < 2; y++) {
            Echo e = now.copy();
            e.callers.get(a).hour = x == 0 ? 7 : 19;
            e.callers.get(b).hour = y == 0 ? 7 : 19;
            e.go(n, 0);
            gotA[x][y] = e.timesOf(a);
            gotB[x][y] = e.timesOf(b);
        }
        for (int x = 0; x < 2; x++) for (int y = 0; y < 2; y++) {
            if (gotA[1 - x][y] <= gotA[x][y] && gotB[x][1 - y] <= gotB[x][y]) return 10 * x + y;
        }
        return -9;
    }
    int snow(int n, int what) {
        if (n < 0 || n > 60) return span(n);
        if (what != 0 && what != 1) return no(-2);
        Echo e = now.copy().go(n, 255);
        return what == 0 ? e.hurt : e.all();
    }
    int heals(int c) {
        if (noCaller(c)) return no(-1);
        Echo e = now.copy();
        for (int n = 0; n <= 200; n++) {
            if (e.hurt == 0) return n;
            e.onlyAtSeven(c);
        }
        return -9;
    }
    int row(int v) {
        if (v < 0) return no(-4);
        if (v > 99 || row.size() == 12) return no(-6);
        row.add(v);
        return row.size();
    }
    int untrue(int tune) {
        for (int i = 0; i < row.size(); i++) {
            Echo e = now.copy();
            e.tune = tune;
            if (Math.min(99, e.go(i, 0).all()) != row.get(i)) return i;
        }
        return -9;
    }
    int fits() {
        int bits = 0;
        for (int t = 0; t < 10; t++) if (untrue(t) == -9) bits |= 1 << t;
        return bits;
    }
    int judge() { int at = untrue(now.tune); row.clear(); return at; }
    int clear() { int n = row.size(); row.clear(); return n; }
    int lots(int n, int z, int what) {
        if (n < 1) return no(-4);
        if (n > 20) return no(-6);
        if (what != 0 && what != 1) return no(-2);
        int said = 0, hurt = 0;
        for (int i = 0; i < n; i++) {
            Echo e = now.copy();
            for (Caller c : e.callers) {
                z = (int) (z * 1664525L + 1013904223L);
                c.tone = (int) ((z & 0x7fffffffL) >> 8) % 10;
            }
            said += e.go(5, 0).said.size();
            hurt += e.hurt;
        }
        return what == 0 ? said : hurt;
    }
    int image() { image = now.copy(); return now.day; }
    int on() {
        if (image == null) return no(-3);
        now = image.copy();
        return now.day;
    }
    int count(int what) {
        if (what >= 11 && what <= 16) return refused[what - 10];
        if (what < 0 || what > 8) return -9;
        return new int[] {now.callers.size(), now.day, now.tune, now.hurt, now.patience, now.all(),
            now.silent() ? 1 : 0, row.size(), letters.length()}[what];
    }
}
