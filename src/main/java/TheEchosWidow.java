import java.util.Arrays;

/** A gorge, its echo and those who call in it: see DOC.md for every promise. */
public final class TheEchosWidow {
    private static final int NOBODY = -1;
    private static final int OTHER = -2;
    private static final int STATE = -3;
    private static final int BELOW = -4;
    private static final int ROOM = -6;
    private static final int NONE = -9;

    private static final int WORDS = 8;
    private static final int TUNES = 10;
    private static final int HOURS = 24;
    private static final int MOST_CALLERS = 7;
    private static final int MOST_KNOWN = 20;
    private static final int MOST_HURT = 99;
    private static final int MOST_PATIENCE = 20;
    private static final int MOST_DAY = 999;
    private static final int MOST_AHEAD = 60;
    private static final int MOST_LETTERS = 96;
    private static final int MOST_TOLD = 12;
    private static final int MOST_HEALING = 200;
    private static final int MOST_LOTS = 20;
    private static final int LOT_DAYS = 5;
    private static final int WITHOUT_SIGN = 0x7fffffff;
    private static final int SEVEN = 7;
    private static final int NINETEEN = 19;
    private static final int FORGETS_FROM = 10;
    private static final int EVERYBODY = (1 << MOST_CALLERS) - 1;

    /* The kinds c, h, t, w, s, g; what the document leaves to the kind above is written out. */
    private static final String KIND_LETTERS = "chtwsg";
    private static final int NEVER_NEAR = -1;
    private static final int[] REACH = {2, 4, 2, NEVER_NEAR, 0, 9};
    private static final int[] GAIN = {1, 1, 0, 0, 2, 0};
    private static final int[] HARM = {0, 2, 1, 0, 0, 0};
    private static final int[] HARM_BY_FIGURE = {0, 0, 0, -1, 0, 1};
    private static final int SAYS_BEST = 0;
    private static final int SAYS_OWN = 1;
    private static final int SAYS_NEXT = 2;
    private static final int[] MANNER = {SAYS_BEST, SAYS_BEST, SAYS_OWN, SAYS_BEST, SAYS_BEST, SAYS_NEXT};

    private final Gorge now = new Gorge();
    private final Gorge mind = new Gorge();
    private final Gorge kept = new Gorge();
    private boolean imageTaken = false;
    private final Text text = new Text();
    private final int[] told = new int[MOST_TOLD];
    private int toldCount = 0;
    private final int[] refusals = new int[-ROOM];

    public TheEchosWidow() {
    }

    // ---- what comes and what is ----

    public int letter(int c) {
        int no = rangeNo(c, 0, 255);
        if (no == 0 && text.length >= MOST_LETTERS) {
            no = ROOM;
        }
        if (no != 0) {
            return refuse(no);
        }
        text.add(c);
        return text.length;
    }

    public int gorge() {
        int formFault = text.faultOfForm();
        int senseFault = formFault == NONE ? text.faultOfSense(now.callers, now.day) : NONE;
        int answer;
        if (formFault != NONE) {
            answer = -1000 - formFault;
        } else if (senseFault != NONE) {
            answer = -2000 - senseFault;
        } else {
            answer = text.comeTo(now);
        }
        text.length = 0;
        return answer;
    }

    public int caller(int caller, int what) {
        int no = first(callerNo(caller), whatNo(what, 4));
        if (no != 0) {
            return refuse(no);
        }
        switch (what) {
            case 0: return at(now.kinds, caller);
            case 1: return at(now.figures, caller);
            case 2: return at(now.tones, caller);
            case 3: return at(now.words, caller);
            default: return at(now.hours, caller);
        }
    }

    public int known(int word) {
        int no = wordNo(word);
        return no != 0 ? refuse(no) : at(now.known, word);
    }

    public int learn(int word, int v) {
        int no = first(wordNo(word), rangeNo(v, 0, MOST_KNOWN));
        if (no != 0) {
            return refuse(no);
        }
        int was = at(now.known, word);
        put(now.known, word, v);
        return was;
    }

    public int set(int what, int v) {
        int no = first(whatNo(what, 2), settingNo(what, v));
        if (no != 0) {
            return refuse(no);
        }
        int was;
        if (what == 0) {
            was = now.tune;
            now.tune = v;
        } else if (what == 1) {
            was = now.hurt;
            now.hurt = v;
        } else {
            was = now.patience;
            now.patience = v;
        }
        return was;
    }

    public int hour(int caller, int v) {
        int no = first(callerNo(caller), rangeNo(v, 0, HOURS - 1));
        if (no != 0) {
            return refuse(no);
        }
        int was = at(now.hours, caller);
        now.moveTo(caller, v);
        return was;
    }

    public int days(int n) {
        int no = rangeNo(n, 1, MOST_AHEAD);
        if (no == 0 && now.day + n > MOST_DAY) {
            no = ROOM;
        }
        if (no != 0) {
            return refuse(no);
        }
        now.heard.forget();
        now.passDays(n, EVERYBODY);
        return now.heard.answered;
    }

    public int count(int what) {
        switch (what) {
            case 0: return now.callers;
            case 1: return now.day;
            case 2: return now.tune;
            case 3: return now.hurt;
            case 4: return now.patience;
            case 5: return now.allKnown();
            case 6: return now.isSilent() ? 1 : 0;
            case 7: return toldCount;
            case 8: return text.length;
            default: return what >= 11 && what <= 16 ? at(refusals, what - 11) : NONE;
        }
    }

    // ---- what it answers, now and in the days to come ----

    public int answers(int caller) {
        int no = callerNo(caller);
        if (no != 0) {
            return refuse(no);
        }
        return now.wouldAnswer(caller) ? 1 : 0;
    }

    public int says(int caller) {
        int no = callerNo(caller);
        return no != 0 ? refuse(no) : now.wordOrNone(caller);
    }

    public int behind(int n, int what) {
        int no = first(aheadNo(n), whatNo(what, 4));
        if (no != 0) {
            return refuse(no);
        }
        lookAhead(n, EVERYBODY);
        switch (what) {
            case 0: return mind.hurt;
            case 1: return mind.allKnown();
            case 2: return mind.bestBut(NONE);
            case 3: return mind.heard.answered;
            default: return mind.heard.unanswered;
        }
    }

    public int knownIn(int n, int word) {
        int no = first(aheadNo(n), wordNo(word));
        if (no != 0) {
            return refuse(no);
        }
        lookAhead(n, EVERYBODY);
        return at(mind.known, word);
    }

    public int of(int caller, int n, int what) {
        int no = first(callerNo(caller), first(aheadNo(n), whatNo(what, 1)));
        if (no != 0) {
            return refuse(no);
        }
        lookAhead(n, EVERYBODY);
        return at(what == 0 ? mind.heard.times : mind.heard.last, caller);
    }

    public int knows(int word, int v) {
        int no = first(wordNo(word), rangeNo(v, 0, MOST_KNOWN));
        if (no != 0) {
            return refuse(no);
        }
        think();
        for (int day = 0; day <= MOST_AHEAD; day++) {
            if (at(mind.known, word) >= v) {
                return day;
            }
            mind.passDay(EVERYBODY);
        }
        return NONE;
    }

    public int silent() {
        think();
        for (int day = 0; day <= MOST_AHEAD; day++) {
            if (mind.isSilent()) {
                return day;
            }
            mind.passDay(EVERYBODY);
        }
        return NONE;
    }

    public int might(int n) {
        int no = aheadNo(n);
        if (no != 0) {
            return refuse(no);
        }
        lookAhead(n, EVERYBODY);
        return mind.heard.said;
    }

    public int snow(int n, int what) {
        int no = first(aheadNo(n), whatNo(what, 1));
        if (no != 0) {
            return refuse(no);
        }
        lookAhead(n, 0);
        return what == 0 ? mind.hurt : mind.allKnown();
    }

    public int heals(int caller) {
        int no = callerNo(caller);
        if (no != 0) {
            return refuse(no);
        }
        think();
        mind.moveAllTo(SEVEN);
        for (int day = 0; day <= MOST_HEALING; day++) {
            if (mind.hurt == 0) {
                return day;
            }
            mind.passDay(1 << caller);
        }
        return NONE;
    }

    // ---- whom to send, at which hour, in which tune ----

    public int week(int what) {
        int no = whatNo(what, 1);
        for (int i = 0; i < toldCount && no == 0; i++) {
            if (!now.has(at(told, i))) {
                no = STATE;
            }
        }
        if (no != 0) {
            return refuse(no);
        }
        think();
        mind.moveAllTo(SEVEN);
        for (int i = 0; i < toldCount; i++) {
            mind.passDay(1 << at(told, i));
        }
        return what == 0 ? mind.heard.answered : mind.hurt;
    }

    public int bestWeek(int i) {
        int no = rangeNo(i, -1, 2);
        if (no != 0) {
            return refuse(no);
        }
        int best = NONE;
        int bestWorth = 0;
        int bestAnswers = NONE;
        int rows = now.callers * now.callers * now.callers;
        for (int row = 0; row < rows; row++) {
            thinkWeekOf(row);
            // Answers go first: no difference of hurts can outweigh one of them.
            int worth = mind.heard.answered * (MOST_HURT + 1) - mind.hurt;
            if (best == NONE || worth > bestWorth) {
                best = row;
                bestWorth = worth;
                bestAnswers = mind.heard.answered;
            }
        }
        return i == -1 || best == NONE ? bestAnswers : inRow(best, i);
    }

    public int bestTune(int n) {
        int no = aheadNo(n);
        if (no != 0) {
            return refuse(no);
        }
        int best = 0;
        int most = -1;
        for (int tune = 0; tune < TUNES; tune++) {
            think();
            mind.tune = tune;
            mind.passDays(n, EVERYBODY);
            if (mind.heard.answered > most) {
                most = mind.heard.answered;
                best = tune;
            }
        }
        return best;
    }

    public int bestHour(int caller, int n) {
        int no = first(callerNo(caller), aheadNo(n));
        if (no != 0) {
            return refuse(no);
        }
        int best = 0;
        int most = -1;
        for (int hour = 0; hour < HOURS; hour++) {
            think();
            mind.moveTo(caller, hour);
            mind.passDays(n, EVERYBODY);
            if (mind.heard.answered > most) {
                most = mind.heard.answered;
                best = hour;
            }
        }
        return best;
    }

    public int worst(int n) {
        int no = aheadNo(n);
        if (no != 0) {
            return refuse(no);
        }
        lookAhead(n, EVERYBODY);
        int least = mind.hurt;
        int worst = NONE;
        for (int c = 0; c < now.callers; c++) {
            lookAhead(n, without(1 << c));
            if (mind.hurt < least) {
                least = mind.hurt;
                worst = c;
            }
        }
        return worst;
    }

    public int keepAway(int n, int what) {
        int no = first(aheadNo(n), whatNo(what, 1));
        if (no == 0 && now.isSilent()) {
            no = STATE;
        }
        if (no != 0) {
            return refuse(no);
        }
        for (int many = 0; many <= now.callers; many++) {
            for (int away = 0; away < 1 << now.callers; away++) {
                if (Integer.bitCount(away) == many && staysLoud(n, without(away))) {
                    return what == 0 ? away : many;
                }
            }
        }
        return NONE;
    }

    public int byTurns(int a, int b, int n) {
        int no = first(callerNo(a), callerNo(b));
        if (no == 0 && a == b) {
            no = NOBODY;
        }
        no = first(no, aheadNo(n));
        if (no != 0) {
            return refuse(no);
        }
        for (int pair = 0; pair < 4; pair++) {
            int ofA = pair / 2;
            int ofB = pair % 2;
            thinkTurns(a, ofA, b, ofB, n);
            int timesA = at(mind.heard.times, a);
            int timesB = at(mind.heard.times, b);
            thinkTurns(a, 1 - ofA, b, ofB, n);
            boolean contentA = timesA >= at(mind.heard.times, a);
            thinkTurns(a, ofA, b, 1 - ofB, n);
            boolean contentB = timesB >= at(mind.heard.times, b);
            if (contentA && contentB) {
                return 10 * ofA + ofB;
            }
        }
        return NONE;
    }

    // ---- what a word tells ----

    public int never() {
        int bits = 0;
        for (int word = 0; word < WORDS; word++) {
            if (at(now.known, word) == 0 && !now.isCalled(word)) {
                bits |= 1 << word;
            }
        }
        return bits;
    }

    public int whose(int word) {
        int no = wordNo(word);
        return no != 0 ? refuse(no) : hearersOf(word);
    }

    public int tellsMost() {
        int best = NONE;
        int fewest = MOST_CALLERS + 1;
        for (int c = 0; c < now.callers; c++) {
            int hearers = Integer.bitCount(hearersOf(now.wordOrNone(c)));
            if (now.wouldAnswer(c) && hearers < fewest) {
                fewest = hearers;
                best = c;
            }
        }
        return best;
    }

    // ---- the row, lots, the image ----

    public int row(int v) {
        int no = rangeNo(v, 0, 99);
        if (no == 0 && toldCount >= MOST_TOLD) {
            no = ROOM;
        }
        if (no != 0) {
            return refuse(no);
        }
        put(told, toldCount, v);
        toldCount++;
        return toldCount;
    }

    public int fits() {
        int bits = 0;
        for (int tune = 0; tune < TUNES; tune++) {
            if (firstUntrue(tune) == NONE) {
                bits |= 1 << tune;
            }
        }
        return bits;
    }

    public int judge() {
        int answer = firstUntrue(now.tune);
        toldCount = 0;
        return answer;
    }

    public int clear() {
        int had = toldCount;
        toldCount = 0;
        return had;
    }

    public int lots(int n, int z, int what) {
        int no = first(rangeNo(n, 1, MOST_LOTS), whatNo(what, 1));
        if (no != 0) {
            return refuse(no);
        }
        int seed = z;
        int answersInAll = 0;
        int hurtInAll = 0;
        for (int lot = 0; lot < n; lot++) {
            think();
            for (int c = 0; c < mind.callers; c++) {
                seed = seed * 1664525 + 1013904223;
                put(mind.tones, c, (seed & WITHOUT_SIGN) / 256 % TUNES);
            }
            mind.passDays(LOT_DAYS, EVERYBODY);
            answersInAll += mind.heard.answered;
            hurtInAll += mind.hurt;
        }
        return what == 0 ? answersInAll : hurtInAll;
    }

    public int image() {
        kept.copyFrom(now);
        imageTaken = true;
        return now.day;
    }

    public int on() {
        if (!imageTaken) {
            return refuse(STATE);
        }
        now.copyFrom(kept);
        return now.day;
    }

    // ---- refusals: each "No" is 0 where there is nothing to refuse ----

    private int refuse(int no) {
        int i = -no - 1;
        put(refusals, i, at(refusals, i) + 1);
        return no;
    }

    private static int first(int no, int otherwise) {
        return no != 0 ? no : otherwise;
    }

    private static int rangeNo(int v, int least, int greatest) {
        if (v < least) {
            return BELOW;
        }
        return v > greatest ? ROOM : 0;
    }

    private static int aheadNo(int n) {
        return rangeNo(n, 0, MOST_AHEAD);
    }

    private static int whatNo(int what, int greatest) {
        return what < 0 || what > greatest ? OTHER : 0;
    }

    private static int settingNo(int what, int v) {
        if (what == 0) {
            return rangeNo(v, 0, TUNES - 1);
        }
        return what == 1 ? rangeNo(v, 0, MOST_HURT) : rangeNo(v, 1, MOST_PATIENCE);
    }

    private static int wordNo(int word) {
        return word < 0 || word >= WORDS ? NOBODY : 0;
    }

    private int callerNo(int caller) {
        return now.has(caller) ? 0 : NOBODY;
    }

    // ---- parts of the calls ----

    private void think() {
        mind.copyFrom(now);
        mind.heard.forget();
    }

    private void lookAhead(int n, int who) {
        think();
        mind.passDays(n, who);
    }

    private static int without(int away) {
        return EVERYBODY & ~away;
    }

    private boolean staysLoud(int n, int who) {
        think();
        for (int day = 0; day < n; day++) {
            mind.passDay(who);
            if (mind.isSilent()) {
                return false;
            }
        }
        return true;
    }

    /** The i-th of three callers, where a row is told as a number of three places. */
    private int inRow(int row, int i) {
        int base = Math.max(1, now.callers);
        if (i == 0) {
            return row / base / base;
        }
        return i == 1 ? row / base % base : row % base;
    }

    private void thinkWeekOf(int row) {
        think();
        mind.moveAllTo(SEVEN);
        for (int i = 0; i < 3; i++) {
            mind.passDay(1 << inRow(row, i));
        }
    }

    private void thinkTurns(int a, int ofA, int b, int ofB, int n) {
        think();
        mind.moveTo(a, ofA == 0 ? SEVEN : NINETEEN);
        mind.moveTo(b, ofB == 0 ? SEVEN : NINETEEN);
        mind.passDays(n, EVERYBODY);
    }

    /** Bits of those to whom it would say a word now. */
    private int hearersOf(int word) {
        int bits = 0;
        for (int c = 0; c < now.callers; c++) {
            if (now.wordOrNone(c) == word) {
                bits |= 1 << c;
            }
        }
        return bits;
    }

    /** The place of the first number of the row that would not be so in a tune. */
    private int firstUntrue(int tune) {
        think();
        mind.tune = tune;
        for (int i = 0; i < toldCount; i++) {
            if (at(told, i) != Math.min(99, mind.allKnown())) {
                return i;
            }
            mind.passDay(EVERYBODY);
        }
        return NONE;
    }

    // ---- rows of numbers, never read or written outside ----

    private static int at(int[] numbers, int i) {
        return i >= 0 && i < numbers.length ? numbers[i] : 0;
    }

    private static void put(int[] numbers, int i, int v) {
        if (i >= 0 && i < numbers.length) {
            numbers[i] = v;
        }
    }

    private static void copy(int[] from, int[] to) {
        System.arraycopy(from, 0, to, 0, Math.min(from.length, to.length));
    }

    /** What was answered, and to whom, since it was last forgotten. */
    private static final class Heard {
        int answered = 0;
        int unanswered = 0;
        int said = 0;
        final int[] times = new int[MOST_CALLERS];
        final int[] last = new int[MOST_CALLERS];

        void forget() {
            answered = 0;
            unanswered = 0;
            said = 0;
            Arrays.fill(times, 0);
            Arrays.fill(last, NONE);
        }

        void noteAnswer(int caller, int word) {
            answered++;
            said |= 1 << word;
            put(times, caller, at(times, caller) + 1);
            put(last, caller, word);
        }
    }

    /** The echo and its callers; one is as things are, others are for looking ahead and back. */
    private static final class Gorge {
        int callers = 0;
        final int[] kinds = new int[MOST_CALLERS];
        final int[] figures = new int[MOST_CALLERS];
        final int[] tones = new int[MOST_CALLERS];
        final int[] words = new int[MOST_CALLERS];
        final int[] hours = new int[MOST_CALLERS];
        /* Who calls in which order, kept beside the hours so that no day has to sort. */
        final int[] order = new int[MOST_CALLERS];
        final int[] known = new int[WORDS];
        int tune = 5;
        int hurt = 0;
        int patience = 10;
        int day = 0;
        final Heard heard = new Heard();

        void copyFrom(Gorge other) {
            callers = other.callers;
            copy(other.kinds, kinds);
            copy(other.figures, figures);
            copy(other.tones, tones);
            copy(other.words, words);
            copy(other.hours, hours);
            copy(other.order, order);
            copy(other.known, known);
            tune = other.tune;
            hurt = other.hurt;
            patience = other.patience;
            day = other.day;
        }

        boolean has(int caller) {
            return caller >= 0 && caller < callers;
        }

        void addCaller(int kind, int figure, int tone, int word, int hour) {
            if (callers >= MOST_CALLERS) {
                return;
            }
            put(kinds, callers, kind);
            put(figures, callers, figure);
            put(tones, callers, tone);
            put(words, callers, word);
            put(hours, callers, hour);
            callers++;
            arrange();
        }

        void moveTo(int caller, int hour) {
            put(hours, caller, hour);
            arrange();
        }

        void moveAllTo(int hour) {
            Arrays.fill(hours, hour);
            arrange();
        }

        private void arrange() {
            int next = 0;
            for (int hour = 0; hour < HOURS && next < callers; hour++) {
                for (int c = 0; c < callers; c++) {
                    if (at(hours, c) == hour) {
                        put(order, next, c);
                        next++;
                    }
                }
            }
        }

        boolean isSilent() {
            return hurt > patience;
        }

        boolean isCalled(int word) {
            for (int c = 0; c < callers; c++) {
                if (at(words, c) == word) {
                    return true;
                }
            }
            return false;
        }

        int allKnown() {
            int sum = 0;
            for (int word = 0; word < known.length; word++) {
                sum += known[word];
            }
            return sum;
        }

        /** The word known best of all but one, or NONE if none of these is known. */
        int bestBut(int but) {
            int best = NONE;
            int most = 0;
            for (int word = 0; word < known.length; word++) {
                if (word != but && known[word] > most) {
                    most = known[word];
                    best = word;
                }
            }
            return best;
        }

        boolean wouldAnswer(int caller) {
            int far = Math.abs(at(tones, caller) - tune);
            return !isSilent() && far <= at(REACH, at(kinds, caller));
        }

        int wordOrNone(int caller) {
            return wouldAnswer(caller) ? wordFor(caller) : NONE;
        }

        private int wordFor(int caller) {
            int own = at(words, caller);
            int manner = at(MANNER, at(kinds, caller));
            if (manner == SAYS_NEXT) {
                return (own + 1) % WORDS;
            }
            int best = manner == SAYS_OWN ? NONE : bestBut(own);
            return best == NONE ? own : best;
        }

        void passDays(int n, int who) {
            for (int i = 0; i < n; i++) {
                passDay(who);
            }
        }

        /** A day on which only those of the bits call. */
        void passDay(int who) {
            boolean calledAtSeven = false;
            boolean answeredAtSeven = false;
            for (int i = 0; i < callers; i++) {
                int c = at(order, i);
                if ((who >> c & 1) != 0) {
                    boolean answered = hearCall(c);
                    if (at(hours, c) == SEVEN) {
                        calledAtSeven = true;
                        answeredAtSeven = answeredAtSeven || answered;
                    }
                }
            }
            endDay(calledAtSeven, answeredAtSeven);
        }

        private boolean hearCall(int c) {
            int kind = at(kinds, c);
            boolean answered = wouldAnswer(c);
            if (answered) {
                heard.noteAnswer(c, wordFor(c));
                int word = at(words, c);
                put(known, word, Math.min(MOST_KNOWN, at(known, word) + at(GAIN, kind)));
            } else {
                heard.unanswered++;
                hurtBy(at(HARM, kind) + at(HARM_BY_FIGURE, kind) * at(figures, c));
            }
            return answered;
        }

        private void endDay(boolean calledAtSeven, boolean answeredAtSeven) {
            if (!calledAtSeven) {
                hurtBy(1);
            }
            if (answeredAtSeven) {
                hurtBy(-1);
            }
            int forgotten = hurt >= FORGETS_FROM ? bestBut(NONE) : NONE;
            if (forgotten != NONE) {
                put(known, forgotten, at(known, forgotten) - 1);
            }
            day++;
        }

        private void hurtBy(int more) {
            hurt = Math.max(0, Math.min(MOST_HURT, hurt + more));
        }
    }

    /** The letters that have come, and what they say once they are a gorge. */
    private static final class Text {
        private static final char A_KIND = 'K';
        private static final char A_DIGIT = '#';
        private static final int NO_LETTER = -1;

        private final int[] letters = new int[MOST_LETTERS];
        int length = 0;

        void add(int c) {
            if (length < MOST_LETTERS) {
                put(letters, length, c);
                length++;
            }
        }

        private int letterAt(int place) {
            return place < length ? at(letters, place) : NO_LETTER;
        }

        private int digitAt(int place) {
            return letterAt(place) - '0';
        }

        private int numberAt(int place) {
            return 10 * digitAt(place) + digitAt(place + 1);
        }

        /** The form of a statement by its first letter; none for a letter that begins no statement. */
        private static String formOf(int letter) {
            switch (letter) {
                case 'c': return "cK#####;";
                case 'k': return "k###;";
                case 'h': return "h###;";
                case 't': return "t#;";
                case 'u': return "u##;";
                case 'p': return "p##;";
                case 'd': return "d##;";
                default: return "";
            }
        }

        private static boolean isOfForm(char sign, int letter) {
            if (sign == A_KIND) {
                return kindOf(letter) >= 0;
            }
            return sign == A_DIGIT ? letter >= '0' && letter <= '9' : letter == sign;
        }

        private static int kindOf(int letter) {
            return letter == NO_LETTER ? -1 : KIND_LETTERS.indexOf((char) letter);
        }

        /** How far the next statement is from one. */
        private int stepFrom(int place) {
            return formOf(letterAt(place)).length();
        }

        /** The place of the first letter with which no gorge can go on, or NONE. */
        int faultOfForm() {
            if (length == 0) {
                return 0;
            }
            for (int place = 0; place < length; place += Math.max(1, stepFrom(place))) {
                String form = formOf(letterAt(place));
                if (form.isEmpty()) {
                    return place;
                }
                for (int i = 1; i < form.length(); i++) {
                    if (!isOfForm(form.charAt(i), letterAt(place + i))) {
                        return place + i;
                    }
                }
            }
            return NONE;
        }

        /** The place of the first statement that is not as it must be behind those ahead of it, or NONE. */
        int faultOfSense(int callersBefore, int dayBefore) {
            int callers = callersBefore;
            int day = dayBefore;
            for (int place = 0; place < length; place += Math.max(1, stepFrom(place))) {
                if (!isSensible(place, callers, day)) {
                    return place;
                }
                if (letterAt(place) == 'c') {
                    callers++;
                }
                if (letterAt(place) == 'd') {
                    day += numberAt(place + 1);
                }
            }
            return NONE;
        }

        private boolean isSensible(int place, int callers, int day) {
            switch (letterAt(place)) {
                case 'c':
                    return callers < MOST_CALLERS && digitAt(place + 4) < WORDS && numberAt(place + 5) < HOURS;
                case 'k':
                    return digitAt(place + 1) < WORDS && numberAt(place + 2) <= MOST_KNOWN;
                case 'h':
                    return digitAt(place + 1) < callers && numberAt(place + 2) < HOURS;
                case 'p':
                    return rangeNo(numberAt(place + 1), 1, MOST_PATIENCE) == 0;
                case 'd':
                    return rangeNo(numberAt(place + 1), 1, MOST_AHEAD) == 0
                        && day + numberAt(place + 1) <= MOST_DAY;
                default:
                    return true;
            }
        }

        /** Lets every statement of a faultless text come: how many there were. */
        int comeTo(Gorge gorge) {
            int statements = 0;
            for (int place = 0; place < length; place += Math.max(1, stepFrom(place))) {
                bring(place, gorge);
                statements++;
            }
            return statements;
        }

        private void bring(int place, Gorge gorge) {
            switch (letterAt(place)) {
                case 'c':
                    gorge.addCaller(kindOf(letterAt(place + 1)), digitAt(place + 2), digitAt(place + 3),
                        digitAt(place + 4), numberAt(place + 5));
                    break;
                case 'k':
                    put(gorge.known, digitAt(place + 1), numberAt(place + 2));
                    break;
                case 'h':
                    gorge.moveTo(digitAt(place + 1), numberAt(place + 2));
                    break;
                case 't':
                    gorge.tune = digitAt(place + 1);
                    break;
                case 'u':
                    gorge.hurt = numberAt(place + 1);
                    break;
                case 'p':
                    gorge.patience = numberAt(place + 1);
                    break;
                case 'd':
                    int days = numberAt(place + 1);
                    for (int i = 0; i < days; i++) {
                        gorge.passDay(EVERYBODY);
                    }
                    break;
                default:
                    break;
            }
        }
    }
}
