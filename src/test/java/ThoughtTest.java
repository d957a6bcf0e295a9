/** Part II of the Terms: each sentence that names a boundary case of what is thought, with a test of its own. */
public final class ThoughtTest {
    private static final Check CHECK = new Check();
    private static final int MIN = Integer.MIN_VALUE;
    private static final int MAX = Integer.MAX_VALUE;

    private static void due(String call, long got, long want) {
        CHECK.due(call, got, want);
    }

    public static void main(String[] args) {
        pastTheLastDay();
        inMind();
        noneAtAll();
        ofOne();
        knows();
        fallsSilent();
        week();
        bestWeek();
        bestTune();
        worst();
        bestHour();
        keepAway();
        might();
        neverHeard();
        whose();
        tellsMost();
        turns();
        snow();
        heals();
        judged();
        fits();
        lots();
        draws();
        image();
        CHECK.end("ThoughtTest");
    }

    private static TheEchosWidow row(TheEchosWidow x, int... numbers) {
        for (int v : numbers) {
            x.row(v);
        }
        return x;
    }

    // ---- in mind ----

    private static void pastTheLastDay() {
        CHECK.begin("(In thought DAY may pass 999.)");
        TheEchosWidow x = Check.of("cc05007;cc05107;");
        for (int i = 0; i < 16; i++) {
            x.days(60);
        }
        x.days(39);
        x.learn(0, 0);
        x.learn(1, 0);
        row(x, 0, 2, 4);
        due("day", x.count(1), 999);
        due("behind", x.behind(60, 3), 120);
        due("knownIn", x.knownIn(60, 0), 20);
        due("of", x.of(1, 60, 0), 60);
        due("knows", x.knows(0, 20), 20);
        due("silent", x.silent(), -9);
        due("fits", x.fits(), 0b0011111000);
        due("judge", x.judge(), -9);
        row(x, 0, 1, 0);
        due("week", x.week(0), 3);
        due("bestWeek", x.bestWeek(-1), 3);
        due("bestTune", x.bestTune(60), 3);
        due("worst", x.worst(60), -9);
        due("bestHour", x.bestHour(0, 60), 0);
        due("keepAway", x.keepAway(60, 0), 0);
        due("might", x.might(60), 3);
        due("byTurns", x.byTurns(0, 1, 60), 0);
        due("snow", x.snow(60, 0), 60);
        x.set(1, 10);
        due("heals", x.heals(0), 10);
        due("lots", x.lots(20, 1, 0) > 0 ? 1 : 0, 1);
        due("image", x.image(), 999);
        due("on", x.on(), 999);
        due("day", x.count(1), 999);
    }

    private static void inMind() {
        CHECK.begin("In mind, behind n DAYS (0 .. 60): none of them");
        TheEchosWidow x = Check.of("cc05007;ch00108;k604;u07;");
        due("hurt", x.behind(0, 0), 7);
        due("known", x.behind(0, 1), 4);
        due("best", x.behind(0, 2), 6);
        due("answers", x.behind(0, 3), 0);
        due("not answered", x.behind(0, 4), 0);
        due("knownIn", x.knownIn(0, 6), 4);
        due("times", x.of(0, 0, 0), 0);
        due("word last", x.of(0, 0, 1), -9);
        CHECK.begin("In mind, behind n DAYS (0 .. 60): all of them");
        TheEchosWidow y = Check.of("cc05007;cc00108;");
        due("hurt", y.behind(60, 0), 0);
        due("known", y.behind(60, 1), 20);
        due("best", y.behind(60, 2), 0);
        due("answers", y.behind(60, 3), 60);
        due("not answered", y.behind(60, 4), 60);
        due("answers of 59", y.behind(59, 3), 59);
        due("times", y.of(0, 60, 0), 60);
        CHECK.begin("In mind: nothing is as it is thought");
        String before = Check.state(y);
        y.behind(60, 0);
        y.knownIn(60, 0);
        y.of(0, 60, 1);
        y.knows(0, 20);
        y.silent();
        y.bestWeek(0);
        y.bestTune(60);
        y.worst(60);
        y.bestHour(0, 60);
        y.keepAway(60, 0);
        y.might(60);
        y.byTurns(0, 1, 60);
        y.snow(60, 1);
        y.heals(1);
        y.lots(20, 5, 1);
        y.fits();
        y.week(0);
        CHECK.holds("as before", before.equals(Check.state(y)));
    }

    private static void noneAtAll() {
        CHECK.begin("no CALLERS: what is thought of them");
        TheEchosWidow x = new TheEchosWidow();
        due("hurt", x.behind(60, 0), 60);
        due("answers", x.behind(60, 3), 0);
        due("not answered", x.behind(60, 4), 0);
        due("bestTune", x.bestTune(60), 0);
        due("worst", x.worst(60), -9);
        due("might", x.might(60), 0);
        due("whose", x.whose(0), 0);
        for (int tune = 0; tune < 10; tune++) {
            x.set(0, tune);
            due("tellsMost by tune " + tune, x.tellsMost(), -9);
            due("whose by tune " + tune, x.whose(0), 0);
        }
        due("keepAway of nobody, not silent behind 10", x.keepAway(10, 0), 0);
        due("how many", x.keepAway(10, 1), 0);
        due("keepAway of nobody, silent behind 11", x.keepAway(11, 0), -9);
        due("how many", x.keepAway(11, 1), -9);
        due("lots", x.lots(20, 1, 0), 0);
        due("hurt of lots", x.lots(20, 1, 1), 100);
        due("week", x.week(0), 0);
        CHECK.begin("the WORD known best (2; -9 none)");
        due("none", x.behind(0, 2), -9);
        x.learn(7, 1);
        due("1 of 7", x.behind(0, 2), 7);
        x.learn(0, 1);
        due("of several the least", x.behind(0, 2), 0);
        x.learn(0, 0);
        x.set(1, 9);
        due("forgotten behind a day", x.behind(1, 2), -9);
        CHECK.begin("ANSWERS a CALLER now: 1, 0; the WORD it says (-9)");
        TheEchosWidow y = Check.of("cc07007;cc08107;cw05207;");
        due("near", y.answers(0), 1);
        due("says", y.says(0), 0);
        due("far", y.answers(1), 0);
        due("says", y.says(1), -9);
        due("a widow", y.answers(2), 0);
        due("says", y.says(2), -9);
        y.set(1, 11);
        due("silent", y.answers(0), 0);
        due("says", y.says(0), -9);
    }

    private static void ofOne() {
        CHECK.begin("how many times he was ANSWERED; the WORD it said to him last (-9)");
        // The tourist hurts one a day: 9, 10, 11; he is answered on two days, then never.
        TheEchosWidow x = Check.of("cc05107;ct00009;ct00010;k701;u09;");
        due("of one day", x.of(0, 1, 0), 1);
        due("of two", x.of(0, 2, 0), 2);
        due("of sixty", x.of(0, 60, 0), 2);
        due("the word of one day", x.of(0, 1, 1), 7);
        due("the last of sixty", x.of(0, 60, 1), 7);
        due("never answered", x.of(1, 60, 0), 0);
        due("no word", x.of(1, 60, 1), -9);
        TheEchosWidow seven = Check.of("cw05007;".repeat(6) + "cc05707;");
        due("the last of seven", seven.of(6, 60, 0), 60);
        due("his word", seven.of(6, 60, 1), 7);
        due("the last but one", seven.of(5, 60, 0), 0);
        CHECK.begin("of one in n DAYS: what has gone by is none of it");
        x.days(2);
        due("of sixty more", x.of(0, 60, 0), 0);
        due("no word", x.of(0, 60, 1), -9);
    }

    private static void knows() {
        CHECK.begin("KNOWS: in how many DAYS (0 .. 60) KNOWN of a WORD is v (0 .. 20) or more; -9");
        TheEchosWidow x = Check.of("cs05307;k305;k720;");
        due("as it is", x.knows(3, 5), 0);
        due("less than it is", x.knows(3, 4), 0);
        due("0", x.knows(3, 0), 0);
        due("0 of nothing known", x.knows(0, 0), 0);
        due("20 as it is", x.knows(7, 20), 0);
        due("one more", x.knows(3, 6), 1);
        due("two more", x.knows(3, 7), 1);
        due("or more: 21 is 20", x.knows(3, 20), 8);
        due("never", x.knows(0, 1), -9);
        // The widow takes one of HURT a day; on the day that begins with 11 he is answered for the first time.
        TheEchosWidow late = Check.of("cw15006;cc05007;");
        late.set(1, 69);
        due("in 59", late.knows(0, 1), 59);
        late.set(1, 70);
        due("in 60", late.knows(0, 1), 60);
        late.set(1, 71);
        due("not in 61", late.knows(0, 1), -9);
    }

    private static void fallsSilent() {
        CHECK.begin("FALLS SILENT: behind how many DAYS (0 .. 60) HURT is more than PATIENCE; -9");
        TheEchosWidow x = Check.of("u10;");
        due("as much is not more", x.silent(), 1);
        x.set(1, 11);
        due("now", x.silent(), 0);
        x.set(1, 0);
        x.set(2, 20);
        due("21 of 20", x.silent(), 21);
        x.set(2, 1);
        due("2 of 1", x.silent(), 2);
        TheEchosWidow never = Check.of("cc05007;");
        due("never", never.silent(), -9);
        never.set(1, 10);
        due("never from 10", never.silent(), -9);
        // Silent at noon, and not behind the day: the child's 2 are taken by the widow.
        TheEchosWidow noon = Check.of("cw35007;ch00012;cw25018;u10;");
        due("not behind a day", noon.silent(), -9);
    }

    // ---- whom to send ----

    private static void week() {
        CHECK.begin("WEEK: the ROW tells CALLERS, one for each DAY, who calls at 7 of it, nobody else");
        TheEchosWidow x = Check.of("cc05019;ch00001;ct05223;u05;");
        due("no days: answers", x.week(0), 0);
        due("no days: hurt", x.week(1), 5);
        row(x, 0);
        due("one day at 7: answers", x.week(0), 1);
        due("one day at 7: hurt", x.week(1), 4);
        row(x, 2);
        due("two: answers", x.week(0), 2);
        due("two: hurt", x.week(1), 3);
        row(x, 1);
        due("three: answers", x.week(0), 2);
        due("three: hurt", x.week(1), 5);
        due("the ROW stays", x.count(7), 3);
        due("the hours stay", x.caller(0, 4) * 10000 + x.caller(1, 4) * 100 + x.caller(2, 4), 190123);
        CHECK.begin("WEEK: a ROW of 12");
        TheEchosWidow full = row(Check.of("cc05000;u10;"), 0, 0, 0, 0, 0, 0, 0, 0, 0, 0, 0, 0);
        due("12 days: answers", full.week(0), 12);
        due("12 days: hurt", full.week(1), 0);
        full.set(1, 99);
        due("silent: answers", full.week(0), 0);
        due("silent: hurt", full.week(1), 99);
        CHECK.begin("WEEK: CALLERS 0 .. 6");
        TheEchosWidow seven = row(Check.of("ch00007;".repeat(6) + "cc05007;"), 6, 6, 6);
        due("the last one", seven.week(0), 3);
        TheEchosWidow first = row(Check.of("cc05007;" + "ch00007;".repeat(6)), 0, 0);
        due("the first one", first.week(0), 2);
    }

    private static void bestWeekIs(String gorge, int answers, int first, int second, int third) {
        TheEchosWidow x = Check.of(gorge);
        due(gorge + " answers", x.bestWeek(-1), answers);
        due(gorge + " 0", x.bestWeek(0), first);
        due(gorge + " 1", x.bestWeek(1), second);
        due(gorge + " 2", x.bestWeek(2), third);
    }

    private static void bestWeek() {
        CHECK.begin("BEST WEEK: of all ROWS of 3 CALLERS (one as often as one likes) that with the most ANSWERS");
        bestWeekIs("cc05007;", 3, 0, 0, 0);
        bestWeekIs("ch00007;".repeat(6) + "cc05007;", 3, 6, 6, 6);
        bestWeekIs("ch00007;cc05007;ch00007;", 3, 1, 1, 1);
        // Silent at 15 and at 12, not at 9: the widow is sent twice, then he.
        bestWeekIs("cc05007;cw35007;u15;", 1, 1, 1, 0);
        CHECK.begin("BEST WEEK: at 7 of each DAY, nobody else");
        // At 19 nobody would call at 7, and 10 would be 11 on the second day; the child at 1 would hurt.
        bestWeekIs("cc05019;ch00001;u10;", 3, 0, 0, 0);
        CHECK.begin("BEST WEEK: then the least HURT");
        bestWeekIs("cc00007;cw10007;u05;", 0, 1, 1, 1);
        bestWeekIs("ct00007;cc00007;u05;", 0, 1, 1, 1);
        // More ANSWERS with more HURT go first: 30 less by the widow, or one answer.
        bestWeekIs("cw95007;cc05007;u10;", 3, 1, 1, 1);
        CHECK.begin("BEST WEEK: of several the first");
        bestWeekIs("cc05007;cc05007;cc05007;", 3, 0, 0, 0);
        bestWeekIs("cc00007;cc00007;", 0, 0, 0, 0);
        bestWeekIs("cc05007;cw15007;cc05007;u11;", 2, 1, 0, 0);
        CHECK.begin("BEST WEEK: -9 no CALLERS");
        TheEchosWidow none = new TheEchosWidow();
        for (int i = -1; i <= 2; i++) {
            due("bestWeek(" + i + ")", none.bestWeek(i), -9);
        }
    }

    private static void bestTune() {
        CHECK.begin("BEST TUNE (0 .. 9): with most ANSWERS in n DAYS");
        for (int tone = 0; tone < 10; tone++) {
            due("a singer at " + tone, Check.of("cs0" + tone + "007;").bestTune(1), tone);
        }
        due("two of three", Check.of("cs01007;cs08107;cs08207;").bestTune(60), 8);
        CHECK.begin("BEST TUNE: of several the least");
        due("both of two", Check.of("cs03007;cs07107;").bestTune(1), 3);
        due("0 to 2", Check.of("cc00007;").bestTune(1), 0);
        due("7 to 9", Check.of("cc09007;").bestTune(1), 7);
        due("no days", Check.of("cs09007;").bestTune(0), 0);
        due("nobody ever", Check.of("cw09007;").bestTune(60), 0);
        due("silent", Check.of("cs09007;u11;").bestTune(1), 0);
        CHECK.begin("BEST TUNE: in n DAYS");
        // By 0 three are answered, then the child makes it silent for ever; by 9 two are, day by day.
        TheEchosWidow x = Check.of("cs09007;cs00108;cs00109;cs00109;ch09010;u10;");
        due("on one day three of two", x.bestTune(1), 0);
        due("in two days four of three", x.bestTune(2), 9);
        due("in sixty", x.bestTune(60), 9);
        due("it stays", x.count(2), 5);
    }

    private static void worst() {
        CHECK.begin("WORST: the CALLER without whom HURT behind n DAYS is least");
        due("the child", Check.of("cc05007;ct00008;ch00009;").worst(1), 2);
        due("the last", Check.of("cc05007;".repeat(6) + "ch00008;").worst(60), 6);
        due("the first", Check.of("ch00008;" + "cc05007;".repeat(6)).worst(60), 0);
        CHECK.begin("WORST: less than with all; -9");
        due("nobody hurts", Check.of("cc05008;cc00009;cg95010;").worst(3), -9);
        due("the widow heals", Check.of("cw95007;u50;").worst(3), -9);
        due("as much as with all: 1 by him, or by nobody at 7", Check.of("ct00007;").worst(3), -9);
        due("less by 1 than with all", Check.of("ch00007;").worst(1), 0);
        due("no days", Check.of("ch00008;").worst(0), -9);
        due("99 with all, 99 without any one", Check.of("ch00008;ch00009;u99;").worst(60), -9);
        CHECK.begin("WORST: of several the least");
        due("two alike", Check.of("cc05007;ch00108;ch00208;").worst(5), 1);
        due("seven alike", Check.of("ch00007;".repeat(7)).worst(5), 0);
        CHECK.begin("WORST: without him at 7, nobody may call at 7");
        due("the child at 7 or the tourist at 8", Check.of("ct00008;ch00007;").worst(1), 0);
    }

    private static void bestHour() {
        CHECK.begin("BEST HOUR of one: the HOUR (0 .. 23) by which most ANSWERS are given in n DAYS");
        // Behind the child nobody is heard: she has to be last, by her number at his hour.
        due("23, by number behind him at 23", Check.of("cc05023;ch00007;u09;").bestHour(1, 1), 23);
        due("22, by number ahead of him at 23", Check.of("ch00007;cc05022;cc05122;u09;").bestHour(0, 1), 23);
        due("0 where none is heard behind him", Check.of("ch00007;cc05023;u09;").bestHour(0, 1), 0);
        // The widow opens it for him who calls at 0 by her number alone.
        due("0, ahead of him at 0", Check.of("cw95007;cs05000;u11;").bestHour(0, 1), 0);
        due("12, ahead of him at 12", Check.of("ch00011;cc05112;ct05213;u09;").bestHour(2, 1), 0);
        CHECK.begin("BEST HOUR: of several the least");
        due("all the same", Check.of("cc05012;").bestHour(0, 1), 0);
        due("no days", Check.of("cc05012;").bestHour(0, 0), 0);
        due("nobody is heard", Check.of("cc05012;u99;").bestHour(0, 60), 0);
        due("7 where it heals", Check.of("cc05012;u10;").bestHour(0, 2), 7);
        due("behind the widow at 1", Check.of("cw95001;cc05013;ch00011;u18;p09;").bestHour(1, 1), 1);
        CHECK.begin("BEST HOUR: his HOUR stays");
        TheEchosWidow x = Check.of("cc05012;u10;");
        x.bestHour(0, 60);
        due("hour", x.caller(0, 4), 12);
    }

    private static void keepAwayIs(String gorge, int n, int bits, int many) {
        TheEchosWidow x = Check.of(gorge);
        due(gorge + " " + n + " bits", x.keepAway(n, 0), bits);
        due(gorge + " " + n + " how many", x.keepAway(n, 1), many);
    }

    private static void keepAway() {
        CHECK.begin("KEEP AWAY: the fewest CALLERS (bits) without whom it is not SILENT behind any of n DAYS");
        keepAwayIs("ch00008;", 0, 0, 0);
        keepAwayIs("cc05007;ch00008;", 8, 0, 0);
        keepAwayIs("cc05007;ch00008;u10;", 1, 2, 1);
        keepAwayIs("cc05007;ch00008;u10;", 60, 2, 1);
        // The grammophone of number 2 hurts nobody while it is heard; both children must go.
        keepAwayIs("cc05007;ch00008;cg95009;ch00010;u10;", 60, 0b1010, 2);
        keepAwayIs("ct00007;ct00007;ct00007;ct00007;ct00007;ct00007;ct00007;p01;", 1, 0b0111111, 6);
        keepAwayIs("ct00008;ct00008;ct00008;ct00008;ct00008;ct00008;ct00008;p01;", 1, 0b1111111, 7);
        CHECK.begin("KEEP AWAY: fewest go ahead of least bits");
        keepAwayIs("ct00008;ct00008;ch00008;cc05007;p02;u01;", 1, 0b100, 1);
        CHECK.begin("KEEP AWAY: of several the least bits");
        keepAwayIs("cc05007;ct00008;ct00009;ct00010;u08;", 1, 0, 0);
        keepAwayIs("cc05007;ct00008;ct00009;ct00010;u09;", 1, 2, 1);
        keepAwayIs("cc05007;ct00008;ct00009;ct00010;u10;", 1, 6, 2);
        CHECK.begin("KEEP AWAY: not SILENT behind a DAY, whatever it is within one");
        // 3 by the widow, 4 by the children: one of them must go. Where the widow comes last it is 9 to 11 at noon, 10 at night.
        keepAwayIs("cw35007;ch00008;ch00009;u10;", 1, 2, 1);
        keepAwayIs("cc05007;cw15023;ch00012;u09;", 1, 0, 0);
        CHECK.begin("KEEP AWAY: -9 none");
        keepAwayIs("ct00008;u10;", 1, -9, -9);
        keepAwayIs("cc05008;p01;u01;", 1, -9, -9);
    }

    // ---- words ----

    private static void might() {
        CHECK.begin("MIGHT SAY: WORDS (bits) it says in n DAYS");
        due("none in no days", Check.of("ct05007;").might(0), 0);
        due("0", Check.of("ct05007;").might(1), 1);
        due("7", Check.of("ct05707;").might(1), 128);
        due("not to those who are far", Check.of("ct00707;").might(60), 0);
        due("nobody calls", Check.of("k720;").might(60), 0);
        due("silent", Check.of("ct05707;u11;").might(60), 0);
        due("seven in a day", Check.of("ct05007;ct05107;ct05207;ct05307;ct05407;ct05507;cg05607;").might(1), 0b10111111);
        due("one on the first day", Check.of("cc05307;k201;").might(1), 4);
        CHECK.begin("MIGHT SAY: in n DAYS, what has gone by is none of it");
        TheEchosWidow x = Check.of("ct05707;d05;");
        due("none in no days", x.might(0), 0);
        x.set(0, 0);
        due("none in sixty", x.might(60), 0);
    }

    private static void neverHeard() {
        CHECK.begin("NEVER: WORDS (bits) neither KNOWN nor called by anybody");
        due("all", new TheEchosWidow().never(), 255);
        due("none", Check.of("k001;k101;k201;k301;k401;k501;k601;k701;").never(), 0);
        due("not 7, known 1", Check.of("k701;").never(), 127);
        due("not 0, known 1", Check.of("k001;").never(), 254);
        due("known no more", Check.of("k701;k700;").never(), 255);
        due("called by a widow, too", Check.of("cw00707;").never(), 127);
        due("called from far, silent", Check.of("cs00007;u99;").never(), 254);
        due("what a grammophone calls, not what it is told", Check.of("cg05707;").never(), 127);
        due("seven called, one known", Check.of("cc05007;cc05107;cc05207;cc05307;cc05407;cc05507;cc05607;k701;").never(), 0);
    }

    private static void whose() {
        CHECK.begin("WHOSE: a WORD was said now: CALLERS (bits) to whom it would say it");
        TheEchosWidow x = Check.of("ct05707;ct00707;cg05607;cw05707;cg05707;cc05707;ct05707;");
        due("7", x.whose(7), 0b1100101);
        due("0", x.whose(0), 0b0010000);
        due("none", x.whose(6), 0);
        x.learn(3, 1);
        due("7 where 3 is known", x.whose(7), 0b1000101);
        due("3", x.whose(3), 0b0100000);
        x.set(1, 11);
        due("silent", x.whose(7), 0);
        due("all seven", Check.of("ct05007;".repeat(7)).whose(0), 127);
    }

    private static void tellsMost() {
        CHECK.begin("TELLS MOST: of CALLERS the one to whom it would say a WORD that it would say to fewest others");
        due("the last", Check.of("ct05007;ct05007;ct05107;ct05107;ct05207;").tellsMost(), 4);
        due("the first", Check.of("ct05207;ct05007;ct05007;").tellsMost(), 0);
        due("one of two, not of three", Check.of("ct05007;ct05007;ct05007;ct05107;ct05107;").tellsMost(), 3);
        due("alone", Check.of("ct05007;").tellsMost(), 0);
        CHECK.begin("TELLS MOST: of several the least");
        due("all seven hear the same", Check.of("ct05007;".repeat(7)).tellsMost(), 0);
        due("each another", Check.of("ct05007;ct05107;ct05207;").tellsMost(), 0);
        due("two pairs", Check.of("ct05007;ct05107;ct05007;ct05107;").tellsMost(), 0);
        due("those who are not answered tell nothing", Check.of("ct00007;cw05107;ct05207;").tellsMost(), 2);
        due("nor are they others", Check.of("ct05007;ct05007;ct05107;ct00107;cw05107;").tellsMost(), 2);
        CHECK.begin("TELLS MOST: -9 it ANSWERS nobody");
        due("no callers", new TheEchosWidow().tellsMost(), -9);
        due("all far", Check.of("ct00007;cc00107;cw05207;").tellsMost(), -9);
        due("silent", Check.of("cg05007;u11;").tellsMost(), -9);
        due("not silent at patience", Check.of("cg05007;u10;").tellsMost(), 0);
    }

    private static void turns() {
        CHECK.begin("TURNS: the first pair by which neither is more often by another one alone");
        due("no days: 0, 0", Check.of("cc05007;cc05107;").byTurns(0, 1, 0), 0);
        due("all the same: 0, 0", Check.of("cc05019;cc05119;").byTurns(0, 1, 1), 0);
        due("neither is ever heard: 0, 0", Check.of("cw05007;cw05107;").byTurns(1, 0, 60), 0);
        due("silent: 0, 0", Check.of("cc05007;cc05107;u99;").byTurns(1, 0, 60), 0);
        CHECK.begin("TURNS: (10 the first's and the other's)");
        // Silent until the widow of noon: who can be heard at all goes to 19.
        String gorge = "cw95012;cc05007;cc05107;cw05207;u15;";
        due("both at 19", Check.of(gorge).byTurns(1, 2, 1), 11);
        due("the other at 19", Check.of(gorge).byTurns(3, 1, 1), 1);
        due("the first at 19", Check.of(gorge).byTurns(1, 3, 1), 10);
        CHECK.begin("TURNS: neither, not one of them alone");
        // At 7 the child of number 2 stands between them: 0 ahead of her is heard, 3 behind her is not and hurts 8.
        // At 19 the widow of number 1 stands between them: she opens it for 3, unless 0 has hurt 6 there ahead of her.
        String between = "cg60020;cw30019;ch00007;cg80000;u10;";
        due("3 at 19, 0 at 7", Check.of(between).byTurns(3, 0, 1), 10);
        due("0 at 7, 3 at 19", Check.of(between).byTurns(0, 3, 1), 1);
        CHECK.begin("TURNS: an HOUR 7 or 19 (a choice 0, 1), neither an hour less nor more");
        // The widow opens it at 7 or at 19: by number ahead of those who call in that hour, or behind them.
        due("ahead of them at 7", Check.of("cw95007;cc05000;cc05100;u15;").byTurns(1, 2, 1), 0);
        due("behind them at 7", Check.of("cc05000;cc05100;cw95007;u15;").byTurns(0, 1, 1), 11);
        due("ahead of them at 19", Check.of("cw95019;cc05000;cc05100;u15;").byTurns(1, 2, 1), 11);
        due("behind them at 19", Check.of("cc05000;cc05100;cw95019;u15;").byTurns(0, 1, 1), 0);
        // The widow opens it at noon, the child shuts it at 19.
        due("ahead of the child at 19", Check.of("cw95012;cc05000;cc05100;ch00019;u19;").byTurns(1, 2, 1), 11);
        due("behind the child at 19", Check.of("cw95012;ch00019;cc05000;cc05100;u19;").byTurns(2, 3, 1), 0);
        CHECK.begin("TURNS: more often is more, as often is not");
        due("once each by any pair", Check.of("cc05000;cc05000;").byTurns(0, 1, 1), 0);
        // Where neither calls at 7 it is silent on the second day: one at 7 is enough for both.
        due("7 for both as none is more often by 19", Check.of("cc05000;cc05000;u10;").byTurns(0, 1, 2), 0);
    }

    private static void snow() {
        CHECK.begin("SNOW: n DAYS without any calls: HURT behind them; KNOWN of all");
        TheEchosWidow x = Check.of("cs05007;cw95106;k702;u07;");
        due("no days: hurt", x.snow(0, 0), 7);
        due("no days: known", x.snow(0, 1), 2);
        due("two: hurt", x.snow(2, 0), 9);
        due("two: known", x.snow(2, 1), 2);
        due("three: hurt", x.snow(3, 0), 10);
        due("three: known", x.snow(3, 1), 1);
        due("four: known", x.snow(4, 1), 0);
        due("sixty: hurt", x.snow(60, 0), 67);
        due("sixty: known", x.snow(60, 1), 0);
        x.set(1, 39);
        due("99", x.snow(60, 0), 99);
        x.set(1, 40);
        due("99 at most", x.snow(60, 0), 99);
        x.set(1, 99);
        due("99 in one", x.snow(1, 0), 99);
    }

    private static void heals() {
        CHECK.begin("HEALS: in how many DAYS (0 .. 200), with one CALLER at 7 alone, HURT is 0");
        TheEchosWidow x = Check.of("cc05019;ch00001;cw15102;cw95203;");
        due("now", x.heals(1), 0);
        x.set(1, 1);
        due("in one", x.heals(0), 1);
        x.set(1, 10);
        due("in ten", x.heals(0), 10);
        due("by the widow of 9 in two", x.heals(3), 2);
        x.set(1, 9);
        due("by the widow of 9 in one", x.heals(3), 1);
        x.set(1, 99);
        due("by the widow of 1 in 99", x.heals(2), 99);
        due("by the widow of 9 in 11", x.heals(3), 11);
        CHECK.begin("HEALS: -9");
        due("silent: never", x.heals(0), -9);
        x.set(1, 11);
        due("silent by one: never", x.heals(0), -9);
        due("by the child: never", x.heals(1), -9);
        due("a widow of 0", Check.of("cw05007;u01;").heals(0), -9);
    }

    // ---- the row ----

    private static void judged() {
        CHECK.begin("JUDGED: KNOWN of all (99 for more) behind 0, 1, .. DAYS: the first that is not so; -9");
        String gorge = "cs05007;k701;";
        due("an empty row", Check.of(gorge).judge(), -9);
        due("as it is now", row(Check.of(gorge), 1).judge(), -9);
        due("not as it is now", row(Check.of(gorge), 3).judge(), 0);
        due("behind one day", row(Check.of(gorge), 1, 3).judge(), -9);
        due("not behind one day", row(Check.of(gorge), 1, 1).judge(), 1);
        due("the first of two", row(Check.of(gorge), 1, 2, 2).judge(), 1);
        due("twelve", row(Check.of(gorge), 1, 3, 5, 7, 9, 11, 13, 15, 17, 19, 21, 21).judge(), -9);
        due("the twelfth is not so", row(Check.of(gorge), 1, 3, 5, 7, 9, 11, 13, 15, 17, 19, 21, 23).judge(), 11);
        CHECK.begin("JUDGED: 99 for more");
        String much = "k020;k120;k220;k320;";
        due("98 is 98", row(Check.of(much + "k418;"), 98).judge(), -9);
        due("98 is not 99", row(Check.of(much + "k418;"), 99).judge(), 0);
        due("99 is 99", row(Check.of(much + "k419;"), 99).judge(), -9);
        due("100 is 99", row(Check.of(much + "k420;"), 99).judge(), -9);
        due("100 is not 98", row(Check.of(much + "k420;"), 98).judge(), 0);
        due("160 is 99", row(Check.of(much + "k420;k520;k620;k720;"), 99, 99).judge(), -9);
        due("0 is 0", row(new TheEchosWidow(), 0).judge(), -9);
        CHECK.begin("judge: whichever it answers, the ROW has none then");
        TheEchosWidow x = row(Check.of(gorge), 1, 3);
        due("so", x.judge(), -9);
        due("none", x.count(7), 0);
        due("not so", row(x, 0, 0).judge(), 0);
        due("none", x.count(7), 0);
        due("the first again", x.row(5), 1);
        CHECK.begin("clear: The ROW has none then: how many it had");
        due("one", x.clear(), 1);
        due("none", x.clear(), 0);
        due("twelve", row(x, 0, 1, 2, 3, 4, 5, 6, 7, 8, 9, 10, 99).clear(), 12);
        due("none", x.count(7), 0);
    }

    private static void fits() {
        CHECK.begin("FITS: TUNES (bits) by which the whole ROW is so");
        due("an empty row: all", Check.of("cs05007;").fits(), 1023);
        due("as it is now: all", row(Check.of("cs05007;"), 0).fits(), 1023);
        due("not as it is now: none", row(Check.of("cs05007;"), 1).fits(), 0);
        for (int tone = 0; tone < 10; tone++) {
            TheEchosWidow x = row(Check.of("cs0" + tone + "007;"), 0, 2);
            due("a singer at " + tone, x.fits(), 1 << tone);
            due("the row stays", x.count(7), 2);
            due("the tune stays", x.count(2), 5);
        }
        due("all but one", row(Check.of("cs09007;"), 0, 0).fits(), 511);
        due("not the whole row", row(Check.of("cs05007;"), 0, 2, 5).fits(), 0);
        due("12", row(Check.of("cs05007;"), 0, 2, 4, 6, 8, 10, 12, 14, 16, 18, 20, 20).fits(), 32);
        due("12, the last is not so", row(Check.of("cs05007;"), 0, 2, 4, 6, 8, 10, 12, 14, 16, 18, 20, 22).fits(), 0);
    }

    // ---- lots ----

    /** The seeds behind one draw and what it draws, as whole numbers of any length. */
    private static long next(long z) {
        long all = Math.floorMod(z * 1664525L + 1013904223L, 1L << 32);
        return all >= 1L << 31 ? all - (1L << 32) : all;
    }

    private static long drawn(long z) {
        return Math.floorMod(z, 1L << 31) / 256 % 10;
    }

    private static void lots() {
        CHECK.begin("LOTS with a seed z: n gorges (1 .. 20), each CALLER's TONE a DRAW below 10 in each");
        for (int seed : new int[] {0, 1, -1, 20261118, MIN, MAX}) {
            for (int n : new int[] {1, 2, 19, 20}) {
                for (int tune : new int[] {0, 3, 9}) {
                    TheEchosWidow x = Check.of("cs05007;cs05007;cs05007;t" + tune + ";");
                    long z = seed;
                    int answers = 0;
                    for (int draw = 0; draw < 3 * n; draw++) {
                        z = next(z);
                        answers += drawn(z) == tune ? 5 : 0;
                    }
                    due("lots(" + n + ", " + seed + ", 0) tune " + tune, x.lots(n, seed, 0), answers);
                }
            }
        }
        CHECK.begin("LOTS: 5 DAYS: all ANSWERS; HURT together");
        due("a grammophone is always heard", Check.of("cg05007;").lots(20, 1, 0), 100);
        due("its hurt", Check.of("cg05007;u07;").lots(20, 1, 1), 40);
        due("one gorge", Check.of("cg05007;u07;").lots(1, 1, 1), 2);
        due("0 at least", Check.of("cg05007;u03;").lots(20, 1, 1), 0);
        due("99 at most in each", Check.of("u97;").lots(20, 1, 1), 1980);
        due("each as it is now", Check.of("u10;").lots(20, 1, 1), 300);
        TheEchosWidow x = Check.of("cs03007;");
        x.lots(20, 9, 0);
        due("the tones stay", x.caller(0, 2), 3);
    }

    private static void draws() {
        CHECK.begin("A DRAW below m: (an int); (z without its sign's bit by 256, cut) modulo m");
        // 0: 1013904223 by 256 is 3960563. 1: 1015568748, 3967065. -1: 1012239698, 3954061.
        // 1000: 2678429223 is below 0 as an int; without its sign's bit 530945575, by 256 2074006.
        int[][] draws = {{0, 3}, {1, 5}, {-1, 1}, {1000, 6}};
        for (int[] d : draws) {
            for (int tune = 0; tune < 10; tune++) {
                TheEchosWidow x = Check.of("cs00007;t" + tune + ";");
                due("seed " + d[0] + " tune " + tune, x.lots(1, d[0], 0), tune == d[1] ? 5 : 0);
            }
        }
        CHECK.begin("z goes on from one CALLER to the next, from one gorge to the next");
        // 0 gives 1013904223, and that (1013904223 times 1664526 within 2^32) 1196435762: 4673577.
        TheEchosWidow two = Check.of("cw00007;cs00007;t7;");
        due("the second caller's", two.lots(1, 0, 0), 5);
        due("the second gorge's", Check.of("cs00007;t7;").lots(2, 0, 0), 5);
    }

    // ---- the image ----

    private static void image() {
        CHECK.begin("THE IMAGE: all that there is; ON from it all is as then");
        TheEchosWidow x = new TheEchosWidow();
        due("of nothing", x.image(), 0);
        Check.gorge(x, "cc05007;ch00108;cg95723;k020;k720;t9;u99;p20;d60;");
        due("day", x.count(1), 60);
        due("on", x.on(), 0);
        CHECK.holds("as new", Check.state(x).equals(Check.state(new TheEchosWidow())));
        due("nobody", x.caller(0, 0), -1);
        TheEchosWidow y = Check.of("ch14623;cg95707;k020;k701;t9;u98;p20;");
        due("image", y.image(), 0);
        String then = Check.state(y);
        int told = y.behind(60, 1) * 100 + y.behind(60, 0);
        y.days(60);
        Check.gorge(y, "cc05007;cw05007;cs05007;cc05007;cc05007;t0;u00;p01;h000;k000;k700;");
        due("on", y.on(), 0);
        CHECK.holds("as then", Check.state(y).equals(then));
        due("it goes on as then", y.behind(60, 1) * 100 + y.behind(60, 0), told);
        y.hour(0, 0);
        due("on again", y.on(), 0);
        CHECK.holds("as then again", Check.state(y).equals(then));
        CHECK.begin("THE IMAGE: but it: another takes its place, ON from it leaves it");
        y.days(1);
        due("another", y.image(), 1);
        y.days(1);
        due("on from the last", y.on(), 1);
        due("and again", y.on(), 1);
        CHECK.begin("THE IMAGE: but the ROW, letters, REFUSALS");
        TheEchosWidow z = row(new TheEchosWidow(), 1, 2);
        Check.tell(z, "t6");
        z.known(8);
        z.image();
        row(z, 3);
        z.letter(';');
        z.known(8);
        z.set(3, 0);
        z.on();
        due("row", z.count(7), 3);
        due("letters", z.count(8), 3);
        due("refusals -1", z.count(11), 2);
        due("refusals -2", z.count(12), 1);
        due("the letters are a gorge still", z.gorge(), 1);
        due("tune", z.count(2), 6);
        z.clear();
        z.on();
        due("no row comes back", z.count(7), 0);
        due("no letters come back", z.count(8), 0);
    }
}
