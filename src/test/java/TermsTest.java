/** Part I of the Terms: each sentence that names a least, a greatest, an empty or a full, with a test of its own. */
public final class TermsTest {
    private static final Check CHECK = new Check();

    private static void due(String call, long got, long want) {
        CHECK.due(call, got, want);
    }

    public static void main(String[] args) {
        numbers();
        callers();
        letters();
        forms();
        lacks();
        placesOfForm();
        outOfRange();
        aheadOfIt();
        placesOfSense();
        allOrNothing();
        reaches();
        kindsNearAndFar();
        wordsSaid();
        wordsOfTheOthers();
        silence();
        hoursAndNumbers();
        knownOnADay();
        hurtOnADay();
        seven();
        forgetting();
        daysGoBy();
        CHECK.end("TermsTest");
    }

    // ---- the numbers that there are ----

    private static void numbers() {
        CHECK.begin("WORDS 0 .. 7");
        TheEchosWidow x = new TheEchosWidow();
        due("known(-1)", x.known(-1), -1);
        due("known(0)", x.known(0), 0);
        due("known(7)", x.known(7), 0);
        due("known(8)", x.known(8), -1);
        due("all eight are never heard", x.never(), 255);
        CHECK.begin("each KNOWN 0 .. 20 (0 at first)");
        for (int w = 0; w < 8; w++) {
            due("at first", x.known(w), 0);
            due("to 20", x.learn(w, 20), 0);
            due("not to 21", x.learn(w, 21), -6);
            due("nor below 0", x.learn(w, -1), -4);
            due("20", x.known(w), 20);
        }
        due("known of all", x.count(5), 160);
        for (int w = 0; w < 8; w++) {
            due("back to 0", x.learn(w, 0), 20);
        }
        due("known of all", x.count(5), 0);
        setting("TUNE (0 .. 9; 5 at first)", 0, 2, 5, 0, 9);
        setting("HURT (0 .. 99; 0 at first)", 1, 3, 0, 0, 99);
        setting("PATIENCE (1 .. 20: 10 at first)", 2, 4, 10, 1, 20);
        CHECK.begin("DAY (0 .. 999; 0 at first)");
        TheEchosWidow y = new TheEchosWidow();
        due("at first", y.count(1), 0);
        for (int i = 0; i < 16; i++) {
            y.days(60);
        }
        y.days(39);
        due("the last", y.count(1), 999);
        due("none behind it", y.days(1), -6);
        due("by a gorge neither", Check.gorge(y, "d01;"), -2000);
        due("still", y.count(1), 999);
    }

    private static void setting(String words, int what, int count, int first, int least, int greatest) {
        CHECK.begin(words);
        TheEchosWidow x = new TheEchosWidow();
        due("at first", x.count(count), first);
        due("least", x.set(what, least), first);
        due("is", x.count(count), least);
        due("below", x.set(what, least - 1), -4);
        due("greatest", x.set(what, greatest), least);
        due("above", x.set(what, greatest + 1), -6);
        due("is", x.count(count), greatest);
    }

    private static void callers() {
        CHECK.begin("CALLERS 0 .. as they come (7 at most)");
        TheEchosWidow x = new TheEchosWidow();
        for (int i = 0; i < 7; i++) {
            due("nobody yet", x.caller(i, 0), -1);
            due("one more", Check.gorge(x, "c" + "chtwsgc".charAt(i) + "00000;"), 1);
            due("callers", x.count(0), i + 1);
            due("he is there", x.caller(i, 0), i % 6);
            due("by his number", x.caller(0, 0), 0);
        }
        due("no eighth", Check.gorge(x, "cc00000;"), -2000);
        due("seven", x.count(0), 7);
        due("no caller 7", x.caller(7, 0), -1);
        due("seven at once", Check.gorge(new TheEchosWidow(), "cc00000;".repeat(7)), 7);
        due("eight at once", Check.gorge(new TheEchosWidow(), "cc00000;".repeat(8)), -2056);
        CHECK.begin("CALLERS: KIND, FIGURE (0 .. 9), TONE (0 .. 9), a WORD, an HOUR (0 .. 23)");
        TheEchosWidow y = Check.of("cc00000;cg99723;");
        int[][] due = {{0, 0, 0, 0, 0}, {5, 9, 9, 7, 23}};
        for (int c = 0; c < 2; c++) {
            for (int what = 0; what < 5; what++) {
                due("caller(" + c + ", " + what + ")", y.caller(c, what), due[c][what]);
            }
        }
        TheEchosWidow seven = Check.of("cc00000;".repeat(6) + "cg98722;");
        int[] last = {5, 9, 8, 7, 22};
        for (int what = 0; what < 5; what++) {
            due("caller(6, " + what + ")", seven.caller(6, what), last[what]);
        }
        due("word 8", Check.gorge(y, "cc00800;"), -2000);
        due("hour 24", Check.gorge(y, "cc00024;"), -2000);
    }

    // ---- letters and faults ----

    private static void letters() {
        CHECK.begin("A GORGE is told in letters (96 at most)");
        TheEchosWidow x = new TheEchosWidow();
        due("a gorge of 96", Check.gorge(x, "t5;".repeat(31) + "t7;"), 32);
        due("its last letters, too", x.count(2), 7);
        Check.tell(x, "t5;".repeat(32));
        due("the 97th", x.letter('t'), -6);
        due("is none of it", x.gorge(), 32);
        due("tune", x.count(2), 5);
        CHECK.begin("The letters become a GORGE, and are no more (with a FAULT neither)");
        Check.tell(x, "t6;");
        due("letters", x.count(8), 3);
        due("a gorge", x.gorge(), 1);
        due("no letters", x.count(8), 0);
        due("nothing is told then", x.gorge(), -1000);
        Check.tell(x, "t6;x");
        due("a fault of kind 1", x.gorge(), -1003);
        due("no letters", x.count(8), 0);
        Check.tell(x, "t6;p00;");
        due("a fault of kind 2", x.gorge(), -2003);
        due("no letters", x.count(8), 0);
        due("the first again", x.letter('t'), 1);
        CHECK.begin("At least one STATEMENT");
        due("no letters", new TheEchosWidow().gorge(), -1000);
        due("an end alone", Check.gorge(new TheEchosWidow(), ";"), -1000);
        due("one statement", Check.gorge(new TheEchosWidow(), "t5;"), 1);
    }

    private static final String[] STATEMENTS = {"cc00000;", "ch11111;", "ct22222;", "cw33303;", "cs99723;", "cg45607;",
        "k720;", "k000;", "t0;", "t9;", "u00;", "u99;", "p01;", "p20;", "h023;", "h000;", "d01;", "d60;"};

    private static void fault(String ahead, String letters, int want) {
        TheEchosWidow x = Check.of("cc05007;k305;t6;u03;p09;");
        String before = Check.state(x);
        due("\"" + ahead + letters + "\"", Check.gorge(x, ahead + letters), want);
        CHECK.holds("nothing comes of \"" + ahead + letters + "\"", before.equals(Check.state(x)));
    }

    private static void forms() {
        CHECK.begin("STATEMENTS, each with \";\" behind: c, k, t, u, p, h, d");
        for (String s : STATEMENTS) {
            due(s, Check.gorge(Check.of("cc05007;"), s), 1);
            due(s + " twice", Check.gorge(Check.of("cc05007;"), s + s), 2);
        }
        CHECK.begin("kind 1 the place of the first letter with which no GORGE can go on");
        for (String s : STATEMENTS) {
            for (int place = 0; place < s.length(); place++) {
                for (char wrong : wrongFor(s, place).toCharArray()) {
                    String letters = s.substring(0, place) + wrong + s.substring(place + 1);
                    fault("", letters, -1000 - place);
                    fault("t5;", letters, -1003 - place);
                    // What comes behind the first wrong letter is not looked at.
                    fault("", letters + "xx", -1000 - place);
                }
            }
        }
    }

    /** Letters that can stand nowhere at the place: neighbours of those that can, and far-off ones. */
    private static String wrongFor(String statement, int place) {
        String far = "\0\377 x-";
        if (place == 0) {
            return far + "bsgwCKTUPHD;0";
        }
        if (place == 1 && statement.charAt(0) == 'c') {
            return far + "bdfiruvx0;kp";
        }
        return place == statement.length() - 1 ? far + ":<0t" : far + "/:;ck";
    }

    private static void lacks() {
        CHECK.begin("(the end, if something lacks)");
        for (String s : STATEMENTS) {
            for (int there = 0; there < s.length(); there++) {
                fault("", s.substring(0, there), -1000 - there);
                if (there > 0) {
                    fault("t5;", s.substring(0, there), -1003 - there);
                }
            }
        }
        CHECK.begin("-1000 less the place, up to the end of 96 letters");
        String ahead = "t5;".repeat(31);
        fault(ahead, "xxx", -1093);
        fault(ahead, "t5x", -1095);
        fault(ahead, "k12", -1096);
        fault(ahead, "t5", -1095);
    }

    private static void placesOfForm() {
        CHECK.begin("FAULT: kind 1; else kind 2");
        fault("", "p00;x", -1004);
        fault("", "p00;k800;t5", -1011);
        fault("", "d61;t", -1005);
        fault("", "cc00999;cc9;", -1011);
        fault("", "h999;;", -1005);
    }

    private static void outOfRange() {
        CHECK.begin("kind 2: a number out of range");
        range("k3", 0, 20);
        range("p", 1, 20);
        range("h0", 0, 23);
        range("d", 1, 60);
        range("cc050", 0, 23);
        range("u", 0, 99);
        CHECK.begin("kind 2: no such WORD");
        for (int digit = 0; digit < 10; digit++) {
            int want = digit <= 7 ? 1 : -2000;
            due("word of k", Check.gorge(new TheEchosWidow(), "k" + digit + "05;"), want);
            due("word of c", Check.gorge(new TheEchosWidow(), "cc00" + digit + "00;"), want);
        }
        CHECK.begin("FIGURE, TONE, TUNE (a digit each): all ten");
        for (int digit = 0; digit < 10; digit++) {
            TheEchosWidow x = Check.of("cc" + digit + (9 - digit) + "000;t" + digit + ";");
            due("figure", x.caller(0, 1), digit);
            due("tone", x.caller(0, 2), 9 - digit);
            due("tune", x.count(2), digit);
        }
    }

    /** A statement's last two digits: all hundred. */
    private static void range(String ahead, int least, int greatest) {
        for (int v = 0; v < 100; v++) {
            boolean takes = v >= least && v <= greatest;
            String s = ahead + v / 10 + v % 10 + ";";
            due(s, Check.gorge(Check.of("cc05007;"), s), takes ? 1 : -2000);
            due("t5;" + s, Check.gorge(Check.of("cc05007;"), "t5;" + s), takes ? 2 : -2003);
        }
    }

    private static void aheadOfIt() {
        CHECK.begin("kind 2: no such CALLER ahead of it");
        for (int callers = 0; callers <= 7; callers++) {
            String ahead = "cc00000;".repeat(callers);
            for (int digit = 0; digit < 10; digit++) {
                TheEchosWidow x = new TheEchosWidow();
                int want = digit < callers ? callers + 1 : -2000 - ahead.length();
                due(ahead + "h" + digit, Check.gorge(x, ahead + "h" + digit + "23;"), want);
                TheEchosWidow told = ahead.isEmpty() ? new TheEchosWidow() : Check.of(ahead);
                due("told ahead of the text: h" + digit, Check.gorge(told, "h" + digit + "23;"), digit < callers ? 1 : -2000);
            }
        }
        due("behind it is not ahead of it", Check.gorge(new TheEchosWidow(), "h000;cc00000;"), -2000);
        due("nor the next one", Check.gorge(new TheEchosWidow(), "cc00000;h100;cc00000;"), -2008);
        due("then it is", Check.gorge(new TheEchosWidow(), "cc00000;cc00000;h100;"), 3);
        CHECK.begin("kind 2: DAY above 999");
        TheEchosWidow x = new TheEchosWidow();
        for (int i = 0; i < 16; i++) {
            x.days(60);
        }
        due("960 and 40", Check.gorge(x, "d40;"), -2000);
        due("960 and 20 and 20", Check.gorge(x, "d20;d20;"), -2004);
        due("960 and 39 and 1", Check.gorge(x, "d39;t6;d01;"), -2007);
        due("day", x.count(1), 960);
        due("960 and 20 and 19", Check.gorge(x, "d20;d19;"), 2);
        due("999 and 1", Check.gorge(x, "d01;"), -2000);
        due("999 and none", Check.gorge(x, "t6;"), 1);
        CHECK.begin("kind 2: no room for more");
        for (int there = 0; there <= 7; there++) {
            String ahead = "cc00000;".repeat(there);
            TheEchosWidow y = there == 0 ? new TheEchosWidow() : Check.of(ahead);
            due("one more than fits", Check.gorge(y, "cc00000;".repeat(8 - there)), -2000 - 8 * (7 - there));
            due("none came", y.count(0), there);
            due("as many as fit", there == 7 ? 0 : Check.gorge(y, "cc00000;".repeat(7 - there)), 7 - there);
            due("seven", y.count(0), 7);
        }
    }

    private static void placesOfSense() {
        CHECK.begin("kind 2 the place of the first letter of the first STATEMENT that is not as it must be");
        fault("", "t5;p21;", -2003);
        fault("", "t5;cc00000;p21;k800;", -2011);
        fault("", "cc00800;p21;", -2000);
        fault("", "u99;d60;h124;p00;", -2008);
        CHECK.begin("behind all ahead of it in the text");
        fault("", "cc00000;h223;", -2008);
        due("the caller ahead of it", Check.gorge(Check.of("cc00000;"), "cc00000;h123;"), 2);
        CHECK.begin("-2000 less the place, up to 96 letters");
        fault("t5;".repeat(29), "p00;", -2087);
        fault("t5;".repeat(28), "cw50800;p00;", -2084);
    }

    private static void allOrNothing() {
        CHECK.begin("Without FAULT all of it comes, with one nothing");
        String whole = "cc15107;k212;t7;u13;p14;h012;d01;";
        TheEchosWidow x = new TheEchosWidow();
        due("seven statements", Check.gorge(x, whole), 7);
        due("caller", x.count(0), 1);
        due("hour", x.caller(0, 4), 12);
        due("tune", x.count(2), 7);
        due("patience", x.count(4), 14);
        due("day", x.count(1), 1);
        // He is answered at 12, so it learns his word; nobody calls at 7: 14; it forgets one of word 2.
        due("hurt", x.count(3), 14);
        due("his word", x.known(1), 1);
        due("word 2", x.known(2), 11);
        CHECK.begin("a STATEMENT brings what it tells, nothing else");
        String ahead = "cc15107;ch26208;ct37309;cw48410;cs59511;cg60612;k512;t7;u13;p14;";
        comesAlone(ahead, "cc15107;", "7 0 7 13 14 12 0 0 0 ");
        comesAlone(ahead, "k300;", "6 0 7 13 14 12 0 0 0 ");
        comesAlone(ahead, "k020;", "6 0 7 13 14 32 0 0 0 ");
        comesAlone(ahead, "t2;", "6 0 2 13 14 12 0 0 0 ");
        comesAlone(ahead, "u15;", "6 0 7 15 14 12 1 0 0 ");
        comesAlone(ahead, "p12;", "6 0 7 13 12 12 1 0 0 ");
        comesAlone(ahead, "h520;", "6 0 7 13 14 12 0 0 0 ");
        CHECK.begin("with one FAULT nothing comes");
        fault(whole, "p00;", -2000 - whole.length());
        fault(whole, "x", -1000 - whole.length());
        fault(whole, "t5", -1002 - whole.length());
    }

    /** Counts 0 to 8 behind a statement more; callers and words but those it tells of are as ahead of it. */
    private static void comesAlone(String ahead, String statement, String counts) {
        TheEchosWidow x = Check.of(ahead);
        TheEchosWidow as = Check.of(ahead);
        due(statement, Check.gorge(x, statement), 1);
        CHECK.holds(statement + " counts", Check.state(x).startsWith(counts));
        for (int c = 0; c < 6; c++) {
            for (int what = 0; what < 5; what++) {
                boolean told = what == 4 && statement.equals("h" + c + "20;");
                due(statement + " caller(" + c + ", " + what + ")", x.caller(c, what), told ? 20 : as.caller(c, what));
            }
        }
        for (int w = 0; w < 8; w++) {
            boolean told = statement.equals("k" + w + "20;");
            due(statement + " known(" + w + ")", x.known(w), told ? 20 : as.known(w));
        }
    }

    // ---- kinds ----

    private static int near(String kind, int tone, int tune) {
        TheEchosWidow x = Check.of(kind + "5" + tone + "007;t" + tune + ";");
        return x.answers(0);
    }

    private static void reaches() {
        reach("CALLER: 2", "cc", 2);
        reach("CHILD: 4", "ch", 4);
        reach("TOURIST: 2", "ct", 2);
        reach("WIDOW: never", "cw", -1);
        reach("SINGER: 0", "cs", 0);
        reach("GRAMMOPHONE: 9", "cg", 9);
    }

    private static void reach(String words, String kind, int reach) {
        CHECK.begin("how far TONE may be from TUNE so that it ANSWERS: " + words);
        for (int tone = 0; tone < 10; tone++) {
            for (int tune = 0; tune < 10; tune++) {
                due(kind + " tone " + tone + " tune " + tune, near(kind, tone, tune), Math.abs(tone - tune) <= reach ? 1 : 0);
            }
        }
    }

    /** A day with one call at 8 (so that HURT is 1 more at the end): KNOWN of his WORD and HURT behind it. */
    private static void oneCall(String caller, String echo, int wantKnown, int wantHurt) {
        TheEchosWidow x = Check.of(caller + "008;" + echo);
        x.days(1);
        due(caller + " " + echo + " known", x.known(0), wantKnown);
        due(caller + " " + echo + " hurt", x.count(3), wantHurt + 1);
    }

    private static void kindsNearAndFar() {
        CHECK.begin("c CALLER: 2; 1; 0");
        oneCall("cc93", "t5;u05;", 1, 5);
        oneCall("cc93", "t6;u05;", 0, 5);
        CHECK.begin("h CHILD under CALLER: 4; 1; 2");
        oneCall("ch90", "t4;u05;", 1, 5);
        oneCall("ch90", "t5;u05;", 0, 7);
        CHECK.begin("t TOURIST under CALLER: 2; 0; 1");
        oneCall("ct93", "t5;u05;", 0, 5);
        oneCall("ct93", "t6;u05;", 0, 6);
        CHECK.begin("w WIDOW under CALLER: never; 0; FIGURE less (HURT 0 at least)");
        oneCall("cw05", "t5;u05;", 0, 5);
        oneCall("cw15", "t5;u05;", 0, 4);
        oneCall("cw45", "t5;u05;", 0, 1);
        oneCall("cw55", "t5;u05;", 0, 0);
        oneCall("cw65", "t5;u05;", 0, 0);
        oneCall("cw95", "t5;u05;", 0, 0);
        oneCall("cw95", "t5;u00;", 0, 0);
        oneCall("cw95", "t5;u08;", 0, 0);
        oneCall("cw95", "t5;u09;", 0, 0);
        oneCall("cw95", "t5;u60;", 0, 51);
        CHECK.begin("s SINGER under CALLER: 0; 2; 0");
        oneCall("cs95", "t5;u05;", 2, 5);
        oneCall("cs95", "t6;u05;", 0, 5);
        oneCall("cs95", "t4;u05;", 0, 5);
        CHECK.begin("g GRAMMOPHONE under TOURIST: 9; 0; FIGURE");
        oneCall("cg90", "t9;u10;", 0, 10);
        oneCall("cg00", "t9;u11;", 0, 11);
        oneCall("cg10", "t9;u11;", 0, 12);
        oneCall("cg90", "t9;u11;", 0, 20);
    }

    private static int said(String caller, String known) {
        return Check.of(caller + known).says(0);
    }

    private static void wordsSaid() {
        CHECK.begin("that which it knows best (KNOWN most, of several the least WORD) of all but his");
        due("most", said("cc05300;", "k101;k502;k701;"), 5);
        due("0 of all", said("cc05300;", "k020;k719;"), 0);
        due("7 of all", said("cc05300;", "k019;k720;"), 7);
        due("of several the least", said("cc05300;", "k205;k505;k705;"), 2);
        due("of several 0", said("cc05300;", "k001;k101;k701;"), 0);
        due("not his, though best", said("cc05300;", "k320;k601;"), 6);
        due("not his, though least", said("cc05000;", "k005;k605;"), 6);
        due("his is 7", said("cc05700;", "k720;k001;"), 0);
        CHECK.begin("if none of these is KNOWN, his own");
        due("nothing known", said("cc05300;", "t5;"), 3);
        due("his alone", said("cc05300;", "k320;"), 3);
        due("nothing known, 0", said("cc05000;", "t5;"), 0);
        due("nothing known, 7", said("cc05700;", "t5;"), 7);
        due("1 of another is known", said("cc05300;", "k320;k701;"), 7);
        due("and forgotten", said("cc05300;", "k701;k700;"), 3);
    }

    private static void wordsOfTheOthers() {
        CHECK.begin("CHILD, SINGER: which WORD where it is not told as above them");
        due("child", said("ch05300;", "k205;k505;"), 2);
        due("child, his own", said("ch05300;", "k305;"), 3);
        due("singer", said("cs05300;", "k205;k505;"), 2);
        due("singer, his own", said("cs05300;", "k305;"), 3);
        CHECK.begin("TOURIST: his own");
        due("tourist", said("ct05300;", "k205;k505;"), 3);
        due("tourist, not known", said("ct05000;", "k720;"), 0);
        CHECK.begin("GRAMMOPHONE: the next WORD (of 7 it is 0)");
        for (int w = 0; w < 8; w++) {
            due("next of " + w, said("cg05" + w + "00;", "k320;"), w == 7 ? 0 : w + 1);
        }
        TheEchosWidow x = Check.of("cg05707;");
        due("he was told 0", x.of(0, 1, 1), 0);
        due("it might say 0", x.might(1), 1);
    }

    // ---- silence and a day ----

    private static void silence() {
        CHECK.begin("IT IS SILENT while HURT is more than PATIENCE");
        for (int patience = 1; patience <= 20; patience++) {
            TheEchosWidow x = Check.of("cc05007;");
            x.set(2, patience);
            for (int hurt : new int[] {0, patience - 1, patience, patience + 1, 99}) {
                x.set(1, hurt);
                due("hurt " + hurt + " patience " + patience, x.count(6), hurt > patience ? 1 : 0);
                due("answers, hurt " + hurt + " patience " + patience, x.answers(0), hurt > patience ? 0 : 1);
            }
        }
        CHECK.begin("it ANSWERS nobody then");
        TheEchosWidow x = Check.of("cc05007;ch05007;ct05007;cw05007;cs05007;cg05007;u11;");
        for (int c = 0; c < 6; c++) {
            due("answers(" + c + ")", x.answers(c), 0);
            due("says(" + c + ")", x.says(c), -9);
        }
        due("answers of a day", x.behind(1, 3), 0);
        due("calls that were not answered", x.behind(1, 4), 6);
        CHECK.begin("SILENT within a day, from the call on that hurts so");
        TheEchosWidow y = Check.of("ct05000;ch00001;ct05002;cw20003;ct05004;u09;");
        due("ahead of the child", y.of(0, 1, 0), 1);
        due("behind the child", y.of(2, 1, 0), 0);
        // 9, the child 11, the tourist 12, the widow 10: as much as patience.
        due("behind the widow", y.of(4, 1, 0), 1);
    }

    private static void hoursAndNumbers() {
        CHECK.begin("A DAY goes by HOURS");
        // Tourist 0 would hear 0 ahead of the child at any hour less than hers, nothing behind it.
        for (int hour = 0; hour < 24; hour++) {
            TheEchosWidow x = Check.of("ch00000;ct05100;u09;");
            x.hour(0, hour);
            for (int his = 0; his < 24; his++) {
                x.hour(1, his);
                due("child at " + hour + ", he at " + his, x.of(1, 1, 0), his < hour ? 1 : 0);
            }
        }
        CHECK.begin("in one HOUR by numbers");
        for (int hour : new int[] {0, 7, 12, 23}) {
            TheEchosWidow x = Check.of("ct05000;ct05000;ct05000;ch00000;ct05000;ct05000;ct05000;u09;");
            for (int c = 0; c < 7; c++) {
                x.hour(c, hour);
            }
            for (int c = 0; c < 7; c++) {
                due("number " + c + " at " + hour, x.of(c, 1, 0), c < 3 ? 1 : 0);
            }
            due("each calls", x.behind(1, 3) + x.behind(1, 4), 7);
        }
    }

    private static void knownOnADay() {
        CHECK.begin("it says a WORD as KNOWN then is, then KNOWN of the caller's WORD is more");
        TheEchosWidow x = Check.of("cc05007;cc05108;");
        due("to the first, as nothing is known then", x.of(0, 1, 1), 0);
        due("to the second what the first has taught", x.of(1, 1, 1), 0);
        due("words of the day", x.might(1), 1);
        due("on the second day, what the second has taught", x.of(0, 2, 1), 1);
        CHECK.begin("KNOWN of the caller's WORD is more (20 at most)");
        for (int known = 17; known <= 20; known++) {
            TheEchosWidow one = Check.of("cc05007;");
            TheEchosWidow two = Check.of("cs05007;");
            one.learn(0, known);
            two.learn(0, known);
            due("one more than " + known, one.knownIn(1, 0), Math.min(20, known + 1));
            due("two more than " + known, two.knownIn(1, 0), Math.min(20, known + 2));
            one.days(1);
            two.days(1);
            due("one more than " + known, one.known(0), Math.min(20, known + 1));
            due("two more than " + known, two.known(0), Math.min(20, known + 2));
        }
        TheEchosWidow y = Check.of("cc05007;k120;");
        due("it says 1", y.of(0, 1, 1), 1);
        due("and learns his", y.knownIn(1, 0), 1);
    }

    private static void hurtOnADay() {
        CHECK.begin("else HURT is more or less (99 at most)");
        hurtBehind("ct90007;", 98, 99);
        hurtBehind("ct90007;", 99, 99);
        hurtBehind("ch90007;", 96, 98);
        hurtBehind("ch90007;", 97, 99);
        hurtBehind("ch90007;", 98, 99);
        hurtBehind("ch90007;", 99, 99);
        hurtBehind("cg95007;", 90, 99);
        hurtBehind("cg95007;", 91, 99);
        hurtBehind("cg95007;", 89, 98);
        hurtBehind("cg05007;", 99, 99);
        // At once, not at the day's end: 99 of 98 and 2, then the widow takes 9.
        hurtBehind("ch90007;cw95008;", 98, 90);
        // And 0 at once: the widow's 9 of 3 leave 0, then the tourist hurts 1.
        hurtBehind("cw95007;ct90008;", 3, 1);
    }

    private static void hurtBehind(String callers, int hurt, int want) {
        TheEchosWidow x = Check.of(callers);
        x.set(1, hurt);
        due(callers + " of " + hurt + " in mind", x.behind(1, 0), want);
        x.days(1);
        due(callers + " of " + hurt, x.count(3), want);
    }

    private static void seven() {
        CHECK.begin("At the end: if nobody called at 7, HURT is 1 more");
        hurtBehind("t5;", 0, 1);
        hurtBehind("t5;", 98, 99);
        hurtBehind("t5;", 99, 99);
        hurtBehind("cc05006;", 3, 4);
        hurtBehind("cc05008;", 3, 4);
        hurtBehind("cc05000;cc05023;", 3, 4);
        hurtBehind("cc00007;", 3, 3);
        hurtBehind("cw05007;", 3, 3);
        // More than patience by it: on the second day nobody is answered.
        due("silent by it", Check.of("cc05008;u10;").behind(2, 3), 1);
        CHECK.begin("if somebody was ANSWERED at 7, HURT is 1 less (0 at least)");
        hurtBehind("cc05007;", 10, 9);
        hurtBehind("cc05007;", 1, 0);
        hurtBehind("cc05007;", 0, 0);
        hurtBehind("cc05007;", 11, 11);
        hurtBehind("cg05007;", 3, 2);
        hurtBehind("cc05007;cs05007;ch05007;", 5, 4);
        hurtBehind("cc05007;ct00007;", 5, 5);
        hurtBehind("ct00007;cc05007;", 5, 5);
        hurtBehind("cc00007;cc05008;", 5, 5);
        CHECK.begin("at the end, not at the call");
        // Who is answered at 7 heals nothing ahead of 8: 9 and the child's 2 are more than patience at 9.
        due("silent at 9", Check.of("cc05007;ch00008;ct05009;u09;").of(2, 1, 0), 0);
        // And that nobody calls at 7 hurts nothing ahead of 23.
        due("not silent at 23", Check.of("cc05023;u10;").of(0, 1, 0), 1);
    }

    private static void forgetting() {
        CHECK.begin("if HURT is 10 or more, KNOWN of what it knows best is 1 less");
        forgets("cc00107;k305;", 9, 5);
        forgets("cc00107;k305;", 10, 4);
        forgets("cc00107;k305;", 11, 4);
        forgets("cc00107;k305;", 99, 4);
        forgets("cc00107;k301;", 10, 0);
        forgets("cc00107;k300;", 10, 0);
        // As HURT is behind what 7 has made of it.
        forgets("k305;", 8, 5);
        forgets("k305;", 9, 4);
        forgets("cc05107;k305;", 10, 5);
        forgets("cc05107;k305;p20;", 11, 4);
        CHECK.begin("what it knows best: KNOWN most, of several the least WORD");
        TheEchosWidow x = Check.of("cc00107;k003;k503;k702;u10;");
        due("0 first", x.knownIn(1, 0) * 100 + x.knownIn(1, 5) * 10 + x.knownIn(1, 7), 232);
        due("then 5", x.knownIn(2, 0) * 100 + x.knownIn(2, 5) * 10 + x.knownIn(2, 7), 222);
        due("then 0", x.knownIn(3, 0) * 100 + x.knownIn(3, 5) * 10 + x.knownIn(3, 7), 122);
        due("nothing is left behind 8", x.behind(8, 1), 0);
        due("nor less", x.behind(60, 1), 0);
        due("one is left behind 7", x.knownIn(7, 7), 1);
    }

    private static void forgets(String gorge, int hurt, int want) {
        TheEchosWidow x = Check.of(gorge);
        x.set(1, hurt);
        x.days(1);
        due(gorge + " hurt " + hurt, x.known(3), want);
    }

    private static void daysGoBy() {
        CHECK.begin("DAY is 1 more");
        TheEchosWidow x = new TheEchosWidow();
        for (int day = 1; day <= 3; day++) {
            x.days(1);
            due("day", x.count(1), day);
        }
        x.days(60);
        due("day", x.count(1), 63);
        due("by a gorge", Check.gorge(x, "d01;d60;"), 2);
        due("day", x.count(1), 124);
        CHECK.begin("DAYS (2 digits, 1 .. 60): they go by");
        due("as by days", Check.of("cc05007;d60;").known(0), 20);
        due("hurt as by days", Check.of("d01;").count(3), 1);
        due("hurt as by days", Check.of("d60;").count(3), 60);
        CHECK.begin("days: n DAYS go by: how many ANSWERS");
        TheEchosWidow y = Check.of("cc05007;cc05107;cc00208;");
        due("of one", y.days(1), 2);
        due("of 60, not of those ahead of them", y.days(60), 120);
        due("none", new TheEchosWidow().days(60), 0);
    }
}
