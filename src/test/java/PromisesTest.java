/** Promise by promise: answers worked out by hand, the edges that the document names, refusals in their order. */
public final class PromisesTest {
    private static final int MIN = Integer.MIN_VALUE;
    private static final int MAX = Integer.MAX_VALUE;
    private static final Check CHECK = new Check();

    private static void due(String call, long got, long want) {
        CHECK.due(call, got, want);
    }

    public static void main(String[] args) {
        p1();
        p2();
        p3Form();
        p3Sense();
        p3Comes();
        p4();
        p5to8();
        p9Days();
        p9Kinds();
        p9Seven();
        p9Limits();
        p10and11();
        p12to14();
        p15and16();
        p17and18();
        p19to21();
        p22();
        p23and24();
        p25and26();
        p27();
        p28and29();
        p30to33();
        p34();
        p35and36();
        p37();
        readme();
        CHECK.end("PromisesTest");
    }

    private static void p1() {
        TheEchosWidow x = new TheEchosWidow();
        int[] first = {0, 0, 5, 0, 10, 0, 0, 0, 0, -9, -9, 0, 0, 0, 0, 0, 0, -9};
        for (int what = 0; what < first.length; what++) {
            due("1: new count(" + what + ")", x.count(what), first[what]);
        }
        for (int w = 0; w < 8; w++) {
            due("1: new known(" + w + ")", x.known(w), 0);
        }
        due("1: no image yet", x.on(), -3);
        TheEchosWidow other = new TheEchosWidow();
        x.learn(2, 9);
        due("1: objects share nothing", other.known(2), 0);
    }

    private static void p2() {
        TheEchosWidow x = new TheEchosWidow();
        due("2: letter(-1)", x.letter(-1), -4);
        due("2: letter(MIN)", x.letter(MIN), -4);
        due("2: letter(256)", x.letter(256), -6);
        due("2: letter(MAX)", x.letter(MAX), -6);
        due("2: none has come", x.count(8), 0);
        for (int i = 1; i <= 96; i++) {
            due("2: letter " + i, x.letter(i % 2 == 0 ? 0 : 255), i);
        }
        due("2: no room", x.letter(59), -6);
        due("2: below goes first", x.letter(-1), -4);
        due("2: letters", x.count(8), 96);
        due("2: refused -4", x.count(14), 3);
        due("2: refused -6", x.count(16), 3);
        due("2: gorge", x.gorge(), -1000);
        due("2: room again", x.letter(0), 1);
    }

    private static void fault(String letters, int want) {
        TheEchosWidow x = Check.of("cc05007;k305;t6;u03;p09;");
        String before = Check.state(x) + Check.refusals(x);
        due("3: \"" + letters + "\"", Check.gorge(x, letters), want);
        due("3: letters are no more behind \"" + letters + "\"", x.count(8), 0);
        CHECK.holds("3: nothing comes of \"" + letters + "\"", before.equals(Check.state(x) + Check.refusals(x)));
    }

    private static void p3Form() {
        fault("", -1000);
        fault(";", -1000);
        fault("x", -1000);
        fault("C", -1000);
        fault("t5;;", -1003);
        fault("t5;t", -1004);
        fault("t5", -1002);
        fault("t", -1001);
        fault("t55;", -1002);
        fault("tx;", -1001);
        fault("t5:", -1002);
        fault("t/;", -1001);
        fault("c", -1001);
        fault("ck00000;", -1001);
        fault("c000000;", -1001);
        fault("ch", -1002);
        fault("ch0000;", -1006);
        fault("ch00000", -1007);
        fault("ch000000;", -1007);
        fault("k30;", -1003);
        fault("k3055;", -1004);
        fault("u5;", -1002);
        fault("u055;", -1003);
        fault("p5;", -1002);
        fault("p055;", -1003);
        fault("h07;", -1003);
        fault("h0077;", -1004);
        fault("d1;", -1002);
        fault("d001;", -1003);
        fault("d00;t5;x", -1007);
        fault("k999;t", -1006);
        fault("t5; t6;", -1003);
    }

    private static void p3Sense() {
        fault("cc00800;", -2000);
        fault("cc00900;", -2000);
        fault("cc00024;", -2000);
        fault("cc00099;", -2000);
        fault("k800;", -2000);
        fault("k021;", -2000);
        fault("p00;", -2000);
        fault("p21;", -2000);
        fault("h100;", -2000);
        fault("h024;", -2000);
        fault("h123;cc00000;", -2000);
        fault("d00;", -2000);
        fault("d61;", -2000);
        fault("t7;u11;p00;", -2007);
        fault("t7;d05;cc00000;k001;p05;p00;p00;", -2024);
        fault("cc00000;cc00000;cc00000;cc00000;cc00000;cc00000;cc00000;", -2048);
        TheEchosWidow x = new TheEchosWidow();
        for (int i = 0; i < 16; i++) {
            due("3: days by a gorge", Check.gorge(x, "d60;"), 1);
        }
        due("3: day 960", x.count(1), 960);
        due("3: above 999 behind all ahead of it", Check.gorge(x, "d30;t1;d10;"), -2007);
        due("3: nothing came", x.count(1), 960);
        due("3: above 999", Check.gorge(x, "d40;"), -2000);
        due("3: 999", Check.gorge(x, "d39;"), 1);
        due("3: day 999", x.count(1), 999);
        due("3: not one more", Check.gorge(x, "d01;"), -2000);
    }

    private static void p3Comes() {
        TheEchosWidow x = new TheEchosWidow();
        due("3: all kinds", Check.gorge(x, "cc05007;ch14108;ct26209;cw35310;cs45411;cg59523;k620;t7;u99;p20;h012;"), 11);
        int[][] callers = {{0, 0, 5, 0, 12}, {1, 1, 4, 1, 8}, {2, 2, 6, 2, 9}, {3, 3, 5, 3, 10}, {4, 4, 5, 4, 11}, {5, 5, 9, 5, 23}};
        for (int c = 0; c < 6; c++) {
            for (int what = 0; what < 5; what++) {
                due("3: caller(" + c + "," + what + ")", x.caller(c, what), callers[c][what]);
            }
        }
        due("3: known", x.known(6), 20);
        due("3: tune", x.count(2), 7);
        due("3: hurt", x.count(3), 99);
        due("3: patience", x.count(4), 20);
        due("3: callers add up", Check.gorge(x, "cg99723;h623;"), 2);
        due("3: callers", x.count(0), 7);
        due("3: the last hour", x.caller(6, 4), 23);
        due("3: no eighth", Check.gorge(x, "t2;cc00000;"), -2003);
        due("3: an eighth is nobody", Check.gorge(x, "h700;"), -2000);
        due("3: tune stayed", x.count(2), 7);
        due("3: 32 statements", Check.gorge(x, "t1;".repeat(32)), 32);
        due("3: tune 1", x.count(2), 1);
        due("3: no refusals by faults", x.count(11) + x.count(12) + x.count(13) + x.count(14) + x.count(16), 0);
        // In their order: two days at tune 5 (answered), then the tune goes away and one day (not answered).
        TheEchosWidow y = new TheEchosWidow();
        due("3: days in their place", Check.gorge(y, "cc05007;d02;t9;d01;u04;"), 5);
        due("3: learnt on two", y.known(0), 2);
        due("3: hurt told behind", y.count(3), 4);
        due("3: three days", y.count(1), 3);
    }

    private static void p4() {
        TheEchosWidow x = Check.of("ch14623;");
        due("4: caller(1,0)", x.caller(1, 0), -1);
        due("4: caller(-1,0)", x.caller(-1, 0), -1);
        due("4: nobody goes first", x.caller(MAX, 9), -1);
        due("4: caller(0,5)", x.caller(0, 5), -2);
        due("4: caller(0,-1)", x.caller(0, -1), -2);
        due("4: kind", x.caller(0, 0), 1);
        due("4: figure", x.caller(0, 1), 1);
        due("4: tone", x.caller(0, 2), 4);
        due("4: word", x.caller(0, 3), 6);
        due("4: hour", x.caller(0, 4), 23);
    }

    private static void p5to8() {
        TheEchosWidow x = Check.of("cc05007;k705;");
        due("5: known(7)", x.known(7), 5);
        due("5: known(8)", x.known(8), -1);
        due("5: known(-1)", x.known(-1), -1);
        due("6: learn(7,20)", x.learn(7, 20), 5);
        due("6: learn(7,0)", x.learn(7, 0), 20);
        due("6: learn(0,1)", x.learn(0, 1), 0);
        due("6: learnt", x.known(0), 1);
        due("6: nobody goes first", x.learn(8, -1), -1);
        due("6: learn(-1,21)", x.learn(-1, 21), -1);
        due("6: learn(0,-1)", x.learn(0, -1), -4);
        due("6: learn(0,21)", x.learn(0, 21), -6);
        due("6: stays", x.known(0), 1);
        due("7: set(0,9)", x.set(0, 9), 5);
        due("7: set(0,0)", x.set(0, 0), 9);
        due("7: set(1,99)", x.set(1, 99), 0);
        due("7: set(1,0)", x.set(1, 0), 99);
        due("7: set(2,20)", x.set(2, 20), 10);
        due("7: set(2,1)", x.set(2, 1), 20);
        due("7: other goes first", x.set(3, -1), -2);
        due("7: set(-1,0)", x.set(-1, 0), -2);
        due("7: set(0,-1)", x.set(0, -1), -4);
        due("7: set(0,10)", x.set(0, 10), -6);
        due("7: set(1,-1)", x.set(1, -1), -4);
        due("7: set(1,100)", x.set(1, 100), -6);
        due("7: set(2,0)", x.set(2, 0), -4);
        due("7: set(2,21)", x.set(2, 21), -6);
        due("7: tune", x.count(2), 0);
        due("7: hurt", x.count(3), 0);
        due("7: patience", x.count(4), 1);
        due("8: hour(0,23)", x.hour(0, 23), 7);
        due("8: hour(0,0)", x.hour(0, 0), 23);
        due("8: nobody goes first", x.hour(1, -1), -1);
        due("8: hour(-1,24)", x.hour(-1, 24), -1);
        due("8: hour(0,-1)", x.hour(0, -1), -4);
        due("8: hour(0,24)", x.hour(0, 24), -6);
        due("8: stays", x.caller(0, 4), 0);
    }

    private static void p9Days() {
        TheEchosWidow x = Check.of("cc05007;");
        due("9: days(0)", x.days(0), -4);
        due("9: days(61)", x.days(61), -6);
        due("9: days(MAX)", x.days(MAX), -6);
        due("9: days(1)", x.days(1), 1);
        due("9: answers of these days alone", x.days(3), 3);
        due("9: day", x.count(1), 4);
        due("9: known", x.known(0), 4);
        for (int i = 0; i < 16; i++) {
            due("9: days(60)", x.days(60), 60);
        }
        due("9: day 964", x.count(1), 964);
        due("9: 20 at most", x.known(0), 20);
        due("9: above 999", x.days(36), -6);
        due("9: to 999", x.days(35), 35);
        due("9: day 999", x.count(1), 999);
        due("9: no more", x.days(1), -6);
        due("9: in thought it may pass", x.behind(60, 3), 60);
        // By hours, in one by numbers: 1 calls ahead of 0, 2 behind it; the words tell the order.
        TheEchosWidow y = Check.of("cc05007;cs05106;cc05207;");
        due("9: three", y.days(1), 3);
        due("9: to 0 it said what 1 taught", y.of(0, 0, 1), -9);
        TheEchosWidow z = Check.of("cc05007;cs05106;cc05207;");
        due("9: to 1 its own, for nothing was known", z.of(1, 1, 1), 1);
        due("9: to 0 what 1 taught", z.of(0, 1, 1), 1);
        due("9: to 2 what 1 taught", z.of(2, 1, 1), 1);
        due("9: words said", z.might(1), 2);
        z.hour(1, 8);
        due("9: now 0 is first", z.of(0, 1, 1), 0);
        due("9: then 2", z.of(2, 1, 1), 0);
        due("9: then 1", z.of(1, 1, 1), 0);
    }

    /** One day of a caller at 7, near and far, silent or not: hurt and known behind it. */
    private static void kind(String caller, int tune, int hurt, int wantHurt, int wantKnown) {
        TheEchosWidow x = Check.of(caller + "k305;");
        x.set(0, tune);
        x.set(1, hurt);
        x.days(1);
        due("9: " + caller + " tune " + tune + " hurt " + hurt + ": hurt", x.count(3), wantHurt);
        due("9: " + caller + " tune " + tune + " hurt " + hurt + ": known", x.known(0), wantKnown);
    }

    private static void p9Kinds() {
        kind("cc75007;", 7, 5, 4, 1);
        kind("cc75007;", 3, 5, 4, 1);
        kind("cc75007;", 8, 5, 5, 0);
        kind("cc75007;", 2, 5, 5, 0);
        kind("ch75007;", 9, 5, 4, 1);
        kind("ch75007;", 1, 5, 4, 1);
        kind("ch75007;", 0, 5, 7, 0);
        kind("ct75007;", 7, 5, 4, 0);
        kind("ct75007;", 8, 5, 6, 0);
        kind("cw35007;", 5, 5, 2, 0);
        kind("cw95007;", 5, 5, 0, 0);
        kind("cw05007;", 5, 5, 5, 0);
        kind("cs75007;", 5, 5, 4, 2);
        kind("cs75007;", 6, 5, 5, 0);
        kind("cs75007;", 4, 5, 5, 0);
        kind("cg70007;", 9, 5, 4, 0);
        kind("cg75007;", 5, 10, 9, 0);
        // Silent, at 11 of 10: each of them as if it were too far.
        kind("cc75007;", 5, 11, 11, 0);
        kind("ch75007;", 5, 11, 13, 0);
        kind("ct75007;", 5, 11, 12, 0);
        kind("cw35007;", 5, 11, 8, 0);
        kind("cs75007;", 5, 11, 11, 0);
        kind("cg75007;", 5, 11, 18, 0);
        kind("cg95007;", 5, 95, 99, 0);
        TheEchosWidow x = Check.of("cs05007;k019;");
        x.days(1);
        due("9: a singer's two more, 20 at most", x.known(0), 20);
    }

    private static void p9Seven() {
        TheEchosWidow x = Check.of("cc05008;u03;");
        due("9: answered at 8", x.days(1), 1);
        due("9: nobody at 7", x.count(3), 4);
        x.hour(0, 7);
        due("9: answered at 7", x.days(1), 1);
        due("9: one less", x.count(3), 3);
        x.set(0, 9);
        due("9: not answered at 7", x.days(1), 0);
        due("9: neither", x.count(3), 3);
        x.set(1, 0);
        x.set(0, 5);
        x.days(1);
        due("9: 0 at least", x.count(3), 0);
        // Two answered at 7 heal by one alone.
        TheEchosWidow y = Check.of("cc05007;cc05107;u06;");
        y.days(1);
        due("9: one less for both", y.count(3), 5);
        // Forgets what it knows best, of several the least; at 10 and more, behind what hurts at the end.
        TheEchosWidow z = Check.of("k305;k505;u08;");
        z.days(1);
        due("9: 9 does not forget", z.count(5), 10);
        z.days(1);
        due("9: 10 forgets the least of the best", z.known(3), 4);
        due("9: not the other", z.known(5), 5);
        z.days(1);
        due("9: then the other", z.known(5), 4);
        TheEchosWidow h = Check.of("cc05007;k305;u10;");
        h.days(1);
        due("9: healed to 9 ahead of forgetting", h.known(3), 5);
        TheEchosWidow n = Check.of("u99;");
        n.days(2);
        due("9: 99 at most, nothing to forget", n.count(3), 99);
        due("9: nothing known", n.count(5), 0);
        // It may be silenced and healed within a day: the widow at 6 opens, the child at 8 shuts.
        TheEchosWidow w = Check.of("cw25006;cc05107;ch00208;cc05309;u11;");
        due("9: one answered while not silent", w.of(1, 1, 0), 1);
        due("9: 9 + 2 is silent again", w.of(3, 1, 0), 0);
        due("9: hurt behind: 11 less 1", w.behind(1, 0), 10);
    }

    private static void p9Limits() {
        TheEchosWidow x = Check.of("u10;p10;cg05007;");
        due("9: at patience it is not silent", x.days(1), 1);
        x.set(1, 11);
        due("9: above it is", x.days(1), 0);
    }

    private static void p10and11() {
        TheEchosWidow x = Check.of("cc08007;cg90707;ct04607;cw05507;ch09407;cs05307;");
        int[] answers = {0, 1, 1, 0, 1, 1};
        int[] fresh = {-9, 0, 6, -9, 4, 3};
        for (int c = 0; c < 6; c++) {
            due("10: answers(" + c + ")", x.answers(c), answers[c]);
            due("11: says(" + c + ")", x.says(c), fresh[c]);
        }
        Check.gorge(x, "k403;k203;k601;");
        int[] says = {-9, 0, 6, -9, 2, 2};
        for (int c = 0; c < 6; c++) {
            due("11: knowing, says(" + c + ")", x.says(c), says[c]);
        }
        x.learn(2, 0);
        due("11: best of all but his", x.says(4), 6);
        due("11: best of all", x.says(5), 4);
        x.learn(6, 0);
        due("11: none but his is known: his own", x.says(4), 4);
        due("10: answers(6)", x.answers(6), -1);
        due("10: answers(-1)", x.answers(-1), -1);
        due("11: says(6)", x.says(6), -1);
        due("11: says(-1)", x.says(-1), -1);
        due("10: refusals", x.count(11), 4);
        x.set(1, 11);
        due("10: silent answers nobody", x.answers(1), 0);
        due("11: silent says nothing", x.says(1), -9);
    }

    private static void p12to14() {
        TheEchosWidow x = Check.of("cc05007;ch00107;cs05208;");
        // Each day: 0 answered; 1 not (5 from 4) and hurts 2; 2 learns 2; answered at 7: hurt 1 more in all.
        due("12: hurt", x.behind(4, 0), 4);
        due("12: known", x.behind(4, 1), 12);
        due("12: best", x.behind(4, 2), 2);
        due("12: answers", x.behind(4, 3), 8);
        due("12: not answered", x.behind(4, 4), 4);
        due("12: now", x.behind(0, 3), 0);
        due("12: best of nothing", x.behind(0, 2), -9);
        due("12: nothing has gone by", x.count(1) + x.count(3) + x.count(5), 0);
        due("12: below first", x.behind(-1, 9), -4);
        due("12: room next", x.behind(61, 9), -6);
        due("12: other", x.behind(60, 5), -2);
        due("12: other below", x.behind(0, -1), -2);
        due("13: knownIn(4,2)", x.knownIn(4, 2), 8);
        due("13: knownIn(4,0)", x.knownIn(4, 0), 4);
        due("13: knownIn(4,7)", x.knownIn(4, 7), 0);
        due("13: below first", x.knownIn(-1, 8), -4);
        due("13: room next", x.knownIn(61, 8), -6);
        due("13: nobody", x.knownIn(60, 8), -1);
        due("13: nobody below", x.knownIn(0, -1), -1);
        due("14: times", x.of(0, 4, 0), 4);
        due("14: the last word", x.of(0, 4, 1), 2);
        due("14: the first day's", x.of(0, 1, 1), 0);
        due("14: never answered", x.of(1, 4, 0), 0);
        due("14: no word", x.of(1, 4, 1), -9);
        due("14: none yet", x.of(0, 0, 1), -9);
        due("14: nobody first", x.of(3, -1, 9), -1);
        due("14: below next", x.of(0, -1, 9), -4);
        due("14: room next", x.of(0, 61, 9), -6);
        due("14: other", x.of(0, 60, 2), -2);
        due("14: other below", x.of(0, 60, -1), -2);
    }

    private static void p15and16() {
        TheEchosWidow x = Check.of("cs05307;k102;");
        due("15: now", x.knows(1, 2), 0);
        due("15: 0 is always", x.knows(7, 0), 0);
        due("15: by twos", x.knows(3, 5), 3);
        due("15: 20", x.knows(3, 20), 10);
        due("15: never", x.knows(1, 3), -9);
        due("15: nobody first", x.knows(8, -1), -1);
        due("15: below", x.knows(0, -1), -4);
        due("15: room", x.knows(0, 21), -6);
        // The widow at 6 takes one a day: at 7 of day 60 hurt is 10 and it answers for the first time.
        TheEchosWidow late = Check.of("cc05007;cw15106;u70;p10;");
        due("15: on day 60", late.knows(0, 1), 60);
        late.set(1, 71);
        due("15: not on day 61", late.knows(0, 1), -9);
        due("16: silent now", late.silent(), 0);
        // Each day the child hurts 2, the widow takes 1 and the answer at 7 takes 1.
        TheEchosWidow even = Check.of("cc05007;ch00108;cw15109;u01;p20;");
        due("16: not in 60 days", even.silent(), -9);
        due("16: never", x.silent(), -9);
        TheEchosWidow y = new TheEchosWidow();
        due("16: one a day", y.silent(), 11);
        y.set(2, 20);
        due("16: more patience", y.silent(), 21);
        TheEchosWidow z = Check.of("ct00007;ct09107;cw15208;p20;");
        due("16: one a day more, as two hurt and one heals", z.silent(), 21);
    }

    private static void p17and18() {
        TheEchosWidow x = Check.of("cc05019;ct00112;cw25203;u04;");
        due("17: an empty row", x.week(0), 0);
        due("17: hurt as it is", x.week(1), 4);
        x.row(0);
        x.row(1);
        x.row(2);
        x.row(0);
        // 4 -1 = 3; tourist not near, +1 = 4; widow -2 = 2; -1 = 1.
        due("17: answers", x.week(0), 2);
        due("17: hurt", x.week(1), 1);
        due("17: it stays", x.count(7), 4);
        due("17: other", x.week(2), -2);
        due("17: other below", x.week(-1), -2);
        x.row(3);
        due("17: no caller", x.week(0), -3);
        TheEchosWidow only = Check.of("cc05007;");
        only.row(1);
        due("17: the first is no caller", only.week(0), -3);
        only.row(0);
        due("17: the first of two is no caller", only.week(0), -3);
        due("17: other first", x.week(2), -2);
        due("17: hours stay", x.caller(0, 4), 19);
        due("18: answers", x.bestWeek(-1), 3);
        due("18: 0", x.bestWeek(0), 0);
        due("18: 1", x.bestWeek(1), 0);
        due("18: 2", x.bestWeek(2), 0);
        due("18: below", x.bestWeek(-2), -4);
        due("18: room", x.bestWeek(3), -6);
        // Silent at 11: the widow must go first (11 - 3 = 8); twice, and it would be one answer less.
        TheEchosWidow y = Check.of("cc05019;cc04019;cw35203;u11;p10;");
        due("18: answers behind the widow", y.bestWeek(-1), 2);
        due("18: first the widow", y.bestWeek(0), 2);
        due("18: then the least", y.bestWeek(1), 0);
        due("18: and again", y.bestWeek(2), 0);
        // None is answered: then the least hurt, of several the first.
        TheEchosWidow z = Check.of("cc00007;cw10007;cw20007;u05;");
        due("18: no answers", z.bestWeek(-1), 0);
        due("18: two hurts less by the first that does it", z.bestWeek(0), 1);
        due("18: 5 - 1 - 2 - 2", z.bestWeek(1), 2);
        due("18: last", z.bestWeek(2), 2);
        // 1 + 2 + 3 is the first that heals 6: three different ones, each in his place.
        TheEchosWidow three = Check.of("cw15007;cw25007;cw35007;u06;");
        due("18: three: 0", three.bestWeek(0), 0);
        due("18: three: 1", three.bestWeek(1), 1);
        due("18: three: 2", three.bestWeek(2), 2);
        // At 7, not at his hour: else nobody would call at 7, and 10 of 10 would be silent on the second day.
        TheEchosWidow late = Check.of("cc05019;u10;");
        due("18: at 7", late.bestWeek(-1), 3);
        TheEchosWidow none = new TheEchosWidow();
        due("18: no callers", none.bestWeek(-1), -9);
        due("18: no callers, the first", none.bestWeek(0), -9);
        due("18: below all the same", none.bestWeek(MIN), -4);
        due("18: room all the same", none.bestWeek(MAX), -6);
    }

    private static void p19to21() {
        TheEchosWidow x = Check.of("cs03007;cs07107;cs07207;");
        due("19: most", x.bestTune(5), 7);
        due("19: of several the least", x.bestTune(0), 0);
        due("19: below", x.bestTune(-1), -4);
        due("19: room", x.bestTune(61), -6);
        due("19: tune stays", x.count(2), 5);
        TheEchosWidow h = Check.of("ch09007;");
        due("19: a child's reach", h.bestTune(60), 5);
        // 1 hurts 2 a day, 2 hurts 1 a day, 0 heals 1 at 7.
        TheEchosWidow y = Check.of("cc05007;ch00108;ct00209;");
        due("20: who hurts most", y.worst(3), 1);
        due("20: none in no days", y.worst(0), -9);
        due("20: below", y.worst(-1), -4);
        due("20: room", y.worst(61), -6);
        TheEchosWidow z = Check.of("ct00007;ct05107;ct00208;ct00308;");
        due("20: of several the least", z.worst(4), 0);
        TheEchosWidow w = Check.of("cw35007;cc05108;");
        due("20: nobody hurts", w.worst(9), -9);
        // At 7 it heals, so it stays long enough below patience; at another hour the echo falls silent.
        TheEchosWidow a = Check.of("cc05019;");
        due("21: at seven most", a.bestHour(0, 40), 7);
        due("21: of several the least", a.bestHour(0, 5), 0);
        due("21: in no days", a.bestHour(0, 0), 0);
        due("21: hour stays", a.caller(0, 4), 19);
        due("21: nobody first", a.bestHour(1, -1), -1);
        due("21: below", a.bestHour(0, -1), -4);
        due("21: room", a.bestHour(0, 61), -6);
        // The child (never near) makes it silent: only behind him who calls at 12 does it hurt no answer.
        // At 12 itself the child, of the lesser number, would still be first.
        TheEchosWidow b = Check.of("ch00007;cc05112;u09;");
        due("21: all answers count, not only his own", b.bestHour(0, 1), 13);
    }

    private static void p22() {
        TheEchosWidow x = Check.of("cc05007;ch00108;ch00209;p04;");
        // Each child hurts 2 a day, 0 heals 1: with both 3 a day, with one 1 a day.
        due("22: nobody for a day", x.keepAway(1, 0), 0);
        due("22: how many", x.keepAway(1, 1), 0);
        due("22: one for two days", x.keepAway(2, 0), 2);
        due("22: one", x.keepAway(2, 1), 1);
        due("22: still one for four", x.keepAway(4, 0), 2);
        due("22: both for five", x.keepAway(5, 0), 6);
        due("22: two", x.keepAway(60, 1), 2);
        due("22: below first", x.keepAway(-1, 9), -4);
        due("22: room next", x.keepAway(61, 9), -6);
        due("22: other", x.keepAway(0, 2), -2);
        due("22: other below", x.keepAway(0, -1), -2);
        x.set(1, 5);
        due("22: silent now", x.keepAway(0, 0), -3);
        due("22: other ahead of state", x.keepAway(0, 2), -2);
        // Each hurts 1 a day, and without any of them nobody calls at 7, which hurts 1, too.
        TheEchosWidow y = Check.of("ct00007;ct00107;ct00207;p02;");
        due("22: the least bits", y.keepAway(1, 0), 1);
        due("22: fewest go first", y.keepAway(2, 0), 3);
        due("22: none can", y.keepAway(3, 0), -9);
        due("22: none can, how many", y.keepAway(3, 1), -9);
        TheEchosWidow all = Check.of("ct00008;ct00109;p02;");
        due("22: all of them", all.keepAway(2, 0), 3);
        due("22: all, how many", all.keepAway(2, 1), 2);
        // With him he hurts 1, without him nobody calls at 7.
        TheEchosWidow z = Check.of("ct00007;p01;u01;");
        due("22: silent behind the first either way", z.keepAway(1, 0), -9);
    }

    private static void p23and24() {
        TheEchosWidow x = Check.of("cc05007;ct05208;cg00709;k104;");
        due("23: words", x.might(1), 1 << 1 | 1 << 2 | 1);
        due("23: none", x.might(0), 0);
        due("23: below", x.might(-1), -4);
        due("23: room", x.might(61), -6);
        due("24: never", x.never(), 255 & ~(1 << 0 | 1 << 1 | 1 << 2 | 1 << 7));
        x.learn(1, 0);
        due("24: not known any more", x.never(), 255 & ~(1 << 0 | 1 << 2 | 1 << 7));
        due("24: nothing called", new TheEchosWidow().never(), 255);
    }

    private static void p25and26() {
        TheEchosWidow x = Check.of("cc05007;cc05107;ct05207;cg05107;cw05207;ct09207;");
        due("25: own", x.whose(0), 1);
        due("25: one", x.whose(1), 2);
        due("25: two say 2", x.whose(2), 1 << 2 | 1 << 3);
        due("25: nobody", x.whose(7), 0);
        due("25: whose(8)", x.whose(8), -1);
        due("25: whose(-9)", x.whose(-9), -1);
        due("26: the first alone", x.tellsMost(), 0);
        x.learn(3, 1);
        due("25: both", x.whose(3), 3);
        due("26: one other for each", x.tellsMost(), 0);
        x.learn(1, 2);
        // 0 hears 1; 1 hears 3; 2 and 3 hear 2.
        due("26: still the first", x.tellsMost(), 0);
        TheEchosWidow y = Check.of("cc09007;ct05207;cg05107;ct05307;");
        due("26: the one whose word is said to no other", y.tellsMost(), 3);
        y.set(1, 11);
        due("26: silent", y.tellsMost(), -9);
        due("25: silent", y.whose(3), 0);
        TheEchosWidow same = Check.of("ct05207;".repeat(7));
        due("26: all hear the same", same.tellsMost(), 0);
        due("25: all hear the same", same.whose(2), 127);
        due("26: no callers", new TheEchosWidow().tellsMost(), -9);
    }

    private static void p27() {
        // Where nobody calls at 7 it falls silent in the end; one of them is enough.
        TheEchosWidow x = Check.of("cc05001;cc05102;");
        due("27: both at seven is so already", x.byTurns(0, 1, 20), 0);
        due("27: no days", x.byTurns(1, 0, 0), 0);
        due("27: one twice", x.byTurns(0, 0, 5), -1);
        due("27: nobody", x.byTurns(2, 0, -1), -1);
        due("27: nobody either", x.byTurns(0, 2, 61), -1);
        due("27: nobody below", x.byTurns(-1, 0, 5), -1);
        due("27: below", x.byTurns(0, 1, -1), -4);
        due("27: room", x.byTurns(0, 1, 61), -6);
        due("27: hours stay", x.caller(0, 4) * 100 + x.caller(1, 4), 102);
        // The widow at 12 opens a silent echo on each day; who calls at 7 hears nothing.
        TheEchosWidow y = Check.of("cw95012;cc05101;cc05202;ch00318;ch00420;u15;");
        due("27: behind the widow", y.byTurns(1, 2, 1), 11);
        due("27: the one who is never near is content with the first", y.byTurns(3, 1, 1), 1);
        due("27: the other's place", y.byTurns(1, 3, 1), 10);
        // At 19 they are heard between the widow at 18, who opens it, and the child at 20, who shuts it.
        TheEchosWidow z = Check.of("cw90018;ch00120;cc05101;cc05202;u14;p05;");
        due("27: at 19, ahead of 20", z.byTurns(2, 3, 1), 11);
    }

    private static void p28and29() {
        TheEchosWidow x = Check.of("cc05007;k003;k102;u08;");
        due("28: now", x.snow(0, 0), 8);
        due("28: one", x.snow(1, 0), 9);
        due("28: known of all", x.snow(1, 1), 5);
        due("28: two forget", x.snow(2, 1), 4);
        due("28: all forgotten", x.snow(60, 1), 0);
        due("28: hurt", x.snow(60, 0), 68);
        due("28: below first", x.snow(-1, 9), -4);
        due("28: room next", x.snow(61, 9), -6);
        due("28: other", x.snow(0, 2), -2);
        due("28: other below", x.snow(0, -1), -2);
        x.set(1, 60);
        due("28: 99 at most", x.snow(60, 0), 99);
        TheEchosWidow y = Check.of("cc05009;cw30109;ch00209;cw05307;u07;");
        due("29: by answers", y.heals(0), 7);
        due("29: by the widow", y.heals(1), 3);
        due("29: never", y.heals(2), -9);
        due("29: by a widow of 0", y.heals(3), -9);
        due("29: nobody", y.heals(4), -1);
        due("29: nobody below", y.heals(-1), -1);
        y.set(1, 0);
        due("29: now", y.heals(2), 0);
        y.set(1, 99);
        due("29: silent is not healed by calls", y.heals(0), -9);
        due("29: 33 of three", y.heals(1), 33);
        TheEchosWidow w = Check.of("cw15007;u99;");
        due("29: behind the ninety-ninth", w.heals(0), 99);
    }

    private static void p30to33() {
        TheEchosWidow x = Check.of("cs05007;");
        due("30: below", x.row(-1), -4);
        due("30: room", x.row(100), -6);
        for (int i = 0; i < 12; i++) {
            due("30: row", x.row(Math.min(20, 2 * i)), i + 1);
        }
        due("30: 13", x.row(0), -6);
        due("30: below goes first", x.row(-1), -4);
        due("31: by its tune alone", x.fits(), 1 << 5);
        due("31: stays", x.count(7), 12);
        due("32: all so", x.judge(), -9);
        due("32: none then", x.count(7), 0);
        x.row(0);
        x.row(2);
        x.row(5);
        x.row(99);
        due("31: by none", x.fits(), 0);
        due("32: the first that is not so", x.judge(), 2);
        due("32: none then either", x.count(7), 0);
        x.row(0);
        x.row(0);
        due("31: by all others", x.fits(), 1023 & ~(1 << 5));
        due("33: had", x.clear(), 2);
        due("33: has none", x.clear(), 0);
        due("31: an empty row", x.fits(), 1023);
        due("32: an empty row", x.judge(), -9);
        TheEchosWidow y = Check.of("k020;k120;k220;k320;k419;");
        x = y;
        x.row(99);
        due("32: 99", x.judge(), -9);
        x.learn(5, 20);
        x.row(99);
        x.row(99);
        due("31: 99 for more", x.fits(), 1023);
        due("32: 99 for more", x.judge(), -9);
    }

    private static int draw(int[] z) {
        z[0] = z[0] * 1664525 + 1013904223;
        return (z[0] & 0x7fffffff) / 256 % 10;
    }

    private static void p34() {
        TheEchosWidow x = Check.of("cs00007;ch00108;u02;");
        for (int seed : new int[] {0, 1, -1, 7, 123456789, MIN, MAX}) {
            int[] z = {seed};
            int answers = 0;
            int hurt = 0;
            for (int lot = 0; lot < 20; lot++) {
                boolean singer = draw(z) == 5;
                int child = draw(z);
                boolean near = child >= 1 && child <= 9;
                // A far child hurts 2 a day: only his last call can make it silent, and nobody calls behind it.
                answers += (singer ? 5 : 0) + (near ? 5 : 0);
                hurt += hurtOfLot(singer, near);
            }
            due("34: answers by " + seed, x.lots(20, seed, 0), answers);
            due("34: hurt by " + seed, x.lots(20, seed, 1), hurt);
        }
        due("34: tones stay", x.caller(0, 2) + x.caller(1, 2), 0);
        due("34: below first", x.lots(0, 1, 9), -4);
        due("34: room next", x.lots(21, 1, 9), -6);
        due("34: other", x.lots(1, 1, 2), -2);
        due("34: other below", x.lots(20, 1, -1), -2);
        due("34: no callers", new TheEchosWidow().lots(20, 5, 1), 100);
    }

    private static int hurtOfLot(boolean singer, boolean near) {
        int hurt = 2;
        for (int day = 0; day < 5; day++) {
            hurt += near ? 0 : 2;
            hurt = singer ? Math.max(0, hurt - 1) : hurt;
        }
        return hurt;
    }

    private static void p35and36() {
        TheEchosWidow x = Check.of("cc05007;k305;u02;p09;t6;d03;");
        due("36: none", x.on(), -3);
        due("35: image", x.image(), 3);
        int known = x.known(0);
        Check.gorge(x, "cc05107;h009;k300;u50;p02;t1;d10;");
        x.row(4);
        x.letter(99);
        x.caller(9, 9);
        due("36: on", x.on(), 3);
        due("36: callers", x.count(0), 1);
        due("36: day", x.count(1), 3);
        due("36: tune", x.count(2), 6);
        due("36: hurt", x.count(3), 0);
        due("36: patience", x.count(4), 9);
        due("36: known", x.known(3), 5);
        due("36: his", x.known(0), known);
        due("36: hour", x.caller(0, 4), 7);
        due("36: not the row", x.count(7), 1);
        due("36: not the letters", x.count(8), 1);
        due("36: not the refusals", x.count(11), 1);
        due("36: refused -3", x.count(13), 1);
        due("36: it goes on as then", x.days(4), 4);
        due("36: and again", x.on(), 3);
        due("36: again as then", x.count(1), 3);
        x.days(1);
        due("35: another", x.image(), 4);
        x.days(1);
        due("36: the last one", x.on(), 4);
    }

    private static void p37() {
        TheEchosWidow x = Check.of("cc05007;ch04108;k203;k604;t3;u12;p11;");
        x.letter('t');
        x.letter('5');
        x.row(3);
        due("37: callers", x.count(0), 2);
        due("37: day", x.count(1), 0);
        due("37: tune", x.count(2), 3);
        due("37: hurt", x.count(3), 12);
        due("37: patience", x.count(4), 11);
        due("37: known", x.count(5), 7);
        due("37: silent", x.count(6), 1);
        due("37: row", x.count(7), 1);
        due("37: letters", x.count(8), 2);
        x.set(1, 11);
        due("37: not silent at patience", x.count(6), 0);
        for (int what : new int[] {-1, 9, 10, 17, MIN, MAX}) {
            due("37: count(" + what + ")", x.count(what), -9);
        }
        for (int i = 0; i < 5; i++) {
            due("37: -1", x.known(8), -1);
        }
        for (int i = 0; i < 4; i++) {
            due("37: -2", x.set(3, 0), -2);
        }
        for (int i = 0; i < 3; i++) {
            due("37: -3", x.on(), -3);
        }
        for (int i = 0; i < 2; i++) {
            due("37: -4", x.days(0), -4);
        }
        due("37: -6", x.days(61), -6);
        int[] refused = {5, 4, 3, 2, 0, 1};
        for (int i = 0; i < 6; i++) {
            due("37: refusals " + (i + 11), x.count(11 + i), refused[i]);
        }
    }

    private static void readme() {
        TheEchosWidow x = new TheEchosWidow();
        due("README: gorge", Check.gorge(x, "cc05007;k312;"), 2);
        due("README: says", x.says(0), 3);
        due("README: days", x.days(5), 5);
        due("README: known", x.known(0), 5);
        due("README: behind", x.behind(10, 1), 27);
    }
}
