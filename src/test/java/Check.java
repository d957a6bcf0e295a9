/** Counts answers that are not as due; a test ends with exit code 1 if there was one. */
final class Check {
    private int wrong = 0;
    private int looked = 0;
    private String sentence = "";
    private int lookedBefore = 0;
    private int sentences = 0;

    /** From here on a sentence of the document is looked at; one that is not looked at then is a fault of the test. */
    void begin(String words) {
        endSentence();
        sentence = words;
        lookedBefore = looked;
        sentences++;
    }

    private void endSentence() {
        if (!sentence.isEmpty() && looked == lookedBefore) {
            wrong++;
            System.out.println("nothing looks at: " + sentence);
        }
        sentence = "";
    }

    void due(String call, long got, long want) {
        looked++;
        if (got != want) {
            wrong++;
            if (wrong <= 50) {
                String of = sentence.isEmpty() ? "" : "[" + sentence + "] ";
                System.out.println(of + call + " answered " + got + ", due is " + want);
            }
        }
    }

    void holds(String what, boolean so) {
        due(what, so ? 1 : 0, 1);
    }

    void end(String name) {
        endSentence();
        String of = sentences == 0 ? "" : sentences + " sentences, ";
        System.out.println(name + ": " + of + looked + " looked at, " + wrong + " not as due");
        if (wrong != 0) {
            System.exit(1);
        }
    }

    static void tell(TheEchosWidow x, String letters) {
        for (int i = 0; i < letters.length(); i++) {
            x.letter(letters.charAt(i));
        }
    }

    static int gorge(TheEchosWidow x, String letters) {
        tell(x, letters);
        return x.gorge();
    }

    static TheEchosWidow of(String letters) {
        TheEchosWidow x = new TheEchosWidow();
        int answer = gorge(x, letters);
        if (answer < 0) {
            throw new IllegalStateException("a test's gorge has a fault: " + letters + " " + answer);
        }
        return x;
    }

    /** All that can be asked without a refusal and without a change, but the refusals. */
    static String state(TheEchosWidow x) {
        StringBuilder s = new StringBuilder();
        for (int what = 0; what < 9; what++) {
            s.append(x.count(what)).append(' ');
        }
        for (int c = 0; c < x.count(0); c++) {
            for (int what = 0; what < 5; what++) {
                s.append(x.caller(c, what)).append(' ');
            }
        }
        for (int w = 0; w < 8; w++) {
            s.append(x.known(w)).append(' ');
        }
        return s.toString();
    }

    /** How many refusals there were of each number: "-1 -2 -3 -4 -5 -6". */
    static String refusals(TheEchosWidow x) {
        StringBuilder s = new StringBuilder();
        for (int what = 11; what <= 16; what++) {
            s.append(x.count(what)).append(' ');
        }
        return s.toString();
    }
}
