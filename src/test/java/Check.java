/** Counts answers that are not as due; a test ends with exit code 1 if there was one. */
final class Check {
    private int wrong = 0;
    private int looked = 0;

    void due(String call, long got, long want) {
        looked++;
        if (got != want) {
            wrong++;
            if (wrong <= 50) {
                System.out.println(call + " answered " + got + ", due is " + want);
            }
        }
    }

    void holds(String what, boolean so) {
        due(what, so ? 1 : 0, 1);
    }

    void end(String name) {
        System.out.println(name + ": " + looked + " looked at, " + wrong + " not as due");
        if (wrong != 0) {
            System.exit(1);
        }
    }

    static void tell(TheEchosWidow x, String letters) {
        for (int i = 0; i < letters.length(); i++) {
            x.letter(letters.charAt(i));
        }
    }

    static int gorge(TheEchosWidow x, String letters) {
        tell(x, letters);
        return x.gorge();
    }

    static TheEchosWidow of(String letters) {
        TheEchosWidow x = new TheEchosWidow();
        int answer = gorge(x, letters);
        if (answer < 0) {
            throw new IllegalStateException("a test's gorge has a fault: " + letters + " " + answer);
        }
        return x;
    }
}
