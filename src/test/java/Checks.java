/** What the tests share: the ERRORS, an answer held against the one that is due, TEXTS and SHEETS by one call. */
class Checks {
    static final int BEYOND = -1000000001;
    static final int NONE = -1000000002;
    static final int STATE = -1000000003;
    static final int FULL = -1000000004;
    static final int KIND = -1000000005;
    static final int PARTED = -1000000006;
    static final int MIN = Integer.MIN_VALUE;
    static final int MAX = Integer.MAX_VALUE;

    static int promise;
    private static int wrong;

    static void is(String what, int got, int want) {
        if (got != want) {
            wrong++;
            System.out.println("promise " + promise + ": " + what + ": " + got + ", due is " + want);
        }
    }

    /** Says how many answers were wrong; a test ends with this. */
    static void end(String good) {
        System.out.println(wrong == 0 ? good : wrong + " answers are not as due");
        if (wrong != 0) {
            System.exit(1);
        }
    }

    /** Brings signs to THE TAPE and makes it the TEXT of a USE. */
    static int text(StiltParish p, int use, String signs) {
        feed(p, signs);
        return p.text(use);
    }

    /** Brings signs to THE TAPE, eight a call, as far as there are so many. */
    static void feed(StiltParish p, String signs) {
        for (int from = 0; from < signs.length(); from += 8) {
            int n = Math.min(8, signs.length() - from);
            long word = 0;
            for (int i = n - 1; i >= 0; i--) {
                word = word << 8 | signs.charAt(from + i);
            }
            p.feed(word, n);
        }
    }

    static void fill(StiltParish p, int sheet, int bits, int... numbers) {
        p.sheet(sheet, bits, numbers.length);
        for (int i = 0; i < numbers.length; i++) {
            p.put(sheet, i, numbers[i]);
        }
    }

    static boolean isBeside(int a, int b) {
        return Math.abs(a / 4 - b / 4) + Math.abs(a % 4 - b % 4) == 1;
    }
}
