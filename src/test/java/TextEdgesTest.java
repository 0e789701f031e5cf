/** The edges of THE TAPE and of TEXTS: where each byte may stand, the FAULT, what is worked out at the ends of the ints. */
public final class TextEdgesTest extends Checks {
    private static final String SIGNS = "|&<=>+-*/%";

    public static void main(String[] args) {
        tapeFull();
        tapeBytes();
        tapeBeyond();
        firstByte();
        behindName();
        behindNumber();
        behindSign();
        behindComparing();
        behindBracket();
        digits();
        open();
        openAgain();
        faultPlaces();
        faultLeaves();
        inPlace();
        gone();
        byZero();
        cutTowardZero();
        wraps();
        truths();
        leftFirst();
        end("all edges of texts hold");
    }

    private static int read(int use, String signs) {
        return text(new StiltParish(), use, signs);
    }

    private static void good(int use, String signs) {
        is("'" + signs + "' of USE " + use, read(use, signs), 1);
    }

    private static void fault(int use, String signs, int place) {
        is("'" + signs + "' of USE " + use, read(use, signs), -10 - place);
    }

    /** Whether a TEXT of USE 1 gives that number, which may be any. */
    private static void gives(String signs, int t, int g, int due) {
        StiltParish p = new StiltParish();
        is(signs + " is a TEXT", text(p, 1, "(" + signs + ")=d"), 1);
        is(signs + " by " + t + ", " + g + " is " + due, p.law(1, t, g, due), 1);
    }

    private static void tapeFull() {
        promise = 12;
        for (int n = 1; n <= 8; n++) {
            StiltParish p = new StiltParish();
            int size = 0;
            for (int i = 0; i < 60 / n; i++) {
                size += n;
                is("feed of " + n, p.feed('1', n), size);
            }
            int left = 60 - size;
            for (int more = left + 1; more <= 8; more++) {
                is(size + " bytes and " + more, p.feed('1', more), FULL);
                is("none of them came", p.count(7), size);
            }
            if (left > 0) {
                is(size + " bytes and " + left, p.feed('1', left), 60);
            }
            is("60 bytes and 1", p.feed('1', 1), FULL);
            is("they stay", p.count(7), 60);
            p.text(0);
            is("then there is room", p.feed('1', 8), 8);
        }
    }

    private static void tapeBytes() {
        promise = 12;
        // "1+2+3+4+" and a 5 behind it
        long word = 0x2B342B332B322B31L;
        int[] sum = {0, 6, 0, 8, 0, 11, 0, 15};
        for (int n = 2; n <= 8; n += 2) {
            StiltParish p = new StiltParish();
            is("the lowest bytes", p.feed(word, n), n);
            feed(p, "5");
            is("the lowest first", p.text(1) * 100 + p.law(1, 0, 0, 0), 100 + sum[n - 1]);
        }
        for (int n = 1; n <= 7; n += 2) {
            StiltParish p = new StiltParish();
            is("the lowest bytes", p.feed(word, n), n);
            is("and no byte more", p.text(1) * 100 + p.law(1, 0, 0, 0), 100 + (n + 1) * (n + 3) / 8);
        }
        StiltParish p = new StiltParish();
        p.feed(0x31FFFFFFFFFFFFFFL, 1);
        is("byte 255 is no sign", p.text(0), -10);
        p.feed(0xFFFFFFFFFFFFFF31L, 1);
        is("higher bytes don't come", p.text(0), 1);
        p.feed(0xB131313131313131L, 8);
        is("byte 177 is no digit, nor are more than four of them a NUMBER", p.text(0), -14);
        p.feed(0xB12B312B312B3130L, 8);
        is("the last of eight is byte 177", p.text(0), -17);
    }

    private static void tapeBeyond() {
        promise = 13;
        StiltParish p = new StiltParish();
        feed(p, "2");
        is("use 2", p.text(2), BEYOND);
        is("use -1", p.text(-1), BEYOND);
        is("THE TAPE stays", p.count(7), 1);
        is("as it was", p.text(0) * 10 + p.law(0, 0, 0, 0), 12);
        is("it is empty then", p.count(7), 0);
        is("an empty one is no TEXT", p.text(0), -10);
        is("the one ahead stays", p.law(0, 0, 0, 0), 2);
    }

    private static void firstByte() {
        promise = 13;
        for (int use = 0; use < 2; use++) {
            String names = use == 0 ? "ykd" : "tgd";
            for (int sign = 0; sign < 256; sign++) {
                StiltParish p = new StiltParish();
                p.feed(sign, 1);
                boolean whole = sign >= '0' && sign <= '9' || names.indexOf((char) sign) >= 0;
                boolean opens = sign == '!' || sign == '(';
                is("first byte " + sign + " of USE " + use, p.text(use), whole ? 1 : opens ? -11 : -10);
            }
        }
    }

    private static void behindName() {
        promise = 13;
        for (int sign = 0; sign < 256; sign++) {
            is("y and byte " + sign, read(0, "y" + (char) sign), SIGNS.indexOf(sign) >= 0 ? -12 : -11);
        }
    }

    private static void behindNumber() {
        promise = 13;
        for (int sign = 0; sign < 256; sign++) {
            boolean digit = sign >= '0' && sign <= '9';
            is("1 and byte " + sign, read(0, "1" + (char) sign), digit ? 1 : SIGNS.indexOf(sign) >= 0 ? -12 : -11);
        }
    }

    private static void behindSign() {
        promise = 13;
        for (int i = 0; i < SIGNS.length(); i++) {
            String ahead = "t" + SIGNS.charAt(i);
            for (int sign = 0; sign < 256; sign++) {
                boolean whole = sign >= '0' && sign <= '9' || "tgd".indexOf(sign) >= 0;
                is(ahead + " and byte " + sign, read(1, ahead + (char) sign), whole ? 1 : sign == '!' || sign == '(' ? -13 : -12);
            }
        }
    }

    private static void behindComparing() {
        promise = 13;
        for (int a = 0; a < SIGNS.length(); a++) {
            for (int b = 0; b < SIGNS.length(); b++) {
                boolean twice = "<=>".indexOf(SIGNS.charAt(a)) >= 0 && "<=>".indexOf(SIGNS.charAt(b)) >= 0;
                String signs = "y" + SIGNS.charAt(a) + "k" + SIGNS.charAt(b) + "d";
                is(signs, read(0, signs), twice ? -13 : 1);
            }
        }
        for (String between : new String[] {"+", "-", "*", "/", "%"}) {
            fault(0, "y<k" + between + "d<1", 5);
        }
        for (String between : new String[] {"|", "&"}) {
            good(0, "y<k" + between + "d<1");
        }
        good(0, "(y<k)<(d<1)");
        fault(0, "(y<k<d)", 4);
        fault(0, "(y<k)<d<1", 7);
        good(0, "y<!k&d>(y=k)");
    }

    private static void behindBracket() {
        promise = 13;
        for (int sign = 0; sign < 256; sign++) {
            is("(y) and byte " + sign, read(0, "(y)" + (char) sign), SIGNS.indexOf(sign) >= 0 ? -14 : -13);
            int inside = sign == ')' ? 1 : SIGNS.indexOf(sign) >= 0 ? -13 : -12;
            is("(y and byte " + sign, read(0, "(y" + (char) sign), inside);
        }
        fault(0, "()", 1);
        fault(0, "y)", 1);
        fault(0, "((y)", 4);
        fault(0, "(y))", 3);
        fault(0, "!)", 1);
    }

    private static void digits() {
        promise = 13;
        good(0, "0");
        good(0, "00");
        good(0, "000");
        good(0, "0000");
        fault(0, "00000", 4);
        fault(0, "123456", 4);
        good(0, "1234+5678");
        fault(0, "1234+56789", 9);
        fault(0, "(12345)", 5);
        fault(0, "!12345", 5);
        gives("9999", 0, 0, 9999);
        gives("0009", 0, 0, 9);
        gives("0", 0, 0, 0);
    }

    /** What opens so many, of ! and ( by the bits of a number. */
    private static String opening(int bits, int many) {
        StringBuilder signs = new StringBuilder();
        for (int i = 0; i < many; i++) {
            signs.append((bits >> i & 1) == 1 ? '!' : '(');
        }
        return signs.toString();
    }

    private static void open() {
        promise = 13;
        for (int bits = 0; bits < 32; bits++) {
            String five = opening(bits, 5);
            good(0, five + "y" + ")".repeat(5 - Integer.bitCount(bits)));
            fault(0, five, 5);
            fault(0, five + "!y", 5);
            fault(0, five + "(y", 5);
            fault(0, five + ")", 5);
        }
    }

    /** What is closed again isn't open: a ! by the end of its Q, a ( by its ). */
    private static void openAgain() {
        promise = 13;
        good(0, "!!!!!y+!!!!!k");
        good(0, "(((((y)))))+(((((k)))))");
        good(0, "((((!y+!k))))");
        fault(0, "((((!y+!!k))))", 8);
        good(0, "((((y)+(k))))");
        good(0, "(((!y)+(!k)))");
        fault(0, "((((y)+(((k", 9);
        good(0, "!(!(!y+!k)+!d)");
        good(0, "!(y)+!(!(!y))");
        fault(0, "!(y)+!(!(!(y", 10);
        good(0, "!!!(!y+!k)");
        fault(0, "!!!(!y+!!k)", 8);
    }

    private static void faultPlaces() {
        promise = 13;
        String sum = "1+".repeat(29);
        good(0, sum + "11");
        fault(0, sum + "1+", 60);
        fault(0, sum + "1)", 59);
        fault(0, sum + ")1", 58);
        fault(0, "+" + "1".repeat(59), 0);
        fault(0, "y" + "1".repeat(59), 1);
        fault(0, "", 0);
        fault(0, "y+", 2);
        fault(0, "y +k", 1);
        fault(0, " y", 0);
        fault(0, "y+k\n", 3);
        fault(0, "y?k?", 1);
        fault(0, "t", 0);
        fault(1, "y", 0);
        fault(1, "t+k", 2);
        fault(0, "y+g", 2);
    }

    private static void faultLeaves() {
        promise = 13;
        StiltParish p = new StiltParish();
        is("the first FAULT", text(p, 1, "t+"), -12);
        is("there is no TEXT", p.untell(1), 0);
        text(p, 1, "7");
        is("another FAULT", text(p, 1, "9)"), -11);
        is("the one ahead stays", p.law(1, 0, 0, 0), 7);
        is("THE TAPE is empty", p.count(7), 0);
        for (int k = 1; k <= 6; k++) {
            is("it is no ERROR", p.told(k), 0);
        }
        is("a FAULT of the other USE", text(p, 0, "9)"), -11);
        is("leaves this one", p.law(1, 0, 0, 0), 7);
        is("and that one", p.law(0, 2, 0, 0), 2);
    }

    private static void inPlace() {
        promise = 13;
        StiltParish p = new StiltParish();
        text(p, 1, "1+2+3+4+5");
        is("a long one", p.law(1, 0, 0, 0), 15);
        is("a short one in its place", text(p, 1, "3"), 1);
        is("it gives", p.law(1, 0, 0, 0), 3);
        is("the other USE has none", p.untell(0), 0);
        text(p, 0, "1");
        is("the other one", p.law(0, 0, 0, 0), 1);
        is("this one stays", p.law(1, 0, 0, 0), 3);
    }

    private static void gone() {
        promise = 14;
        StiltParish p = new StiltParish();
        is("there was none", p.untell(0) + p.untell(1), 0);
        text(p, 0, "0");
        is("one that gives 0 is one", p.untell(0), 1);
        is("there is none any more", p.untell(0), 0);
        is("it gives what it did at first", p.law(0, 3, 0, 0), 3);
        text(p, 0, "y");
        feed(p, "2");
        is("one", p.untell(0), 1);
        is("THE TAPE stays", p.count(7), 1);
    }

    private static void byZero() {
        promise = 15;
        for (int t : new int[] {0, 1, -1, 7, MIN, MAX}) {
            gives("t/g", t, 0, 0);
            gives("t%g", t, 0, 0);
            gives("t/0", t, 5, 0);
            gives("t%0", t, 5, 0);
            gives("5+t/0", t, 5, 5);
            gives("5-t%0*3", t, 5, 5);
            gives("t/(g-g)", t, 5, 0);
        }
        gives("0/7", 0, 0, 0);
        gives("0%7", 0, 0, 0);
        gives("7/!7", 0, 0, 0);
    }

    private static void cutTowardZero() {
        promise = 15;
        int[][] cut = {{7, 2, 3, 1}, {-7, 2, -3, -1}, {7, -2, -3, 1}, {-7, -2, 3, -1}, {1, 2, 0, 1}, {-1, 2, 0, -1}, {-4, 2, -2, 0},
            {MIN, 2, -1073741824, 0}, {MIN, MAX, -1, -1}, {MAX, MIN, 0, MAX}, {MIN, MIN, 1, 0}};
        for (int[] c : cut) {
            gives("t/g", c[0], c[1], c[2]);
            gives("t%g", c[0], c[1], c[3]);
        }
    }

    private static void wraps() {
        promise = 15;
        gives("t+1", MAX, 0, MIN);
        gives("t-1", MIN, 0, MAX);
        gives("t+g", MIN, MIN, 0);
        gives("0-t", MIN, 0, MIN);
        gives("t*2", 0x40000000, 0, MIN);
        gives("t*g", MIN, -1, MIN);
        gives("t/g", MIN, -1, MIN);
        gives("t%g", MIN, -1, 0);
        gives("t*t", 65536, 0, 0);
        gives("9999*9999*9999", 0, 0, -1027349969);
        gives("t<g", MIN, MAX, 1);
        gives("t>g", MIN, MAX, 0);
        gives("t-g<0", MIN, 1, 0);
    }

    private static void truths() {
        promise = 15;
        for (int t : new int[] {0, 1, 2, -1, MIN, MAX}) {
            gives("!t", t, 0, t == 0 ? 1 : 0);
            gives("!!t", t, 0, t == 0 ? 0 : 1);
            for (int g : new int[] {0, 1, 4, -1, MIN, MAX}) {
                gives("t|g", t, g, t != 0 || g != 0 ? 1 : 0);
                gives("t&g", t, g, t != 0 && g != 0 ? 1 : 0);
                gives("t<g", t, g, t < g ? 1 : 0);
                gives("t=g", t, g, t == g ? 1 : 0);
                gives("t>g", t, g, t > g ? 1 : 0);
            }
        }
    }

    private static void leftFirst() {
        promise = 15;
        gives("9-5-3", 0, 0, 1);
        gives("9-5+3", 0, 0, 7);
        gives("90/5/3", 0, 0, 6);
        gives("90/5*3", 0, 0, 54);
        gives("90%7%4", 0, 0, 2);
        gives("2+3*4", 0, 0, 14);
        gives("2*3+4", 0, 0, 10);
        gives("1+1<3", 0, 0, 1);
        gives("3>1+1", 0, 0, 1);
        gives("1=1&2=2", 0, 0, 1);
        gives("1|0&0", 0, 0, 1);
        gives("0&0|1", 0, 0, 1);
        gives("!0+5", 0, 0, 6);
        gives("!0*5", 0, 0, 5);
        gives("!(0*5)", 0, 0, 1);
    }
}
