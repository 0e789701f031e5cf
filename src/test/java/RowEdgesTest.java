/** The edges of VOICES and THE TRACE, of SHEETS, IMAGES, the numbers that wait, and of what told() tells. */
public final class RowEdgesTest extends Checks {
    public static void main(String[] args) {
        errors();
        people();
        voiceWraps();
        voiceCuts();
        voiceParted();
        traceLatest();
        traceParted();
        sheetSizes();
        sheetAnew();
        putLowest();
        moveEnds();
        moveSame();
        moveBits();
        grounds();
        judge();
        imageCounts();
        imageKeeps();
        imageKeepsTexts();
        imageLeaves();
        imageOfNothing();
        waiting();
        check();
        counts();
        told();
        toldAll();
        calls();
        end("all edges of rows hold");
    }

    /** As so many of PEOPLE as its number needs; it is of a KIND, with m. */
    private static StiltParish speaker(int number, int km) {
        StiltParish p = new StiltParish();
        for (int i = 0; i <= number; i++) {
            p.one(km, 0);
        }
        return p;
    }

    private static void errors() {
        promise = 42;
        StiltParish p = new StiltParish();
        is("BEYOND", p.day(-1), -1000000001);
        is("NONE", p.restore(), -1000000002);
        is("STATE", p.sheet(0, 8, -1), -1000000003);
        for (int i = 0; i < 8; i++) {
            p.one(0, 0);
        }
        is("FULL", p.one(0, 0), -1000000004);
        is("KIND", p.as(0, 6), -1000000005);
        is("PARTED", p.voice(0, 3, 1), -1000000006);
    }

    private static void people() {
        promise = 5;
        int[] above = {-1, 0, 0, 0, 1, 2, 0};
        StiltParish p = speaker(0, 0);
        for (int kind = 0; kind < 7; kind++) {
            for (int m = 0; m <= 9; m += 9) {
                p.become(0, 10 * kind + m);
                for (int other = 0; other < 7; other++) {
                    boolean is = kind == other || above[kind] == other || above[kind] > 0 && above[above[kind]] == other;
                    is(kind + " as " + other, p.as(0, other), is ? m : KIND);
                }
            }
        }
        promise = 4;
        is("the last KIND with the last m", p.become(0, 69) * 100 + p.oneIs(0, 0) * 10 + p.oneIs(0, 1), 669);
        is("the first KIND with the first m", p.become(0, 0) * 100 + p.oneIs(0, 0) * 10 + p.oneIs(0, 1), 600);
    }

    private static void voiceWraps() {
        promise = 30;
        StiltParish goer = speaker(1, 9);
        is("Goer wades", goer.voice(1, 0, MAX), MIN);
        is("Goer knows", goer.voice(1, 1, 0x3FFFFFFF), MIN);
        is("Goer knows, by 0", goer.voice(1, 1, MAX), 0);
        is("Goer sits", goer.voice(1, 2, 0x3FFFFFFF), MAX - 8);
        is("Goer parts", goer.voice(1, 3, MIN), MIN / 8);
        is("Postman wades", speaker(0, 19).voice(0, 0, MIN), MAX - 3);
        is("Postman parts and knows", speaker(0, 11).voice(0, 3, MIN + 5), MAX);
        is("Young knows", speaker(0, 29).voice(0, 1, 0x40000000), MIN);
        is("Young sits", speaker(0, 29).voice(0, 2, 0x40000000), MAX - 8);
        is("Boots wades", speaker(0, 49).voice(0, 0, 0x2AAAAAAF), -MAX);
        is("Boots sits", speaker(1, 49).voice(1, 2, MIN), ((1 - 4) * 6 - 9) ^ 1);
        is("Bold knows", speaker(0, 59).voice(0, 1, MAX), 0);
        is("Parr wades", speaker(7, 69).voice(7, 0, MIN), 9);
        is("Parr knows", speaker(7, 69).voice(7, 1, MAX), 27);
        is("Goer parts by -1", speaker(1, 0).voice(1, 3, MIN), MIN);
        is("Goer parts by -1, the most", speaker(1, 0).voice(1, 3, MAX), -MAX);
        is("an answer like an ERROR", speaker(0, 0).voice(0, 0, BEYOND), BEYOND);
    }

    private static void voiceCuts() {
        promise = 30;
        int[] x = {-7, -2, -1, 0, 1, 2, 7};
        int[] third = {-2, 0, 0, 0, 0, 0, 2};
        int[] half = {-3, -1, 0, 0, 0, 1, 3};
        StiltParish goer = speaker(0, 3);
        StiltParish down = speaker(3, 0);
        StiltParish lame = speaker(0, 30);
        for (int i = 0; i < x.length; i++) {
            is(x[i] + " by 3", goer.voice(0, 3, x[i]), third[i]);
            is(x[i] + " by -3", down.voice(3, 3, x[i]), -third[i]);
            is("half of " + x[i], lame.voice(0, 2, x[i]), 2 * half[i]);
        }
    }

    private static void voiceParted() {
        promise = 30;
        for (int k = 0; k < 8; k++) {
            for (int kind = 0; kind < 7; kind++) {
                StiltParish p = speaker(k, 10 * kind + k);
                is("m is k: " + k, p.voice(k, 3, MAX), PARTED);
                is("told", p.told(6), 1);
                p.voice(k, 0, 1);
                p.voice(k, 1, 1);
                p.voice(k, 2, 1);
                p.become(k, 10 * kind + k + 1);
                p.voice(k, 3, MAX);
                is("the other VOICES aren't, nor is this one if m is 1 more", p.told(6), 1);
            }
        }
    }

    private static void traceLatest() {
        promise = 31;
        StiltParish p = speaker(0, 49);
        is("none yet", p.body(0), NONE);
        is("none yet, counted", p.count(9), 0);
        for (int i = 0; i < 40; i++) {
            p.voice(0, 2, i);
            is("of the latest alone", p.count(9), 6);
        }
        int[] due = {51, 12, 11, 50, 20, 10};
        for (int i = 0; i < due.length; i++) {
            is("BODY " + i, p.body(i), due[i]);
        }
        is("behind the last", p.body(6), NONE);
        is("number 29", p.body(29), NONE);
        is("number 30", p.body(30), NONE);
        p.voice(0, 4, 0);
        p.voice(1, 0, 0);
        is("BEYOND leaves it", p.count(9) * 100 + p.body(0), 651);
        p.become(0, 60);
        is("becoming another leaves it", p.body(0), 51);
        p.voice(0, 0, 0);
        is("a shorter one", p.count(9) * 100 + p.body(0), 170);
        is("nothing is left of the longer", p.body(1), NONE);
    }

    private static void traceParted() {
        promise = 31;
        int[][] due = {{13}, {21, 13}, {13}, {13}, {21, 13}, {13}, {13}};
        for (int kind = 0; kind < 7; kind++) {
            StiltParish p = speaker(0, 10 * kind);
            p.voice(0, 2, 0);
            p.voice(0, 3, 0);
            is("those that began", p.count(9), due[kind].length);
            for (int i = 0; i < due[kind].length; i++) {
                is("BODY " + i, p.body(i), due[kind][i]);
            }
        }
    }

    private static void sheetSizes() {
        promise = 32;
        for (int bits = 8; bits <= 32; bits *= 2) {
            for (int n = 0; n <= 24; n++) {
                StiltParish p = new StiltParish();
                is("n " + n, p.sheet(3, bits, n), 1);
                is("all 0", p.judge(3), Math.min(16, n));
                is("number n - 1", p.put(3, n - 1, 1), n == 0 ? BEYOND : 1);
                is("no number n", p.put(3, n, 1), BEYOND);
            }
        }
    }

    private static void sheetAnew() {
        promise = 32;
        StiltParish p = new StiltParish();
        fill(p, 0, 8, 1, 2, 3);
        is("n below 0", p.sheet(0, 8, -1), STATE);
        is("n 25", p.sheet(0, 8, 25), BEYOND);
        is("bits 7", p.sheet(0, 7, 3), BEYOND);
        is("it is as it was", p.grounds(0) * 1000 + p.landIs(0, 0) * 100 + p.landIs(1, 0) * 10 + p.landIs(2, 0), 3123);
        is("the same once more", p.sheet(0, 8, 3), 1);
        is("all 0", p.grounds(0) * 1000 + p.landIs(0, 0) * 100 + p.landIs(1, 0) * 10 + p.landIs(2, 0), 3000);
        fill(p, 0, 8, 1, 2, 3);
        p.sheet(0, 8, 1);
        p.sheet(0, 8, 3);
        is("nothing is left", p.judge(0), 3);
        is("missing, n below 0 doesn't matter", p.sheet(0, 0, MIN), 1);
        is("it is", p.put(0, 0, 0), NONE);
        is("missing still, n above 24 doesn't matter", p.sheet(0, 0, MAX), 1);
        is("others aren't there", p.put(1, 0, 0), NONE);
        is("no such SHEET can be missing", p.sheet(4, 0, 0), BEYOND);
    }

    /** Whether number 0, of so many bits, is v when it was put so. */
    private static int putIs(int bits, int put, int v) {
        StiltParish p = new StiltParish();
        p.land(0, 1, v);
        fill(p, 0, bits, put);
        return p.judge(0);
    }

    private static void putLowest() {
        promise = 33;
        for (int v : new int[] {0, 1, 99}) {
            is("8 bits", putIs(8, v, v), 1);
            is("8 bits, 256 more", putIs(8, v + 256, v), 1);
            is("8 bits, 256 less", putIs(8, v - 256, v), 1);
            is("8 bits, 128 more", putIs(8, v + 128, v), 0);
            is("8 bits, the highest", putIs(8, v | MIN, v), 1);
            is("16 bits, 256 more", putIs(16, v + 256, v), 0);
            is("16 bits, 32768 more", putIs(16, v + 32768, v), 0);
            is("16 bits, 65536 more", putIs(16, v + 65536, v), 1);
            is("16 bits, 65536 less", putIs(16, v - 65536, v), 1);
            is("32 bits, 65536 more", putIs(32, v + 65536, v), 0);
            is("32 bits, the highest", putIs(32, v | MIN, v), 0);
            is("32 bits", putIs(32, v, v), 1);
        }
    }

    private static int digits(StiltParish p, int sheet) {
        int all = 0;
        int n = p.grounds(sheet);
        for (int cell = 0; cell < n; cell++) {
            all = 10 * all + p.landIs(cell, 0);
        }
        return all;
    }

    private static void moveEnds() {
        promise = 34;
        StiltParish p = new StiltParish();
        fill(p, 0, 8, 1, 2, 3, 4);
        fill(p, 1, 8, 5, 6, 7);
        is("none", p.move(0, 0, 1, 0, 0), 0);
        is("none, at both ends", p.move(0, 4, 1, 3, 0), 0);
        is("none, behind the end", p.move(0, 5, 1, 0, 0), BEYOND);
        is("none, behind the other's end", p.move(0, 0, 1, 4, 0), BEYOND);
        is("they are as they were", digits(p, 1), 567);
        is("the last to the last", p.move(0, 3, 1, 2, 1), 1);
        is("it came", digits(p, 1), 564);
        is("one behind the last", p.move(0, 4, 1, 2, 1), BEYOND);
        is("one behind the other's last", p.move(0, 3, 1, 3, 1), BEYOND);
        is("all that there is room for", p.move(0, 1, 1, 0, 3), 3);
        is("they came", digits(p, 1), 234);
        is("one more", p.move(0, 0, 1, 0, 4), BEYOND);
        is("they are as they were", digits(p, 0), 1234);
        for (int far : new int[] {MIN, MIN + 1, -1, MAX - 1, MAX}) {
            is("i", p.move(0, far, 1, 0, 1), BEYOND);
            is("j", p.move(0, 0, 1, far, 1), BEYOND);
            is("n", p.move(0, 0, 1, 0, far), BEYOND);
            is("i and n", p.move(0, far, 1, 0, far), BEYOND);
            is("j and n", p.move(0, 0, 1, far, far), BEYOND);
            is("n from the last", p.move(0, 4, 1, 3, far), BEYOND);
        }
        is("nothing came", digits(p, 1), 234);
    }

    private static void moveSame() {
        promise = 34;
        StiltParish p = new StiltParish();
        fill(p, 0, 16, 1, 2, 3, 4, 5);
        is("onward by 1", p.move(0, 0, 0, 1, 4), 4);
        is("as they all were", digits(p, 0), 11234);
        is("back by 1", p.move(0, 1, 0, 0, 4), 4);
        is("as they all were", digits(p, 0), 12344);
        is("where they are", p.move(0, 0, 0, 0, 5), 5);
        is("as they all were", digits(p, 0), 12344);
        is("they don't stand there", p.move(0, 1, 0, 0, 5), BEYOND);
    }

    private static void moveBits() {
        promise = 34;
        StiltParish p = new StiltParish();
        int[] bits = {8, 16, 32};
        for (int a : bits) {
            for (int b : bits) {
                fill(p, 0, a, 7);
                fill(p, 1, b, 3);
                is(a + " bits to " + b, p.move(0, 0, 1, 0, 1), a == b ? 1 : KIND);
                is("so many of none", p.move(0, 0, 1, 0, 0), a == b ? 0 : KIND);
                is("what is there then", digits(p, 1), a == b ? 7 : 3);
            }
        }
        p.sheet(1, 0, 0);
        is("the other is missing", p.move(0, 0, 1, 0, 1), NONE);
        is("it is missing", p.move(1, 0, 0, 0, 1), NONE);
        is("both are", p.move(1, 0, 1, 0, 1), NONE);
    }

    private static void grounds() {
        promise = 35;
        StiltParish p = new StiltParish();
        p.sheet(0, 32, 0);
        is("no numbers", p.grounds(0), 0);
        for (int bad : new int[] {10, -1, 256, MIN, MAX}) {
            p = new StiltParish();
            fill(p, 0, 32, 9, 0, bad, 3);
            is("up to the first that is not 0 to 9", p.grounds(0), 2);
            is("9, 0, and what was there at first", p.landIs(0, 0) * 1000 + p.landIs(1, 0) * 100 + p.landIs(2, 0) * 10 + p.landIs(3, 0), 9041);
            is("no ERROR", p.told(1) + p.told(2), 0);
        }
        for (int n : new int[] {15, 16, 17, 24}) {
            p = new StiltParish();
            p.sheet(0, 8, n);
            is(n + " numbers", p.grounds(0), Math.min(16, n));
            is("GROUND of 15", p.landIs(15, 0), n < 16 ? 5 : 0);
        }
        fill(p, 1, 8, 10);
        is("the first isn't", p.grounds(1), 0);
    }

    private static void judge() {
        promise = 36;
        StiltParish p = new StiltParish();
        p.sheet(0, 32, 0);
        is("no numbers", p.judge(0), 0);
        for (int n : new int[] {1, 15, 16, 17, 24}) {
            p.sheet(0, 8, n);
            is(n + " numbers", p.judge(0), Math.min(16, n));
        }
        p.land(15, 1, 99);
        is("the last cell isn't", p.judge(0), 15);
        p.put(0, 15, 99);
        is("it is", p.judge(0), 16);
        p.put(0, 15, 98);
        is("it isn't", p.judge(0), 15);
        p.put(0, 0, 1);
        is("the first isn't, though those behind are", p.judge(0), 0);
        p.land(0, 1, 1);
        p.put(0, 1, -1);
        is("one is", p.judge(0), 1);
    }

    private static void imageCounts() {
        promise = 37;
        StiltParish p = new StiltParish();
        for (int i = 1; i <= 20; i++) {
            is("how often", p.image(), i);
            is("restore", p.restore(), 0);
        }
    }

    private static void imageKeeps() {
        promise = 38;
        StiltParish p = new StiltParish();
        p.day(9999);
        p.image();
        p.day(1);
        for (int i = 0; i < 8; i++) {
            p.one(0, 0);
        }
        feed(p, "1".repeat(60));
        for (int i = 0; i < 24; i++) {
            p.tell(0);
        }
        is("DAY", p.restore(), 9999);
        is("nobody", p.count(0), 0);
        is("THE TAPE is empty", p.count(7), 0);
        is("none wait", p.count(8), 0);
        is("there is room for all", p.one(0, 0) + p.feed('1', 8) + p.tell(0), 9);
        is("it stays", p.restore() + p.count(0), 9999);
        p.one(33, 3);
        is("one that comes has STILTS and KNOWS as at first", p.oneIs(0, 3) * 10000 + p.oneIs(0, 4), 60000);
        p.day(0);
        p.image();
        p.day(7);
        is("in place of one ahead", p.restore(), 0);
        is("one is there", p.count(0), 1);
    }

    private static void imageKeepsTexts() {
        promise = 38;
        StiltParish p = speaker(2, 19);
        text(p, 0, "y+1");
        text(p, 1, "t-3");
        feed(p, "k+2");
        p.tell(5);
        p.tell(5);
        p.tell(4);
        p.seed(MIN);
        p.image();
        for (int i = 0; i < 2; i++) {
            p.untell(0);
            text(p, 1, "9");
            feed(p, "7777");
            p.check();
            p.tell(8);
            p.seed(i);
            p.restore();
            is("the TEXT of 0", p.law(0, 1, 7, 7), 2);
            is("the TEXT of 1", p.law(1, 9, 7, 7), 6);
            is("so many bytes", p.count(7), 3);
            is("they are k+2", p.text(0) * 10 + p.law(0, 7, 1, 7), 13);
            is("so many wait", p.count(8), 3);
            is("they are 5, 5, and 4, which isn't so", p.check(), 3);
            is("z", p.count(10), MIN);
        }
        p = new StiltParish();
        p.image();
        text(p, 0, "2");
        text(p, 1, "2");
        p.restore();
        is("no TEXTS", p.untell(0) + p.untell(1), 0);
    }

    private static void imageLeaves() {
        promise = 38;
        StiltParish p = speaker(0, 0);
        fill(p, 0, 8, 1, 2);
        p.voice(0, 0, 1);
        p.image();
        p.sheet(0, 16, 5);
        p.sheet(1, 8, 1);
        p.voice(0, 2, 1);
        p.day(-1);
        p.restore();
        is("a SHEET stays as it is", p.judge(0), 5);
        is("one that is new stays", p.judge(1), 1);
        is("THE TRACE stays", p.count(9), 3);
        is("what is told stays", p.told(1), 1);
        is("how often that was done stays", p.image(), 2);
    }

    private static void imageOfNothing() {
        promise = 38;
        StiltParish p = new StiltParish();
        is("there is none", p.restore(), NONE);
        p.day(3);
        is("there is none still", p.restore(), NONE);
        is("DAY stays", p.count(1), 3);
        p.image();
        is("there is one", p.restore(), 3);
        is("told", p.told(2), 2);
    }

    private static void waiting() {
        promise = 39;
        StiltParish p = new StiltParish();
        for (int i = 1; i <= 24; i++) {
            is("so many wait", p.tell(-i), i);
        }
        is("24 wait", p.tell(0), FULL);
        is("24 still", p.count(8), 24);
        is("nobody", p.check(), 1);
        is("none wait", p.count(8), 0);
        is("then there is room", p.tell(0), 1);
    }

    private static void check() {
        promise = 40;
        StiltParish p = speaker(7, 49);
        is("none wait", p.check(), 0);
        for (int wrongAt = 0; wrongAt <= 8; wrongAt++) {
            for (int i = 0; i < 8; i++) {
                p.tell(i == wrongAt ? 16 : 17);
            }
            is("the first that isn't so is " + wrongAt, p.check(), wrongAt == 8 ? 0 : wrongAt + 1);
            is("none do then", p.count(8), 0);
        }
        for (int i = 0; i < 24; i++) {
            p.tell(17);
        }
        is("number 8 is nobody", p.check(), 9);
        for (int v : new int[] {MIN, -1, 0, 21, MAX}) {
            p.tell(v);
            is("not " + v, p.check(), 1);
        }
        text(p, 1, "t*9");
        p.tell(20);
        is("they are held", p.check(), 0);
        p.tell(153);
        is("not as they would be", p.check(), 1);
    }

    private static void counts() {
        promise = 41;
        StiltParish p = new StiltParish();
        for (int cell = 0; cell < 16; cell++) {
            p.land(cell, 1, 99);
        }
        for (int i = 0; i < 8; i++) {
            p.one(0, 15);
            p.set(i, 2, i == 7 ? 2048 : 1 << i);
            p.set(i, 1, 0);
        }
        is("all WATER", p.count(3), 1584);
        is("all are WET", p.count(4), 255);
        is("what anybody KNOWS", p.count(5), 2048 | 127);
        is("all are DOWN", p.count(6), 8);
        p.set(0, 1, 1);
        is("one isn't", p.count(6), 7);
        p.seed(MIN);
        is("z", p.count(10), MIN);
        p.seed(BEYOND);
        is("z like an ERROR", p.count(10), BEYOND);
        is("is none", p.told(1), 0);
    }

    private static void told() {
        promise = 42;
        StiltParish p = new StiltParish();
        for (int i = 1; i <= 5; i++) {
            is("k 7", p.told(7), BEYOND);
            is("counted, too", p.told(1), 2 * i - 1);
            is("k 0", p.told(0), BEYOND);
            is("counted, too", p.told(1), 2 * i);
        }
        is("the others aren't", p.told(2) + p.told(3) + p.told(4) + p.told(5) + p.told(6), 0);
    }

    private static void toldAll() {
        promise = 42;
        StiltParish p = new StiltParish();
        for (int i = 0; i < 8; i++) {
            p.one(0, 0);
        }
        int[] many = {0, 7, 6, 5, 4, 3, 2};
        for (int k = 1; k <= 6; k++) {
            for (int i = 0; i < many[k]; i++) {
                err(p, k);
            }
        }
        for (int k = 1; k <= 6; k++) {
            is("told(" + k + ")", p.told(k), many[k]);
        }
    }

    private static void err(StiltParish p, int k) {
        switch (k) {
            case 1: p.day(-1); break;
            case 2: p.restore(); break;
            case 3: p.sheet(0, 8, -1); break;
            case 4: p.one(0, 0); break;
            case 5: p.as(0, 1); break;
            default: p.voice(0, 3, 0); break;
        }
    }

    /** 512 calls after it has been made: the last is answered like the first. */
    private static void calls() {
        promise = 1;
        StiltParish p = new StiltParish();
        for (int call = 1; call <= 511; call++) {
            is("call " + call, p.count(-1), BEYOND);
        }
        is("call 512", p.told(1), 511);
    }
}
