/** Each promise by itself: ordinary inputs, the edges that the document names, wrong inputs. */
public final class PromisesTest extends Checks {
    public static void main(String[] args) {
        newObject();
        one();
        oneIs();
        oneIsActs();
        oneIsTall();
        become();
        as();
        set();
        cut();
        land();
        landIs();
        rises();
        springs();
        feed();
        text();
        textFaults();
        untell();
        law();
        lawTexts();
        days();
        daysWater();
        daysPeople();
        loose();
        day();
        seed();
        then();
        learns();
        soonest();
        stiltsFor();
        wallFor();
        springFor();
        walk();
        council();
        odds();
        fits();
        voice();
        voiceBodies();
        body();
        sheet();
        put();
        move();
        grounds();
        judge();
        image();
        restore();
        tell();
        check();
        count();
        told();
        end("all promises hold");
    }

    private static void newObject() {
        promise = 1;
        StiltParish p = new StiltParish();
        for (int what = 0; what <= 9; what++) {
            is("count(" + what + ")", p.count(what), 0);
        }
        is("z", p.count(10), 1);
        for (int cell = 0; cell < 16; cell++) {
            is("GROUND of " + cell, p.landIs(cell, 0), 7 * cell % 10);
            is("WATER of " + cell, p.landIs(cell, 1), 0);
            is("WALLED of " + cell, p.landIs(cell, 2), 0);
            is("KEPT of " + cell, p.landIs(cell, 3), 0);
        }
        for (int place = 0; place < 6; place++) {
            is("RISES in " + place, p.rises(place, 0), place);
        }
        is("no TEXT 0", p.untell(0), 0);
        is("no TEXT 1", p.untell(1), 0);
        for (int k = 1; k <= 6; k++) {
            is("told(" + k + ")", p.told(k), 0);
        }
        for (int sheet = 0; sheet < 4; sheet++) {
            is("SHEET " + sheet, p.judge(sheet), NONE);
        }
        is("no IMAGE", p.restore(), NONE);
        is("no TRACE", p.body(0), NONE);
    }

    private static void one() {
        promise = 2;
        StiltParish p = new StiltParish();
        is("km -1", p.one(-1, 0), BEYOND);
        is("km 70", p.one(70, 0), BEYOND);
        is("cell -1", p.one(0, -1), BEYOND);
        is("cell 16", p.one(0, 16), BEYOND);
        is("nobody yet", p.count(0), 0);
        for (int i = 0; i < 8; i++) {
            is("number " + i, p.one(i == 7 ? 69 : i * 11, i == 7 ? 15 : i), i);
        }
        is("KIND of the last", p.oneIs(7, 0), 6);
        is("m of the last", p.oneIs(7, 1), 9);
        is("cell of the last", p.oneIs(7, 2), 15);
        is("STILTS at first", p.oneIs(7, 3), 6);
        is("KNOWS at first", p.oneIs(7, 4), 0);
        is("KIND of 3", p.oneIs(3, 0), 3);
        is("a ninth", p.one(0, 0), FULL);
        is("BEYOND is asked ahead of FULL", p.one(0, 16), BEYOND);
    }

    private static void oneIs() {
        promise = 3;
        StiltParish p = new StiltParish();
        is("nobody", p.oneIs(0, 0), BEYOND);
        p.one(25, 9);
        is("one -1", p.oneIs(-1, 0), BEYOND);
        is("one 1", p.oneIs(1, 0), BEYOND);
        is("what -1", p.oneIs(0, -1), BEYOND);
        is("what 8", p.oneIs(0, 8), BEYOND);
        is("KIND", p.oneIs(0, 0), 2);
        is("m", p.oneIs(0, 1), 5);
        is("cell", p.oneIs(0, 2), 9);
        p.land(9, 1, 6);
        is("as much WATER as STILTS isn't WET", p.oneIs(0, 5), 0);
        p.land(9, 1, 7);
        is("WET", p.oneIs(0, 5), 1);
    }

    private static void oneIsActs() {
        promise = 3;
        StiltParish p = new StiltParish();
        p.one(0, 0);
        is("GOER", p.oneIs(0, 6), 1);
        p.become(0, 10);
        is("POSTMAN", p.oneIs(0, 6), 3);
        p.become(0, 20);
        p.set(0, 2, 7);
        is("YOUNG who KNOWS 3", p.oneIs(0, 6), 1);
        p.set(0, 2, 0x807 | 8);
        is("YOUNG who KNOWS 5", p.oneIs(0, 6), 2);
        p.set(0, 2, 15);
        is("YOUNG who KNOWS 4", p.oneIs(0, 6), 2);
        p.become(0, 30);
        is("LAME", p.oneIs(0, 6), 0);
        p.become(0, 40);
        is("BOOTS by an even DAY", p.oneIs(0, 6), 3);
        p.day(9999);
        is("BOOTS by an odd DAY", p.oneIs(0, 6), 1);
        p.become(0, 50);
        is("BOLD as YOUNG who KNOWS 4", p.oneIs(0, 6), 2);
        p.set(0, 2, 0);
        is("BOLD as GOER", p.oneIs(0, 6), 1);
        p.one(0, 0);
        p.one(0, 0);
        p.set(1, 1, 0);
        is("BOLD by 1 DOWN", p.oneIs(0, 6), 1);
        p.set(2, 1, 0);
        is("BOLD by 2 DOWN", p.oneIs(0, 6), 2);
        p.set(2, 1, 1);
        p.set(0, 1, 0);
        is("BOLD who is one of the 2", p.oneIs(0, 6), 2);
        p.become(0, 64);
        is("PARR, 4", p.oneIs(0, 6), 0);
        p.become(0, 65);
        is("PARR, 5", p.oneIs(0, 6), 2);
        text(p, 0, "0-y-k-d");
        is("by a TEXT: 0 - 2 - 0 - 7, by 4", p.oneIs(0, 6), 3);
    }

    private static void oneIsTall() {
        promise = 3;
        StiltParish p = new StiltParish();
        p.one(9, 7);
        is("GOER", p.oneIs(0, 7), 6);
        p.become(0, 19);
        is("POSTMAN", p.oneIs(0, 7), 8);
        p.become(0, 29);
        is("YOUNG, 9", p.oneIs(0, 7), 2);
        p.become(0, 21);
        is("YOUNG, 1", p.oneIs(0, 7), 6);
        p.become(0, 39);
        is("LAME", p.oneIs(0, 7), 0);
        p.become(0, 49);
        is("BOOTS, 9", p.oneIs(0, 7), 17);
        p.become(0, 59);
        is("BOLD, 9", p.oneIs(0, 7), 1);
        p.become(0, 52);
        is("BOLD, 2", p.oneIs(0, 7), 2);
        p.become(0, 69);
        is("PARR who KNOWS nothing", p.oneIs(0, 7), 0);
        p.set(0, 2, 4095);
        is("PARR who KNOWS all", p.oneIs(0, 7), 12);
        p.day(13);
        text(p, 1, "t*100+g*10+d");
        is("held within 20", p.oneIs(0, 7), 20);
        text(p, 1, "t+g-d");
        is("by GROUND 9, DAY 13", p.oneIs(0, 7), 16);
        text(p, 1, "t-g*9");
        is("held within 0", p.oneIs(0, 7), 0);
    }

    private static void become() {
        promise = 4;
        StiltParish p = new StiltParish();
        p.one(43, 2);
        p.set(0, 1, 11);
        p.set(0, 2, 5);
        is("nobody", p.become(1, 0), BEYOND);
        is("one -1", p.become(-1, 0), BEYOND);
        is("km -1", p.become(0, -1), BEYOND);
        is("km 70", p.become(0, 70), BEYOND);
        is("the KIND that it was", p.become(0, 69), 4);
        is("the KIND that it is", p.become(0, 8), 6);
        is("m", p.oneIs(0, 1), 8);
        is("the cell stays", p.oneIs(0, 2), 2);
        is("STILTS stay", p.oneIs(0, 3), 11);
        is("KNOWS stays", p.oneIs(0, 4), 5);
    }

    private static void as() {
        promise = 5;
        int[][] under = {{0}, {0, 1}, {0, 2}, {0, 3}, {0, 1, 4}, {0, 2, 5}, {0, 6}};
        StiltParish p = new StiltParish();
        p.one(0, 0);
        for (int kind = 0; kind < 7; kind++) {
            p.become(0, 10 * kind + 7);
            for (int other = 0; other < 7; other++) {
                int want = KIND;
                for (int above : under[kind]) {
                    want = above == other ? 7 : want;
                }
                is(kind + " as " + other, p.as(0, other), want);
            }
        }
        is("nobody", p.as(1, 0), BEYOND);
        is("one -1", p.as(-1, 0), BEYOND);
        is("kind -1", p.as(0, -1), BEYOND);
        is("kind 7", p.as(0, 7), BEYOND);
    }

    private static void set() {
        promise = 6;
        StiltParish p = new StiltParish();
        p.one(0, 3);
        int[] most = {15, 20, 4095};
        int[] was = {3, 6, 0};
        for (int what = 0; what < 3; what++) {
            is("above", p.set(0, what, most[what] + 1), BEYOND);
            is("below", p.set(0, what, -1), BEYOND);
            is("what it was at first", p.set(0, what, most[what]), was[what]);
            is("what it was", p.set(0, what, 1), most[what]);
            is("what it is", p.oneIs(0, 2 + what), 1);
        }
        is("what 3", p.set(0, 3, 0), BEYOND);
        is("what -1", p.set(0, -1, 0), BEYOND);
        is("nobody", p.set(1, 0, 0), BEYOND);
        is("one -1", p.set(-1, 0, 0), BEYOND);
    }

    private static void cut() {
        promise = 7;
        StiltParish p = new StiltParish();
        p.one(45, 1);
        is("one -1", p.cut(-1), BEYOND);
        is("one 1", p.cut(1), BEYOND);
        is("what they were at first", p.cut(0), 6);
        is("what they are", p.oneIs(0, 3), 13);
        text(p, 1, "g");
        is("what they were", p.cut(0), 13);
        is("by the TEXT", p.oneIs(0, 3), 7);
    }

    private static void land() {
        promise = 8;
        StiltParish p = new StiltParish();
        int[] most = {9, 99, 1, 4095};
        int[] was = {5, 0, 0, 0};
        for (int what = 0; what < 4; what++) {
            is("above", p.land(15, what, most[what] + 1), BEYOND);
            is("below", p.land(15, what, -1), BEYOND);
            is("what it was at first", p.land(15, what, most[what]), was[what]);
            is("what it was", p.land(15, what, 0), most[what]);
            is("what it is", p.landIs(15, what), 0);
        }
        is("what 4", p.land(0, 4, 0), BEYOND);
        is("what -1", p.land(0, -1, 0), BEYOND);
        is("cell 16", p.land(16, 0, 0), BEYOND);
        is("cell -1", p.land(-1, 0, 0), BEYOND);
    }

    private static void landIs() {
        promise = 9;
        StiltParish p = new StiltParish();
        p.land(7, 1, 33);
        p.land(7, 2, 1);
        p.land(7, 3, 2048);
        int[] want = {9, 33, 1, 2048, 42};
        for (int what = 0; what < 5; what++) {
            is("what " + what, p.landIs(7, what), want[what]);
        }
        is("what 5", p.landIs(7, 5), BEYOND);
        is("what -1", p.landIs(7, -1), BEYOND);
        is("cell 16", p.landIs(16, 0), BEYOND);
        is("cell -1", p.landIs(-1, 0), BEYOND);
    }

    private static void rises() {
        promise = 10;
        StiltParish p = new StiltParish();
        is("v 10", p.rises(5, 10), BEYOND);
        is("v -1", p.rises(5, -1), BEYOND);
        is("place 6", p.rises(6, 0), BEYOND);
        is("place -1", p.rises(-1, 0), BEYOND);
        is("what it was at first", p.rises(5, 9), 5);
        is("what it was", p.rises(5, 0), 9);
    }

    private static void springs() {
        promise = 11;
        StiltParish p = new StiltParish();
        is("cell 16", p.springs(16), BEYOND);
        is("cell -1", p.springs(-1), BEYOND);
        is("which it was at first", p.springs(15), 0);
        is("which it was", p.springs(3), 15);
        is("which it is", p.count(2), 3);
    }

    private static void feed() {
        promise = 12;
        StiltParish p = new StiltParish();
        is("n 0", p.feed(0, 0), BEYOND);
        is("n 9", p.feed(0, 9), BEYOND);
        is("n below", p.feed(0, MIN), BEYOND);
        is("the lowest first", p.feed('4' | '*' << 8 | '9' << 16, 3), 3);
        is("they are 4*9", p.text(0), 1);
        is("4*9 by 4", p.law(0, 1, 1, 1), 0);
        is("eight", p.feed(-1L, 8), 8);
        is("the first of them is no sign", p.text(0), -10);
        for (int i = 1; i <= 7; i++) {
            p.feed(0, 8);
        }
        is("60 are all", p.feed(0, 4), 60);
        is("61", p.feed(0, 1), FULL);
        is("BEYOND ahead of FULL", p.feed(0, 9), BEYOND);
        p.text(0);
        for (int i = 1; i <= 7; i++) {
            p.feed(0, 8);
        }
        is("56 and 8", p.feed(0, 8), FULL);
        is("none of them came", p.count(7), 56);
        is("the fourth byte of a word, behind a long's middle", wordText(), 3);
    }

    private static int wordText() {
        StiltParish p = new StiltParish();
        p.feed((long) '1' << 32 | (long) '+' << 40 | (long) '2' << 48 | '0' | '+' << 8 | '0' << 16 | '+' << 24, 7);
        p.text(0);
        return p.law(0, 9, 9, 9);
    }

    private static void text() {
        promise = 13;
        StiltParish p = new StiltParish();
        feed(p, "3");
        is("use -1", p.text(-1), BEYOND);
        is("use 2", p.text(2), BEYOND);
        is("THE TAPE stays", p.count(7), 1);
        is("a TEXT", p.text(0), 1);
        is("THE TAPE is empty", p.count(7), 0);
        is("the other USE has none", p.untell(1), 0);
        is("it counts", p.law(0, 0, 0, 0), 3);
        is("a FAULT", text(p, 0, "1+"), -12);
        is("THE TAPE is empty behind a FAULT, too", p.count(7), 0);
        is("the one ahead stays", p.law(0, 0, 0, 0), 3);
        is("no ERROR", p.told(1), 2);
        is("in its place", text(p, 0, "2"), 1);
        is("the new one", p.law(0, 0, 0, 0), 2);
        is("60 bytes", text(p, 1, "1+1+1+1+1+1+1+1+1+1+1+1+1+1+1+1+1+1+1+1+1+1+1+1+1+1+1+1+1111"), 1);
        is("their sum, held", p.law(1, 0, 0, 0), 20);
    }

    private static void textFaults() {
        promise = 13;
        StiltParish p = new StiltParish();
        String[] texts = {"", "y+", "t", "12345", "1234", "1<2<3", "1<2&3=4|5>6", "(y", "(y))", ")", "!!!!!y", "!!!!!!y",
            "((((((y", "(((((y)))))", "!(!(!(1)))", "!(!(!y))", "1 +2", "y y", "yk", "1y", "y1", "-1", "1--1", "()", "!",
            "1&&2", "1|2|", "(1<2)<3", "(1<2<3)", "1*2/3%4+5-6", "Y", "(y+12345)", "!y<!k", "!(y)(k)", "(!!!!y)+!!!!!d"};
        int[] fault = {0, 2, 0, 4, -1, 3, -1, 2, 3, 0, -1, 5,
            5, -1, 5, -1, 1, 1, 1, 1, 1, 0, 2, 1, 1,
            2, 4, -1, 4, -1, 0, 7, -1, 4, -1};
        for (int i = 0; i < texts.length; i++) {
            is(texts[i], text(p, 0, texts[i]), fault[i] < 0 ? 1 : -10 - fault[i]);
        }
        is("y is no NAME of USE 1", text(p, 1, "t+y"), -12);
        is("g is no NAME of USE 0", text(p, 0, "g"), -10);
        is("all NAMES of USE 1", text(p, 1, "t+g+d"), 1);
        p.feed(0xF9, 1);
        is("a byte above 127", p.text(0), -10);
        feed(p, "y");
        p.feed(0, 1);
        is("byte 0", p.text(0), -11);
    }

    private static void untell() {
        promise = 14;
        StiltParish p = new StiltParish();
        is("use -1", p.untell(-1), BEYOND);
        is("use 2", p.untell(2), BEYOND);
        text(p, 0, "3");
        text(p, 1, "3");
        is("there was", p.untell(0), 1);
        is("there is none", p.untell(0), 0);
        is("without it", p.law(0, 1, 0, 0), 1);
        is("the other stays", p.law(1, 9, 0, 0), 3);
        is("it goes, too", p.untell(1), 1);
        is("without it, too", p.law(1, 9, 0, 0), 9);
    }

    private static void law() {
        promise = 15;
        StiltParish p = new StiltParish();
        is("use -1", p.law(-1, 0, 0, 0), BEYOND);
        is("use 2", p.law(2, 0, 0, 0), BEYOND);
        is("the rest of 7", p.law(0, 7, 1, 1), 3);
        is("the rest of -1", p.law(0, -1, 0, 0), 3);
        is("the rest of -4", p.law(0, -4, 0, 0), 0);
        is("the rest of the least", p.law(0, MIN, 0, 0), 0);
        is("the rest of the most", p.law(0, MAX, 0, 0), 3);
        is("20", p.law(1, 20, 0, 0), 20);
        is("21", p.law(1, 21, 0, 0), 20);
        is("-1", p.law(1, -1, 0, 0), 0);
        is("the least", p.law(1, MIN, 0, 0), 0);
        is("the most", p.law(1, MAX, 0, 0), 20);
    }

    private static void lawTexts() {
        promise = 15;
        checkLaw("t", 5, 6, 7, 5);
        checkLaw("g", 5, 6, 7, 6);
        checkLaw("d", 5, 6, 7, 7);
        checkLaw("t-g-d", 20, 6, 7, 7);
        checkLaw("t/g/d", 84, 3, 2, 14);
        checkLaw("t-g*d", 20, 3, 4, 8);
        checkLaw("(t-g)*d", 20, 18, 4, 8);
        checkLaw("0-t/g", -7, 2, 0, 3);
        checkLaw("0-t%g", -7, 4, 0, 3);
        checkLaw("t%g", 7, -4, 0, 3);
        checkLaw("9+t/0", 7, 0, 0, 9);
        checkLaw("9+t%0", 7, 0, 0, 9);
        checkLaw("t/g=t", MIN, -1, 0, 1);
        checkLaw("t%g", MIN, -1, 0, 0);
        checkLaw("t+1<t", MAX, 0, 0, 1);
        checkLaw("t*g=0-t", MIN, -1, 0, 1);
        checkLaw("t|g", 0, 0, 0, 0);
        checkLaw("t|g", 0, 7, 0, 1);
        checkLaw("t&g", 5, 0, 0, 0);
        checkLaw("t&g", 5, -2, 0, 1);
        checkLaw("t&g|d", 0, 1, 9, 1);
        checkLaw("d|t&g", 0, 0, 9, 1);
        checkLaw("t<g", 1, 2, 0, 1);
        checkLaw("t<g", 2, 2, 0, 0);
        checkLaw("t>g", 2, 2, 0, 0);
        checkLaw("t>g", 3, 2, 0, 1);
        checkLaw("t=g", 3, 3, 0, 1);
        checkLaw("t=g", 3, 2, 0, 0);
        checkLaw("!t", 0, 0, 0, 1);
        checkLaw("!t", -4, 0, 0, 0);
        checkLaw("!!t", 8, 0, 0, 1);
        checkLaw("!t+g", 8, 4, 0, 4);
        checkLaw("0012", 0, 0, 0, 12);
        checkLaw("9999-9980", 0, 0, 0, 19);
        checkLaw("(1<2)<3", 0, 0, 0, 1);
        checkLaw("1+2<4&3", 0, 0, 0, 1);
    }

    private static void checkLaw(String signs, int a, int b, int c, int want) {
        StiltParish p = new StiltParish();
        is(signs + " is a TEXT", text(p, 1, signs), 1);
        is(signs + " by " + a + ", " + b + ", " + c, p.law(1, a, b, c), want);
    }

    private static void days() {
        promise = 16;
        StiltParish p = new StiltParish();
        is("n 0", p.days(0), BEYOND);
        is("n 61", p.days(61), BEYOND);
        p.day(9940);
        is("DAY would be 10000", p.days(60), STATE);
        is("BEYOND ahead of STATE", p.days(61), BEYOND);
        is("nothing has changed", p.count(1) + p.count(3), 9940);
        is("to 9999", p.days(59), 0);
        is("DAY", p.count(1), 9999);
        is("one more", p.days(1), STATE);
        p.one(0, 3);
        p.one(0, 4);
        p.set(0, 2, 1026);
        p.set(1, 2, 3);
        p.day(0);
        is("what anybody KNOWS", p.days(1), 1027);
    }

    private static void daysWater() {
        promise = 16;
        StiltParish p = new StiltParish();
        p.rises(0, 9);
        p.days(1);
        // 9 at cell 0; one goes by 1, 2 to 3 in the first turn; then cell 1 is only 1 below
        is("at 0", p.landIs(0, 1), 8);
        is("at 3", p.landIs(3, 1), 1);
        is("in all", p.count(3), 9);
        p = new StiltParish();
        p.rises(0, 9);
        p.land(1, 2, 1);
        p.land(4, 2, 1);
        p.days(1);
        is("walls around the spring", p.landIs(0, 1), 9);
        p.land(4, 2, 0);
        p.land(0, 2, 1);
        p.rises(1, 9);
        p.days(1);
        is("it rises within a wall", p.landIs(0, 1), 18);
        p.land(0, 1, 95);
        p.rises(2, 9);
        p.days(1);
        is("99 at most", p.landIs(0, 1), 99);
        p = new StiltParish();
        for (int cell = 0; cell < 16; cell++) {
            p.land(cell, 0, 0);
        }
        p.land(5, 1, 10);
        p.days(1);
        // turn by turn: the least of equals first, and those behind flow on in the same turn
        int[] want = {0, 1, 0, 0, 1, 6, 1, 0, 0, 1, 0, 0, 0, 0, 0, 0};
        for (int cell = 0; cell < 16; cell++) {
            is("a level of " + cell, p.landIs(cell, 1), want[cell]);
        }
        p = new StiltParish();
        p.land(1, 0, 0);
        p.land(0, 0, 9);
        p.land(0, 1, 99);
        p.land(1, 1, 99);
        p.land(2, 2, 1);
        p.land(4, 2, 1);
        p.land(5, 2, 1);
        p.days(1);
        is("one that has 99 takes no more", p.landIs(0, 1), 99);
    }

    private static void daysPeople() {
        promise = 16;
        StiltParish p = new StiltParish();
        p.rises(0, 9);
        p.land(0, 3, 5);
        p.one(0, 0);
        p.one(10, 0);
        p.set(1, 1, 7);
        p.one(0, 0);
        p.set(2, 1, 8);
        is("two are WET", p.days(1), 5);
        is("longer", p.oneIs(0, 3), 7);
        is("away, where it is higher", p.oneIs(1, 2), 4);
        is("one with 8 isn't WET", p.oneIs(2, 4), 0);
        p = new StiltParish();
        p.land(0, 1, 99);
        p.land(0, 2, 1);
        for (int i = 0; i < 3; i++) {
            p.one(i == 1 ? 50 : 65, 0);
        }
        p.one(50, 0);
        p.one(0, 0);
        p.set(4, 1, 20);
        p.days(1);
        is("BOLD by 1 DOWN ahead of it", p.oneIs(1, 3), 7);
        is("BOLD by 2 DOWN ahead of it", p.oneIs(3, 3), 0);
        is("20 at most", p.oneIs(4, 3), 20);
        p = new StiltParish();
        p.land(5, 1, 99);
        p.land(5, 2, 1);
        p.land(4, 2, 1);
        p.land(5, 3, 8);
        p.one(20, 5);
        p.set(0, 2, 7);
        p.one(10, 5);
        p.days(1);
        is("YOUNG that KNOWS 4 by then", p.oneIs(0, 3), 0);
        is("to a WALLED cell", p.oneIs(1, 2), 4);
        p.set(1, 0, 5);
        p.land(1, 0, 8);
        p.days(1);
        is("the least of several", p.oneIs(1, 2), 1);
        text(p, 0, "d=2");
        p.set(0, 1, 3);
        p.days(1);
        is("DAY as it was at first", p.oneIs(0, 3), 4);
        p.days(1);
        is("0 stays", p.oneIs(0, 3), 4);
    }

    private static void loose() {
        promise = 17;
        StiltParish p = new StiltParish();
        is("n 0", p.loose(0), BEYOND);
        is("n 31", p.loose(31), BEYOND);
        p.day(9970);
        is("DAY would be 10000", p.loose(30), STATE);
        is("z is as it was", p.count(10), 1);
        p.day(7);
        p.one(0, 0);
        p.set(0, 2, 9);
        is("what anybody KNOWS", p.loose(1), 9);
        int first = 1103515245 + 12345;
        int second = first * 1103515245 + 12345;
        is("SPRING", p.count(2), (first >>> 8) % 16);
        is("z", p.count(10), second);
        is("WATER", p.count(3), (second >>> 8) % 10);
        is("RISES", p.rises(1, 0), (second >>> 8) % 10);
        is("DAY", p.count(1), 8);
        is("thirty", p.loose(30), 9);
        is("DAY, then", p.count(1), 38);
        p.day(9969);
        is("to 9999", p.loose(30), 9);
        is("one more", p.loose(1), STATE);
    }

    private static void day() {
        promise = 18;
        StiltParish p = new StiltParish();
        is("v 10000", p.day(10000), BEYOND);
        is("v -1", p.day(-1), BEYOND);
        is("what it was at first", p.day(9999), 0);
        is("what it was", p.day(0), 9999);
        is("what it is", p.count(1), 0);
    }

    private static void seed() {
        promise = 19;
        StiltParish p = new StiltParish();
        is("what it was at first", p.seed(MIN), 1);
        is("what it was", p.seed(BEYOND), MIN);
        is("any number", p.seed(5), BEYOND);
        is("what it is", p.count(10), 5);
        is("no ERROR was told", p.told(1), 0);
    }

    private static void then() {
        promise = 20;
        StiltParish p = new StiltParish();
        is("cell 16", p.then(16, 0), BEYOND);
        is("cell -1", p.then(-1, 0), BEYOND);
        is("n 61", p.then(0, 61), BEYOND);
        is("n -1", p.then(0, -1), BEYOND);
        p.rises(0, 9);
        is("now", p.then(0, 0), 0);
        is("a DAY on", p.then(0, 1), 8);
        is("a DAY on at 3", p.then(3, 1), 1);
        is("only thought", p.count(3) + p.count(1), 0);
        p.day(9999);
        for (int place = 0; place < 6; place++) {
            p.rises(place, place == 4 ? 2 : 0);
        }
        p.land(0, 2, 1);
        is("beyond 9999: 10000 by 6 is 4", p.then(0, 1), 0);
        is("10000 goes by", p.then(0, 2), 2);
        is("and 10006 .. 10054", p.then(0, 60), 20);
    }

    private static void learns() {
        promise = 21;
        StiltParish p = new StiltParish();
        is("nobody", p.learns(0, 0), BEYOND);
        p.one(0, 0);
        p.land(0, 3, 6);
        p.rises(0, 7);
        p.set(0, 2, 1);
        is("one -1", p.learns(-1, 0), BEYOND);
        is("n 61", p.learns(0, 61), BEYOND);
        is("n -1", p.learns(0, -1), BEYOND);
        is("now", p.learns(0, 0), 1);
        is("a DAY on", p.learns(0, 1), 7);
        is("only thought", p.oneIs(0, 4), 1);
    }

    private static void soonest() {
        promise = 22;
        StiltParish p = new StiltParish();
        is("thing 12", p.soonest(12), BEYOND);
        is("thing -1", p.soonest(-1), BEYOND);
        is("nobody KNOWS", p.soonest(11), NONE);
        p.land(0, 2, 1);
        for (int place = 0; place < 6; place++) {
            p.rises(place, 1);
        }
        p.land(0, 3, 2048);
        p.one(30, 0);
        p.set(0, 2, 2);
        is("now", p.soonest(1), 0);
        is("when it is 7", p.soonest(11), 7);
        is("never", p.soonest(0), NONE);
        p.set(0, 1, 20);
        is("when it is 21", p.soonest(11), 21);
        for (int place = 1; place < 6; place++) {
            p.rises(place, 0);
        }
        p.land(0, 1, 11);
        p.day(1);
        is("by 60", p.soonest(11), 60);
        p.day(0);
        p.land(0, 1, 10);
        is("10 times 1 by 55", p.soonest(11), NONE);
        is("only thought", p.count(5), 2);
    }

    private static void stiltsFor() {
        promise = 23;
        StiltParish p = new StiltParish();
        is("nobody", p.stiltsFor(0, 0), BEYOND);
        p.one(30, 0);
        p.land(0, 2, 1);
        p.land(0, 3, 1);
        for (int place = 0; place < 6; place++) {
            p.rises(place, 1);
        }
        is("one -1", p.stiltsFor(-1, 0), BEYOND);
        is("n 41", p.stiltsFor(0, 41), BEYOND);
        is("n -1", p.stiltsFor(0, -1), BEYOND);
        is("now", p.stiltsFor(0, 0), 0);
        is("12 DAYS on", p.stiltsFor(0, 12), 12);
        is("20 DAYS on", p.stiltsFor(0, 20), 20);
        is("21 DAYS on", p.stiltsFor(0, 21), NONE);
        p.set(0, 2, 1);
        is("what it KNOWS it can't learn", p.stiltsFor(0, 40), 0);
        is("only thought", p.oneIs(0, 3), 6);
    }

    private static void wallFor() {
        promise = 24;
        StiltParish p = new StiltParish();
        is("cell 16", p.wallFor(16, 0, 0), BEYOND);
        is("cell -1", p.wallFor(-1, 0, 0), BEYOND);
        is("n 41", p.wallFor(0, 41, 0), BEYOND);
        is("n -1", p.wallFor(0, -1, 0), BEYOND);
        is("what 2", p.wallFor(0, 0, 2), BEYOND);
        is("what -1", p.wallFor(0, 0, -1), BEYOND);
        p.rises(0, 9);
        is("by none: nothing goes there", p.wallFor(15, 1, 0), NONE);
        is("as it is", p.then(3, 1), 1);
        is("cell 0 least of those that keep it dry", p.wallFor(3, 1, 0), 0);
        is("how much", p.wallFor(3, 1, 1), 0);
        p.land(0, 2, 1);
        is("nothing keeps the spring itself less deep", p.wallFor(0, 1, 0), NONE);
        p.land(0, 2, 0);
        for (int cell = 0; cell < 16; cell++) {
            p.land(cell, 0, cell == 1 ? 0 : 9);
            p.land(cell, 2, cell < 3 ? 0 : 1);
        }
        p.rises(0, 0);
        p.land(0, 1, 1);
        p.land(2, 1, 1);
        is("from both sides", p.then(1, 1), 2);
        is("a wall of its own keeps out both", p.wallFor(1, 1, 0), 1);
        is("all of it", p.wallFor(1, 1, 1), 0);
        p.land(1, 1, 5);
        is("more than what is there now", p.wallFor(1, 1, 1), 5);
        is("it goes on, too", p.wallFor(0, 1, 0), NONE);
        is("only thought", p.landIs(1, 2) + p.count(1), 0);
    }

    private static void springFor() {
        promise = 25;
        StiltParish p = new StiltParish();
        is("n 41", p.springFor(41, 0), BEYOND);
        is("n -1", p.springFor(-1, 0), BEYOND);
        is("what 2", p.springFor(0, 2), BEYOND);
        is("what -1", p.springFor(0, -1), BEYOND);
        is("nobody: the least", p.springFor(40, 0), 0);
        for (int cell = 0; cell < 16; cell++) {
            p.land(cell, 2, 1);
        }
        for (int one = 0; one < 8; one++) {
            p.one(0, one);
            p.set(one, 1, 0);
            p.land(one, 3, one == 6 ? 1 : 3);
        }
        p.rises(0, 9);
        p.springs(2);
        is("now: nothing by any", p.springFor(0, 1), 0);
        is("a spring where nobody is", p.springFor(1, 0), 8);
        is("how many", p.springFor(1, 1), 0);
        p.set(0, 2, 4);
        is("what one KNOWS now counts", p.springFor(1, 1), 1);
        for (int cell = 8; cell < 16; cell++) {
            p.land(cell, 3, 3);
            p.land(cell, 1, 1);
        }
        p.set(0, 2, 0);
        p.set(0, 0, 6);
        for (int one = 1; one < 8; one++) {
            p.set(one, 0, one == 6 ? 6 : one);
        }
        is("0 has nobody now", p.springFor(1, 0), 0);
        p.set(7, 0, 0);
        is("7 has nobody now", p.springFor(1, 0), 7);
        p.set(6, 0, 7);
        is("1 thing by 6 is fewer than 2, but 8 has nobody", p.springFor(1, 0), 8);
        p.set(5, 0, 8);
        is("all of 8 .. 15 WET there now know 2", p.springFor(1, 1), 2);
        is("SPRING stays", p.count(2), 2);
        p.set(0, 2, 4095);
        is("all are known by any: the least", p.springFor(1, 0), 0);
        is("all", p.springFor(1, 1), 12);
    }

    private static void walk() {
        promise = 26;
        StiltParish p = new StiltParish();
        is("nobody", p.walk(0, 0), BEYOND);
        p.one(0, 0);
        is("one -1", p.walk(-1, 0), BEYOND);
        is("cell 16", p.walk(0, 16), BEYOND);
        is("cell -1", p.walk(0, -1), BEYOND);
        is("to the far corner", p.walk(0, 15), 6);
        is("lines don't go on in the next one", p.walk(0, 4), 1);
        p.set(0, 0, 3);
        is("from 3 to 4", p.walk(0, 4), 4);
        p.set(0, 0, 4);
        is("from 4 to 3", p.walk(0, 3), 4);
        p.set(0, 0, 0);
        p.land(1, 1, 6);
        is("as much WATER as STILTS is dry", p.walk(0, 1), 1);
        p.land(1, 1, 7);
        p.land(5, 1, 7);
        p.land(9, 1, 7);
        p.land(8, 2, 1);
        is("around, by a WALLED cell", p.walk(0, 2), 8);
        p.land(13, 1, 7);
        is("no such way", p.walk(0, 2), NONE);
        is("not into the water", p.walk(0, 1), NONE);
        p.land(0, 1, 99);
        is("it is there", p.walk(0, 0), 0);
        is("out of the water", p.walk(0, 12), 3);
        is("it hasn't gone", p.oneIs(0, 2), 0);
        p = new StiltParish();
        p.one(0, 0);
        p.set(0, 1, 0);
        int[] snake = {1, 2, 3, 7, 6, 5, 4, 8, 9, 10, 11, 15, 14, 13, 12};
        for (int i = 0; i < snake.length; i++) {
            p.land(snake[i], 1, 0);
        }
        p.land(4, 1, 1);
        p.land(5, 1, 1);
        p.land(6, 1, 1);
        p.land(9, 1, 1);
        p.land(10, 1, 1);
        is("a long way", p.walk(0, 8), 10);
    }

    private static void council() {
        promise = 27;
        StiltParish p = new StiltParish();
        is("things 4096", p.council(4096), BEYOND);
        is("things -1", p.council(-1), BEYOND);
        is("nothing", p.council(0), 0);
        is("nobody", p.council(1), NONE);
        int[] knows = {1, 2, 4, 3, 6, 5, 2048, 7};
        for (int i = 0; i < 8; i++) {
            p.one(0, 0);
            p.set(i, 2, knows[i]);
        }
        is("one KNOWS all", p.council(7), 1 << 7);
        p.set(7, 2, 0);
        is("the least set of two: 2 and 3", p.council(7), 1 << 2 | 1 << 3);
        p.set(3, 2, 0);
        is("the least set of two: 0 and 4", p.council(7), 1 | 1 << 4);
        is("with the last", p.council(2048 | 7), 1 | 1 << 4 | 1 << 6);
        is("one of several", p.council(2), 2);
        is("not by all", p.council(8), NONE);
        for (int i = 0; i < 8; i++) {
            p.set(i, 2, 1 << i);
        }
        is("all of them", p.council(255), 255);
    }

    private static void odds() {
        promise = 28;
        StiltParish p = new StiltParish();
        is("nobody", p.odds(0, 0, 0), BEYOND);
        p.one(30, 0);
        is("one -1", p.odds(-1, 0, 0), BEYOND);
        is("n 41", p.odds(0, 41, 0), BEYOND);
        is("n -1", p.odds(0, -1, 0), BEYOND);
        is("part 2", p.odds(0, 0, 2), BEYOND);
        is("part -1", p.odds(0, 0, -1), BEYOND);
        is("0 above", p.odds(0, 0, 0), 0);
        is("1 below", p.odds(0, 0, 1), 1);
        for (int cell = 0; cell < 16; cell++) {
            p.land(cell, 2, 1);
        }
        p.rises(0, 9);
        is("by one of 16, above", p.odds(0, 1, 0), 1);
        is("by one of 16, below", p.odds(0, 1, 1), 16);
        p.land(0, 1, 7);
        is("by all, above", p.odds(0, 1, 0), 1);
        is("by all, below", p.odds(0, 1, 1), 1);
        p = new StiltParish();
        p.one(30, 5);
        p.set(0, 1, 0);
        for (int cell = 0; cell < 16; cell++) {
            p.land(cell, 0, 9);
            p.land(cell, 2, cell == 1 || cell == 4 || cell == 5 || cell == 6 || cell == 9 || cell == 13 ? 0 : 1);
        }
        p.land(5, 0, 0);
        p.rises(0, 1);
        is("by 1, 4, 5, 6, 9, 13, above", p.odds(0, 1, 0), 5);
        is("but 13, which is as high as 9, below", p.odds(0, 1, 1), 16);
        p.land(9, 0, 5);
        is("by 6, above", p.odds(0, 1, 0), 3);
        is("by 6, below", p.odds(0, 1, 1), 8);
        is("SPRING stays", p.count(2), 0);
    }

    private static void fits() {
        promise = 29;
        StiltParish p = new StiltParish();
        p.one(4, 0);
        is("nobody", p.fits(0, 1, 0), BEYOND);
        is("one -1", p.fits(0, -1, 0), BEYOND);
        is("sheet 4", p.fits(4, 0, 0), BEYOND);
        is("sheet -1", p.fits(-1, 0, 0), BEYOND);
        is("what 2", p.fits(0, 0, 2), BEYOND);
        is("BEYOND ahead of NONE", p.fits(0, 0, -1), BEYOND);
        is("it is missing", p.fits(0, 0, 0), NONE);
        p.sheet(0, 8, 0);
        is("no numbers: all", p.fits(0, 0, 0), 127);
        p.land(0, 1, 99);
        p.land(0, 2, 1);
        p.land(1, 0, 0);
        p.land(4, 0, 9);
        fill(p, 0, 8, 6);
        is("as they are now: all", p.fits(0, 0, 1), 7);
        fill(p, 0, 8, 5);
        is("as they aren't: none", p.fits(0, 0, 0), 0);
        is("none", p.fits(0, 0, 1), 0);
        fill(p, 1, 32, 6, 7, 8);
        is("GOER, YOUNG, BOLD", p.fits(1, 0, 0), 1 | 4 | 32);
        fill(p, 2, 16, 6, 6, 6);
        is("POSTMAN, LAME, BOOTS, PARR with 4", p.fits(2, 0, 0), 2 | 8 | 16 | 64);
        p.become(0, 5);
        is("not PARR with 5", p.fits(2, 0, 0), 2 | 8 | 16);
        fill(p, 2, 16, 6, 0);
        is("PARR with 5", p.fits(2, 0, 0), 64);
        p.day(1);
        fill(p, 2, 16, 6, 7, 7);
        is("BOOTS by an odd DAY", p.fits(2, 0, 0), 16);
        is("only thought", p.oneIs(0, 0) + p.count(1), 1);
        fill(p, 3, 32, 262);
        is("32 bits don't end at 8", p.fits(3, 0, 0), 0);
        fill(p, 3, 8, 262);
        is("8 bits do", p.fits(3, 0, 0), 127);
    }

    private static void voice() {
        promise = 30;
        StiltParish p = new StiltParish();
        is("nobody", p.voice(0, 0, 0), BEYOND);
        p.one(3, 0);
        is("one -1", p.voice(-1, 0, 0), BEYOND);
        is("voice 4", p.voice(0, 4, 0), BEYOND);
        is("voice -1", p.voice(0, -1, 0), BEYOND);
        is("wades", p.voice(0, 0, -5), -5);
        is("knows", p.voice(0, 1, -5), -10);
        is("sits", p.voice(0, 2, -5), -13);
        is("parts, cut", p.voice(0, 3, -5), -1);
        is("that wraps", p.voice(0, 1, 0x40000001), MIN + 2);
        p.become(0, 0);
        is("PARTED", p.voice(0, 3, 9), PARTED);
        p.become(0, 10);
        is("PARTED, whatever is added", p.voice(0, 3, 9), PARTED);
        p.become(0, 0);
        is("a number like an ERROR", p.voice(0, 0, PARTED), PARTED);
        is("isn't one", p.told(6), 2);
        p.one(0, 0);
        is("the least by -1", p.voice(1, 3, MIN), MIN);
    }

    private static void voiceBodies() {
        promise = 30;
        // of each KIND, as number 1 with m 4: wades(7), knows(7), sits(7), parts(7)
        int[][] want = {
            {8, 16, 12, 2},
            {4, 8, 4, 2 + (1 + 1 - 4) * 2},
            {8, -16, -20, 2},
            {8, 16, (3 + 1) * 2 - 4, 2},
            {(8 - 4) * 3, 24, 20 ^ 1, 2 + (2 - 4) * 3 * 2},
            {8, -18, -22, 2},
            {9, 22, 18, 2}};
        int[][][] traces = {
            {{10}, {11, 10}, {12, 11, 10}, {13}},
            {{20, 10}, {11, 20, 10}, {12, 11, 20, 10}, {21, 13, 11, 20, 10}},
            {{10}, {30, 11, 10}, {12, 30, 11, 10}, {13}},
            {{10}, {11, 10}, {40, 12, 11, 10}, {13}},
            {{50, 20, 10}, {11, 50, 20, 10}, {51, 12, 11, 50, 20, 10}, {21, 13, 11, 50, 20, 10}},
            {{10}, {60, 30, 11, 10}, {12, 60, 30, 11, 10}, {13}},
            {{70}, {71, 11, 70}, {12, 71, 11, 70}, {13}}};
        StiltParish p = new StiltParish();
        p.one(0, 0);
        p.one(0, 0);
        for (int kind = 0; kind < 7; kind++) {
            p.become(1, 10 * kind + 4);
            for (int voice = 0; voice < 4; voice++) {
                String what = "KIND " + kind + ", voice " + voice;
                is(what, p.voice(1, voice, 7), want[kind][voice]);
                int[] trace = traces[kind][voice];
                is(what + ", BODIES", p.count(9), trace.length);
                for (int i = 0; i < trace.length && i < p.count(9); i++) {
                    is(what + ", BODY " + i, p.body(i), trace[i]);
                }
            }
        }
        p.become(1, 34);
        is("half of -7 is -3", p.voice(1, 2, -7), -8);
    }

    private static void body() {
        promise = 31;
        StiltParish p = new StiltParish();
        p.one(10, 0);
        is("none yet", p.body(0), NONE);
        p.voice(0, 1, 0);
        is("-1", p.body(-1), NONE);
        is("the first", p.body(0), 11);
        is("the last", p.body(2), 10);
        is("behind it", p.body(3), NONE);
        is("far behind it", p.body(MAX), NONE);
        p.voice(0, 4, 0);
        is("a voice() that is BEYOND changes nothing", p.count(9), 3);
        p.voice(0, 3, 0);
        is("PARTED: those that began", p.count(9), 2);
        is("PARTED: Postman's", p.body(0), 21);
        is("PARTED: Goer's", p.body(1), 13);
    }

    private static void sheet() {
        promise = 32;
        StiltParish p = new StiltParish();
        is("sheet 4", p.sheet(4, 8, 1), BEYOND);
        is("sheet -1", p.sheet(-1, 8, 1), BEYOND);
        is("bits 7", p.sheet(0, 7, 1), BEYOND);
        is("bits 64", p.sheet(0, 64, 1), BEYOND);
        is("bits -8", p.sheet(0, -8, 1), BEYOND);
        is("n -1", p.sheet(0, 8, -1), STATE);
        is("n least", p.sheet(0, 8, MIN), STATE);
        is("n 25", p.sheet(0, 8, 25), BEYOND);
        is("no such bits, ahead of n", p.sheet(0, 9, -1), BEYOND);
        is("it is missing still", p.judge(0), NONE);
        is("24", p.sheet(3, 32, 24), 1);
        is("all 0", p.judge(3), 16);
        p.put(3, 2, 9);
        is("2 are right", p.judge(3), 2);
        is("anew", p.sheet(3, 16, 5), 1);
        is("all 0 again", p.judge(3), 5);
        is("an ERROR", p.sheet(3, 16, 25), BEYOND);
        is("changes nothing", p.judge(3), 5);
        is("missing, n doesn't matter", p.sheet(3, 0, -5), 1);
        is("it is", p.judge(3), NONE);
        is("missing, n is large", p.sheet(3, 0, 99), 1);
    }

    private static void put() {
        promise = 33;
        StiltParish p = new StiltParish();
        is("sheet 4", p.put(4, 0, 0), BEYOND);
        is("sheet -1", p.put(-1, 0, 0), BEYOND);
        is("missing, ahead of no such number", p.put(0, -1, 0), NONE);
        p.sheet(0, 8, 3);
        is("number 3", p.put(0, 3, 0), BEYOND);
        is("number -1", p.put(0, -1, 0), BEYOND);
        is("the last", p.put(0, 2, 5), 1);
        is("the others stay", p.judge(0), 2);
        for (int bits = 8; bits <= 32; bits *= 2) {
            fill(p, 1, bits, 0x10105, 0x105, 5);
            p.land(0, 1, 5);
            p.land(1, 1, 5);
            p.land(2, 1, 5);
            is("lowest " + bits + " of 65797", p.judge(1), bits == 8 ? 3 : 0);
            fill(p, 1, bits, 0x10005, 5, 0x105);
            is("lowest " + bits + " of 65541", p.judge(1), bits == 8 ? 3 : bits == 16 ? 2 : 0);
        }
        p.sheet(2, 32, 0);
        is("no numbers", p.put(2, 0, 0), BEYOND);
    }

    private static void move() {
        promise = 34;
        StiltParish p = new StiltParish();
        fill(p, 0, 8, 1, 2, 3, 4);
        fill(p, 1, 8, 9, 9, 9);
        fill(p, 2, 16, 1);
        is("sheet 4", p.move(4, 0, 0, 0, 0), BEYOND);
        is("sheet -1", p.move(-1, 0, 0, 0, 0), BEYOND);
        is("other 4", p.move(3, 0, 4, 0, 0), BEYOND);
        is("other -1", p.move(0, 0, -1, 0, 0), BEYOND);
        is("one is missing", p.move(3, 0, 0, 0, 0), NONE);
        is("the other one is missing, ahead of n", p.move(0, 0, 3, 0, -1), NONE);
        is("unlike bits, ahead of n", p.move(0, 0, 2, 0, -1), KIND);
        is("n -1", p.move(0, 1, 1, 1, -1), BEYOND);
        is("i -1", p.move(0, -1, 1, 0, 1), BEYOND);
        is("j -1", p.move(0, 0, 1, -1, 1), BEYOND);
        is("too many here", p.move(0, 2, 1, 0, 3), BEYOND);
        is("too many there", p.move(0, 0, 1, 2, 2), BEYOND);
        is("far", p.move(0, MAX, 1, MAX, MAX), BEYOND);
        is("n the most", p.move(0, 0, 1, 0, MAX), BEYOND);
        is("n the least", p.move(0, 0, 1, 0, MIN), BEYOND);
        is("i the most, one", p.move(0, MAX, 1, 0, 1), BEYOND);
        is("none, at the ends", p.move(0, 4, 1, 3, 0), 0);
        is("none, behind the end", p.move(0, 5, 1, 3, 0), BEYOND);
        is("two", p.move(0, 2, 1, 1, 2), 2);
        is("GROUND by them", p.grounds(1), 3);
        is("of 0", p.landIs(0, 0), 9);
        is("of 1", p.landIs(1, 0), 3);
        is("of 2", p.landIs(2, 0), 4);
        is("onward in the same", p.move(0, 0, 0, 1, 3), 3);
        p.grounds(0);
        is("1 1 2 3", p.landIs(0, 0) * 1000 + p.landIs(1, 0) * 100 + p.landIs(2, 0) * 10 + p.landIs(3, 0), 1123);
        is("back in the same", p.move(0, 1, 0, 0, 3), 3);
        p.grounds(0);
        is("1 2 3 3", p.landIs(0, 0) * 1000 + p.landIs(1, 0) * 100 + p.landIs(2, 0) * 10 + p.landIs(3, 0), 1233);
    }

    private static void grounds() {
        promise = 35;
        StiltParish p = new StiltParish();
        is("sheet 4", p.grounds(4), BEYOND);
        is("sheet -1", p.grounds(-1), BEYOND);
        is("missing", p.grounds(3), NONE);
        p.sheet(0, 8, 24);
        is("16 cells", p.grounds(0), 16);
        is("GROUND of 15", p.landIs(15, 0), 0);
        fill(p, 1, 8, 9, 0, 10, 5);
        is("up to 10", p.grounds(1), 2);
        is("GROUND of 0", p.landIs(0, 0), 9);
        is("GROUND of 3", p.landIs(3, 0), 0);
        fill(p, 1, 16, -1, 3);
        is("up to -1", p.grounds(1), 0);
        is("no ERROR", p.told(1) * 10 + p.told(2), 21);
    }

    private static void judge() {
        promise = 36;
        StiltParish p = new StiltParish();
        is("sheet 4", p.judge(4), BEYOND);
        is("sheet -1", p.judge(-1), BEYOND);
        is("missing", p.judge(3), NONE);
        p.sheet(0, 8, 24);
        is("no more cells than 16", p.judge(0), 16);
        p.land(0, 1, 99);
        p.land(2, 1, 1);
        fill(p, 1, 8, 99, 0, 2, 0);
        is("from the first on", p.judge(1), 2);
        fill(p, 1, 8, 98, 0, 1, 0);
        is("the first is wrong", p.judge(1), 0);
        is("WATER stays", p.landIs(0, 1), 99);
    }

    private static void image() {
        promise = 37;
        StiltParish p = new StiltParish();
        is("once", p.image(), 1);
        is("twice", p.image(), 2);
        p.restore();
        is("how often isn't in it", p.image(), 3);
        p.day(5);
        p.image();
        p.day(6);
        is("in place of one ahead", p.restore(), 5);
    }

    private static void restore() {
        promise = 38;
        StiltParish p = new StiltParish();
        is("there is none", p.restore(), NONE);
        p.one(35, 7);
        p.set(0, 1, 9);
        p.set(0, 2, 77);
        p.land(3, 0, 2);
        p.land(3, 1, 98);
        p.land(3, 2, 1);
        p.land(3, 3, 9);
        p.rises(4, 8);
        p.springs(11);
        p.seed(-3);
        p.day(100);
        text(p, 0, "y+1");
        feed(p, "y+2");
        p.tell(0);
        fill(p, 0, 8, 1);
        p.voice(0, 0, 0);
        p.image();
        p.one(44, 1);
        p.become(0, 6);
        p.loose(20);
        p.text(0);
        text(p, 1, "3");
        p.tell(6);
        fill(p, 0, 8, 0, 0, 0);
        p.voice(0, 1, 0);
        for (int i = 0; i < 2; i++) {
            is("DAY", p.restore(), 100);
            is("PEOPLE", p.count(0), 1);
            is("of a KIND", p.oneIs(0, 0) * 10 + p.oneIs(0, 1), 35);
            is("cell, STILTS, KNOWS", p.oneIs(0, 2) * 10000 + p.oneIs(0, 3) * 100 + p.oneIs(0, 4), 70977);
            is("cell 3", p.landIs(3, 0) * 1000 + p.landIs(3, 1) * 10 + p.landIs(3, 2), 2981);
            is("KEPT", p.landIs(3, 3), 9);
            is("RISES, which is changed then", p.rises(4, i), 8);
            is("SPRING", p.springs(i), 11);
            is("z", p.seed(i), -3);
            is("THE TAPE", p.count(7), 3);
            is("those that wait", p.count(8), 1);
            is("the TEXT of 0", p.law(0, 1, 0, 0), 2);
            is("the TEXT of 1", p.untell(1), 0);
            is("they are told right", p.check(), 0);
            is("THE TAPE's TEXT", p.text(0), 1);
            is("it is y+2", p.law(0, 0, 0, 0), 2);
            is("SHEETS aren't in it", p.judge(0), 3);
            is("THE TRACE isn't in it", p.count(9), 2);
            is("told() isn't in it", p.told(2), 1);
        }
    }

    private static void tell() {
        promise = 39;
        StiltParish p = new StiltParish();
        for (int i = 1; i <= 24; i++) {
            is("number " + i, p.tell(i % 2 == 0 ? MIN : MAX), i);
        }
        is("24 wait", p.tell(0), FULL);
        is("24 wait still", p.count(8), 24);
    }

    private static void check() {
        promise = 40;
        StiltParish p = new StiltParish();
        is("none wait", p.check(), 0);
        p.tell(0);
        is("nobody", p.check(), 1);
        is("none do then", p.check(), 0);
        p.one(0, 0);
        p.one(10, 0);
        p.tell(6);
        is("fewer than PEOPLE", p.check(), 0);
        p.tell(6);
        p.tell(8);
        is("all", p.check(), 0);
        p.tell(6);
        p.tell(8);
        p.tell(0);
        is("one too many", p.check(), 3);
        p.tell(6);
        p.tell(7);
        p.tell(9);
        is("the first that isn't so", p.check(), 2);
        is("none wait then", p.count(8), 0);
        text(p, 1, "t*9");
        p.tell(20);
        p.tell(20);
        is("as they are MADE by the TEXT", p.check(), 0);
    }

    private static void count() {
        promise = 41;
        StiltParish p = new StiltParish();
        is("what -1", p.count(-1), BEYOND);
        is("what 11", p.count(11), BEYOND);
        p.one(0, 3);
        p.one(0, 4);
        p.one(0, 3);
        p.set(0, 2, 1);
        p.set(2, 2, 6);
        p.set(1, 1, 0);
        p.land(3, 1, 99);
        p.land(4, 1, 1);
        p.day(12);
        p.springs(15);
        p.feed(0, 5);
        p.tell(1);
        p.tell(1);
        p.voice(0, 2, 1);
        p.seed(MIN);
        int[] want = {3, 12, 15, 100, 7, 7, 1, 5, 2, 3, MIN};
        for (int what = 0; what <= 10; what++) {
            is("count(" + what + ")", p.count(what), want[what]);
        }
        p.set(2, 0, 5);
        is("those who are WET", p.count(4), 3);
    }

    private static void told() {
        promise = 42;
        StiltParish p = new StiltParish();
        is("k 0", p.told(0), BEYOND);
        is("k 7", p.told(7), BEYOND);
        is("k -1", p.told(-1), BEYOND);
        is("counted, too", p.told(1), 3);
        p.restore();
        p.body(0);
        p.day(9999);
        p.days(1);
        p.one(0, 0);
        p.as(0, 1);
        p.voice(0, 3, 0);
        for (int i = 0; i < 25; i++) {
            p.tell(0);
        }
        text(p, 0, "?");
        int[] want = {3, 2, 1, 1, 1, 1};
        for (int k = 1; k <= 6; k++) {
            is("told(" + k + ")", p.told(k), want[k - 1]);
        }
    }
}
