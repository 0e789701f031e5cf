/** For each argument of each act the last value that is still good and the first that isn't, on both sides. */
public final class RangesTest extends Checks {
    private interface Act {
        int by(StiltParish p, int v);
    }

    private static final int PEOPLE = 3;
    private static final int BODIES = 3;

    public static void main(String[] args) {
        people();
        cells();
        texts();
        days();
        thoughts();
        voices();
        sheets();
        sheetMakes();
        moves();
        told();
        end("all ranges hold");
    }

    /** All but the one argument that is asked for can be good here: so an ERROR is that argument's. */
    private static StiltParish parish() {
        StiltParish p = new StiltParish();
        for (int i = 0; i < PEOPLE; i++) {
            p.one(9, i);
        }
        for (int sheet = 0; sheet < 4; sheet++) {
            p.sheet(sheet, 32, 24);
        }
        feed(p, "d");
        p.voice(0, 2, 0);
        return p;
    }

    private static void good(String what, int v, int error, Act act) {
        StiltParish p = parish();
        int got = act.by(p, v);
        is(what + " " + v + " is good, but answers " + got, got == error ? 1 : 0, 0);
        is(what + " " + v + ", told", p.told(-1000000000 - error), 0);
    }

    private static void bad(String what, int v, int error, Act act) {
        StiltParish p = parish();
        is(what + " " + v, act.by(p, v), error);
        is(what + " " + v + ", told", p.told(-1000000000 - error), 1);
    }

    private static void range(String what, int from, int to, int error, Act act) {
        good(what, from, error, act);
        good(what, to, error, act);
        bad(what, from - 1, error, act);
        bad(what, to + 1, error, act);
        bad(what, MIN, error, act);
        bad(what, MAX, error, act);
    }

    private static void range(String what, int from, int to, Act act) {
        range(what, from, to, BEYOND, act);
    }

    private static void any(String what, Act act) {
        for (int v : new int[] {MIN, BEYOND, -1, 0, 1, MAX}) {
            good(what, v, BEYOND, (p, given) -> {
                act.by(p, given);
                return p.told(1) + p.told(2) + p.told(3) + p.told(4) + p.told(5) + p.told(6) == 0 ? 0 : BEYOND;
            });
        }
    }

    private static void people() {
        promise = 2;
        range("km", 0, 69, (p, v) -> p.one(v, 0));
        range("cell", 0, 15, (p, v) -> p.one(0, v));
        promise = 3;
        range("one", 0, PEOPLE - 1, (p, v) -> p.oneIs(v, 0));
        range("what", 0, 7, (p, v) -> p.oneIs(0, v));
        promise = 4;
        range("one", 0, PEOPLE - 1, (p, v) -> p.become(v, 0));
        range("km", 0, 69, (p, v) -> p.become(0, v));
        promise = 5;
        range("one", 0, PEOPLE - 1, (p, v) -> p.as(v, 0));
        range("kind", 0, 6, (p, v) -> p.as(0, v));
        promise = 6;
        range("one", 0, PEOPLE - 1, (p, v) -> p.set(v, 0, 0));
        range("what", 0, 2, (p, v) -> p.set(0, v, 0));
        range("its cell", 0, 15, (p, v) -> p.set(0, 0, v));
        range("STILTS", 0, 20, (p, v) -> p.set(0, 1, v));
        range("KNOWS", 0, 4095, (p, v) -> p.set(0, 2, v));
        promise = 7;
        range("one", 0, PEOPLE - 1, (p, v) -> p.cut(v));
    }

    private static void cells() {
        promise = 8;
        range("cell", 0, 15, (p, v) -> p.land(v, 0, 0));
        range("what", 0, 3, (p, v) -> p.land(0, v, 0));
        range("GROUND", 0, 9, (p, v) -> p.land(0, 0, v));
        range("WATER", 0, 99, (p, v) -> p.land(0, 1, v));
        range("WALLED", 0, 1, (p, v) -> p.land(0, 2, v));
        range("KEPT", 0, 4095, (p, v) -> p.land(0, 3, v));
        promise = 9;
        range("cell", 0, 15, (p, v) -> p.landIs(v, 0));
        range("what", 0, 4, (p, v) -> p.landIs(0, v));
        promise = 10;
        range("place", 0, 5, (p, v) -> p.rises(v, 0));
        range("v", 0, 9, (p, v) -> p.rises(0, v));
        promise = 11;
        range("cell", 0, 15, (p, v) -> p.springs(v));
    }

    private static void texts() {
        promise = 12;
        range("n", 1, 8, (p, v) -> p.feed(0, v));
        any("word", (p, v) -> p.feed(v, 8));
        promise = 13;
        range("use", 0, 1, (p, v) -> p.text(v));
        promise = 14;
        range("use", 0, 1, (p, v) -> p.untell(v));
        promise = 15;
        range("use", 0, 1, (p, v) -> p.law(v, 0, 0, 0));
        any("a", (p, v) -> p.law(0, v, 0, 0) + p.law(1, v, 0, 0));
        any("b", (p, v) -> p.law(0, 0, v, 0) + p.law(1, 0, v, 0));
        any("c", (p, v) -> p.law(0, 0, 0, v) + p.law(1, 0, 0, v));
    }

    private static void days() {
        promise = 16;
        range("n", 1, 60, (p, v) -> p.days(v));
        promise = 17;
        range("n", 1, 30, (p, v) -> p.loose(v));
        promise = 18;
        range("v", 0, 9999, (p, v) -> p.day(v));
        promise = 19;
        any("v", (p, v) -> p.seed(v));
    }

    private static void thoughts() {
        promise = 20;
        range("cell", 0, 15, (p, v) -> p.then(v, 0));
        range("n", 0, 60, (p, v) -> p.then(0, v));
        promise = 21;
        range("one", 0, PEOPLE - 1, (p, v) -> p.learns(v, 0));
        range("n", 0, 60, (p, v) -> p.learns(0, v));
        promise = 22;
        range("thing", 0, 11, (p, v) -> p.soonest(v));
        promise = 23;
        range("one", 0, PEOPLE - 1, (p, v) -> p.stiltsFor(v, 0));
        range("n", 0, 40, (p, v) -> p.stiltsFor(0, v));
        promise = 24;
        range("cell", 0, 15, (p, v) -> p.wallFor(v, 0, 0));
        range("n", 0, 40, (p, v) -> p.wallFor(0, v, 0));
        range("what", 0, 1, (p, v) -> p.wallFor(0, 0, v));
        promise = 25;
        range("n", 0, 40, (p, v) -> p.springFor(v, 0));
        range("what", 0, 1, (p, v) -> p.springFor(0, v));
        promise = 26;
        range("one", 0, PEOPLE - 1, (p, v) -> p.walk(v, 0));
        range("cell", 0, 15, (p, v) -> p.walk(0, v));
        promise = 27;
        range("things", 0, 4095, (p, v) -> p.council(v));
        promise = 28;
        range("one", 0, PEOPLE - 1, (p, v) -> p.odds(v, 0, 0));
        range("n", 0, 40, (p, v) -> p.odds(0, v, 0));
        range("part", 0, 1, (p, v) -> p.odds(0, 0, v));
        promise = 29;
        range("sheet", 0, 3, (p, v) -> p.fits(v, 0, 0));
        range("one", 0, PEOPLE - 1, (p, v) -> p.fits(0, v, 0));
        range("what", 0, 1, (p, v) -> p.fits(0, 0, v));
    }

    private static void voices() {
        promise = 30;
        range("one", 0, PEOPLE - 1, (p, v) -> p.voice(v, 0, 0));
        range("voice", 0, 3, (p, v) -> p.voice(0, v, 0));
        any("x", (p, v) -> p.voice(0, 0, v) + p.voice(0, 1, v) + p.voice(0, 2, v) + p.voice(0, 3, v));
        promise = 31;
        range("i", 0, BODIES - 1, NONE, (p, v) -> p.body(v));
    }

    private static void sheets() {
        promise = 32;
        range("sheet", 0, 3, (p, v) -> p.sheet(v, 8, 0));
        promise = 33;
        range("sheet", 0, 3, (p, v) -> p.put(v, 0, 0));
        range("i of 24", 0, 23, (p, v) -> p.put(0, v, 0));
        range("i of 1", 0, 0, (p, v) -> p.sheet(0, 8, 1) == 1 ? p.put(0, v, 0) : 0);
        bad("i of none", 0, BEYOND, (p, v) -> p.sheet(0, 8, 0) == 1 ? p.put(0, v, 0) : 0);
        any("v", (p, v) -> p.put(0, 0, v));
        promise = 35;
        range("sheet", 0, 3, (p, v) -> p.grounds(v));
        promise = 36;
        range("sheet", 0, 3, (p, v) -> p.judge(v));
    }

    private static void sheetMakes() {
        promise = 32;
        for (int bits = -70; bits <= 70; bits++) {
            Act makes = (p, v) -> p.sheet(0, v, 24);
            if (bits == 0 || bits == 8 || bits == 16 || bits == 32) {
                good("bits", bits, BEYOND, makes);
            } else {
                bad("bits", bits, BEYOND, makes);
            }
        }
        for (int bits = 8; bits <= 32; bits *= 2) {
            int so = bits;
            Act makes = (p, n) -> p.sheet(0, so, n);
            good(so + " bits, n", 0, BEYOND, makes);
            good(so + " bits, n", 24, BEYOND, makes);
            bad(so + " bits, n", 25, BEYOND, makes);
            bad(so + " bits, n", MAX, BEYOND, makes);
            bad(so + " bits, n", -1, STATE, makes);
            bad(so + " bits, n", MIN, STATE, makes);
        }
        any("n of a missing one", (p, v) -> p.sheet(0, 0, v));
    }

    private static void moves() {
        promise = 34;
        range("sheet", 0, 3, (p, v) -> p.move(v, 0, 1, 0, 1));
        range("other", 0, 3, (p, v) -> p.move(1, 0, v, 0, 1));
        range("n of 24", 0, 24, (p, v) -> p.move(0, 0, 1, 0, v));
        range("i, one number", 0, 23, (p, v) -> p.move(0, v, 1, 0, 1));
        range("j, one number", 0, 23, (p, v) -> p.move(0, 0, 1, v, 1));
        range("i, 24 numbers", 0, 0, (p, v) -> p.move(0, v, 1, 0, 24));
        range("j, 24 numbers", 0, 0, (p, v) -> p.move(0, 0, 1, v, 24));
        range("n behind i 20", 0, 4, (p, v) -> p.move(0, 20, 1, 0, v));
        range("n behind j 20", 0, 4, (p, v) -> p.move(0, 0, 1, 20, v));
        range("n in the same", 0, 4, (p, v) -> p.move(0, 0, 0, 20, v));
        range("n of a shorter one", 0, 2, (p, v) -> p.sheet(0, 32, 2) == 1 ? p.move(0, 0, 1, 0, v) : 0);
        range("n to a shorter one", 0, 2, (p, v) -> p.sheet(1, 32, 2) == 1 ? p.move(0, 0, 1, 0, v) : 0);
    }

    private static void told() {
        promise = 39;
        any("v", (p, v) -> p.tell(v));
        promise = 41;
        range("what", 0, 10, (p, v) -> p.count(v));
        promise = 42;
        range("k", 1, 6, (p, v) -> p.told(v));
    }
}
