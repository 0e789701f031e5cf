import java.util.ArrayList;
import java.util.List;

/**
 * A refused call changes nothing but what told() tells, which ERROR is told of several that hold, and what is only
 * thought or only told changes nothing at all: each on one of two twins, whose answers are held against each other then.
 */
public final class RefusedTest extends Checks {
    private interface Act {
        int by(StiltParish p);
    }

    private static final int NO_ERROR = 0;

    /** Which of the two states the twins are in before the call. */
    private static boolean full;

    public static void main(String[] args) {
        full = false;
        refusedPeople();
        refusedCells();
        refusedTexts();
        refusedDays();
        refusedThoughts();
        refusedVoices();
        refusedSheets();
        refusedMoves();
        order();
        parted();
        changesNothing();
        full = true;
        refusedFull();
        end("all refused calls change nothing");
    }

    /** DAY 9990, four of PEOPLE, TEXTS, SHEETS (3 is missing), THE TAPE, numbers that wait, THE TRACE and an IMAGE unlike it. */
    private static StiltParish rich() {
        StiltParish p = new StiltParish();
        int[] km = {9, 19, 53, 66};
        for (int i = 0; i < km.length; i++) {
            p.one(km[i], 5 * i);
            p.set(i, 1, 3 * i);
            p.set(i, 2, 257 << i);
        }
        text(p, 0, "y+k");
        text(p, 1, "t-1");
        fillState(p, 3);
        p.image();
        p.become(0, 29);
        fillState(p, 7);
        p.land(10, 3, 64);
        p.day(9990);
        text(p, 0, "y+1");
        text(p, 1, "t+g%3");
        feed(p, "k+2");
        p.tell(p.oneIs(0, 7));
        p.tell(p.oneIs(1, 7));
        p.tell(-1);
        fillSheets(p);
        p.voice(1, 3, 5);
        return p;
    }

    /** Eight of PEOPLE, 60 bytes, 24 numbers that wait. */
    private static StiltParish full() {
        StiltParish p = new StiltParish();
        for (int i = 0; i < 8; i++) {
            p.one(9 * i, i);
        }
        p.image();
        fillState(p, 5);
        feed(p, "k" + "+1".repeat(29) + "1");
        for (int i = 0; i < 24; i++) {
            p.tell(i < 8 ? p.oneIs(i, 7) : i);
        }
        fillSheets(p);
        p.voice(0, 2, 1);
        return p;
    }

    private static void fillState(StiltParish p, int by) {
        for (int cell = 0; cell < 16; cell += 3) {
            p.land(cell, 0, (cell + by) % 10);
            p.land(cell, 1, cell * by % 100);
            p.land(cell, 2, cell / 3 % 2);
            p.land(cell, 3, 1 << cell % 12);
        }
        p.rises(4, by);
        p.springs(by);
        p.seed(-by);
    }

    private static void fillSheets(StiltParish p) {
        fill(p, 0, 8, 1, 2, 3, 4, 5);
        fill(p, 1, 16, 9, 8, 7);
        fill(p, 2, 8, 6, 5, 4, 3);
    }

    private static StiltParish parish() {
        return full ? full() : rich();
    }

    /** All that can be seen, in an order in which no look spoils a later one's; some 300 calls. */
    private static List<Integer> look(StiltParish p, boolean traced) {
        List<Integer> seen = new ArrayList<>();
        for (int i = 0; traced && i <= 6; i++) {
            seen.add(p.body(i));
        }
        if (traced) {
            seen.add(p.count(9));
        }
        lookAtWorld(p, seen);
        for (int sheet = 0; sheet < 4; sheet++) {
            seen.add(p.grounds(sheet));
            for (int cell = 0; cell < 6; cell++) {
                seen.add(p.landIs(cell, 0));
            }
        }
        // only two of the same bits can be moved
        for (int sheet = 0; sheet < 3; sheet++) {
            seen.add(p.move(0, 0, sheet, 0, 1));
        }
        seen.add(p.restore());
        lookAtWorld(p, seen);
        seen.add(p.image());
        return seen;
    }

    private static void lookAtWorld(StiltParish p, List<Integer> seen) {
        for (int what : new int[] {0, 1, 2, 3, 4, 5, 6, 7, 8, 10}) {
            seen.add(p.count(what));
        }
        for (int one = 0; one < p.count(0); one++) {
            for (int what = 0; what <= 4; what++) {
                seen.add(p.oneIs(one, what));
            }
        }
        for (int cell = 0; cell < 16; cell++) {
            for (int what = 0; what <= 3; what++) {
                seen.add(p.landIs(cell, what));
            }
        }
        for (int place = 0; place < 6; place++) {
            seen.add(p.rises(place, 0));
        }
        seen.add(p.check());
        seen.add(p.law(0, 2, 7, 1));
        seen.add(p.law(1, 2, 7, 1));
        // what stands on THE TAPE
        seen.add(p.text(0));
        seen.add(p.law(0, 2, 7, 1));
    }

    /** On one twin an act is done: of ERRORS only error, if any, is told once more, and all else is as on the other. */
    private static void twins(String what, int error, Act act) {
        StiltParish still = parish();
        StiltParish asked = parish();
        int got = act.by(asked);
        if (error != NO_ERROR) {
            is(what, got, error);
        }
        for (int k = 1; k <= 6; k++) {
            is(what + ", told(" + k + ")", asked.told(k) - still.told(k), error == -1000000000 - k ? 1 : 0);
        }
        is(what + " changes nothing", look(asked, true).equals(look(still, true)) ? 1 : 0, 1);
    }

    private static void refused(String what, int error, Act act) {
        twins(what, error, act);
    }

    private static void same(String what, Act act) {
        twins(what, NO_ERROR, act);
    }

    private static void refusedPeople() {
        promise = 2;
        refused("one: km", BEYOND, p -> p.one(70, 0));
        refused("one: cell", BEYOND, p -> p.one(0, 16));
        promise = 3;
        refused("oneIs: one", BEYOND, p -> p.oneIs(4, 0));
        refused("oneIs: what", BEYOND, p -> p.oneIs(0, 8));
        promise = 4;
        refused("become: one", BEYOND, p -> p.become(4, 5));
        refused("become: km", BEYOND, p -> p.become(0, 70));
        promise = 5;
        refused("as: one", BEYOND, p -> p.as(-1, 0));
        refused("as: kind", BEYOND, p -> p.as(0, 7));
        refused("as: it isn't of that KIND", KIND, p -> p.as(1, 4));
        promise = 6;
        refused("set: one", BEYOND, p -> p.set(4, 0, 1));
        refused("set: what", BEYOND, p -> p.set(0, 3, 1));
        refused("set: its cell", BEYOND, p -> p.set(0, 0, 16));
        refused("set: STILTS", BEYOND, p -> p.set(0, 1, 21));
        refused("set: KNOWS", BEYOND, p -> p.set(0, 2, 4096));
        promise = 7;
        refused("cut: one", BEYOND, p -> p.cut(4));
    }

    private static void refusedCells() {
        promise = 8;
        refused("land: cell", BEYOND, p -> p.land(16, 0, 1));
        refused("land: what", BEYOND, p -> p.land(0, 4, 1));
        refused("land: GROUND", BEYOND, p -> p.land(0, 0, 10));
        refused("land: WATER", BEYOND, p -> p.land(0, 1, 100));
        refused("land: WALLED", BEYOND, p -> p.land(0, 2, 2));
        refused("land: KEPT", BEYOND, p -> p.land(0, 3, 4096));
        promise = 9;
        refused("landIs: cell", BEYOND, p -> p.landIs(16, 0));
        refused("landIs: what", BEYOND, p -> p.landIs(0, 5));
        promise = 10;
        refused("rises: place", BEYOND, p -> p.rises(6, 1));
        refused("rises: v", BEYOND, p -> p.rises(0, 10));
        promise = 11;
        refused("springs: cell", BEYOND, p -> p.springs(16));
    }

    private static void refusedTexts() {
        promise = 12;
        refused("feed: n 0", BEYOND, p -> p.feed('1', 0));
        refused("feed: n 9", BEYOND, p -> p.feed('1', 9));
        promise = 13;
        refused("text: use, THE TAPE stays", BEYOND, p -> p.text(2));
        promise = 14;
        refused("untell: use", BEYOND, p -> p.untell(2));
        promise = 15;
        refused("law: use", BEYOND, p -> p.law(2, 0, 0, 0));
    }

    private static void refusedDays() {
        promise = 16;
        refused("days: n", BEYOND, p -> p.days(61));
        refused("days: DAY would be 10000", STATE, p -> p.days(10));
        refused("days: DAY would be 10050", STATE, p -> p.days(60));
        promise = 17;
        refused("loose: n", BEYOND, p -> p.loose(31));
        refused("loose: DAY would be 10000", STATE, p -> p.loose(10));
        refused("loose: DAY would be 10020", STATE, p -> p.loose(30));
        promise = 18;
        refused("day: v", BEYOND, p -> p.day(10000));
    }

    private static void refusedThoughts() {
        promise = 20;
        refused("then", BEYOND, p -> p.then(0, 61));
        promise = 21;
        refused("learns", BEYOND, p -> p.learns(0, 61));
        promise = 22;
        refused("soonest: thing", BEYOND, p -> p.soonest(12));
        refused("soonest: not by 60", NONE, p -> p.soonest(7));
        promise = 23;
        refused("stiltsFor", BEYOND, p -> p.stiltsFor(0, 41));
        refused("stiltsFor: with 20 not", NONE, p -> p.stiltsFor(2, 40));
        promise = 24;
        refused("wallFor", BEYOND, p -> p.wallFor(0, 41, 0));
        refused("wallFor: by none", NONE, p -> p.wallFor(0, 0, 0));
        promise = 25;
        refused("springFor", BEYOND, p -> p.springFor(41, 0));
        promise = 26;
        refused("walk", BEYOND, p -> p.walk(0, 16));
        refused("walk: no such way", NONE, p -> p.walk(0, 9));
        promise = 27;
        refused("council", BEYOND, p -> p.council(4096));
        refused("council: not by all", NONE, p -> p.council(4095));
        promise = 28;
        refused("odds", BEYOND, p -> p.odds(0, 41, 0));
        promise = 29;
        refused("fits: what", BEYOND, p -> p.fits(0, 0, 2));
        refused("fits: the SHEET is missing", NONE, p -> p.fits(3, 0, 0));
    }

    private static void refusedVoices() {
        promise = 30;
        refused("voice: one", BEYOND, p -> p.voice(4, 0, 1));
        refused("voice: voice", BEYOND, p -> p.voice(0, 4, 1));
        promise = 31;
        refused("body: -1", NONE, p -> p.body(-1));
        refused("body: behind the last", NONE, p -> p.body(p.count(9)));
        promise = 38;
        StiltParish p = new StiltParish();
        p.day(5);
        is("restore without an IMAGE", p.restore(), NONE);
        is("changes nothing", p.count(1), 5);
        promise = 41;
        refused("count", BEYOND, q -> q.count(11));
        promise = 42;
        refused("told: counted, too", BEYOND, q -> q.told(7));
    }

    private static void refusedSheets() {
        promise = 32;
        refused("sheet: sheet", BEYOND, p -> p.sheet(4, 8, 1));
        refused("sheet: bits", BEYOND, p -> p.sheet(0, 24, 1));
        refused("sheet: n", BEYOND, p -> p.sheet(0, 16, 25));
        refused("sheet: n below 0", STATE, p -> p.sheet(0, 16, -1));
        promise = 33;
        refused("put: sheet", BEYOND, p -> p.put(4, 0, 9));
        refused("put: it is missing", NONE, p -> p.put(3, 0, 9));
        refused("put: no such number", BEYOND, p -> p.put(0, 5, 9));
        promise = 35;
        refused("grounds: sheet", BEYOND, p -> p.grounds(4));
        refused("grounds: it is missing", NONE, p -> p.grounds(3));
        promise = 36;
        refused("judge: sheet", BEYOND, p -> p.judge(4));
        refused("judge: it is missing", NONE, p -> p.judge(3));
    }

    private static void refusedMoves() {
        promise = 34;
        refused("move: sheet", BEYOND, p -> p.move(4, 0, 0, 0, 1));
        refused("move: other", BEYOND, p -> p.move(0, 0, 4, 0, 1));
        refused("move: it is missing", NONE, p -> p.move(3, 0, 0, 0, 1));
        refused("move: the other one is missing", NONE, p -> p.move(0, 0, 3, 0, 1));
        refused("move: unlike bits", KIND, p -> p.move(0, 0, 1, 0, 1));
        refused("move: n below 0", BEYOND, p -> p.move(0, 1, 2, 1, -1));
        refused("move: i below 0", BEYOND, p -> p.move(0, -1, 2, 0, 1));
        refused("move: j below 0", BEYOND, p -> p.move(0, 0, 2, -1, 1));
        refused("move: only the first of them stand there", BEYOND, p -> p.move(0, 2, 2, 0, 4));
        refused("move: there is room for the first alone", BEYOND, p -> p.move(0, 0, 2, 1, 4));
    }

    /** Two ERRORS hold: the one that is asked first is told. (BEYOND ahead of FULL: refusedFull.) */
    private static void order() {
        promise = 5;
        refused("as: BEYOND ahead of KIND", BEYOND, p -> p.as(4, 4));
        promise = 16;
        refused("days: BEYOND ahead of STATE", BEYOND, p -> p.days(61));
        promise = 17;
        refused("loose: BEYOND ahead of STATE", BEYOND, p -> p.loose(31));
        promise = 24;
        refused("wallFor: BEYOND ahead of NONE", BEYOND, p -> p.wallFor(0, 0, 2));
        promise = 29;
        refused("fits: BEYOND of one ahead of NONE", BEYOND, p -> p.fits(3, 4, 0));
        refused("fits: BEYOND of what ahead of NONE", BEYOND, p -> p.fits(3, 0, 2));
        promise = 32;
        refused("sheet: BEYOND of sheet ahead of STATE", BEYOND, p -> p.sheet(4, 8, -1));
        refused("sheet: BEYOND of bits ahead of STATE", BEYOND, p -> p.sheet(0, 9, -1));
        promise = 33;
        refused("put: no such SHEET, no such number", BEYOND, p -> p.put(4, -1, 0));
        refused("put: NONE ahead of no such number", NONE, p -> p.put(3, -1, 0));
        promise = 34;
        refused("move: no such SHEET ahead of NONE", BEYOND, p -> p.move(3, 0, 4, 0, 1));
        refused("move: no such SHEET ahead of NONE, too", BEYOND, p -> p.move(-1, 0, 3, 0, 1));
        refused("move: NONE ahead of KIND", NONE, p -> p.move(1, 0, 3, 0, 1));
        refused("move: NONE ahead of n", NONE, p -> p.move(3, 0, 3, 0, -1));
        refused("move: KIND ahead of n", KIND, p -> p.move(0, 0, 1, 0, -1));
        refused("move: KIND ahead of where they stand", KIND, p -> p.move(1, 9, 2, 9, 9));
    }

    /** PARTED: THE TRACE is that of the latest voice(), as its BODIES began; all else is as it was. */
    private static void parted() {
        promise = 30;
        StiltParish still = rich();
        StiltParish asked = rich();
        still.become(1, 11);
        asked.become(1, 11);
        is("BEYOND ahead of PARTED", asked.voice(4, 3, 5), BEYOND);
        is("PARTED", asked.voice(1, 3, 5), PARTED);
        is("one more is told", asked.told(6), 1);
        is("BODIES", asked.count(9), 2);
        is("all else is as it was", look(asked, false).equals(look(still, false)) ? 1 : 0, 1);
    }

    /** What is only thought, and what is only told. */
    private static void changesNothing() {
        promise = 3;
        same("oneIs", p -> p.oneIs(0, 5) + p.oneIs(1, 6) + p.oneIs(2, 7));
        promise = 5;
        same("as", p -> p.as(0, 2));
        promise = 9;
        same("landIs", p -> p.landIs(6, 4));
        promise = 15;
        same("law", p -> p.law(0, 2, 0, 0) + p.law(1, 2, 0, 0));
        promise = 20;
        same("then", p -> p.then(6, 60));
        promise = 21;
        same("learns", p -> p.learns(1, 60));
        promise = 22;
        same("soonest", p -> p.soonest(6));
        promise = 23;
        same("stiltsFor", p -> p.stiltsFor(2, 3));
        promise = 24;
        same("wallFor", p -> p.wallFor(7, 40, 0) + p.wallFor(7, 40, 1));
        promise = 25;
        same("springFor", p -> p.springFor(40, 0) + p.springFor(40, 1));
        promise = 26;
        same("walk", p -> p.walk(0, 1));
        promise = 27;
        same("council", p -> p.council(1 | 1 << 11));
        promise = 28;
        same("odds", p -> p.odds(0, 40, 0) + p.odds(1, 40, 1));
        promise = 29;
        same("fits", p -> p.fits(0, 0, 0) + p.fits(1, 1, 1));
        promise = 31;
        same("body", p -> p.body(0));
        promise = 36;
        same("judge", p -> p.judge(0));
        promise = 41;
        same("count", p -> p.count(4));
        promise = 42;
        same("told", p -> p.told(4));
    }

    private static void refusedFull() {
        promise = 2;
        refused("one: eight are there", FULL, p -> p.one(0, 0));
        refused("one: BEYOND of km ahead of FULL", BEYOND, p -> p.one(70, 0));
        refused("one: BEYOND of cell ahead of FULL", BEYOND, p -> p.one(0, 16));
        promise = 12;
        refused("feed: 60 bytes and one", FULL, p -> p.feed('1', 1));
        refused("feed: 60 bytes and eight", FULL, p -> p.feed(0, 8));
        refused("feed: BEYOND ahead of FULL", BEYOND, p -> p.feed('1', 9));
        promise = 39;
        refused("tell: 24 wait", FULL, p -> p.tell(0));
    }
}
