import java.util.function.IntUnaryOperator;

/** The edges inside the Terms, each sentence by a test of its own: what is just so, and what just isn't. */
public final class EdgesTest extends Checks {
    public static void main(String[] args) {
        besideByWalk();
        besideByFlow();
        besideByAway();
        atFirst();
        placeOfRises();
        peopleFull();
        wet();
        acts();
        tall();
        does();
        made();
        springNinetyNine();
        flowLevels();
        flowNinetyNine();
        flowFourTimes();
        flowByNumbers();
        flowLeast();
        flowWalls();
        peopleLearnFirst();
        peopleStilts();
        peopleByNumbers();
        peopleAway();
        daysEnd();
        draws();
        drawnDay();
        thoughtNow();
        thoughtLast();
        thoughtBeyond();
        stiltsFor();
        wallFor();
        springFor();
        walk();
        council();
        odds();
        fits();
        end("all edges hold");
    }

    /** All cells of the same GROUND, dry, WALLED but those that are open; no RISES. */
    private static StiltParish walls(int ground, int... open) {
        StiltParish p = new StiltParish();
        for (int cell = 0; cell < 16; cell++) {
            p.land(cell, 0, ground);
            p.land(cell, 2, 1);
        }
        for (int cell : open) {
            p.land(cell, 2, 0);
        }
        for (int place = 0; place < 6; place++) {
            p.rises(place, 0);
        }
        return p;
    }

    /** One of a KIND on cell 0, WALLED, with so much WATER; SPRING is there. */
    private static StiltParish pool(int km, int water) {
        StiltParish p = walls(0);
        p.one(km, 0);
        p.land(0, 1, water);
        return p;
    }

    private static void besideByWalk() {
        promise = 26;
        for (int a = 0; a < 16; a++) {
            for (int b = 0; b < 16; b++) {
                StiltParish p = new StiltParish();
                p.one(0, a);
                p.set(0, 1, 0);
                for (int cell = 0; cell < 16; cell++) {
                    p.land(cell, 1, cell == b ? 0 : 1);
                }
                is("from " + a + " to " + b, p.walk(0, b), a == b ? 0 : isBeside(a, b) ? 1 : NONE);
            }
        }
    }

    private static void besideByFlow() {
        promise = 16;
        for (int a = 0; a < 16; a++) {
            for (int b = 0; b < 16; b++) {
                StiltParish p = walls(0, a, b);
                p.land(a, 1, 2);
                p.days(1);
                is("from " + a + " to " + b, p.landIs(b, 1), a == b ? 2 : isBeside(a, b) ? 1 : 0);
            }
        }
    }

    private static void besideByAway() {
        promise = 16;
        for (int a = 0; a < 16; a++) {
            int least = a >= 4 ? a - 4 : a > 0 ? a - 1 : 1;
            for (int b = 0; b < 16; b++) {
                StiltParish p = walls(0);
                p.land(b, 0, 9);
                p.land(a, 1, 7);
                p.one(10, a);
                p.days(1);
                is("away from " + a + ", " + b + " is higher", p.oneIs(0, 2), isBeside(a, b) ? b : least);
            }
        }
    }

    private static void atFirst() {
        promise = 1;
        StiltParish p = new StiltParish();
        int[] ground = {0, 7, 4, 1, 8, 5, 2, 9, 6, 3, 0, 7, 4, 1, 8, 5};
        for (int cell = 0; cell < 16; cell++) {
            is("GROUND of " + cell, p.landIs(cell, 0), ground[cell]);
            is("LEVEL of " + cell, p.landIs(cell, 4), ground[cell]);
        }
        for (int place = 0; place < 6; place++) {
            is("RISES in " + place, p.rises(place, 9), place);
        }
        is("law without a TEXT", p.law(0, 2, 0, 0) * 100 + p.law(1, 7, 0, 0), 207);
        p.one(0, 0);
        is("STILTS", p.oneIs(0, 3), 6);
        is("KNOWS", p.oneIs(0, 4), 0);
        is("another object has nobody", new StiltParish().count(0), 0);
    }

    private static void placeOfRises() {
        promise = 16;
        for (int day : new int[] {0, 1, 4, 5, 6, 7, 11, 12, 9993, 9994, 9995, 9996, 9997, 9998}) {
            StiltParish p = pool(0, 0);
            for (int place = 0; place < 6; place++) {
                p.rises(place, 4 + place);
            }
            p.day(day);
            p.days(1);
            is("RISES of DAY " + day, p.landIs(0, 1), 4 + day % 6);
            is("DAY is 1 more", p.count(1), day + 1);
        }
    }

    private static void peopleFull() {
        promise = 2;
        StiltParish p = new StiltParish();
        for (int i = 0; i < 8; i++) {
            is("nobody yet", p.oneIs(i, 3), BEYOND);
            is("number", p.one(i, i), i);
            is("it is there", p.oneIs(i, 1), i);
        }
        is("eight are all", p.one(0, 0), FULL);
        is("eight", p.count(0), 8);
        is("no number 8", p.oneIs(8, 0), BEYOND);
    }

    private static void wet() {
        promise = 3;
        for (int stilts = 0; stilts <= 20; stilts++) {
            StiltParish p = pool(30, stilts);
            p.land(0, 3, 1);
            p.set(0, 1, stilts);
            is("as much WATER as STILTS " + stilts, p.oneIs(0, 5), 0);
            is("nobody is WET", p.count(4), 0);
            is("so it learns nothing", p.learns(0, 1), 0);
            p.land(0, 1, stilts + 1);
            is("1 more than STILTS " + stilts, p.oneIs(0, 5), 1);
            is("it is WET", p.count(4), 1);
            is("so it learns", p.learns(0, 1), 1);
        }
    }

    private static void acts() {
        promise = 3;
        StiltParish p = pool(20, 0);
        int[] young = {1, 1, 1, 1, 2, 2, 2, 2, 2, 2, 2, 2, 2};
        for (int many = 0; many <= 12; many++) {
            p.set(0, 2, (1 << many) - 1);
            is("YOUNG KNOWS " + many, p.oneIs(0, 6), young[many]);
            p.set(0, 2, 4096 - (1 << 12 - many));
            is("YOUNG KNOWS the last " + many, p.oneIs(0, 6), young[many]);
        }
        for (int m = 0; m <= 9; m++) {
            p.become(0, 60 + m);
            is("PARR, " + m, p.oneIs(0, 6), m > 4 ? 2 : 0);
        }
        p.become(0, 40);
        for (int day : new int[] {0, 1, 2, 9998, 9999}) {
            p.day(day);
            is("BOOTS by DAY " + day, p.oneIs(0, 6), day % 2 == 0 ? 3 : 1);
        }
        p.become(0, 50);
        p.set(0, 2, 0);
        for (int i = 1; i < 8; i++) {
            p.one(0, 0);
            p.set(i, 1, 0);
            is("BOLD, DOWN are " + i, p.oneIs(0, 6), i > 1 ? 2 : 1);
            p.set(i, 1, 1);
            is("BOLD, one has STILTS of 1: DOWN are " + (i - 1), p.oneIs(0, 6), i - 1 > 1 ? 2 : 1);
            p.set(i, 1, 0);
        }
    }

    private static void tall() {
        promise = 3;
        int[] young = {6, 6, 5, 5, 4, 4, 3, 3, 2, 2};
        int[] bold = {3, 3, 2, 2, 2, 2, 1, 1, 1, 1};
        StiltParish p = pool(0, 0);
        for (int m = 0; m <= 9; m++) {
            int[] due = {6, 8, young[m], 0, 8 + m, bold[m], 0};
            for (int kind = 0; kind < 7; kind++) {
                p.become(0, 10 * kind + m);
                is("KIND " + kind + ", m " + m, p.oneIs(0, 7), due[kind]);
            }
        }
        p.become(0, 60);
        for (int many = 0; many <= 12; many++) {
            p.set(0, 2, (1 << many) - 1);
            is("PARR KNOWS " + many, p.oneIs(0, 7), many);
        }
    }

    private static void does() {
        promise = 15;
        StiltParish p = new StiltParish();
        p.one(0, 0);
        for (int told = 0; told < 2; told++) {
            for (int v = -9; v <= 9; v++) {
                is("the rest of " + v + " by 4, TEXT or not", p.law(0, v, 5, 5), v & 3);
            }
            is("of the least number", p.law(0, MIN, 5, 5), 0);
            is("of the least but one", p.law(0, MIN + 1, 5, 5), 1);
            is("of the most", p.law(0, MAX, 5, 5), 3);
            text(p, 0, "y");
        }
        promise = 3;
        text(p, 0, "d");
        for (int day : new int[] {0, 3, 4, 7, 8, 9, 15, 16, 9999}) {
            p.day(day);
            is("d of DAY " + day, p.oneIs(0, 6), day % 8 % 4);
        }
        text(p, 0, "d>3");
        for (int day : new int[] {0, 3, 4, 7, 8, 9, 15, 16, 9999}) {
            p.day(day);
            is("d of DAY " + day + " above 3", p.oneIs(0, 6), day % 8 > 3 ? 1 : 0);
        }
        text(p, 0, "k");
        for (int many = 0; many <= 12; many++) {
            p.set(0, 2, (1 << many) - 1);
            is("k by " + many + " THINGS", p.oneIs(0, 6), many % 4);
        }
    }

    private static void made() {
        promise = 15;
        StiltParish p = new StiltParish();
        p.one(0, 7);
        int[][] held = {{MIN, 0}, {-1, 0}, {0, 0}, {1, 1}, {19, 19}, {20, 20}, {21, 20}, {MAX, 20}};
        for (int told = 0; told < 2; told++) {
            for (int[] h : held) {
                is(h[0] + " is held, TEXT or not", p.law(1, h[0], 5, 5), h[1]);
            }
            text(p, 1, "t");
        }
        promise = 3;
        text(p, 1, "d");
        for (int day : new int[] {0, 7, 8, 9, 9999}) {
            p.day(day);
            is("d of DAY " + day, p.oneIs(0, 7), day % 8);
        }
        text(p, 1, "g");
        for (int ground = 0; ground <= 9; ground++) {
            p.land(7, 0, ground);
            is("g", p.oneIs(0, 7), ground);
        }
        promise = 7;
        text(p, 1, "t*9999");
        is("STILTS are cut to 20 at most", p.cut(0) * 100 + p.oneIs(0, 3), 620);
        text(p, 1, "0-t");
        is("STILTS are cut to 0 at least", p.cut(0) * 100 + p.oneIs(0, 3), 2000);
        is("it is DOWN", p.count(6), 1);
    }

    private static void springNinetyNine() {
        promise = 16;
        int[][] rises = {{0, 0, 0}, {0, 9, 9}, {90, 8, 98}, {90, 9, 99}, {91, 9, 99}, {98, 1, 99}, {98, 2, 99}, {99, 0, 99}, {99, 9, 99}};
        for (int[] r : rises) {
            StiltParish p = pool(0, r[0]);
            p.rises(0, r[1]);
            p.days(1);
            is(r[0] + " and " + r[1], p.landIs(0, 1), r[2]);
        }
    }

    /** WATER of cell 1, then that of cell 0, behind a DAY in which nothing but these two is open. */
    private static int flow(int ground0, int water0, int ground1, int water1) {
        StiltParish p = walls(0, 0, 1);
        p.land(0, 0, ground0);
        p.land(0, 1, water0);
        p.land(1, 0, ground1);
        p.land(1, 1, water1);
        p.days(1);
        return p.landIs(1, 1) * 100 + p.landIs(0, 1);
    }

    private static void flowLevels() {
        promise = 16;
        is("LEVELS are the same", flow(3, 1, 4, 0), 1);
        is("1 below", flow(3, 1, 3, 0), 1);
        is("2 below", flow(3, 1, 2, 0), 100);
        is("2 below, by WATER", flow(3, 3, 3, 1), 202);
        is("3 below: 1 goes", flow(3, 3, 3, 0), 102);
        is("4 below: 2 go", flow(3, 4, 3, 0), 202);
        is("no WATER", flow(9, 0, 0, 0), 0);
        is("1 of WATER", flow(9, 1, 0, 0), 100);
        is("back, too", flow(0, 0, 9, 1), 1);
        is("it is higher there", flow(0, 5, 9, 0), 5);
    }

    private static void flowNinetyNine() {
        promise = 16;
        is("97 takes 2", flow(9, 99, 0, 97), 9997);
        is("98 takes 1", flow(9, 99, 0, 98), 9998);
        is("99 takes none", flow(9, 99, 0, 99), 9999);
        StiltParish p = walls(0, 0, 1, 2);
        p.land(1, 0, 9);
        p.land(1, 1, 99);
        p.land(0, 1, 99);
        p.land(2, 0, 2);
        p.land(2, 1, 98);
        p.days(1);
        is("the lowest has 99: nothing goes to another either", p.landIs(2, 1) * 100 + p.landIs(1, 1), 9899);
        p.land(2, 0, 0);
        p.days(1);
        is("it is lower", p.landIs(2, 1) * 100 + p.landIs(1, 1), 9998);
    }

    private static void flowFourTimes() {
        promise = 16;
        is("4 go", flow(0, 50, 0, 0), 446);
        is("4 go, not 5", flow(0, 11, 0, 0), 407);
        // one cell each time, as each stands ahead of the one that it flows from
        int[] way = {14, 13, 12, 8, 4, 0};
        StiltParish p = walls(9, way);
        for (int i = 0; i < way.length; i++) {
            p.land(way[i], 0, 5 - i);
        }
        p.land(14, 1, 1);
        is("four cells on", p.then(4, 1), 1);
        is("not five", p.then(0, 1), 0);
        is("by the next DAY", p.then(0, 2), 1);
    }

    private static void flowByNumbers() {
        promise = 16;
        int[] way = {0, 1, 2, 3, 7, 11, 15};
        StiltParish p = walls(9, way);
        for (int i = 0; i < way.length; i++) {
            p.land(way[i], 0, 6 - i);
        }
        p.land(0, 1, 1);
        is("all of the way at once", p.then(15, 1), 1);
        p.land(0, 1, 0);
        p.land(0, 2, 1);
        p.springs(1);
        p.rises(0, 1);
        is("it rises ahead of that", p.then(15, 1), 1);
    }

    private static void flowLeast() {
        promise = 16;
        int[] beside = {1, 4, 6, 9};
        for (int i = 0; i < 4; i++) {
            StiltParish p = walls(1, 1, 4, 5, 6, 9);
            p.land(5, 1, 2);
            is("of several the least", p.then(1, 1), 1);
            for (int ahead = 0; ahead < i; ahead++) {
                p.land(beside[ahead], 2, 1);
            }
            is("of those that aren't WALLED the least", p.then(beside[i], 1), 1);
            for (int ahead = 0; ahead < i; ahead++) {
                p.land(beside[ahead], 2, 0);
            }
            p.land(beside[i], 0, 0);
            is("the lowest", p.then(beside[i], 1), 1);
            is("to no other", p.then(beside[(i + 1) % 4], 1), 0);
        }
    }

    private static void flowWalls() {
        promise = 16;
        StiltParish p = walls(0, 1);
        p.land(0, 1, 50);
        p.rises(0, 3);
        p.days(1);
        is("from a WALLED cell nothing goes, though it rises there", p.landIs(0, 1) * 100 + p.landIs(1, 1), 5300);
        p.land(0, 2, 0);
        p.land(1, 2, 1);
        p.days(1);
        is("to a WALLED cell nothing goes", p.landIs(0, 1) * 100 + p.landIs(1, 1), 5300);
        p.land(1, 2, 0);
        p.days(1);
        is("without walls it does", p.landIs(0, 1) * 100 + p.landIs(1, 1), 4904);
    }

    private static void peopleLearnFirst() {
        promise = 16;
        StiltParish p = pool(20, 99);
        p.land(0, 3, 8);
        p.set(0, 2, 3);
        is("YOUNG KNOWS 3 then", p.days(1), 11);
        is("so it goes longer", p.oneIs(0, 3), 7);
        p.land(0, 3, 12);
        is("YOUNG KNOWS 4 then", p.days(1), 15);
        is("so it comes down", p.oneIs(0, 3), 0);
        p = pool(10, 99);
        p.land(0, 3, 1);
        p.land(1, 3, 2);
        p.land(1, 1, 99);
        is("POSTMAN learns where it was, not where it comes to", p.days(1), 1);
        is("it is there", p.oneIs(0, 2), 1);
        is("by the next DAY", p.days(1), 3);
        p = pool(30, 7);
        p.land(0, 3, 4095);
        is("all THINGS at once", p.days(1), 4095);
    }

    private static void peopleStilts() {
        promise = 16;
        int[][] longer = {{0, 1}, {18, 19}, {19, 20}, {20, 20}};
        for (int[] l : longer) {
            StiltParish p = pool(0, 99);
            p.set(0, 1, l[0]);
            p.days(1);
            is("longer than " + l[0], p.oneIs(0, 3), l[1]);
        }
        for (int stilts : new int[] {0, 1, 20}) {
            StiltParish p = pool(65, 99);
            p.set(0, 1, stilts);
            p.days(1);
            is("down from " + stilts, p.oneIs(0, 3), 0);
            p = pool(30, 99);
            p.set(0, 1, stilts);
            p.days(1);
            is("stays at " + stilts, p.oneIs(0, 3), stilts);
        }
        StiltParish p = pool(0, 7);
        p.days(2);
        is("with 7 it isn't WET any more", p.oneIs(0, 3), 7);
    }

    private static void peopleByNumbers() {
        promise = 16;
        StiltParish p = pool(50, 99);
        p.one(65, 0);
        p.one(50, 0);
        p.one(65, 0);
        p.one(50, 0);
        p.days(1);
        is("nobody is DOWN by then", p.oneIs(0, 3), 7);
        is("1 is DOWN by then", p.oneIs(2, 3), 7);
        is("2 are DOWN by then", p.oneIs(4, 3), 0);
    }

    private static void peopleAway() {
        promise = 16;
        for (int i = 0; i < 4; i++) {
            int[] beside = {1, 4, 6, 9};
            StiltParish p = walls(3);
            p.one(10, 5);
            p.land(5, 1, 7);
            p.land(5, 0, 9);
            p.days(1);
            is("of several the least, though it was higher ahead", p.oneIs(0, 2), 1);
            p.set(0, 0, 5);
            p.land(beside[i], 0, 4);
            p.land(beside[3], 0, 4);
            p.days(1);
            is("most GROUND, the least of two", p.oneIs(0, 2), beside[i]);
            p.set(0, 0, 5);
            p.land(1, 1, 99);
            p.land(1, 0, 9);
            p.days(1);
            is("GROUND counts, not WATER", p.oneIs(0, 2), 1);
        }
    }

    private static void daysEnd() {
        promise = 16;
        for (int n : new int[] {1, 2, 59, 60}) {
            StiltParish p = new StiltParish();
            p.day(9999 - n);
            is("to 9999 by " + n, p.days(n), 0);
            is("DAY", p.count(1), 9999);
            p.day(9999 - n + 1);
            is("to 10000 by " + n, p.days(n), STATE);
        }
        promise = 17;
        for (int n : new int[] {1, 2, 29, 30}) {
            StiltParish p = new StiltParish();
            p.day(9999 - n);
            is("to 9999 by " + n, p.loose(n), 0);
            is("DAY", p.count(1), 9999);
            p.day(9999 - n + 1);
            is("to 10000 by " + n, p.loose(n), STATE);
        }
    }

    private static long next(long z) {
        return z * 1103515245L + 12345L & 0xFFFFFFFFL;
    }

    private static void draws() {
        promise = 17;
        for (int seed : new int[] {0, 1, -1, 2, 77, 12345, -12345, MIN, MIN + 1, MAX, MAX - 1, 1 << 30}) {
            StiltParish p = new StiltParish();
            p.seed(seed);
            long z = seed & 0xFFFFFFFFL;
            for (int day = 0; day < 8; day++) {
                p.loose(1);
                z = next(z);
                is("SPRING by " + seed, p.count(2), (int) ((z >> 8) % 16));
                z = next(z);
                is("z by " + seed, p.count(10), (int) z);
                is("RISES by " + seed, p.rises(day % 6, 0), (int) ((z >> 8) % 10));
            }
        }
    }

    private static void drawnDay() {
        promise = 17;
        StiltParish p = walls(0);
        long first = next(1);
        long second = next(first);
        p.day(5);
        p.loose(1);
        is("it rises by what was drawn, where it was drawn", p.landIs((int) ((first >> 8) % 16), 1), (int) ((second >> 8) % 10));
        is("in all", p.count(3), (int) ((second >> 8) % 10));
        is("DAY", p.count(1), 6);
        StiltParish q = walls(0);
        q.day(5);
        q.loose(30);
        is("thirty are one behind the other", p.loose(29), 0);
        is("the same z", p.count(10), q.count(10));
        is("the same WATER", p.count(3), q.count(3));
        is("the same SPRING", p.count(2), q.count(2));
    }

    private static void thoughtNow() {
        StiltParish p = pool(30, 99);
        p.land(0, 3, 6);
        p.set(0, 2, 1);
        promise = 20;
        is("0 DAYS on", p.then(0, 0), 99);
        promise = 21;
        is("0 DAYS on", p.learns(0, 0), 1);
        promise = 22;
        is("it is known now", p.soonest(0), 0);
        is("behind one DAY", p.soonest(1), 1);
        is("KEPT nowhere", p.soonest(11), NONE);
        promise = 23;
        is("0 DAYS on", p.stiltsFor(0, 0), 0);
        promise = 24;
        is("0 DAYS on no wall helps", p.wallFor(0, 0, 0), NONE);
        promise = 25;
        is("0 DAYS on, which", p.springFor(0, 0), 0);
        is("0 DAYS on, how many", p.springFor(0, 1), 1);
        promise = 28;
        is("0 DAYS on, above", p.odds(0, 0, 0), 1);
        is("0 DAYS on, below", p.odds(0, 0, 1), 1);
        promise = 29;
        fill(p, 0, 8, 6);
        is("at this DAY", p.fits(0, 0, 0), 127);
    }

    /** WATER of cell 0 is 1 more by the last DAY of each six alone; one LAME there has STILTS of 20. */
    private static StiltParish slow(int water) {
        StiltParish p = pool(30, water);
        p.rises(5, 1);
        p.land(0, 3, 2048);
        p.set(0, 1, 20);
        return p;
    }

    private static void thoughtLast() {
        promise = 20;
        is("59 DAYS on", slow(11).then(0, 59), 20);
        is("60 DAYS on", slow(11).then(0, 60), 21);
        promise = 21;
        is("59 DAYS on", slow(11).learns(0, 59), 0);
        is("60 DAYS on", slow(11).learns(0, 60), 2048);
        promise = 22;
        is("behind 60", slow(11).soonest(11), 60);
        is("behind 54", slow(12).soonest(11), 54);
        is("behind 66: not by 60", slow(10).soonest(11), NONE);
        promise = 16;
        is("59 DAYS", slow(11).days(59), 0);
        is("60 DAYS", slow(11).days(60), 2048);
        StiltParish p = slow(14);
        p.day(2);
        promise = 23;
        is("39 DAYS on", p.stiltsFor(0, 39), 20);
        is("40 DAYS on", p.stiltsFor(0, 40), NONE);
        promise = 25;
        for (int cell = 1; cell < 8; cell++) {
            p.one(30, cell);
            p.set(cell, 1, 20);
            p.land(cell, 1, 14);
            p.land(cell, 3, 1);
        }
        is("39 DAYS on: nothing yet", p.springFor(39, 1), 0);
        is("40 DAYS on: 8 is the first where nobody is", p.springFor(40, 0), 8);
        promise = 28;
        is("39 DAYS on", p.odds(0, 39, 0), 0);
        is("40 DAYS on, above", p.odds(0, 40, 0), 1);
        is("40 DAYS on, below", p.odds(0, 40, 1), 16);
        promise = 24;
        StiltParish q = walls(0, 0, 1);
        q.rises(5, 2);
        q.day(2);
        is("39 DAYS on", q.then(1, 39), 6);
        is("39 DAYS on, by a wall", q.wallFor(1, 39, 0) * 100 + q.wallFor(1, 39, 1), 0);
        is("40 DAYS on, at the spring no wall helps", q.wallFor(0, 40, 0), NONE);
        is("40 DAYS on", q.then(1, 40), 7);
    }

    private static void thoughtBeyond() {
        StiltParish p = pool(30, 0);
        p.day(9999);
        p.rises(3, 1);
        p.rises(4, 5);
        p.land(0, 3, 1);
        promise = 20;
        is("DAY 9999", p.then(0, 1), 1);
        is("DAY 10000", p.then(0, 2), 6);
        is("60 DAYS on", p.then(0, 60), 60);
        promise = 21;
        is("DAY 10004: 6 is not more than its STILTS", p.learns(0, 6), 0);
        is("DAY 10005", p.learns(0, 7), 1);
        promise = 22;
        is("behind DAY 10005", p.soonest(0), 7);
        promise = 23;
        is("DAY 10011", p.stiltsFor(0, 13), 13);
        is("DAY 10012", p.stiltsFor(0, 14), 18);
        is("DAY 10018", p.stiltsFor(0, 20), NONE);
        promise = 29;
        p.land(0, 1, 99);
        p.set(0, 1, 6);
        fill(p, 0, 8, 6, 7, 7, 8, 8);
        is("BOOTS, longer by 9999 and 10001; by 10000 it is away", p.fits(0, 0, 0), 0);
        text(p, 0, "d=0");
        fill(p, 0, 8, 6, 6, 7, 7, 7, 7, 7, 7, 7, 7, 8);
        is("d of DAY 10000 and 10008 is 0", p.fits(0, 0, 0), 127);
        is("DAY stays", p.count(1), 9999);
    }

    private static void stiltsFor() {
        promise = 23;
        StiltParish p = pool(30, 0);
        p.land(0, 3, 3);
        for (int water = 0; water <= 20; water++) {
            p.land(0, 1, water);
            is("just so tall", p.stiltsFor(0, 40), water);
        }
        p.land(0, 1, 21);
        is("with 20 not", p.stiltsFor(0, 1), NONE);
        p.set(0, 2, 3);
        is("it KNOWS that already", p.stiltsFor(0, 40), 0);
        p.set(0, 2, 1);
        is("half of that", p.stiltsFor(0, 1), NONE);
        is("STILTS are as they were", p.oneIs(0, 3), 6);
    }

    private static void wallFor() {
        promise = 24;
        StiltParish p = walls(0, 0, 1, 2);
        p.land(0, 1, 8);
        is("as it is", p.then(2, 1), 2);
        is("by walls at 0, at 1 and at 2 it is dry: the least", p.wallFor(2, 1, 0), 0);
        is("how much", p.wallFor(2, 1, 1), 0);
        is("no wall makes less of it where it comes from", p.wallFor(0, 1, 0), NONE);
        p.land(0, 2, 1);
        is("a wall that stands already makes nothing less", p.wallFor(2, 1, 0), NONE);
        is("nothing comes to it, with walls or without", p.wallFor(15, 40, 0), NONE);
        p = walls(0, 0, 1);
        p.land(0, 1, 8);
        p.land(1, 1, 1);
        is("as it is by then", p.then(1, 1), 4);
        is("less than as it is by then, though as much as now", p.wallFor(1, 1, 0), 0);
        is("how much", p.wallFor(1, 1, 1), 1);
        p = walls(0, 0, 1, 4, 5);
        p.land(0, 1, 9);
        p.land(5, 1, 9);
        is("it comes from two sides: a wall of its own alone keeps it dry", p.wallFor(4, 1, 0), 4);
        is("dry", p.wallFor(4, 1, 1), 0);
    }

    private static void springFor() {
        promise = 25;
        StiltParish p = walls(0);
        is("nobody: 0 of any", p.springFor(40, 0) * 100 + p.springFor(40, 1), 0);
        p.rises(0, 1);
        for (int one = 0; one < 8; one++) {
            p.one(30, one);
            p.set(one, 1, 0);
            p.land(one, 3, 1 << one);
        }
        is("8 is the first by which nothing is known", p.springFor(1, 0), 8);
        is("nothing", p.springFor(1, 1), 0);
        // what rises at 8 .. 15 comes down to 4 .. 7: so any spring makes one know something
        int[] kept = {31, 31, 31, 31, 15, 3, 6, 7};
        for (int cell = 0; cell < 8; cell++) {
            p.land(cell, 3, kept[cell]);
            p.land(cell + 8, 2, 0);
            p.land(cell + 8, 0, cell / 4 + 1);
        }
        for (int cell = 4; cell < 8; cell++) {
            p.land(cell, 2, 0);
        }
        is("2 by 5, and by 6, 9, 10, 13, 14: the least", p.springFor(1, 0), 5);
        is("2", p.springFor(1, 1), 2);
        p.springs(15);
        is("whichever SPRING is now", p.springFor(1, 0), 5);
        is("SPRING stays", p.count(2), 15);
        p.set(0, 2, 4095);
        is("all THINGS by any: 0", p.springFor(1, 0), 0);
        is("all THINGS", p.springFor(1, 1), 12);
    }

    private static void walk() {
        promise = 26;
        StiltParish p = new StiltParish();
        p.one(0, 0);
        for (int stilts : new int[] {0, 6, 20}) {
            p.set(0, 1, stilts);
            p.land(1, 1, stilts);
            is("as much WATER as STILTS", p.walk(0, 1), 1);
            p.land(1, 1, stilts + 1);
            is("1 more", p.walk(0, 1), NONE);
        }
        p.land(1, 1, 0);
        p.land(0, 1, 99);
        is("it is there, whatever the WATER", p.walk(0, 0), 0);
        is("where it is doesn't matter", p.walk(0, 1), 1);
        for (int cell = 0; cell < 16; cell++) {
            p.land(cell, 2, 1);
        }
        is("WALLED or not", p.walk(0, 15), 6);
        p.set(0, 1, 0);
        for (int cell : new int[] {1, 5, 9, 7, 11, 15}) {
            p.land(cell, 1, 1);
        }
        is("around by the last row", p.walk(0, 2), 8);
        is("the farthest", p.walk(0, 3), 9);
        p.land(13, 1, 1);
        is("there is no such way", p.walk(0, 3), NONE);
    }

    private static void council() {
        promise = 27;
        StiltParish p = new StiltParish();
        is("nothing, by nobody", p.council(0), 0);
        is("one THING, by nobody", p.council(1), NONE);
        for (int one = 0; one < 8; one++) {
            p.one(0, 0);
        }
        is("nothing, by eight", p.council(0), 0);
        is("one THING that nobody KNOWS", p.council(2048), NONE);
        for (int one = 0; one < 8; one++) {
            p.set(one, 2, 1 << one | (one == 7 ? 0xF00 : 0));
        }
        is("all eight", p.council(4095), 255);
        is("the last one", p.council(0xF80), 128);
        p.set(6, 2, 4095);
        is("one is fewer than eight", p.council(4095), 64);
        p.set(5, 2, 4095);
        is("the least of two", p.council(4095), 32);
        p.set(0, 2, 63);
        p.set(1, 2, 4032);
        is("one, though two are a lesser set", p.council(4095), 32);
    }

    private static void odds() {
        promise = 28;
        for (int open = 1; open <= 16; open++) {
            // down to cell 0 from each of the first cells; what rises behind a wall stays there
            StiltParish p = walls(0);
            for (int cell = 0; cell < 16; cell++) {
                p.land(cell, 0, cell / 4 + cell % 4);
                p.land(cell, 2, cell < open ? 0 : 1);
            }
            p.one(30, 0);
            p.set(0, 1, 0);
            p.rises(0, 1);
            int shared = shared(open, 16);
            is(open + " of 16, above", p.odds(0, 3, 0), open / shared);
            is(open + " of 16, below", p.odds(0, 3, 1), 16 / shared);
            p.set(0, 1, 1);
            is("0 of 16, above", p.odds(0, 3, 0), 0);
            is("0 of 16, below", p.odds(0, 3, 1), 1);
        }
    }

    private static int shared(int a, int b) {
        return b == 0 ? a : shared(b, a % b);
    }

    private static void fits() {
        promise = 29;
        StiltParish p = pool(35, 99);
        is("missing", p.fits(0, 0, 0), NONE);
        p.sheet(0, 16, 0);
        is("no numbers, the set", p.fits(0, 0, 0), 127);
        is("no numbers, how many", p.fits(0, 0, 1), 7);
        IntUnaryOperator goer = day -> Math.min(20, 6 + day);
        p.sheet(0, 16, 24);
        p.sheet(1, 32, 24);
        for (int i = 0; i < 24; i++) {
            p.put(0, i, 6);
            p.put(1, i, goer.applyAsInt(i));
        }
        is("24 times 6: POSTMAN and BOOTS are away, LAME stays", p.fits(0, 0, 0), 2 | 8 | 16);
        is("longer, 20 at most: GOER, YOUNG, BOLD", p.fits(1, 0, 0), 1 | 4 | 32);
        is("how many", p.fits(1, 0, 1), 3);
        p.put(0, 23, 7);
        is("all but the last", p.fits(0, 0, 0), 0);
        is("none", p.fits(0, 0, 1), 0);
        p.put(1, 0, 5);
        is("all but the first", p.fits(1, 0, 0), 0);
        fill(p, 2, 8, 6, 0, 0);
        is("PARR, 5", p.fits(2, 0, 0), 64);
        p.become(0, 34);
        is("PARR, 4, wouldn't", p.fits(2, 0, 0), 0);
        fill(p, 2, 8, -250);
        is("the lowest 8 bits of -250 are 6", p.fits(2, 0, 0), 127);
        fill(p, 2, 16, -250);
        is("not the lowest 16", p.fits(2, 0, 0), 0);
    }
}
