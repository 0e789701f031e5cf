import java.lang.reflect.InvocationTargetException;
import java.lang.reflect.Method;
import java.util.ArrayList;
import java.util.Arrays;
import java.util.Comparator;
import java.util.List;
import java.util.Random;

/**
 * Runs of drawn calls, with wrong and far arguments among them, on StiltParish and on a second, slow telling of the
 * document that shares nothing with it: grids by y and x, TEXTS worked out from their signs, sets tried one by one.
 */
public final class ModelTest {
    private static final int RUNS = 400;
    private static final int CALLS = 512;
    private static final String[] TEXTS = {"y", "k", "d", "y+k", "!y", "(y|k)&d", "y+k*d-3", "d<3", "3-y", "y%2+d/3",
        "t", "g", "t+g", "t-d", "t/2+g%3", "!(t>5)*9", "(((((t)))))", "!!!!!!t", "12345", "1<2<3", "t+", "(y", "0-t*g"};

    public static void main(String[] args) throws Exception {
        Method[] acts = StiltParish.class.getDeclaredMethods();
        List<Method> face = new ArrayList<>();
        for (Method act : acts) {
            if (java.lang.reflect.Modifier.isPublic(act.getModifiers())) {
                face.add(act);
            }
        }
        face.sort(Comparator.comparing(Method::getName));
        int calls = 0;
        for (int run = 0; run < RUNS; run++) {
            calls += oneRun(run, face);
        }
        System.out.println(calls + " calls as the model has them");
    }

    private static int oneRun(int run, List<Method> face) throws Exception {
        Random random = new Random(run);
        StiltParish real = new StiltParish();
        Model model = new Model();
        StringBuilder log = new StringBuilder();
        int people = random.nextInt(9);
        for (int i = 0; i < CALLS; i++) {
            Method act = i < people ? named(face, "one") : face.get(random.nextInt(face.size()));
            if (act.getName().equals("feed") && random.nextBoolean()) {
                i += feedText(real, model, TEXTS[random.nextInt(TEXTS.length)], log);
                act = named(face, "text");
            }
            Object[] given = draw(act, random, i < people || random.nextInt(4) > 0);
            Object got;
            try {
                got = act.invoke(real, given);
            } catch (InvocationTargetException e) {
                got = e.getCause();
            }
            Object due = Model.class.getDeclaredMethod(act.getName(), act.getParameterTypes()).invoke(model, given);
            log.append(act.getName()).append(Arrays.toString(given)).append(" = ").append(got).append('\n');
            if (!due.equals(got)) {
                System.out.println("run " + run + ", call " + i + ":\n" + log + "due is " + due);
                System.exit(1);
            }
        }
        return CALLS;
    }

    private static int feedText(StiltParish real, Model model, String text, StringBuilder log) {
        real.text(0);
        model.text(0);
        for (int i = 0; i < text.length(); i++) {
            real.feed(text.charAt(i), 1);
            model.feed(text.charAt(i), 1);
        }
        log.append("fed anew: ").append(text).append('\n');
        return text.length() + 1;
    }

    private static Method named(List<Method> face, String name) {
        for (Method act : face) {
            if (act.getName().equals(name)) {
                return act;
            }
        }
        throw new IllegalStateException(name);
    }

    private static Object[] draw(Method act, Random random, boolean tame) {
        Class<?>[] types = act.getParameterTypes();
        Object[] given = new Object[types.length];
        for (int i = 0; i < given.length; i++) {
            given[i] = types[i] == long.class ? (Object) drawWord(random) : (Object) drawInt(act.getName(), i, random, tame);
        }
        return given;
    }

    private static Long drawWord(Random random) {
        String signs = "yktgd0123456789|&<=>+-*/%!()!(yktgd";
        long word = 0;
        for (int i = 0; i < 8; i++) {
            word = word << 8 | signs.charAt(random.nextInt(signs.length()));
        }
        return random.nextInt(8) == 0 ? random.nextLong() : word;
    }

    /** How many values an argument of an act has that is right, so that most calls are. */
    private static int width(String act, int i) {
        switch (act) {
            case "one": return i == 0 ? 70 : 16;
            case "become": return i == 0 ? 8 : 70;
            case "set": return i == 0 ? 8 : i == 1 ? 3 : 16;
            case "land": return i == 0 ? 16 : i == 1 ? 4 : 12;
            case "walk": case "then": case "springs": case "wallFor": return i == 2 ? 2 : 16;
            case "days": case "loose": return 6;
            case "sheet": return i == 0 ? 4 : i == 1 ? 33 : 25;
            case "put": case "move": case "grounds": case "judge": return i % 2 == 0 && i < 4 && !(act.equals("put") && i == 2) ? 4 : 10;
            case "fits": return i == 0 ? 4 : i == 1 ? 8 : 2;
            case "text": case "untell": case "law": return i == 0 ? 2 : 30;
            case "odds": return i == 0 ? 8 : i == 1 ? 20 : 2;
            case "springFor": return i == 0 ? 20 : 2;
            case "council": return 4096;
            default: return 10;
        }
    }

    private static Integer drawInt(String act, int i, Random random, boolean tame) {
        if (act.equals("sheet") && i == 1 && random.nextInt(8) > 0) {
            return 8 << random.nextInt(3);
        }
        if (act.equals("set") && i == 2 && random.nextBoolean()) {
            return 1 << random.nextInt(12);
        }
        if (act.equals("land") && i == 2 && random.nextInt(3) == 0) {
            return random.nextInt(100);
        }
        if (tame) {
            return random.nextInt(width(act, i));
        }
        int[] edges = {-1, 0, 1, 2, 3, 4, 5, 6, 7, 8, 9, 10, 11, 12, 15, 16, 20, 21, 24, 25, 30, 31, 40, 41, 60, 61, 69, 70,
            99, 100, 4095, 4096, 9940, 9970, 9999, 10000, Integer.MAX_VALUE, Integer.MIN_VALUE, random.nextInt()};
        return edges[random.nextInt(edges.length)];
    }

    private static final class Person implements Cloneable {
        int kind;
        int m;
        int y;
        int x;
        int stilts = 6;
        int knows;

        Person twin() {
            try {
                return (Person) clone();
            } catch (CloneNotSupportedException e) {
                throw new IllegalStateException(e);
            }
        }
    }

    /** All that an IMAGE has. */
    private static final class State {
        int day;
        int spring;
        int z = 1;
        int[][] ground = new int[4][4];
        int[][] water = new int[4][4];
        int[][] walled = new int[4][4];
        int[][] kept = new int[4][4];
        int[] rises = {0, 1, 2, 3, 4, 5};
        List<Person> people = new ArrayList<>();
        String[] texts = new String[2];
        String tape = "";
        List<Integer> waiting = new ArrayList<>();

        State twin() {
            State s = new State();
            s.day = day;
            s.spring = spring;
            s.z = z;
            for (int y = 0; y < 4; y++) {
                s.ground[y] = ground[y].clone();
                s.water[y] = water[y].clone();
                s.walled[y] = walled[y].clone();
                s.kept[y] = kept[y].clone();
            }
            s.rises = rises.clone();
            for (Person p : people) {
                s.people.add(p.twin());
            }
            s.texts = texts.clone();
            s.tape = tape;
            s.waiting.addAll(waiting);
            return s;
        }

        State on(int n) {
            State s = twin();
            for (int i = 0; i < n; i++) {
                s.goes();
            }
            return s;
        }

        boolean wet(Person p) {
            return water[p.y][p.x] > p.stilts;
        }

        int known() {
            return people.stream().mapToInt(p -> p.knows).reduce(0, (a, b) -> a | b);
        }

        void goes() {
            int sy = spring / 4;
            int sx = spring % 4;
            water[sy][sx] += rises[day % 6];
            if (water[sy][sx] > 99) {
                water[sy][sx] = 99;
            }
            for (int turn = 1; turn <= 4; turn++) {
                for (int cell = 0; cell < 16; cell++) {
                    flow(cell / 4, cell % 4);
                }
            }
            for (Person p : people) {
                if (wet(p)) {
                    p.knows |= kept[p.y][p.x];
                    int does = does(p);
                    if (does == 1 && p.stilts < 20) {
                        p.stilts++;
                    } else if (does == 2) {
                        p.stilts = 0;
                    } else if (does == 3) {
                        away(p);
                    }
                }
            }
            day++;
        }

        private void flow(int y, int x) {
            if (water[y][x] == 0 || walled[y][x] == 1) {
                return;
            }
            int best = -1;
            for (int cell = 15; cell >= 0; cell--) {
                int cy = cell / 4;
                int cx = cell % 4;
                if (beside(y, x, cy, cx) && walled[cy][cx] == 0 && (best < 0 || level(cell) <= level(best))) {
                    best = cell;
                }
            }
            if (best >= 0 && level(best) <= level(4 * y + x) - 2 && water[best / 4][best % 4] != 99) {
                water[y][x]--;
                water[best / 4][best % 4]++;
            }
        }

        private static boolean beside(int y, int x, int cy, int cx) {
            return Math.abs(y - cy) + Math.abs(x - cx) == 1;
        }

        private int level(int cell) {
            return ground[cell / 4][cell % 4] + water[cell / 4][cell % 4];
        }

        private void away(Person p) {
            int best = -1;
            for (int cell = 15; cell >= 0; cell--) {
                if (beside(p.y, p.x, cell / 4, cell % 4)
                        && (best < 0 || ground[cell / 4][cell % 4] >= ground[best / 4][best % 4])) {
                    best = cell;
                }
            }
            p.y = best / 4;
            p.x = best % 4;
        }

        int acts(Person p, int kind) {
            int many = Integer.bitCount(p.knows);
            switch (kind) {
                case 0: return 1;
                case 1: return 3;
                case 2: return many >= 4 ? 2 : acts(p, 0);
                case 3: return 0;
                case 4: return day % 2 == 1 ? 1 : acts(p, 1);
                case 5: return people.stream().filter(q -> q.stilts == 0).count() >= 2 ? 2 : acts(p, 2);
                default: return p.m >= 5 ? 2 : 0;
            }
        }

        int tall(Person p, int kind) {
            switch (kind) {
                case 0: return 6;
                case 1: return tall(p, 0) + 2;
                case 2: return tall(p, 0) - p.m / 2;
                case 3: return 0;
                case 4: return tall(p, 1) + p.m;
                case 5: return tall(p, 2) / 2;
                default: return Integer.bitCount(p.knows);
            }
        }

        int does(Person p) {
            return law(0, acts(p, p.kind), Integer.bitCount(p.knows), day % 8);
        }

        int made(Person p) {
            return law(1, tall(p, p.kind), ground[p.y][p.x], day % 8);
        }

        int law(int use, int a, int b, int c) {
            int v = texts[use] == null ? a : new Worker(texts[use], use == 0 ? "ykd" : "tgd", a, b, c).any();
            if (use == 0) {
                return v % 4 < 0 ? v % 4 + 4 : v % 4;
            }
            return v < 0 ? 0 : v > 20 ? 20 : v;
        }
    }

    /** Works a TEXT out from its signs. */
    private static final class Worker {
        final String text;
        final String names;
        final int[] given;
        int at;

        Worker(String text, String names, int... given) {
            this.text = text;
            this.names = names;
            this.given = given;
        }

        private boolean eat(char sign) {
            if (at < text.length() && text.charAt(at) == sign) {
                at++;
                return true;
            }
            return false;
        }

        int any() {
            int v = all();
            while (eat('|')) {
                int w = all();
                v = (v | w) != 0 ? 1 : 0;
            }
            return v;
        }

        private int all() {
            int v = compare();
            while (eat('&')) {
                int w = compare();
                v = v != 0 && w != 0 ? 1 : 0;
            }
            return v;
        }

        private int compare() {
            int v = sum();
            if (eat('<')) {
                return v < sum() ? 1 : 0;
            }
            if (eat('=')) {
                return v == sum() ? 1 : 0;
            }
            if (eat('>')) {
                return v > sum() ? 1 : 0;
            }
            return v;
        }

        private int sum() {
            int v = product();
            while (true) {
                if (eat('+')) {
                    v += product();
                } else if (eat('-')) {
                    v -= product();
                } else {
                    return v;
                }
            }
        }

        private int product() {
            int v = unit();
            while (true) {
                if (eat('*')) {
                    v *= unit();
                } else if (eat('/')) {
                    int w = unit();
                    v = w == 0 ? 0 : v / w;
                } else if (eat('%')) {
                    int w = unit();
                    v = w == 0 ? 0 : v % w;
                } else {
                    return v;
                }
            }
        }

        private int unit() {
            if (eat('!')) {
                return unit() == 0 ? 1 : 0;
            }
            if (eat('(')) {
                int v = any();
                eat(')');
                return v;
            }
            int name = names.indexOf(text.charAt(at));
            if (name >= 0) {
                at++;
                return given[name];
            }
            int from = at;
            while (at < text.length() && Character.isDigit(text.charAt(at))) {
                at++;
            }
            return Integer.parseInt(text.substring(from, at));
        }
    }

    /** The FAULT by a machine without recursion: what is open, whether each bracket has compared already; -1: none. */
    private static int fault(String text, String names) {
        List<Character> open = new ArrayList<>();
        List<Boolean> compared = new ArrayList<>(List.of(false));
        boolean wants = true;
        int digits = 0;
        for (int i = 0; i < text.length(); i++) {
            char sign = text.charAt(i);
            int last = compared.size() - 1;
            boolean digit = sign >= '0' && sign <= '9';
            if (wants && (sign == '!' || sign == '(') && open.size() < 5) {
                open.add(sign);
                if (sign == '(') {
                    compared.add(false);
                }
                continue;
            }
            if (wants && (digit || names.indexOf(sign) >= 0)) {
                wants = false;
                digits = digit ? 1 : 4;
                unclose(open);
            } else if (!wants && digit && digits < 4) {
                digits++;
            } else if (!wants && sign == ')' && open.contains('(')) {
                open.remove(open.size() - 1);
                unclose(open);
                compared.remove(last);
                digits = 4;
            } else if (!wants && "|&".indexOf(sign) >= 0) {
                compared.set(last, false);
                wants = true;
            } else if (!wants && "<=>".indexOf(sign) >= 0 && !compared.get(last)) {
                compared.set(last, true);
                wants = true;
            } else if (!wants && "+-*/%".indexOf(sign) >= 0) {
                wants = true;
            } else {
                return i;
            }
        }
        return wants || !open.isEmpty() ? text.length() : -1;
    }

    private static void unclose(List<Character> open) {
        while (!open.isEmpty() && open.get(open.size() - 1) == '!') {
            open.remove(open.size() - 1);
        }
    }

    /** The face again. */
    static final class Model {
        private static final int[] ABOVE = {-1, 0, 0, 0, 1, 2, 0};
        private State s = new State();
        private State held;
        private int images;
        private final int[][] sheets = new int[4][];
        private final int[] bits = new int[4];
        private final int[] told = new int[7];
        private List<Integer> trace = new ArrayList<>();

        Model() {
            for (int cell = 0; cell < 16; cell++) {
                s.ground[cell / 4][cell % 4] = 7 * cell % 10;
            }
        }

        private int error(int k) {
            told[k]++;
            return -1000000000 - k;
        }

        private boolean in(int v, int from, int to) {
            return v >= from && v <= to;
        }

        private boolean is(int one) {
            return in(one, 0, s.people.size() - 1);
        }

        int one(int km, int cell) {
            if (!in(km, 0, 69) || !in(cell, 0, 15)) {
                return error(1);
            }
            if (s.people.size() == 8) {
                return error(4);
            }
            Person p = new Person();
            p.kind = km / 10;
            p.m = km % 10;
            p.y = cell / 4;
            p.x = cell % 4;
            s.people.add(p);
            return s.people.size() - 1;
        }

        int oneIs(int one, int what) {
            if (!is(one) || !in(what, 0, 7)) {
                return error(1);
            }
            Person p = s.people.get(one);
            return new int[] {p.kind, p.m, 4 * p.y + p.x, p.stilts, p.knows, s.wet(p) ? 1 : 0, s.does(p), s.made(p)}[what];
        }

        int become(int one, int km) {
            if (!is(one) || !in(km, 0, 69)) {
                return error(1);
            }
            Person p = s.people.get(one);
            int was = p.kind;
            p.kind = km / 10;
            p.m = km % 10;
            return was;
        }

        int as(int one, int kind) {
            if (!is(one) || !in(kind, 0, 6)) {
                return error(1);
            }
            for (int k = s.people.get(one).kind; k >= 0; k = ABOVE[k]) {
                if (k == kind) {
                    return s.people.get(one).m;
                }
            }
            return error(5);
        }

        int set(int one, int what, int v) {
            if (!is(one) || !in(what, 0, 2) || !in(v, 0, what == 0 ? 15 : what == 1 ? 20 : 4095)) {
                return error(1);
            }
            int was = oneIs(one, 2 + what);
            Person p = s.people.get(one);
            if (what == 0) {
                p.y = v / 4;
                p.x = v % 4;
            } else if (what == 1) {
                p.stilts = v;
            } else {
                p.knows = v;
            }
            return was;
        }

        int cut(int one) {
            return is(one) ? set(one, 1, s.made(s.people.get(one))) : error(1);
        }

        int land(int cell, int what, int v) {
            if (!in(cell, 0, 15) || !in(what, 0, 3) || !in(v, 0, what == 0 ? 9 : what == 1 ? 99 : what == 2 ? 1 : 4095)) {
                return error(1);
            }
            int[][] grid = what == 0 ? s.ground : what == 1 ? s.water : what == 2 ? s.walled : s.kept;
            int was = grid[cell / 4][cell % 4];
            grid[cell / 4][cell % 4] = v;
            return was;
        }

        int landIs(int cell, int what) {
            if (!in(cell, 0, 15) || !in(what, 0, 4)) {
                return error(1);
            }
            int y = cell / 4;
            int x = cell % 4;
            return new int[] {s.ground[y][x], s.water[y][x], s.walled[y][x], s.kept[y][x], s.ground[y][x] + s.water[y][x]}[what];
        }

        int rises(int place, int v) {
            if (!in(place, 0, 5) || !in(v, 0, 9)) {
                return error(1);
            }
            int was = s.rises[place];
            s.rises[place] = v;
            return was;
        }

        int springs(int cell) {
            if (!in(cell, 0, 15)) {
                return error(1);
            }
            int was = s.spring;
            s.spring = cell;
            return was;
        }

        int feed(long word, int n) {
            if (!in(n, 1, 8)) {
                return error(1);
            }
            if (s.tape.length() + n > 60) {
                return error(4);
            }
            for (int i = 0; i < n; i++) {
                s.tape += (char) (word & 255);
                word >>= 8;
            }
            return s.tape.length();
        }

        int text(int use) {
            if (!in(use, 0, 1)) {
                return error(1);
            }
            String text = s.tape;
            s.tape = "";
            int fault = fault(text, use == 0 ? "ykd" : "tgd");
            if (fault >= 0) {
                return -10 - fault;
            }
            s.texts[use] = text;
            return 1;
        }

        int untell(int use) {
            if (!in(use, 0, 1)) {
                return error(1);
            }
            int was = s.texts[use] == null ? 0 : 1;
            s.texts[use] = null;
            return was;
        }

        int law(int use, int a, int b, int c) {
            return in(use, 0, 1) ? s.law(use, a, b, c) : error(1);
        }

        int days(int n) {
            if (!in(n, 1, 60)) {
                return error(1);
            }
            if (s.day + n > 9999) {
                return error(3);
            }
            s = s.on(n);
            return s.known();
        }

        int loose(int n) {
            if (!in(n, 1, 30)) {
                return error(1);
            }
            if (s.day + n > 9999) {
                return error(3);
            }
            for (int i = 0; i < n; i++) {
                s.z = s.z * 1103515245 + 12345;
                s.spring = (s.z >>> 8) % 16;
                s.z = s.z * 1103515245 + 12345;
                s.rises[s.day % 6] = (s.z >>> 8) % 10;
                s.goes();
            }
            return s.known();
        }

        int day(int v) {
            if (!in(v, 0, 9999)) {
                return error(1);
            }
            int was = s.day;
            s.day = v;
            return was;
        }

        int seed(int v) {
            int was = s.z;
            s.z = v;
            return was;
        }

        int then(int cell, int n) {
            return in(cell, 0, 15) && in(n, 0, 60) ? s.on(n).water[cell / 4][cell % 4] : error(1);
        }

        int learns(int one, int n) {
            return is(one) && in(n, 0, 60) ? s.on(n).people.get(one).knows : error(1);
        }

        int soonest(int thing) {
            if (!in(thing, 0, 11)) {
                return error(1);
            }
            State on = s.twin();
            for (int n = 0; n <= 60; n++, on.goes()) {
                if ((on.known() & 1 << thing) != 0) {
                    return n;
                }
            }
            return error(2);
        }

        int stiltsFor(int one, int n) {
            if (!is(one) || !in(n, 0, 40)) {
                return error(1);
            }
            for (int tall = 0; tall <= 20; tall++) {
                State on = s.twin();
                on.people.get(one).stilts = tall;
                if (on.on(n).people.get(one).knows == s.people.get(one).knows) {
                    return tall;
                }
            }
            return error(2);
        }

        int wallFor(int cell, int n, int what) {
            if (!in(cell, 0, 15) || !in(n, 0, 40) || !in(what, 0, 1)) {
                return error(1);
            }
            int[] deep = new int[16];
            for (int wall = 0; wall < 16; wall++) {
                State on = s.twin();
                on.walled[wall / 4][wall % 4] = 1;
                deep[wall] = on.on(n).water[cell / 4][cell % 4];
            }
            int least = Arrays.stream(deep).min().getAsInt();
            if (least >= s.on(n).water[cell / 4][cell % 4]) {
                return error(2);
            }
            int first = 0;
            while (deep[first] != least) {
                first++;
            }
            return what == 1 ? least : first;
        }

        int springFor(int n, int what) {
            if (!in(n, 0, 40) || !in(what, 0, 1)) {
                return error(1);
            }
            int best = -1;
            int fewest = 99;
            for (int spring = 15; spring >= 0; spring--) {
                State on = s.twin();
                on.spring = spring;
                int known = Integer.bitCount(on.on(n).known());
                if (known <= fewest) {
                    fewest = known;
                    best = spring;
                }
            }
            return what == 1 ? fewest : best;
        }

        int walk(int one, int cell) {
            if (!is(one) || !in(cell, 0, 15)) {
                return error(1);
            }
            Person p = s.people.get(one);
            int[] far = new int[16];
            Arrays.fill(far, 99);
            far[4 * p.y + p.x] = 0;
            for (int round = 0; round < 16; round++) {
                for (int a = 0; a < 16; a++) {
                    for (int b = 0; b < 16; b++) {
                        if (State.beside(a / 4, a % 4, b / 4, b % 4) && s.water[b / 4][b % 4] <= p.stilts) {
                            far[b] = Math.min(far[b], far[a] + 1);
                        }
                    }
                }
            }
            return far[cell] >= 99 ? error(2) : far[cell];
        }

        int council(int things) {
            if (!in(things, 0, 4095)) {
                return error(1);
            }
            for (int many = 0; many <= s.people.size(); many++) {
                for (int set = 0; set < 1 << s.people.size(); set++) {
                    int known = 0;
                    for (int i = 0; i < s.people.size(); i++) {
                        known |= (set & 1 << i) != 0 ? s.people.get(i).knows : 0;
                    }
                    if (Integer.bitCount(set) == many && (known & things) == things) {
                        return set;
                    }
                }
            }
            return error(2);
        }

        int odds(int one, int n, int part) {
            if (!is(one) || !in(n, 0, 40) || !in(part, 0, 1)) {
                return error(1);
            }
            int above = 0;
            int below = 16;
            for (int spring = 0; spring < 16; spring++) {
                State on = s.twin();
                on.spring = spring;
                on = on.on(n);
                above += on.wet(on.people.get(one)) ? 1 : 0;
            }
            while (above % 2 == 0 && below > 1) {
                above /= 2;
                below /= 2;
            }
            return part == 0 ? above : below;
        }

        int fits(int sheet, int one, int what) {
            if (!in(sheet, 0, 3) || !is(one) || !in(what, 0, 1)) {
                return error(1);
            }
            if (sheets[sheet] == null) {
                return error(2);
            }
            int set = 0;
            for (int kind = 0; kind < 7; kind++) {
                boolean fits = true;
                for (int n = 0; n < sheets[sheet].length; n++) {
                    State on = s.twin();
                    on.people.get(one).kind = kind;
                    fits &= on.on(n).people.get(one).stilts == sheets[sheet][n];
                }
                set += fits ? 1 << kind : 0;
            }
            return what == 0 ? set : Integer.bitCount(set);
        }

        int voice(int one, int voice, int x) {
            if (!is(one) || !in(voice, 0, 3)) {
                return error(1);
            }
            trace = new ArrayList<>();
            Person p = s.people.get(one);
            try {
                return say(voice, p.kind, p, one, x);
            } catch (UnsupportedOperationException parted) {
                return error(6);
            }
        }

        /** A VOICE by the BODY of a KIND, or of the next above it that has one. */
        private int say(int voice, int from, Person p, int k, int x) {
            int[][] bodies = {{10, 11, 12, 13}, {20, 0, 0, 21}, {0, 30, 0, 0}, {0, 0, 40, 0}, {50, 0, 51, 0}, {0, 60, 0, 0}, {70, 71, 0, 0}};
            int kind = from;
            while (bodies[kind][voice] == 0) {
                kind = ABOVE[kind];
            }
            int up = ABOVE[kind];
            trace.add(bodies[kind][voice]);
            switch (bodies[kind][voice]) {
                case 10: return x + k;
                case 11: return say(0, p.kind, p, k, x) * 2;
                case 12: return say(1, p.kind, p, k, x) - p.m;
                case 13:
                    if (p.m == k) {
                        throw new UnsupportedOperationException();
                    }
                    return x / (p.m - k);
                case 20: return say(0, up, p, k, x) - 4;
                case 21: return say(3, up, p, k, x) + say(1, p.kind, p, k, 1);
                case 30: return -say(1, up, p, k, x);
                case 40: return say(2, up, p, k, x / 2);
                case 50: return say(0, up, p, k, x) * 3;
                case 51: return say(2, up, p, k, x) ^ k;
                case 60: return say(1, up, p, k, x + 1);
                case 70: return 9;
                default: return say(1, up, p, k, x) + p.m;
            }
        }

        int body(int i) {
            return in(i, 0, trace.size() - 1) ? trace.get(i) : error(2);
        }

        int sheet(int sheet, int b, int n) {
            if (!in(sheet, 0, 3) || !List.of(0, 8, 16, 32).contains(b)) {
                return error(1);
            }
            if (b > 0 && n < 0) {
                return error(3);
            }
            if (b > 0 && n > 24) {
                return error(1);
            }
            sheets[sheet] = b == 0 ? null : new int[n];
            bits[sheet] = b;
            return 1;
        }

        int put(int sheet, int i, int v) {
            if (!in(sheet, 0, 3)) {
                return error(1);
            }
            if (sheets[sheet] == null) {
                return error(2);
            }
            if (!in(i, 0, sheets[sheet].length - 1)) {
                return error(1);
            }
            sheets[sheet][i] = v << 32 - bits[sheet] >>> 32 - bits[sheet];
            return 1;
        }

        int move(int sheet, int i, int other, int j, int n) {
            if (!in(sheet, 0, 3) || !in(other, 0, 3)) {
                return error(1);
            }
            if (sheets[sheet] == null || sheets[other] == null) {
                return error(2);
            }
            if (bits[sheet] != bits[other]) {
                return error(5);
            }
            if (n < 0 || i < 0 || j < 0 || (long) i + n > sheets[sheet].length || (long) j + n > sheets[other].length) {
                return error(1);
            }
            int[] were = sheets[sheet].clone();
            for (int q = 0; q < n; q++) {
                sheets[other][j + q] = were[i + q];
            }
            return n;
        }

        int grounds(int sheet) {
            return along(sheet, true);
        }

        int judge(int sheet) {
            return along(sheet, false);
        }

        private int along(int sheet, boolean ground) {
            if (!in(sheet, 0, 3)) {
                return error(1);
            }
            if (sheets[sheet] == null) {
                return error(2);
            }
            int n = 0;
            for (int v : sheets[sheet]) {
                if (n == 16 || (ground ? !in(v, 0, 9) : v != s.water[n / 4][n % 4])) {
                    break;
                }
                if (ground) {
                    s.ground[n / 4][n % 4] = v;
                }
                n++;
            }
            return n;
        }

        int image() {
            held = s.twin();
            return ++images;
        }

        int restore() {
            if (held == null) {
                return error(2);
            }
            s = held.twin();
            return s.day;
        }

        int tell(int v) {
            if (s.waiting.size() == 24) {
                return error(4);
            }
            s.waiting.add(v);
            return s.waiting.size();
        }

        int check() {
            List<Integer> were = s.waiting;
            s.waiting = new ArrayList<>();
            for (int i = 0; i < were.size(); i++) {
                if (!is(i) || were.get(i) != s.made(s.people.get(i))) {
                    return i + 1;
                }
            }
            return 0;
        }

        int count(int what) {
            if (!in(what, 0, 10)) {
                return error(1);
            }
            int all = 0;
            for (int[] line : s.water) {
                all += Arrays.stream(line).sum();
            }
            int wet = 0;
            int down = 0;
            for (int i = 0; i < s.people.size(); i++) {
                wet += s.wet(s.people.get(i)) ? 1 << i : 0;
                down += s.people.get(i).stilts == 0 ? 1 : 0;
            }
            return new int[] {s.people.size(), s.day, s.spring, all, wet, s.known(), down, s.tape.length(),
                s.waiting.size(), trace.size(), s.z}[what];
        }

        int told(int k) {
            return in(k, 1, 6) ? told[k] : error(1);
        }
    }
}
