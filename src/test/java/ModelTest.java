import java.util.ArrayList;
import java.util.Arrays;
import java.util.Collections;
import java.util.HashSet;
import java.util.List;
import java.util.Random;
import java.util.Set;
import java.util.TreeMap;

/** Long random runs of calls, each answer held against a second, slow and plain telling of the document. */
public final class ModelTest {
    static final int RUNS = 120;
    static final int CALLS = 512;
    /** Each so manyth run begins with a town that is full. */
    static final int FULL = 6;

    public static void main(String[] args) {
        int runs = args.length > 0 ? Integer.parseInt(args[0]) : RUNS;
        int first = args.length > 1 ? Integer.parseInt(args[1]) : 0;
        int wrong = 0;
        TreeMap<String, Integer> seen = new TreeMap<>();
        for (int run = first; run < first + runs && wrong < 10; run++) {
            Random random = new Random(run);
            CornerTown town = new CornerTown();
            Model model = new Model();
            Calls calls = new Calls(random, town, model);
            boolean full = run % FULL == FULL - 1;
            for (int i = 0; i < CALLS; i++) {
                if (full && i < Calls.CROWD) {
                    calls.crowd(i);
                } else {
                    calls.next();
                }
                seen.merge(calls.name, 1, Integer::sum);
                if (calls.got != calls.due) {
                    wrong++;
                    System.out.println("run " + run + ", call " + i + ": " + calls.told + " answered "
                        + calls.got + ", due is " + calls.due);
                    break;
                }
            }
        }
        if (args.length > 0) {
            System.out.println(seen);
        }
        System.out.println(wrong == 0 ? "all runs are as the model tells" : wrong + " runs are not as the model tells");
        if (wrong != 0) {
            System.exit(1);
        }
    }

    /** Makes one call after the other, on the class and on the model. */
    static final class Calls {
        final Random random;
        final CornerTown town;
        final Model model;
        /** How the run is made: how often things change, what laws are about. */
        final int changing;
        final int style;
        String name;
        String told;
        int got;
        int due;

        Calls(Random random, CornerTown town, Model model) {
            this.random = random;
            this.town = town;
            this.model = model;
            this.changing = 5 + random.nextInt(40);
            this.style = random.nextInt(4);
        }

        int pick(int low, int high) {
            return low + random.nextInt(high - low + 1);
        }

        int wild() {
            switch (random.nextInt(8)) {
                case 0: return Integer.MAX_VALUE;
                case 1: return Integer.MIN_VALUE;
                case 2: return -1;
                case 3: return -2;
                case 4: return random.nextInt();
                case 5: return 12;
                case 6: return 40 + random.nextInt(80);
                default: return random.nextInt(16);
            }
        }

        int number(int low, int high) {
            return random.nextInt(40) == 0 ? wild() : random.nextInt(30) == 0 ? pick(low - 1, high + 1) : pick(low, high);
        }

        int house() {
            int many = model.houses.size();
            return number(0, Math.max(0, many - 1));
        }

        int bits() {
            int bits = 0;
            for (int h = 0; h < model.houses.size(); h++) {
                if (random.nextInt(4) == 0) {
                    bits |= 1 << h;
                }
            }
            return random.nextInt(25) == 0 ? wild() : bits;
        }

        int standingBits() {
            int bits = 0;
            for (int h = 0; h < model.houses.size(); h++) {
                if (model.stands(h) && random.nextInt(9) == 0) {
                    bits |= 1 << h;
                }
            }
            return random.nextInt(25) == 0 ? wild() : bits;
        }

        void tell(String call, int answer, int wanted, int... given) {
            name = call;
            told = call + Arrays.toString(given);
            got = answer;
            due = wanted;
        }

        void next() {
            int kind = random.nextInt(100);
            if (model.houses.size() < 6 && kind < 50) {
                build();
            } else if (kind < changing) {
                change();
            } else {
                ask();
            }
        }

        static final int CROWD = 12;

        /**
         * Houses corner to corner, as on the squares of one colour, so that there are many ways to go; they are numbered
         * across the town, so that the first way is not the one of next numbers.
         */
        void crowd(int i) {
            int square = (i * 5 + style) % CROWD;
            int x = square % 3 * 2 + square / 3 % 2;
            int y = square / 3;
            int r = pick(0, 9);
            tell("house", town.house(x, y, 1, 1, r), model.house(x, y, 1, 1, r), x, y, 1, 1, r);
        }

        void build() {
            int x = number(0, 7);
            int y = number(0, 7);
            int w = number(1, random.nextInt(3) == 0 ? 3 : 1);
            int d = number(1, random.nextInt(3) == 0 ? 3 : 1);
            int r = number(0, 9);
            tell("house", town.house(x, y, w, d, r), model.house(x, y, w, d, r), x, y, w, d, r);
        }

        void change() {
            int a = house();
            int b = house();
            switch (random.nextInt(22)) {
                case 0: case 1: case 2: build(); break;
                case 3: {
                    int r = number(0, 9);
                    tell("rank", town.rank(a, r), model.rank(a, r), a, r);
                    break;
                }
                case 4: case 5: {
                    int is = number(0, 1) | random.nextInt(2);
                    tell("stand", town.stand(a, is), model.stand(a, is), a, is);
                    break;
                }
                case 6: {
                    int what = number(0, 1);
                    int value = number(0, what == 0 ? 23 : 99);
                    tell("terms", town.terms(what, value), model.terms(what, value), what, value);
                    break;
                }
                case 7: case 8: case 9: tell("door", town.door(a, b), model.door(a, b), a, b); break;
                case 10: tell("wall", town.wall(a, b), model.wall(a, b), a, b); break;
                case 11: case 12: text(); break;
                case 13: case 14: {
                    int law = number(-1, Math.max(-1, model.laws.size() - 1));
                    tell("force", town.force(law), model.force(law), law);
                    break;
                }
                case 15: case 16: {
                    int is = number(0, 1);
                    tell("wish", town.wish(a, b, is), model.wish(a, b, is), a, b, is);
                    break;
                }
                case 17: {
                    int day = random.nextInt(3) == 0 ? number(-1, 99) : number(-1, 4);
                    tell("log", town.log(a, day), model.log(a, day), a, day);
                    break;
                }
                case 18:
                    if (random.nextBoolean()) {
                        tell("clear", town.clear(), model.clear());
                    } else {
                        tell("forget", town.forget(), model.forget());
                    }
                    break;
                case 19: {
                    int k = number(0, 1);
                    tell("image", town.image(k), model.image(k), k);
                    break;
                }
                case 20:
                    if (random.nextInt(3) == 0) {
                        int k = number(0, 1);
                        tell("back", town.back(k), model.back(k), k);
                    } else {
                        int n = number(1, random.nextInt(4) == 0 ? 40 : 5);
                        int seed = random.nextInt(10) == 0 ? wild() : pick(0, 1000000);
                        tell("flood", town.flood(seed, n), model.flood(seed, n), seed, n);
                    }
                    break;
                default: row(); break;
            }
        }

        /** Feeds bytes, ends the tape there, and asks for a law or a row; the last answer is told. */
        void put(byte[] bytes, int length, boolean law) {
            int before = town.count(7);
            if (before != 0 && random.nextInt(4) != 0) {
                town.end(0);
                model.end(0);
            }
            int start = town.count(7);
            for (int i = 0; i < length; i += 20) {
                int[] n = new int[5];
                for (int j = 0; j < 20; j++) {
                    int b = i + j < bytes.length ? bytes[i + j] & 255 : 0;
                    n[j / 4] |= b << (24 - 8 * (j % 4));
                }
                int was = town.feed(n[0], n[1], n[2], n[3], n[4]);
                int wanted = model.feed(n[0], n[1], n[2], n[3], n[4]);
                if (was != wanted) {
                    tell("feed", was, wanted, n);
                    return;
                }
            }
            int to = random.nextInt(60) == 0 ? wild() : start + length;
            int was = town.end(to);
            int wanted = model.end(to);
            if (was != wanted) {
                tell("end", was, wanted, to);
            } else if (law) {
                tell("law", town.law(), model.law());
                told = "law of '" + new String(bytes, 0, Math.min(length, bytes.length), java.nio.charset.StandardCharsets.ISO_8859_1) + "'";
            } else {
                tell("row", town.row(), model.row());
            }
        }

        void row() {
            int many = random.nextInt(4);
            byte[] bytes = new byte[many * 5 + random.nextInt(5)];
            for (int i = 0; i < bytes.length; i++) {
                int high = i % 5 < 2 ? 7 : i % 5 < 4 ? 2 : 9;
                int low = i % 5 == 2 || i % 5 == 3 ? 1 : 0;
                bytes[i] = (byte) number(low, high);
            }
            put(bytes, bytes.length, false);
        }

        void text() {
            String text = new Texts(random, style).law();
            byte[] bytes = text.getBytes(java.nio.charset.StandardCharsets.ISO_8859_1);
            put(bytes, bytes.length, true);
        }

        void ask() {
            int a = house();
            int b = house();
            int i = number(-1, 6);
            switch (random.nextInt(29)) {
                case 0: {
                    int what = number(0, 5);
                    tell("of", town.of(a, what), model.of(a, what), a, what);
                    break;
                }
                case 1: {
                    int x = number(0, 7);
                    int y = number(0, 7);
                    tell("at", town.at(x, y), model.at(x, y), x, y);
                    break;
                }
                case 2: tell("ruin", town.ruin(), model.ruined); break;
                case 3: tell("fault", town.fault(), model.fault); break;
                case 4: tell("touch", town.touch(a, b), model.touch(a, b), a, b); break;
                case 5: case 6: {
                    int what = number(0, 2);
                    tell("visit", town.visit(a, b, what), model.visit(a, b, what), a, b, what);
                    break;
                }
                case 7: tell("visits", town.visits(a), model.visits(a), a); break;
                case 8: case 9: {
                    int what = number(0, 3);
                    tell("comes", town.comes(a, b, what), model.comes(a, b, what), a, b, what);
                    break;
                }
                case 10: case 11: tell("way", town.way(a, b, i), model.way(a, b, i), a, b, i); break;
                case 12: tell("parts", town.parts(i), model.parts(i), i); break;
                case 13: tell("holders", town.holders(a, b), model.holders(a, b), a, b); break;
                case 14: {
                    int what = number(0, 2);
                    tell("cut", town.cut(a, b, what), model.cut(a, b, what), a, b, what);
                    break;
                }
                case 15: case 16: case 17: {
                    int what = number(0, 5);
                    tell("doors", town.doors(what), model.doors(what), what);
                    break;
                }
                case 18: {
                    int at = bits();
                    tell("news", town.news(at, a), model.news(at, a), at, a);
                    break;
                }
                case 19: tell("wrong", town.wrong(a), model.wrong(a), a); break;
                case 20: {
                    int what = number(0, 3);
                    tell("fits", town.fits(a, what), model.fits(a, what), a, what);
                    break;
                }
                case 21: {
                    int houses = bits() & ~(random.nextInt(8) == 0 ? 0 : 1 << a);
                    tell("round", town.round(a, houses), model.round(a, houses), a, houses);
                    break;
                }
                case 22: {
                    int houses = bits() & ~(random.nextInt(8) == 0 ? 0 : 1 << a);
                    tell("stop", town.stop(a, houses, i), model.stop(a, houses, i), a, houses, i);
                    break;
                }
                case 23: {
                    int what = number(0, 1);
                    tell("meet", town.meet(a, b, what), model.meet(a, b, what), a, b, what);
                    break;
                }
                case 24: case 25: {
                    int w = number(1, 3);
                    int d = number(1, 3);
                    int friends = standingBits();
                    int foes = standingBits();
                    int what = number(0, 2);
                    tell("site", town.site(w, d, friends, foes, what), model.site(w, d, friends, foes, what),
                        w, d, friends, foes, what);
                    break;
                }
                case 26: {
                    int what = number(0, 1);
                    int day = number(0, random.nextInt(3) == 0 ? 39 : 4);
                    tell("flooded", town.flooded(day, what), model.flooded(day, what), day, what);
                    break;
                }
                case 27: {
                    int what = number(0, 15);
                    tell("count", town.count(what), model.count(what), what);
                    break;
                }
                default: tell("status", town.status(), model.status); break;
            }
        }
    }

    /** Texts of laws, most of them right, some a little off. */
    static final class Texts {
        static final String[] WORDS = {"from", "to", "rank", "other", "area", "yard", "door", "hour", "day"};
        final Random random;
        final int style;
        int parts = 0;

        Texts(Random random, int style) {
            this.random = random;
            this.style = style;
        }

        String law() {
            int clauses = random.nextInt(12) == 0 ? 10 + random.nextInt(4) : 1 + random.nextInt(4);
            StringBuilder text = new StringBuilder();
            for (int i = 0; i < clauses; i++) {
                text.append(i == 0 ? "" : random.nextBoolean() ? ";" : " ; ").append(clause(clauses > 5));
            }
            if (random.nextInt(5) == 0) {
                spoil(text);
            }
            return text.length() > 400 ? text.substring(0, 400) : text.toString();
        }

        void spoil(StringBuilder text) {
            String odd = " ;()[]<>=+-*/09az{A\u00e9";
            int place = random.nextInt(text.length());
            switch (random.nextInt(3)) {
                case 0: text.deleteCharAt(place); break;
                case 1: text.setCharAt(place, odd.charAt(random.nextInt(odd.length()))); break;
                default: text.insert(place, odd.charAt(random.nextInt(odd.length()))); break;
            }
        }

        String clause(boolean small) {
            boolean takes = random.nextInt(3) != 0;
            String head = takes ? "takes " + sum(small ? 0 : 2) : "bars";
            boolean tested = !takes || random.nextBoolean();
            return head + (tested && random.nextInt(8) != 0 ? " if " + test(small ? 0 : 2) : "");
        }

        String test(int deep) {
            int many = random.nextInt(3) == 0 ? 2 : 1;
            StringBuilder text = new StringBuilder();
            for (int i = 0; i < many; i++) {
                text.append(i == 0 ? "" : " or ").append(plain(deep));
                if (random.nextInt(3) == 0) {
                    text.append(" and ").append(plain(deep));
                }
            }
            return text.toString();
        }

        String plain(int deep) {
            int kind = random.nextInt(8);
            if (kind == 0) {
                return "not " + plain(deep);
            }
            if (kind == 1 && deep > 0) {
                return "(" + test(deep - 1) + ")";
            }
            return sum(Math.min(deep, 1)) + "<>=".charAt(random.nextInt(3)) + sum(Math.min(deep, 1));
        }

        String sum(int deep) {
            StringBuilder text = new StringBuilder(part(deep));
            for (int i = random.nextInt(3); i > 0; i--) {
                text.append("+-*/*+-".charAt(random.nextInt(7))).append(part(deep));
            }
            return text.toString();
        }

        String part(int deep) {
            parts++;
            if (deep > 0 && random.nextInt(5) == 0) {
                return "[" + sum(deep - 1) + "]";
            }
            if (random.nextInt(2) == 0) {
                return WORDS[style == 1 && random.nextBoolean() ? 6 : style == 2 && random.nextBoolean() ? 8 : random.nextInt(9)];
            }
            int[] likely = {0, 1, 2, 3, 5, 12, 40, 999, 1000, 1001};
            return Integer.toString(random.nextInt(10) == 0 ? likely[random.nextInt(10)] : random.nextInt(10));
        }
    }

    /** The document told once more, without care for time. */
    static final class Model implements Cloneable {
        List<int[]> houses = new ArrayList<>();
        Set<Integer> doors = new HashSet<>();
        List<Text> laws = new ArrayList<>();
        List<int[]> wishes = new ArrayList<>();
        List<int[]> bans = new ArrayList<>();
        List<int[]> logs = new ArrayList<>();
        int inForce = -1;
        int hour = 12;
        int day = 0;
        Model[] images = new Model[2];
        StringBuilder tape = new StringBuilder();
        int fault = -1;
        int ruined = 0;
        int status = 0;
        int[] refused = new int[7];
        List<int[]> floods = new ArrayList<>();

        int no(int why) {
            status = why;
            refused[-why]++;
            return why;
        }

        int yes(int answer) {
            status = 0;
            return answer;
        }

        boolean is(int h) {
            return h >= 0 && h < houses.size();
        }

        boolean stands(int h) {
            return houses.get(h)[5] == 1;
        }

        static boolean covers(int[] h, int x, int y) {
            return x >= h[0] && x - h[0] < h[2] && y >= h[1] && y - h[1] < h[3];
        }

        int at(int x, int y) {
            for (int h = 0; h < houses.size(); h++) {
                if (covers(houses.get(h), x, y)) {
                    return h;
                }
            }
            return -1;
        }

        boolean free(int x, int y, int w, int d) {
            for (int i = x; i < x + w; i++) {
                for (int j = y; j < y + d; j++) {
                    if (at(i, j) != -1) {
                        return false;
                    }
                }
            }
            return true;
        }

        int mayBuild(int x, int y, int w, int d, int r) {
            if (x < 0 || x > 7 || y < 0 || y > 7 || w < 1 || w > 3 || d < 1 || d > 3 || r < 0 || r > 9
                || x + w > 8 || y + d > 8) {
                return -1;
            }
            return !free(x, y, w, d) ? -3 : houses.size() == 12 ? -5 : 0;
        }

        int house(int x, int y, int w, int d, int r) {
            int why = mayBuild(x, y, w, d, r);
            if (why != 0) {
                return no(why);
            }
            houses.add(new int[] {x, y, w, d, r, 1});
            return yes(houses.size() - 1);
        }

        int of(int h, int what) {
            return is(h) && what >= 0 && what <= 5 ? houses.get(h)[what] : -1;
        }

        int rank(int h, int r) {
            if (r < 0 || r > 9) {
                return no(-1);
            }
            if (!is(h)) {
                return no(-2);
            }
            int was = houses.get(h)[4];
            houses.get(h)[4] = r;
            return yes(was);
        }

        int stand(int h, int is) {
            if (is != 0 && is != 1) {
                return no(-1);
            }
            if (!is(h)) {
                return no(-2);
            }
            int was = houses.get(h)[5];
            houses.get(h)[5] = is;
            return yes(was);
        }

        int terms(int what, int value) {
            if (what == 0 && value >= 0 && value < 24) {
                int was = hour;
                hour = value;
                return yes(was);
            }
            if (what == 1 && value >= 0 && value < 100) {
                int was = day;
                day = value;
                return yes(was);
            }
            return no(-1);
        }

        static int key(int a, int b) {
            return Math.min(a, b) * 100 + Math.max(a, b);
        }

        int door(int a, int b) {
            if (!is(a) || !is(b)) {
                return no(-2);
            }
            if (a == b || doors.contains(key(a, b))) {
                return no(-3);
            }
            if (doors.size() == 6) {
                return no(-5);
            }
            doors.add(key(a, b));
            return yes(doors.size());
        }

        int wall(int a, int b) {
            if (!is(a) || !is(b)) {
                return no(-2);
            }
            if (!doors.remove(key(a, b))) {
                return no(-3);
            }
            return yes(doors.size());
        }

        int feed(int... numbers) {
            if (tape.length() > 380) {
                return -1;
            }
            for (int n : numbers) {
                for (int i = 3; i >= 0; i--) {
                    tape.append((char) ((n >> (8 * i)) & 255));
                }
            }
            return tape.length();
        }

        int end(int n) {
            if (n < 0 || n > tape.length()) {
                return -1;
            }
            tape.setLength(n);
            return n;
        }

        int row() {
            if (tape.length() == 0) {
                return no(-6);
            }
            String text = tape.toString();
            tape.setLength(0);
            int came = 0;
            ruined = 0;
            while (!text.isEmpty()) {
                if (text.length() >= 5 && mayBuild(text.charAt(0), text.charAt(1), text.charAt(2), text.charAt(3), text.charAt(4)) == 0) {
                    houses.add(new int[] {text.charAt(0), text.charAt(1), text.charAt(2), text.charAt(3), text.charAt(4), 1});
                    came++;
                } else {
                    ruined++;
                }
                text = text.length() < 5 ? "" : text.substring(5);
            }
            return yes(came);
        }

        int law() {
            String text = tape.toString();
            tape.setLength(0);
            if (laws.size() == 6) {
                return no(-5);
            }
            Text read = new Text(text);
            fault = read.fault;
            if (fault != -1) {
                return no(-6);
            }
            laws.add(read);
            return yes(laws.size() - 1);
        }

        int force(int law) {
            if (law < -1 || law >= laws.size()) {
                return no(-2);
            }
            int was = inForce;
            inForce = law;
            return yes(was);
        }

        /** Goes by the points and the unit sides of the plots. */
        static int touchOf(int[] one, int[] other) {
            for (int x = 0; x < 8; x++) {
                for (int y = 0; y < 8; y++) {
                    if (covers(one, x, y) && (covers(other, x + 1, y) || covers(other, x - 1, y)
                        || covers(other, x, y + 1) || covers(other, x, y - 1))) {
                        return 2;
                    }
                }
            }
            for (int i = 0; i < 4; i++) {
                for (int j = 0; j < 4; j++) {
                    if (one[0] + (i & 1) * one[2] == other[0] + (j & 1) * other[2]
                        && one[1] + (i >> 1) * one[3] == other[1] + (j >> 1) * other[3]) {
                        return 1;
                    }
                }
            }
            return 0;
        }

        int touch(int a, int b) {
            return is(a) && is(b) && a != b ? touchOf(houses.get(a), houses.get(b)) : -1;
        }

        int[] words(int a, int b, int theDay) {
            int[] from = houses.get(a);
            int[] to = houses.get(b);
            return new int[] {a, b, from[4], to[4], from[2] * from[3], to[2] * to[3],
                doors.contains(key(a, b)) ? 1 : 0, hour, theDay};
        }

        boolean barred(int a, int b, int theDay) {
            return inForce != -1 && laws.get(inForce).bars(words(a, b, theDay));
        }

        int time(int a, int b) {
            return inForce == -1 ? 1 : laws.get(inForce).takes(words(a, b, day));
        }

        boolean can(int a, int b, int theDay) {
            return a != b && stands(a) && stands(b) && (touch(a, b) == 1 || doors.contains(key(a, b))) && !barred(a, b, theDay);
        }

        int visit(int a, int b, int what) {
            if (!is(a) || !is(b) || a == b || what < 0 || what > 2) {
                return -1;
            }
            return what == 0 ? (can(a, b, day) ? 1 : 0) : what == 1 ? time(a, b) : barred(a, b, day) ? 1 : 0;
        }

        int visits(int a) {
            if (!is(a)) {
                return -1;
            }
            int bits = 0;
            for (int b = 0; b < houses.size(); b++) {
                bits |= can(a, b, day) ? 1 << b : 0;
            }
            return bits;
        }

        boolean[][] graph(int theDay) {
            int n = houses.size();
            boolean[][] graph = new boolean[n][n];
            for (int a = 0; a < n; a++) {
                for (int b = 0; b < n; b++) {
                    graph[a][b] = can(a, b, theDay);
                }
            }
            return graph;
        }

        /** All ways without a house twice. */
        List<List<Integer>> allWays(int from, int to) {
            List<List<Integer>> found = new ArrayList<>();
            if (stands(from)) {
                boolean[][] graph = graph(day);
                List<Integer> way = new ArrayList<>();
                way.add(from);
                goAll(graph, way, to, found, backward(graph, to));
            }
            return found;
        }

        static boolean[] backward(boolean[][] graph, int to) {
            boolean[][] turned = new boolean[graph.length][graph.length];
            for (int a = 0; a < graph.length; a++) {
                for (int b = 0; b < graph.length; b++) {
                    turned[b][a] = graph[a][b];
                }
            }
            return flooding(turned, to);
        }

        static boolean[] flooding(boolean[][] graph, int from) {
            boolean[] seen = new boolean[graph.length];
            seen[from] = true;
            for (int n = 0; n < graph.length; n++) {
                for (int a = 0; a < graph.length; a++) {
                    for (int b = 0; seen[a] && b < graph.length; b++) {
                        seen[b] |= graph[a][b];
                    }
                }
            }
            return seen;
        }

        void goAll(boolean[][] graph, List<Integer> way, int to, List<List<Integer>> found, boolean[] useful) {
            int last = way.get(way.size() - 1);
            if (last == to) {
                found.add(new ArrayList<>(way));
                return;
            }
            for (int next = 0; next < graph.length; next++) {
                if (graph[last][next] && useful[next] && !way.contains(next)) {
                    way.add(next);
                    goAll(graph, way, to, found, useful);
                    way.remove(way.size() - 1);
                }
            }
        }

        int timeOf(List<Integer> way) {
            int sum = 0;
            for (int i = 1; i < way.size(); i++) {
                sum += time(way.get(i - 1), way.get(i));
            }
            return sum;
        }

        int[][] times() {
            int[][] times = new int[houses.size()][houses.size()];
            for (int a = 0; a < times.length; a++) {
                for (int b = 0; b < times.length; b++) {
                    times[a][b] = a == b ? 0 : time(a, b);
                }
            }
            return times;
        }

        static int sum(int[][] times, List<Integer> way) {
            int sum = 0;
            for (int i = 1; i < way.size(); i++) {
                sum += times[way.get(i - 1)][way.get(i)];
            }
            return sum;
        }

        static int compareRows(List<Integer> a, List<Integer> b) {
            for (int i = 0; i < a.size() && i < b.size(); i++) {
                if (!a.get(i).equals(b.get(i))) {
                    return a.get(i) - b.get(i);
                }
            }
            return a.size() - b.size();
        }

        List<Integer> shortest(int from, int to) {
            List<List<Integer>> all = allWays(from, to);
            if (all.isEmpty()) {
                return null;
            }
            int[][] times = times();
            return Collections.min(all, (a, b) -> {
                int first = sum(times, a) - sum(times, b);
                int second = first != 0 ? first : a.size() - b.size();
                return second != 0 ? second : compareRows(a, b);
            });
        }

        int comes(int from, int to, int what) {
            if (!is(from) || !is(to) || what < 0 || what > 3) {
                return -1;
            }
            if (what > 1) {
                List<Integer> way = shortest(from, to);
                return way == null ? -1 : what == 2 ? timeOf(way) : way.size() - 1;
            }
            int fewest = -1;
            int ways = 0;
            for (List<Integer> way : allWays(from, to)) {
                int visits = way.size() - 1;
                if (fewest == -1 || visits < fewest) {
                    fewest = visits;
                    ways = 0;
                }
                ways += visits == fewest ? 1 : 0;
            }
            return what == 0 ? fewest : ways;
        }

        int way(int from, int to, int i) {
            if (!is(from) || !is(to)) {
                return -1;
            }
            List<Integer> way = shortest(from, to);
            return way == null || i < 0 || i >= way.size() ? -1 : way.get(i);
        }

        /** Whether one comes from a house to another one, some of them burnt down. */
        static boolean comesBy(boolean[][] graph, int from, int to, int without) {
            if ((without >> from & 1) == 1 || (without >> to & 1) == 1) {
                return false;
            }
            boolean[][] left = new boolean[graph.length][graph.length];
            for (int a = 0; a < graph.length; a++) {
                for (int b = 0; b < graph.length; b++) {
                    left[a][b] = graph[a][b] && (without >> a & 1) == 0 && (without >> b & 1) == 0;
                }
            }
            return flooding(left, from)[to];
        }

        List<Integer> partsOf(boolean[][] graph, int standing) {
            List<Integer> parts = new ArrayList<>();
            int left = standing;
            for (int a = 0; a < graph.length; a++) {
                if ((left >> a & 1) == 1) {
                    int part = 0;
                    for (int b = 0; b < graph.length; b++) {
                        if ((standing >> b & 1) == 1 && comesBy(graph, a, b, ~standing) && comesBy(graph, b, a, ~standing)) {
                            part |= 1 << b;
                        }
                    }
                    parts.add(part);
                    left &= ~part;
                }
            }
            return parts;
        }

        int standing() {
            int bits = 0;
            for (int h = 0; h < houses.size(); h++) {
                bits |= houses.get(h)[5] << h;
            }
            return bits;
        }

        int parts(int i) {
            List<Integer> parts = partsOf(graph(day), standing());
            return i == -1 ? parts.size() : i >= 0 && i < parts.size() ? parts.get(i) : -1;
        }

        int holders(int from, int to) {
            if (!is(from) || !is(to) || from == to) {
                return -1;
            }
            boolean[][] graph = graph(day);
            if (!stands(from) || !comesBy(graph, from, to, 0)) {
                return -1;
            }
            int bits = 0;
            for (int h = 0; h < houses.size(); h++) {
                if (h != from && h != to && !comesBy(graph, from, to, 1 << h)) {
                    bits |= 1 << h;
                }
            }
            return bits;
        }

        int cut(int from, int to, int what) {
            if (!is(from) || !is(to) || from == to || !stands(from) || !stands(to) || what < 0 || what > 2) {
                return -1;
            }
            boolean[][] graph = graph(day);
            for (int many = 0; many <= 4; many++) {
                int ways = 0;
                int lowest = -1;
                for (int bits = 0; bits < 1 << houses.size(); bits++) {
                    boolean others = (bits >> from & 1) == 0 && (bits >> to & 1) == 0;
                    if (Integer.bitCount(bits) == many && others && !comesBy(graph, from, to, bits)) {
                        lowest = lowest == -1 ? bits : lowest;
                        ways++;
                    }
                }
                if (ways > 0) {
                    return what == 0 ? many : what == 1 ? lowest : ways;
                }
            }
            return what == 2 ? 0 : -1;
        }

        int wish(int from, int to, int is) {
            if (is != 0 && is != 1) {
                return no(-1);
            }
            if (!is(from) || !is(to)) {
                return no(-2);
            }
            if (from == to) {
                return no(-3);
            }
            List<int[]> list = is == 1 ? wishes : bans;
            if (list.size() == 4) {
                return no(-5);
            }
            list.add(new int[] {from, to});
            return yes(list.size());
        }

        int clear() {
            int were = wishes.size() + bans.size();
            wishes.clear();
            bans.clear();
            return were;
        }

        boolean granted() {
            boolean[][] graph = graph(day);
            for (int[] w : wishes) {
                if (!stands(w[0]) || !comesBy(graph, w[0], w[1], 0)) {
                    return false;
                }
            }
            for (int[] b : bans) {
                if (stands(b[0]) && comesBy(graph, b[0], b[1], 0)) {
                    return false;
                }
            }
            return true;
        }

        List<int[]> doorless() {
            List<int[]> pairs = new ArrayList<>();
            for (int a = 0; a < houses.size(); a++) {
                for (int b = a + 1; b < houses.size(); b++) {
                    if (!doors.contains(key(a, b))) {
                        pairs.add(new int[] {a, b});
                    }
                }
            }
            return pairs;
        }

        String doorsAsOf = "";
        int[] doorsFound;

        /** How many, the four houses, in how many ways. */
        int[] newDoors() {
            if (granted()) {
                return new int[] {0, -1, -1, -1, -1, 1};
            }
            List<int[]> pairs = doorless();
            int[] best = {-1, -1, -1, -1, -1, 0};
            for (int[] p : pairs) {
                doors.add(key(p[0], p[1]));
                if (granted()) {
                    if (best[5]++ == 0) {
                        best = new int[] {1, p[0], p[1], -1, -1, 1};
                    }
                }
                doors.remove(key(p[0], p[1]));
            }
            if (best[5] > 0) {
                return best;
            }
            for (int i = 0; i < pairs.size(); i++) {
                int[] p = pairs.get(i);
                doors.add(key(p[0], p[1]));
                for (int j = i + 1; j < pairs.size(); j++) {
                    int[] q = pairs.get(j);
                    doors.add(key(q[0], q[1]));
                    if (granted()) {
                        if (best[5]++ == 0) {
                            best = new int[] {2, p[0], p[1], q[0], q[1], 1};
                        }
                    }
                    doors.remove(key(q[0], q[1]));
                }
                doors.remove(key(p[0], p[1]));
            }
            return best;
        }

        int doors(int what) {
            if (what < 0 || what > 5) {
                return -1;
            }
            StringBuilder now = new StringBuilder();
            for (int[] h : houses) {
                now.append(Arrays.toString(h));
            }
            for (int[] w : wishes) {
                now.append('w').append(Arrays.toString(w));
            }
            for (int[] b : bans) {
                now.append('b').append(Arrays.toString(b));
            }
            now.append(doors).append(hour).append(' ').append(day);
            now.append(inForce == -1 ? "" : laws.get(inForce).text);
            if (!now.toString().equals(doorsAsOf)) {
                doorsAsOf = now.toString();
                doorsFound = newDoors();
            }
            return doorsFound[what];
        }

        /** The day on which news is at each house first. */
        int[] newsDays(int at) {
            boolean[][] graph = graph(day);
            int n = houses.size();
            int[] days = new int[n];
            for (int h = 0; h < n; h++) {
                days[h] = (at >> h & 1) == 1 && stands(h) ? 0 : -1;
            }
            for (int d = 0; d < 20; d++) {
                for (int a = 0; a < n; a++) {
                    for (int b = 0; b < n; b++) {
                        if (days[a] == d && days[b] == -1 && graph[a][b]) {
                            days[b] = d + 1;
                        }
                    }
                }
            }
            return days;
        }

        int news(int at, int h) {
            return is(h) && at >= 0 && at < 1 << houses.size() ? newsDays(at)[h] : -1;
        }

        int log(int h, int theDay) {
            if (theDay < -1 || theDay > 99) {
                return no(-1);
            }
            if (!is(h)) {
                return no(-2);
            }
            if (logs.size() == 8) {
                return no(-5);
            }
            logs.add(new int[] {h, theDay});
            return yes(logs.size());
        }

        int forget() {
            int were = logs.size();
            logs.clear();
            return were;
        }

        int wrong(int h) {
            if (!is(h)) {
                return -1;
            }
            int[] days = newsDays(1 << h);
            int wrong = 0;
            for (int[] log : logs) {
                wrong += days[log[0]] == log[1] ? 0 : 1;
            }
            return wrong;
        }

        int fits(int h, int what) {
            if (!is(h) || what < 0 || what > 3) {
                return -1;
            }
            if (what == 0) {
                return wrong(h) == 0 ? 1 : 0;
            }
            List<int[]> fitting = new ArrayList<>();
            for (int[] p : doorless()) {
                doors.add(key(p[0], p[1]));
                if (wrong(h) == 0) {
                    fitting.add(p);
                }
                doors.remove(key(p[0], p[1]));
            }
            return what == 1 ? fitting.size() : fitting.isEmpty() ? -1 : fitting.get(0)[what - 2];
        }

        /** Bellman and Ford's way: the least times alone. */
        int[][] leastTimes() {
            int n = houses.size();
            boolean[][] graph = graph(day);
            int[][] times = times();
            int[][] least = new int[n][n];
            for (int a = 0; a < n; a++) {
                Arrays.fill(least[a], 1000000);
                if (stands(a)) {
                    least[a][a] = 0;
                }
                for (int round = 0; round < n; round++) {
                    for (int b = 0; b < n; b++) {
                        for (int c = 0; c < n; c++) {
                            if (graph[b][c]) {
                                least[a][c] = Math.min(least[a][c], least[a][b] + times[b][c]);
                            }
                        }
                    }
                }
            }
            return least;
        }

        int bestRound;
        List<Integer> bestOrder;

        void roundsFrom(int[][] least, int home, int at, int left, int so, List<Integer> order) {
            if (so > bestRound) {
                return;
            }
            if (left == 0) {
                int whole = so + least[at][home];
                if (whole < bestRound) {
                    bestRound = whole;
                    bestOrder = new ArrayList<>(order);
                }
                return;
            }
            for (int h = 0; h < least.length; h++) {
                if ((left >> h & 1) == 1) {
                    order.add(h);
                    roundsFrom(least, home, h, left & ~(1 << h), so + least[at][h], order);
                    order.remove(order.size() - 1);
                }
            }
        }

        boolean plan(int home, int bits) {
            if (!is(home) || bits < 0 || bits >= 1 << houses.size() || (bits >> home & 1) == 1) {
                return false;
            }
            bestRound = 1000000;
            bestOrder = null;
            roundsFrom(leastTimes(), home, home, bits, 0, new ArrayList<>());
            return bestOrder != null;
        }

        int round(int home, int bits) {
            return plan(home, bits) ? bestRound : -1;
        }

        int stop(int home, int bits, int i) {
            return plan(home, bits) && i >= 0 && i < bestOrder.size() ? bestOrder.get(i) : -1;
        }

        int meet(int one, int other, int what) {
            if (!is(one) || !is(other) || what < 0 || what > 1) {
                return -1;
            }
            int[][] least = leastTimes();
            int best = -1;
            for (int h = 0; h < houses.size(); h++) {
                if (least[one][h] < 1000000 && least[other][h] < 1000000) {
                    int last = Math.max(least[one][h], least[other][h]);
                    int was = best == -1 ? 0 : Math.max(least[one][best], least[other][best]);
                    int sums = best == -1 ? 0 : least[one][h] + least[other][h] - least[one][best] - least[other][best];
                    if (best == -1 || last < was || last == was && sums < 0) {
                        best = h;
                    }
                }
            }
            return best == -1 || what == 0 ? best : Math.max(least[one][best], least[other][best]);
        }

        boolean allStand(int bits) {
            for (int h = 0; h < 32; h++) {
                if ((bits >>> h & 1) == 1 && (!is(h) || !stands(h))) {
                    return false;
                }
            }
            return true;
        }

        int site(int w, int d, int friends, int foes, int what) {
            if (w < 1 || w > 3 || d < 1 || d > 3 || what < 0 || what > 2 || !allStand(friends) || !allStand(foes)) {
                return -1;
            }
            List<int[]> sites = new ArrayList<>();
            for (int y = 0; y <= 8 - d; y++) {
                for (int x = 0; x <= 8 - w; x++) {
                    boolean good = free(x, y, w, d);
                    for (int h = 0; good && h < houses.size(); h++) {
                        int how = touchOf(new int[] {x, y, w, d}, houses.get(h));
                        good = ((friends >> h & 1) == 0 || how == 1) && ((foes >> h & 1) == 0 || how == 0);
                    }
                    if (good) {
                        sites.add(new int[] {sites.size(), x, y});
                    }
                }
            }
            return what == 0 ? sites.size() : sites.isEmpty() ? -1 : sites.get(0)[what];
        }

        int flood(int seed, int n) {
            if (seed < 0 || seed > 1000000 || n < 1 || n > 40) {
                return no(-1);
            }
            floods.clear();
            long s = seed;
            int most = 0;
            for (int i = 0; i < n; i++) {
                int water = 0;
                for (int h = 0; h < houses.size(); h++) {
                    if (stands(h)) {
                        s = (s * 1103 + 12345) % 1000003;
                        water |= s % 4 == 0 ? 1 << h : 0;
                    }
                }
                int parts = partsOf(graph(day + i), standing() & ~water).size();
                floods.add(new int[] {water, parts});
                most = Math.max(most, parts);
            }
            return yes(most);
        }

        int flooded(int i, int what) {
            return i < 0 || i >= floods.size() || what < 0 || what > 1 ? -1 : floods.get(i)[what];
        }

        void copy(Model from) {
            houses = new ArrayList<>();
            for (int[] h : from.houses) {
                houses.add(h.clone());
            }
            doors = new HashSet<>(from.doors);
            laws = new ArrayList<>(from.laws);
            wishes = new ArrayList<>(from.wishes);
            bans = new ArrayList<>(from.bans);
            logs = new ArrayList<>(from.logs);
            inForce = from.inForce;
            hour = from.hour;
            day = from.day;
        }

        int image(int k) {
            if (k != 0 && k != 1) {
                return no(-1);
            }
            images[k] = new Model();
            images[k].copy(this);
            return yes(0);
        }

        int back(int k) {
            if (k != 0 && k != 1) {
                return no(-1);
            }
            if (images[k] == null) {
                return no(-2);
            }
            copy(images[k]);
            return yes(0);
        }

        int count(int what) {
            int[] all = {houses.size(), Integer.bitCount(standing()), doors.size(), laws.size(), wishes.size(), bans.size(),
                logs.size(), tape.length(), refused[1], refused[2], refused[3], refused[5], refused[6], inForce, hour, day};
            return what >= 0 && what < all.length ? all[what] : -1;
        }
    }

    /** A text of a law: its fault by a machine of states, its clauses by splitting the tokens. */
    static final class Text {
        static final List<String> WORDS = List.of("from", "to", "rank", "other", "area", "yard", "door", "hour", "day");
        final String text;
        final List<String> tokens = new ArrayList<>();
        final List<Integer> places = new ArrayList<>();
        final int fault;

        Text(String text) {
            this.text = text;
            int i = 0;
            while (i < text.length()) {
                int j = i + 1;
                char c = text.charAt(i);
                if (c != ' ') {
                    while (kind(c) > 0 && j < text.length() && kind(text.charAt(j)) == kind(c)) {
                        j++;
                    }
                    tokens.add(text.substring(i, j));
                    places.add(i);
                }
                i = j;
            }
            tokens.add("");
            places.add(text.length());
            fault = findFault();
        }

        static int kind(char c) {
            return c >= 'a' && c <= 'z' ? 1 : c >= '0' && c <= '9' ? 2 : 0;
        }

        int findFault() {
            String state = "start";
            String side = "";
            StringBuilder open = new StringBuilder();
            int clauses = 0;
            int parts = 0;
            for (int i = 0; i < tokens.size(); i++) {
                String t = tokens.get(i);
                char top = open.length() == 0 ? ' ' : open.charAt(open.length() - 1);
                String next = null;
                if (state.equals("plain")) {
                    if (t.equals("not")) {
                        next = "plain";
                    } else if (t.equals("(") && open.length() < 8) {
                        open.append('(');
                        next = "plain";
                    } else {
                        side = "left";
                        state = "part";
                    }
                }
                if (next != null) {
                    state = next;
                    continue;
                }
                if (state.equals("start")) {
                    clauses++;
                    if (clauses <= 12 && t.equals("takes")) {
                        next = "part";
                        side = "takes";
                    } else if (clauses <= 12 && t.equals("bars")) {
                        next = "behind";
                        side = "bars";
                    }
                } else if (state.equals("part")) {
                    boolean number = !t.isEmpty() && kind(t.charAt(0)) == 2 && new java.math.BigInteger(t).compareTo(java.math.BigInteger.valueOf(1000)) <= 0;
                    if (t.equals("[") && open.length() < 8) {
                        open.append('[');
                        next = "part";
                    } else if ((number || WORDS.contains(t)) && ++parts <= 50) {
                        next = "behind";
                    }
                } else if (side.equals("bars") || top != '[' && side.equals("takes")) {
                    if (t.isEmpty()) {
                        return -1;
                    }
                    next = t.equals("if") ? "plain" : t.equals(";") ? "start" : null;
                    next = next == null && side.equals("takes") && "+-*/".contains(t) ? "part" : next;
                } else if (t.length() == 1 && "+-*/".contains(t) && !side.equals("closed")) {
                    next = "part";
                } else if (top == '[') {
                    if (t.equals("]")) {
                        open.setLength(open.length() - 1);
                        next = "behind";
                    }
                } else if (side.equals("left")) {
                    if (t.length() == 1 && "<>=".contains(t)) {
                        side = "right";
                        next = "part";
                    }
                } else if (t.equals("and") || t.equals("or")) {
                    next = "plain";
                } else if (t.equals(")") && top == '(') {
                    open.setLength(open.length() - 1);
                    side = "closed";
                    next = "behind";
                } else if (open.length() == 0) {
                    if (t.isEmpty()) {
                        return -1;
                    }
                    next = t.equals(";") ? "start" : null;
                }
                if (next == null) {
                    return places.get(i);
                }
                state = next;
            }
            return text.length();
        }

        static final class Broken extends RuntimeException {
            private static final long serialVersionUID = 1L;
        }

        List<List<String>> clauses() {
            List<List<String>> clauses = new ArrayList<>();
            clauses.add(new ArrayList<>());
            for (String t : tokens) {
                if (t.equals(";")) {
                    clauses.add(new ArrayList<>());
                } else if (!t.isEmpty()) {
                    clauses.get(clauses.size() - 1).add(t);
                }
            }
            return clauses;
        }

        /** What a clause tells, or null if it does not hold; 0 for bars. */
        static Long told(List<String> clause, int[] words) {
            int when = clause.indexOf("if");
            List<String> head = when < 0 ? clause : clause.subList(0, when);
            try {
                if (when >= 0 && !test(clause.subList(when + 1, clause.size()), words)) {
                    return null;
                }
                return head.get(0).equals("bars") ? 0L : value(head.subList(1, head.size()), words);
            } catch (Broken b) {
                return null;
            }
        }

        /** The last place of a sign outside all brackets, or -1. */
        static int last(List<String> tokens, String... signs) {
            int depth = 0;
            for (int i = tokens.size() - 1; i >= 0; i--) {
                String t = tokens.get(i);
                depth += t.equals(")") || t.equals("]") ? 1 : t.equals("(") || t.equals("[") ? -1 : 0;
                if (depth == 0 && Arrays.asList(signs).contains(t)) {
                    return i;
                }
            }
            return -1;
        }

        static boolean test(List<String> t, int[] words) {
            int at = last(t, "or");
            if (at >= 0) {
                return test(t.subList(0, at), words) || test(t.subList(at + 1, t.size()), words);
            }
            at = last(t, "and");
            if (at >= 0) {
                return test(t.subList(0, at), words) && test(t.subList(at + 1, t.size()), words);
            }
            if (t.get(0).equals("not")) {
                return !test(t.subList(1, t.size()), words);
            }
            if (t.get(0).equals("(")) {
                return test(t.subList(1, t.size() - 1), words);
            }
            at = last(t, "<", ">", "=");
            long a = value(t.subList(0, at), words);
            long b = value(t.subList(at + 1, t.size()), words);
            return t.get(at).equals("<") ? a < b : t.get(at).equals(">") ? a > b : a == b;
        }

        static long value(List<String> t, int[] words) {
            int at = last(t, "+", "-");
            at = at >= 0 ? at : last(t, "*", "/");
            if (at >= 0) {
                long a = value(t.subList(0, at), words);
                long b = value(t.subList(at + 1, t.size()), words);
                String sign = t.get(at);
                if (sign.equals("/") && b == 0) {
                    throw new Broken();
                }
                long c = sign.equals("+") ? a + b : sign.equals("-") ? a - b : sign.equals("*") ? a * b : a / b;
                if (Math.abs(c) > 1000000000L) {
                    throw new Broken();
                }
                return c;
            }
            if (t.get(0).equals("[")) {
                return value(t.subList(1, t.size() - 1), words);
            }
            int word = WORDS.indexOf(t.get(0));
            return word >= 0 ? words[word] : Long.parseLong(t.get(0));
        }

        List<List<String>> kept;

        boolean bars(int[] words) {
            kept = kept == null ? clauses() : kept;
            for (List<String> clause : kept) {
                if (clause.get(0).equals("bars") && told(clause, words) != null) {
                    return true;
                }
            }
            return false;
        }

        int takes(int[] words) {
            kept = kept == null ? clauses() : kept;
            long takes = 1;
            for (List<String> clause : kept) {
                Long told = clause.get(0).equals("takes") ? told(clause, words) : null;
                takes = told == null ? takes : told;
            }
            return (int) Math.max(1, Math.min(99, takes));
        }
    }
}
