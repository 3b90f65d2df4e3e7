/** Each promise of the document with ordinary inputs, the edges that it names, and wrong inputs. */
public final class PromisesTest {
    private static int wrong = 0;
    private static int promise = 0;

    private static void due(String call, int got, int want) {
        if (got != want) {
            wrong++;
            System.out.println("promise " + promise + ": " + call + " answered " + got + ", due is " + want);
        }
    }

    private static void feed(CornerTown t, String text) {
        t.end(0);
        for (int i = 0; i < text.length(); i += 20) {
            int[] n = new int[5];
            for (int j = 0; j < 20 && i + j < text.length(); j++) {
                n[j / 4] |= text.charAt(i + j) << (24 - 8 * (j % 4));
            }
            t.feed(n[0], n[1], n[2], n[3], n[4]);
        }
        t.end(text.length());
    }

    private static int law(CornerTown t, String text) {
        feed(t, text);
        return t.law();
    }

    private static void inForce(CornerTown t, String text) {
        t.force(law(t, text));
    }

    /** Houses of one plot in a slanted line, each touching the next at a corner. */
    private static CornerTown line(int many) {
        CornerTown t = new CornerTown();
        for (int i = 0; i < many; i++) {
            t.house(i, i, 1, 1, i);
        }
        return t;
    }

    /** Houses of one plot that touch nobody. */
    private static CornerTown apart(int many) {
        CornerTown t = new CornerTown();
        for (int i = 0; i < many; i++) {
            t.house(i % 4 * 2, i / 4 * 2, 1, 1, i % 10);
        }
        return t;
    }

    /** 0 and 5 at the ends, 1 and 2 between on two ways, then 3, 4 in a line: 0-1-3-4-5, 0-2-3. */
    private static CornerTown diamond() {
        CornerTown t = new CornerTown();
        t.house(1, 0, 1, 1, 0);
        t.house(0, 1, 1, 1, 1);
        t.house(2, 1, 1, 1, 2);
        t.house(1, 2, 1, 1, 3);
        t.house(2, 3, 1, 1, 4);
        t.house(3, 4, 1, 1, 5);
        return t;
    }

    private static void newObject() {
        promise = 1;
        CornerTown t = new CornerTown();
        int[] counts = {0, 0, 0, 0, 0, 0, 0, 0, 0, 0, 0, 0, 0, -1, 12, 0};
        for (int i = 0; i < counts.length; i++) {
            due("count " + i, t.count(i), counts[i]);
        }
        due("status", t.status(), 0);
        due("fault", t.fault(), -1);
        due("ruin", t.ruin(), 0);
        due("parts", t.parts(-1), 0);
        due("part 0", t.parts(0), -1);
        due("doors", t.doors(0), 0);
        due("site", t.site(1, 1, 0, 0, 0), 64);
        due("site 3 2", t.site(3, 2, 0, 0, 0), 42);
        due("flooded", t.flooded(0, 0), -1);
        due("back 0", t.back(0), -2);
        due("NONE", CornerTown.NONE, -1);
    }

    private static void houses() {
        promise = 2;
        CornerTown t = new CornerTown();
        due("3 by 3 in the corner", t.house(5, 5, 3, 3, 9), 0);
        due("status", t.status(), 0);
        due("over the side", t.house(6, 0, 3, 1, 0), -1);
        due("over the end", t.house(0, 6, 1, 3, 0), -1);
        due("x -1", t.house(-1, 0, 1, 1, 0), -1);
        due("y -1", t.house(0, -1, 1, 1, 0), -1);
        due("x 8", t.house(8, 0, 1, 1, 0), -1);
        due("y 8", t.house(0, 8, 1, 1, 0), -1);
        due("x far", t.house(Integer.MAX_VALUE, 0, 1, 1, 0), -1);
        due("wide 0", t.house(0, 0, 0, 1, 0), -1);
        due("wide 4", t.house(0, 0, 4, 1, 0), -1);
        due("deep 0", t.house(0, 0, 1, 0, 0), -1);
        due("deep 4", t.house(0, 0, 1, 4, 0), -1);
        due("wide far", t.house(0, 0, Integer.MAX_VALUE, 1, 0), -1);
        due("rank 10", t.house(0, 0, 1, 1, 10), -1);
        due("rank -1", t.house(0, 0, 1, 1, -1), -1);
        due("refused by -1", t.count(8), 14);
        due("-1 ahead of -3", t.house(5, 5, 1, 1, 10), -1);
        due("overlap at one plot", t.house(3, 3, 3, 3, 0), -3);
        due("status", t.status(), -3);
        due("just beside", t.house(3, 3, 2, 2, 0), 1);
        t.stand(1, 0);
        due("burnt down, still its own", t.house(4, 4, 1, 1, 0), -3);
        for (int i = 2; i < 12; i++) {
            due("house " + i, t.house((i - 2) % 5, (i - 2) / 5, 1, 1, 0), i);
        }
        due("no room", t.house(7, 0, 1, 1, 0), -5);
        due("-3 ahead of -5", t.house(0, 0, 1, 1, 0), -3);
        due("-1 ahead of -5", t.house(7, 0, 2, 1, 0), -1);
        due("refused by -5", t.count(11), 1);
        due("houses", t.count(0), 12);
        due("standing", t.count(1), 11);
    }

    private static void ofRankStandAt() {
        promise = 3;
        CornerTown t = new CornerTown();
        t.house(1, 2, 3, 2, 7);
        int[] told = {1, 2, 3, 2, 7, 1};
        for (int i = 0; i < told.length; i++) {
            due("of 0 " + i, t.of(0, i), told[i]);
        }
        due("of 0 6", t.of(0, 6), -1);
        due("of 0 -1", t.of(0, -1), -1);
        due("of 1 0", t.of(1, 0), -1);
        due("of -1 0", t.of(-1, 0), -1);
        due("not refused", t.count(8), 0);
        promise = 4;
        due("rank", t.rank(0, 9), 7);
        due("rank again", t.rank(0, 0), 9);
        due("rank is", t.of(0, 4), 0);
        due("rank 10", t.rank(0, 10), -1);
        due("rank -1", t.rank(0, -1), -1);
        due("no such", t.rank(1, 5), -2);
        due("no such, below", t.rank(-1, 5), -2);
        due("-1 ahead of -2", t.rank(1, 10), -1);
        due("status", t.status(), -1);
        promise = 5;
        due("burns", t.stand(0, 0), 1);
        due("burns again", t.stand(0, 0), 0);
        due("is burnt", t.of(0, 5), 0);
        due("count", t.count(1), 0);
        due("stands", t.stand(0, 1), 0);
        due("is 2", t.stand(0, 2), -1);
        due("is -1", t.stand(0, -1), -1);
        due("no such", t.stand(1, 1), -2);
        due("no such", t.stand(12, 1), -2);
        due("-1 ahead of -2", t.stand(1, 2), -1);
        promise = 6;
        due("at first", t.at(1, 2), 0);
        due("at last", t.at(3, 3), 0);
        due("at right of", t.at(4, 3), -1);
        due("at below", t.at(3, 4), -1);
        due("at left of", t.at(0, 2), -1);
        due("at above", t.at(1, 1), -1);
        due("at beyond", t.at(8, 8), -1);
        due("at beyond", t.at(-1, 2), -1);
        t.stand(0, 0);
        due("at burnt", t.at(2, 3), 0);
    }

    private static void termsDoors() {
        promise = 7;
        CornerTown t = apart(12);
        due("hour", t.terms(0, 23), 12);
        due("hour 0", t.terms(0, 0), 23);
        due("hour 24", t.terms(0, 24), -1);
        due("hour -1", t.terms(0, -1), -1);
        due("day", t.terms(1, 99), 0);
        due("day 100", t.terms(1, 100), -1);
        due("day is", t.count(15), 99);
        due("hour is", t.count(14), 0);
        due("term 2", t.terms(2, 0), -1);
        due("term -1", t.terms(-1, 0), -1);
        promise = 8;
        due("door", t.door(0, 1), 1);
        due("again", t.door(0, 1), -3);
        due("turned", t.door(1, 0), -3);
        due("the same", t.door(2, 2), -3);
        due("no such", t.door(0, 12), -2);
        due("no such", t.door(-1, 0), -2);
        due("no such, the same", t.door(12, 12), -2);
        t.stand(5, 0);
        due("to a burnt one", t.door(5, 4), 2);
        due("3", t.door(11, 0), 3);
        due("4", t.door(0, 2), 4);
        due("5", t.door(0, 3), 5);
        due("6", t.door(0, 4), 6);
        due("7", t.door(0, 6), -5);
        due("-3 ahead of -5", t.door(0, 4), -3);
        due("doors", t.count(2), 6);
        due("visits by doors", t.visits(0), 2 + 4 + 8 + 16 + 2048);
        promise = 9;
        due("wall", t.wall(4, 0), 5);
        due("wall again", t.wall(0, 4), -3);
        due("wall none", t.wall(6, 7), -3);
        due("wall the same", t.wall(6, 6), -3);
        due("wall no such", t.wall(0, 12), -2);
        due("status", t.status(), -2);
        due("visits", t.visits(0), 2 + 4 + 8 + 2048);
        due("room again", t.door(0, 4), 6);
        due("wall", t.wall(0, 1), 5);
        due("status", t.status(), 0);
    }

    private static void tape() {
        promise = 10;
        CornerTown t = new CornerTown();
        for (int i = 1; i <= 20; i++) {
            due("feed " + i, t.feed(0, 0, 0, 0, 0), 20 * i);
        }
        due("feed 21", t.feed(1, 1, 1, 1, 1), -1);
        due("tape", t.count(7), 400);
        due("not refused", t.count(8) + t.count(11), 0);
        promise = 11;
        due("end 401", t.end(401), -1);
        due("end -1", t.end(-1), -1);
        due("end 400", t.end(400), 400);
        due("end 381", t.end(381), 381);
        due("feed on 381", t.feed(0, 0, 0, 0, 0), -1);
        due("end 380", t.end(380), 380);
        due("feed on 380", t.feed(0, 0, 0, 0, 0), 400);
        due("end 0", t.end(0), 0);
        due("end 1", t.end(1), -1);
        due("tape", t.count(7), 0);
        promise = 10;
        t.feed(0x01020304, 0x05000000, 0, 0, 0);
        t.end(5);
        t.row();
        t.feed(0x01020301, 0x09FFFFFF, 0, 0, 0);
        t.end(5);
        due("highest byte first", t.row(), 1);
        due("x", t.of(0, 0), 1);
        due("y", t.of(0, 1), 2);
        due("wide", t.of(0, 2), 3);
        due("deep", t.of(0, 3), 1);
        due("rank", t.of(0, 4), 9);
    }

    private static void rows() {
        promise = 12;
        CornerTown t = new CornerTown();
        due("empty", t.row(), -6);
        due("refused by -6", t.count(12), 1);
        promise = 13;
        due("ahead of any", t.ruin(), 0);
        promise = 12;
        // (0,0), then the same again, then (7,7) two wide, then (1,1), and half a house
        t.feed(0x00000101, 0x00000001, 0x01000707, 0x02010001, 0x01010104);
        t.feed(0x02020000, 0, 0, 0, 0);
        t.end(22);
        due("row", t.row(), 2);
        due("houses", t.count(0), 2);
        due("tape", t.count(7), 0);
        due("status", t.status(), 0);
        promise = 13;
        due("ruin", t.ruin(), 3);
        due("not by refusals", t.count(8) + t.count(10), 0);
        due("row of none", t.row(), -6);
        due("ruin of the latest not refused", t.ruin(), 3);
        t.feed(0x07000101, 0x00000000, 0, 0, 0);
        t.end(5);
        due("row", t.row(), 1);
        due("ruin", t.ruin(), 0);
        promise = 12;
        CornerTown full = apart(12);
        full.feed(0x01010101, 0, 0, 0, 0);
        full.end(5);
        due("no room", full.row(), 0);
        promise = 13;
        due("no room is ruin", full.ruin(), 1);
        due("no room, not refused", full.count(11), 0);
        full.feed(0x01FF0101, 0x01FFFFFF, 0, 0, 0);
        full.end(3);
        due("tape ends within", full.row(), 0);
        due("ruin", full.ruin(), 1);
    }

    private static void laws() {
        promise = 14;
        CornerTown t = new CornerTown();
        due("law", law(t, "bars"), 0);
        due("tape", t.count(7), 0);
        due("wrong", law(t, "bars bars"), -6);
        due("tape of a wrong one", t.count(7), 0);
        due("laws", t.count(3), 1);
        promise = 15;
        due("fault", t.fault(), 5);
        t.rank(0, 0);
        due("fault stays", t.fault(), 5);
        due("right", law(t, "takes 3"), 1);
        due("no fault", t.fault(), -1);
        due("empty", law(t, ""), -6);
        due("fault of empty", t.fault(), 0);
        due("blanks", law(t, "   "), -6);
        due("fault of blanks", t.fault(), 3);
        promise = 14;
        for (int i = 2; i < 6; i++) {
            due("law " + i, law(t, "takes " + i), i);
        }
        due("no room", law(t, "bars bars"), -5);
        due("tape is empty then, too", t.count(7), 0);
        due("fault as it was", t.fault(), -1);
        due("no room, empty", t.law(), -5);
        due("refused by -6", t.count(12), 3);
        due("refused by -5", t.count(11), 2);
        promise = 16;
        t.house(0, 0, 1, 1, 0);
        t.house(1, 1, 1, 1, 0);
        due("without", t.visit(0, 1, 1), 1);
        due("force", t.force(4), -1);
        due("status", t.status(), 0);
        due("takes", t.visit(0, 1, 1), 4);
        due("force", t.force(0), 4);
        due("bars", t.visit(0, 1, 2), 1);
        due("no such", t.force(6), -2);
        due("no such", t.force(-2), -2);
        due("in force", t.count(13), 0);
        due("none", t.force(-1), 0);
        due("none", t.visit(0, 1, 2), 0);
        due("in force", t.count(13), -1);
    }

    private static void touching() {
        promise = 17;
        CornerTown t = new CornerTown();
        t.house(2, 2, 2, 3, 0);
        t.house(4, 5, 1, 1, 0);
        t.house(4, 4, 1, 1, 0);
        t.house(1, 1, 1, 1, 0);
        t.house(2, 1, 3, 1, 0);
        t.house(4, 6, 1, 1, 0);
        t.house(1, 5, 1, 3, 0);
        t.house(5, 3, 1, 1, 0);
        due("corner below", t.touch(0, 1), 1);
        due("turned", t.touch(1, 0), 1);
        due("side", t.touch(0, 2), 2);
        due("corner above", t.touch(0, 3), 1);
        due("longer side", t.touch(0, 4), 2);
        due("apart", t.touch(0, 5), 0);
        due("corner left below", t.touch(0, 6), 1);
        due("corner of 2 and 7", t.touch(2, 7), 1);
        due("gap", t.touch(0, 7), 0);
        due("the same", t.touch(0, 0), -1);
        due("no such", t.touch(0, 8), -1);
        due("no such", t.touch(-1, 0), -1);
        t.stand(1, 0);
        due("burnt", t.touch(0, 1), 1);
    }

    private static void visiting() {
        promise = 18;
        CornerTown t = line(3);
        t.house(2, 1, 1, 1, 0);
        due("can", t.visit(0, 1, 0), 1);
        due("can't", t.visit(0, 2, 0), 0);
        due("side", t.visit(1, 3, 0), 0);
        due("itself", t.visit(1, 1, 0), -1);
        due("no such", t.visit(1, 4, 0), -1);
        due("no such", t.visit(-1, 1, 1), -1);
        due("what 3", t.visit(0, 1, 3), -1);
        due("what -1", t.visit(0, 1, -1), -1);
        inForce(t, "takes 10*from+to+3; bars if to = 0");
        due("barred", t.visit(1, 0, 0), 0);
        due("barred", t.visit(1, 0, 2), 1);
        due("not barred the other way", t.visit(0, 1, 2), 0);
        due("can the other way", t.visit(0, 1, 0), 1);
        due("takes though barred", t.visit(1, 0, 1), 13);
        due("takes though apart", t.visit(0, 2, 1), 5);
        due("barred though apart", t.visit(2, 0, 2), 1);
        t.stand(1, 0);
        due("burnt", t.visit(0, 1, 0), 0);
        due("burnt", t.visit(1, 2, 0), 0);
        due("takes though burnt", t.visit(1, 2, 1), 15);
        t.door(0, 2);
        due("door", t.visit(0, 2, 0), 1);
        due("door, barred", t.visit(2, 0, 0), 0);
        promise = 19;
        due("visits 0", t.visits(0), 4);
        due("visits 2", t.visits(2), 0);
        t.stand(1, 1);
        due("visits 0", t.visits(0), 6);
        due("visits 1", t.visits(1), 4);
        due("visits none", t.visits(4), -1);
        due("visits none", t.visits(-1), -1);
        t.stand(0, 0);
        due("visits of burnt", t.visits(0), 0);
    }

    private static void coming() {
        promise = 20;
        CornerTown t = diamond();
        due("fewest", t.comes(0, 5, 0), 4);
        due("ways", t.comes(0, 5, 1), 2);
        due("time", t.comes(0, 5, 2), 4);
        due("visits", t.comes(0, 5, 3), 4);
        due("itself", t.comes(3, 3, 0), 0);
        due("itself, ways", t.comes(3, 3, 1), 1);
        due("itself, time", t.comes(3, 3, 2), 0);
        due("itself, visits", t.comes(3, 3, 3), 0);
        due("what 4", t.comes(0, 5, 4), -1);
        due("what -1", t.comes(0, 5, -1), -1);
        due("no such", t.comes(0, 6, 1), -1);
        due("no such", t.comes(-1, 5, 1), -1);
        t.door(0, 5);
        inForce(t, "takes 50 if door = 1; takes 2 if to = 1");
        due("fewest by the door", t.comes(0, 5, 0), 1);
        due("ways by the door", t.comes(0, 5, 1), 1);
        due("shortest", t.comes(0, 5, 2), 4);
        due("visits of the shortest", t.comes(0, 5, 3), 4);
        promise = 21;
        int[] row = {0, 2, 3, 4, 5};
        for (int i = 0; i < row.length; i++) {
            due("way " + i, t.way(0, 5, i), row[i]);
        }
        due("way 5", t.way(0, 5, 5), -1);
        due("way -1", t.way(0, 5, -1), -1);
        due("way no such", t.way(0, 6, 0), -1);
        due("way to itself", t.way(2, 2, 0), 2);
        due("way to itself 1", t.way(2, 2, 1), -1);
        t.force(-1);
        due("one visit", t.way(0, 5, 1), 5);
        due("first as a row", t.way(0, 3, 1), 1);
        inForce(t, "takes 4 if door = 1");
        due("alike: fewest visits", t.comes(0, 5, 3), 1);
        due("alike: way", t.way(0, 5, 1), 5);
        promise = 20;
        t.wall(0, 5);
        t.stand(4, 0);
        due("not", t.comes(0, 5, 0), -1);
        due("not, ways", t.comes(0, 5, 1), 0);
        due("not, time", t.comes(0, 5, 2), -1);
        due("not, visits", t.comes(0, 5, 3), -1);
        due("burnt to itself", t.comes(4, 4, 0), -1);
        due("burnt to itself, ways", t.comes(4, 4, 1), 0);
        due("burnt to itself, time", t.comes(4, 4, 2), -1);
        promise = 21;
        due("no way", t.way(0, 5, 0), -1);
        due("burnt", t.way(4, 4, 0), -1);
    }

    private static void partsHoldersCuts() {
        promise = 22;
        CornerTown t = diamond();
        due("parts", t.parts(-1), 1);
        due("part", t.parts(0), 63);
        t.stand(3, 0);
        due("parts", t.parts(-1), 2);
        due("part 0", t.parts(0), 7);
        due("part 1", t.parts(1), 48);
        due("part 2", t.parts(2), -1);
        due("part -2", t.parts(-2), -1);
        t.stand(3, 1);
        inForce(t, "bars if from > to");
        due("none comes back", t.parts(-1), 6);
        due("by lowest", t.parts(3), 8);
        t.force(-1);
        CornerTown alone = apart(12);
        due("twelve parts", alone.parts(-1), 12);
        due("the twelfth", alone.parts(11), 2048);
        due("no thirteenth", alone.parts(12), -1);
        promise = 23;
        due("holders", t.holders(0, 5), 24);
        due("holders 0 3", t.holders(0, 3), 0);
        due("holders back", t.holders(5, 1), 24);
        due("the same", t.holders(2, 2), -1);
        due("no such", t.holders(0, 6), -1);
        t.stand(2, 0);
        due("one of two burnt", t.holders(0, 5), 26);
        t.stand(2, 1);
        t.stand(4, 0);
        due("does not come", t.holders(0, 5), -1);
        due("from a burnt one", t.holders(4, 5), -1);
        promise = 24;
        due("cut of none", t.cut(0, 5, 0), 0);
        due("cut of none, which", t.cut(0, 5, 1), 0);
        due("cut of none, ways", t.cut(0, 5, 2), 1);
        due("burnt", t.cut(0, 4, 0), -1);
        due("burnt, ways", t.cut(0, 4, 2), -1);
        t.stand(4, 1);
        due("cut", t.cut(0, 5, 0), 1);
        due("lowest", t.cut(0, 5, 1), 8);
        due("ways", t.cut(0, 5, 2), 2);
        due("cut of two", t.cut(0, 3, 0), 2);
        due("cut of two, which", t.cut(0, 3, 1), 6);
        due("cut of two, ways", t.cut(0, 3, 2), 1);
        due("beside one another", t.cut(0, 1, 0), -1);
        due("beside one another, which", t.cut(0, 1, 1), -1);
        due("beside one another, ways", t.cut(0, 1, 2), 0);
        due("the same", t.cut(1, 1, 2), -1);
        due("no such", t.cut(1, 6, 2), -1);
        due("what 3", t.cut(0, 5, 3), -1);
        due("what -1", t.cut(0, 5, -1), -1);
        inForce(t, "bars if from < to");
        due("cut where one does not come", t.cut(0, 5, 0), 0);
        due("cut back", t.cut(5, 0, 1), 8);
    }

    /** Two houses between which just so many others are. */
    private static CornerTown between(int many) {
        CornerTown t = new CornerTown();
        t.house(3, 3, 1, 1, 0);
        t.house(0, 7, 1, 1, 0);
        int[][] places = {{2, 2}, {4, 4}, {2, 4}, {4, 2}, {7, 0}};
        for (int i = 0; i < many; i++) {
            t.house(places[i][0], places[i][1], 1, 1, 0);
            t.door(i + 2, 1);
        }
        if (many == 5) {
            t.door(0, 6);
        }
        return t;
    }

    private static void cutsOfMany() {
        promise = 24;
        for (int many = 0; many <= 4; many++) {
            CornerTown t = between(many);
            due("cut of " + many, t.cut(0, 1, 0), many);
            due("which of " + many, t.cut(0, 1, 1), ((1 << many) - 1) << 2);
            due("ways of " + many, t.cut(0, 1, 2), 1);
        }
        CornerTown t = between(5);
        due("not with 4", t.cut(0, 1, 0), -1);
        due("not with 4", t.cut(0, 1, 1), -1);
        due("not with 4, ways", t.cut(0, 1, 2), 0);
    }

    private static void wishes() {
        promise = 25;
        CornerTown t = apart(6);
        due("wish", t.wish(0, 1, 1), 1);
        due("ban", t.wish(0, 2, 0), 1);
        due("is 2", t.wish(0, 2, 2), -1);
        due("is -1", t.wish(9, 9, -1), -1);
        due("no such", t.wish(0, 6, 1), -2);
        due("no such, the same", t.wish(6, 6, 1), -2);
        due("the same", t.wish(3, 3, 0), -3);
        due("wish 2", t.wish(1, 0, 1), 2);
        due("wish 3", t.wish(0, 1, 1), 3);
        due("wish 4", t.wish(0, 1, 1), 4);
        due("wish 5", t.wish(0, 1, 1), -5);
        due("ban 2", t.wish(0, 2, 0), 2);
        due("-3 ahead of -5", t.wish(1, 1, 1), -3);
        due("wishes", t.count(4), 4);
        due("bans", t.count(5), 2);
        promise = 26;
        due("clear", t.clear(), 6);
        due("clear", t.clear(), 0);
        due("wishes", t.count(4), 0);
        due("bans", t.count(5), 0);
        due("status stays", t.status(), -3);
    }

    private static void newDoors() {
        promise = 27;
        CornerTown t = apart(6);
        t.wish(0, 1, 1);
        t.wish(2, 3, 1);
        t.wish(0, 4, 0);
        int[] two = {2, 0, 1, 2, 3, 1};
        for (int i = 0; i < two.length; i++) {
            due("doors " + i, t.doors(i), two[i]);
        }
        due("doors 6", t.doors(6), -1);
        due("doors -1", t.doors(-1), -1);
        t.door(3, 2);
        int[] one = {1, 0, 1, -1, -1, 1};
        for (int i = 0; i < one.length; i++) {
            due("doors " + i, t.doors(i), one[i]);
        }
        t.door(0, 1);
        int[] none = {0, -1, -1, -1, -1, 1};
        for (int i = 0; i < none.length; i++) {
            due("doors " + i, t.doors(i), none[i]);
        }
        t.clear();
        t.wish(0, 5, 1);
        t.wish(5, 2, 1);
        due("two, by trees of three parts", t.doors(0), 2);
        due("first", t.doors(1) * 1000 + t.doors(2) * 100 + t.doors(3) * 10 + t.doors(4), 205);
        due("ways", t.doors(5), 4 + 8 + 8);
        t.wish(0, 4, 1);
        int[] not = {-1, -1, -1, -1, -1, 0};
        for (int i = 0; i < not.length; i++) {
            due("not with 2: doors " + i, t.doors(i), not[i]);
        }
        t.clear();
        t.wish(0, 5, 1);
        t.door(0, 2);
        t.door(2, 4);
        t.door(1, 3);
        t.door(1, 4);
        due("no room", t.count(2), 6);
        due("room or not", t.doors(0), 1);
        t.stand(5, 0);
        due("a burnt one", t.doors(0), -1);
        due("a burnt one, ways", t.doors(5), 0);
        t.clear();
        t.wish(0, 5, 0);
        due("a ban of a burnt one", t.doors(0), 0);
        CornerTown oneWay = apart(12);
        inForce(oneWay, "bars if from > to");
        oneWay.wish(10, 11, 1);
        due("a door for one way", oneWay.doors(0), 1);
        due("a door for one way, first", oneWay.doors(1), 10);
        due("a door for one way, other", oneWay.doors(2), 11);
        due("a door for one way, ways", oneWay.doors(5), 1);
        oneWay.clear();
        oneWay.wish(0, 11, 1);
        due("one door is fewer", oneWay.doors(0), 1);
        oneWay.wish(0, 10, 1);
        due("two doors", oneWay.doors(0), 2);
        due("two doors, ways", oneWay.doors(5), 2);
        due("two doors, first", oneWay.doors(1) * 1000 + oneWay.doors(2) * 100 + oneWay.doors(3) * 10 + oneWay.doors(4),
            0 * 1000 + 10 * 100 + 0 * 10 + 11);
        oneWay.clear();
        oneWay.wish(11, 0, 1);
        due("never back", oneWay.doors(0), -1);
        CornerTown shut = line(3);
        shut.wish(0, 2, 0);
        due("no door ends it", shut.doors(0), -1);
        inForce(shut, "bars if door = 1");
        due("a door that bars", shut.doors(0), 1);
        due("first", shut.doors(1) * 10 + shut.doors(2), 1);
        due("ways", shut.doors(5), 2);
    }

    private static void news() {
        promise = 28;
        CornerTown t = diamond();
        due("news at itself", t.news(1, 0), 0);
        due("news far", t.news(1, 5), 4);
        due("news of two", t.news(1 + 16, 3), 1);
        due("news of none", t.news(0, 3), -1);
        due("no such", t.news(1, 6), -1);
        due("no such", t.news(1, -1), -1);
        due("all houses", t.news(63, 3), 0);
        due("a bit of no house", t.news(1 << 6 | 1, 3), -1);
        due("a bit of no house, at itself", t.news(1 << 6 | 1, 0), -1);
        due("a bit of no house alone", t.news(1 << 6, 0), -1);
        due("a bit beyond houses", t.news(1 << 12 | 1, 0), -1);
        due("the highest bit", t.news(1 << 31 | 1, 0), -1);
        due("below 0", t.news(-1, 0), -1);
        inForce(t, "bars if from < 1");
        due("barred", t.news(1, 5), -1);
        due("barred, at itself", t.news(1, 0), 0);
        t.force(-1);
        t.stand(0, 0);
        due("burnt ones do not count", t.news(1, 0), -1);
        due("burnt ones do not count", t.news(1, 3), -1);
        due("burnt ones do not count", t.news(1 + 2, 3), 1);
        due("a burnt one, and a bit of no house", t.news(1 + 2 + 64, 3), -1);
        due("to a burnt one", t.news(2, 0), -1);
        inForce(t, "bars if hour > 12 or day > 5");
        due("hour, day as told", t.news(2, 5), 3);
        t.terms(1, 5);
        due("the day does not go on", t.news(2, 5), 3);
        t.terms(0, 13);
        due("hour 13", t.news(2, 5), -1);
    }

    private static void logs() {
        promise = 29;
        CornerTown t = diamond();
        due("log", t.log(0, 0), 1);
        due("day 100", t.log(0, 100), -1);
        due("day -2", t.log(9, -2), -1);
        due("no such", t.log(6, 0), -2);
        due("log", t.log(0, 99), 2);
        due("log", t.log(5, -1), 3);
        for (int i = 4; i <= 8; i++) {
            due("log " + i, t.log(0, 0), i);
        }
        due("log 9", t.log(0, 0), -5);
        due("-2 ahead of -5", t.log(6, 0), -2);
        due("logs", t.count(6), 8);
        promise = 31;
        due("wrong", t.wrong(0), 2);
        due("wrong of 3", t.wrong(3), 8);
        promise = 30;
        due("forget", t.forget(), 8);
        due("forget", t.forget(), 0);
        due("logs", t.count(6), 0);
        promise = 31;
        due("none wrong", t.wrong(0), 0);
        due("no such", t.wrong(6), -1);
        t.log(3, 2);
        t.log(5, 4);
        t.log(1, 1);
        due("all so", t.wrong(0), 0);
        due("not so", t.wrong(1), 3);
        t.stand(4, 0);
        due("burnt between", t.wrong(0), 1);
        t.stand(0, 0);
        due("at a burnt one", t.wrong(0), 3);
        t.log(2, -1);
        due("never is so", t.wrong(0), 3);
    }

    private static void fits() {
        promise = 32;
        CornerTown t = diamond();
        t.log(5, 2);
        t.log(3, 2);
        due("as is", t.fits(0, 0), 0);
        due("single doors", t.fits(0, 1), 3);
        due("first", t.fits(0, 2) * 10 + t.fits(0, 3), 4);
        due("what 4", t.fits(0, 4), -1);
        due("what -1", t.fits(0, -1), -1);
        due("no such", t.fits(6, 0), -1);
        due("another", t.fits(1, 1), 0);
        due("another, none", t.fits(1, 2), -1);
        due("another, none", t.fits(1, 3), -1);
        t.forget();
        t.log(3, 2);
        due("as is", t.fits(0, 0), 1);
        due("doors that change nothing for it", t.fits(0, 1), 15 - 1);
        due("first of them", t.fits(0, 2) * 10 + t.fits(0, 3), 1);
        t.stand(5, 0);
        due("burnt houses are houses", t.fits(0, 1), 15 - 1);
        t.forget();
        due("without logs", t.fits(0, 1), 15);
        t.door(0, 1);
        due("without logs, a door", t.fits(0, 1), 14);
        due("first", t.fits(0, 2) * 10 + t.fits(0, 3), 2);
    }

    private static void rounds() {
        promise = 33;
        CornerTown t = diamond();
        due("round", t.round(0, 1 << 5), 8);
        due("of none", t.round(0, 0), 0);
        due("all", t.round(0, 62), 8);
        due("home is one", t.round(0, 3), -1);
        due("no such home", t.round(6, 1), -1);
        due("no such home", t.round(-1, 1), -1);
        due("no such errand", t.round(0, 64), -1);
        due("no such errand", t.round(0, -2), -1);
        promise = 34;
        int[] order = {1, 3, 4, 5, 2};
        for (int i = 0; i < order.length; i++) {
            due("stop " + i, t.stop(0, 62, i), order[i]);
        }
        due("stop 5", t.stop(0, 62, 5), -1);
        due("stop -1", t.stop(0, 62, -1), -1);
        due("stop of none", t.stop(0, 0, 0), -1);
        due("stop of no round", t.stop(0, 3, 0), -1);
        inForce(t, "takes 9 if from = 0 and to = 1");
        due("another order", t.stop(0, 6, 0), 2);
        due("another order", t.stop(0, 62, 0), 2);
        due("another order", t.stop(0, 62, 4), 1);
        promise = 33;
        due("takes", t.round(0, 62), 8);
        inForce(t, "bars if to = 0");
        due("not home", t.round(0, 2), -1);
        due("not home, none", t.round(0, 0), 0);
        CornerTown twelve = new CornerTown();
        for (int i = 0; i < 12; i++) {
            twelve.house(i % 6 + i / 6, i % 6, 1, 1, 0);
        }
        twelve.door(0, 6);
        due("of eleven", twelve.round(0, 4094), 22);
        due("the tenth of eleven", twelve.stop(0, 4094, 9), 10);
        due("the last of eleven", twelve.stop(0, 4094, 10), 11);
        due("from the last", twelve.round(11, 2047), 22);
        due("from the last, the first", twelve.stop(11, 2047, 0), 0);
        t.force(-1);
        t.stand(4, 0);
        due("not all", t.round(0, 1 << 5 | 2), -1);
        due("a burnt one", t.round(0, 16), -1);
        due("from a burnt one", t.round(4, 0), -1);
    }

    private static void meeting() {
        promise = 35;
        CornerTown t = diamond();
        due("meet", t.meet(0, 5, 0), 3);
        due("when", t.meet(0, 5, 1), 2);
        due("the lowest of alike", t.meet(0, 3, 0), 1);
        due("itself", t.meet(4, 4, 0), 4);
        due("itself, when", t.meet(4, 4, 1), 0);
        due("beside one another", t.meet(5, 4, 0), 4);
        due("beside one another, when", t.meet(5, 4, 1), 1);
        due("what 2", t.meet(0, 5, 2), -1);
        due("what -1", t.meet(0, 5, -1), -1);
        due("no such", t.meet(0, 6, 0), -1);
        due("no such", t.meet(-1, 0, 0), -1);
        inForce(t, "takes 3 if from = 5");
        due("the slow one goes less", t.meet(0, 5, 0), 4);
        due("the slow one goes less, when", t.meet(0, 5, 1), 3);
        inForce(t, "takes 2 if from = 3");
        due("the sum is least", t.meet(0, 3, 0), 3);
        due("the sum is least, turned", t.meet(3, 0, 0), 3);
        due("the sum is least, when", t.meet(0, 3, 1), 2);
        inForce(t, "bars if from > to");
        due("one goes alone", t.meet(0, 5, 0), 5);
        due("one goes alone, when", t.meet(0, 5, 1), 4);
        t.force(-1);
        t.stand(3, 0);
        due("not", t.meet(0, 5, 0), -1);
        due("not, when", t.meet(0, 5, 1), -1);
        due("burnt", t.meet(3, 3, 0), -1);
    }

    private static void sites() {
        promise = 36;
        CornerTown t = new CornerTown();
        t.house(3, 3, 2, 2, 0);
        t.house(0, 0, 1, 1, 0);
        due("corners", t.site(1, 1, 1, 0, 0), 4);
        due("x of the first", t.site(1, 1, 1, 0, 1), 2);
        due("y of the first", t.site(1, 1, 1, 0, 2), 2);
        due("both friends", t.site(2, 2, 3, 0, 0), 1);
        due("both friends, x", t.site(2, 2, 3, 0, 1), 1);
        due("both friends, y", t.site(2, 2, 3, 0, 2), 1);
        due("no friends", t.site(1, 1, 0, 0, 0), 64 - 5);
        due("no friends, x", t.site(1, 1, 0, 0, 1), 1);
        due("no friends, y", t.site(1, 1, 0, 0, 2), 0);
        due("foe", t.site(1, 1, 0, 1, 0), 64 - 16 - 1);
        due("foe in the corner", t.site(1, 1, 0, 2, 0), 64 - 4 - 4);
        due("foe in the corner, x", t.site(1, 1, 0, 2, 1), 2);
        due("friend and foe", t.site(1, 1, 1, 1, 0), 0);
        due("friend and foe, x", t.site(1, 1, 1, 1, 1), -1);
        due("friend and foe, y", t.site(1, 1, 1, 1, 2), -1);
        due("3 by 3, free plots alone", t.site(3, 3, 1, 0, 0), 3);
        due("3 by 3, and a foe", t.site(3, 3, 1, 2, 0), 3);
        due("by y, then x", t.site(3, 3, 1, 2, 1) * 10 + t.site(3, 3, 1, 2, 2), 50);
        due("wide 0", t.site(0, 1, 0, 0, 0), -1);
        due("wide 4", t.site(4, 1, 0, 0, 0), -1);
        due("deep 0", t.site(1, 0, 0, 0, 0), -1);
        due("deep 4", t.site(1, 4, 0, 0, 0), -1);
        due("what 3", t.site(1, 1, 0, 0, 3), -1);
        due("what -1", t.site(1, 1, 0, 0, -1), -1);
        due("no such friend", t.site(1, 1, 4, 0, 0), -1);
        due("no such foe", t.site(1, 1, 0, -4, 0), -1);
        t.stand(1, 0);
        due("burnt friend", t.site(1, 1, 2, 0, 0), -1);
        due("burnt foe", t.site(1, 1, 0, 2, 0), -1);
        due("burnt plots are its own", t.site(1, 1, 0, 0, 0), 64 - 5);
    }

    private static void floods() {
        promise = 37;
        CornerTown t = line(3);
        long s = 7;
        int[] water = new int[40];
        int[] parts = new int[40];
        int most = 0;
        for (int i = 0; i < 40; i++) {
            for (int h = 0; h < 3; h++) {
                s = (s * 1103 + 12345) % 1000003;
                water[i] |= s % 4 == 0 ? 1 << h : 0;
            }
            int[] of = {1, 1, 2, 1, 1, 1, 1, 0};
            parts[i] = of[water[i]];
            most = Math.max(most, parts[i]);
        }
        due("most", t.flood(7, 40), most);
        promise = 38;
        for (int i = 0; i < 40; i++) {
            due("water " + i, t.flooded(i, 0), water[i]);
            due("parts " + i, t.flooded(i, 1), parts[i]);
        }
        due("day 40", t.flooded(40, 0), -1);
        due("day -1", t.flooded(-1, 1), -1);
        due("what 2", t.flooded(0, 2), -1);
        due("what -1", t.flooded(0, -1), -1);
        promise = 37;
        due("seed -1", t.flood(-1, 1), -1);
        due("seed beyond", t.flood(1000001, 1), -1);
        due("n 0", t.flood(1, 0), -1);
        due("n 41", t.flood(1, 41), -1);
        due("status", t.status(), -1);
        due("kept", t.flooded(39, 0), water[39]);
        due("highest seed", t.flood(1000000, 1), t.flooded(0, 1));
        due("one day now", t.flooded(1, 0), -1);
        due("status", t.status(), 0);
        t.stand(0, 0);
        t.stand(1, 0);
        // the one that stands has the first draw: 2 gives 14551, 1 gives 13448, which is 0 modulo 4
        due("draws for those that stand", t.flood(1, 1), 0);
        due("under water", t.flooded(0, 0), 4);
        due("not under water", t.flood(2, 1), 1);
        due("none", t.flooded(0, 0), 0);
        CornerTown days = line(2);
        inForce(days, "bars if day > 99");
        days.terms(1, 98);
        int n = 0;
        days.flood(3, 40);
        for (int i = 0; i < 40; i++) {
            if (days.flooded(i, 0) == 0) {
                n++;
                due("parts by the day " + i, days.flooded(i, 1), 98 + i > 99 ? 2 : 1);
            }
        }
        due("some days without water", n > 10 ? 1 : 0, 1);
        due("the day stays", days.count(15), 98);
        due("no houses", new CornerTown().flood(0, 5), 0);
    }

    private static void images() {
        promise = 39;
        CornerTown t = diamond();
        inForce(t, "takes 5");
        t.door(0, 5);
        t.wish(0, 1, 1);
        t.wish(0, 2, 0);
        t.log(0, 3);
        t.terms(0, 1);
        t.terms(1, 2);
        due("image", t.image(0), 0);
        due("image 2", t.image(2), -1);
        due("image -1", t.image(-1), -1);
        promise = 40;
        due("back 1", t.back(1), -2);
        due("back 2", t.back(2), -1);
        due("back -1", t.back(-1), -1);
        t.house(7, 7, 1, 1, 9);
        t.rank(0, 8);
        t.stand(1, 0);
        t.wall(0, 5);
        t.door(1, 2);
        t.door(3, 6);
        inForce(t, "bars");
        t.clear();
        t.wish(3, 1, 0);
        t.forget();
        t.terms(0, 2);
        t.terms(1, 3);
        law(t, "x");
        t.flood(5, 3);
        int water = t.flooded(2, 0);
        t.feed(1, 2, 3, 4, 5);
        t.image(1);
        int refused = t.count(8);
        due("back 0", t.back(0), 0);
        int[] counts = {6, 6, 1, 1, 1, 1, 1, 20};
        for (int i = 0; i < counts.length; i++) {
            due("count " + i, t.count(i), counts[i]);
        }
        due("refusals are not gone back to", t.count(8), refused);
        due("law in force", t.count(13), 0);
        due("hour", t.count(14), 1);
        due("day", t.count(15), 2);
        due("rank", t.of(0, 4), 0);
        due("stands", t.of(1, 5), 1);
        due("house 6", t.of(6, 0), -1);
        due("at", t.at(7, 7), -1);
        due("visits", t.visits(0), 2 + 4 + 32);
        due("takes", t.visit(0, 1, 1), 5);
        due("log", t.wrong(0), 1);
        due("fault stays", t.fault(), 0);
        due("floods stay", t.flooded(2, 0), water);
        due("law 1 is new again", law(t, "takes 7"), 1);
        due("back 1", t.back(1), 0);
        due("houses", t.count(0), 7);
        due("law 1 as it was", t.visit(0, 2, 2), 1);
        due("in force", t.count(13), 1);
        due("laws", t.count(3), 2);
        due("bans", t.count(5), 1);
        due("doors", t.count(2), 2);
        t.terms(0, 20);
        due("back 1 again", t.back(1), 0);
        due("hour", t.count(14), 2);
        due("image 1 anew", t.image(1), 0);
        due("back 0", t.back(0), 0);
        due("ranks", t.of(0, 4), 0);
        due("houses", t.count(0), 6);
    }

    /** Two towns that have nothing in common, each in its image. */
    private static void imagesApart() {
        promise = 40;
        CornerTown t = new CornerTown();
        t.image(0);
        t.house(0, 0, 3, 2, 5);
        t.house(3, 2, 1, 1, 6);
        inForce(t, "takes 40");
        t.wish(0, 1, 0);
        t.log(1, 1);
        t.image(1);
        t.back(0);
        due("no houses", t.count(0), 0);
        due("no laws", t.count(3), 0);
        t.house(6, 5, 1, 3, 1);
        t.house(5, 4, 1, 1, 2);
        inForce(t, "takes 50");
        t.wish(1, 0, 1);
        t.wish(1, 0, 0);
        t.log(0, 4);
        t.image(0);
        t.back(1);
        int[] first = {0, 0, 3, 2, 5, 1};
        for (int i = 0; i < first.length; i++) {
            due("of 0 " + i, t.of(0, i), first[i]);
        }
        due("law 0", t.visit(0, 1, 1), 40);
        due("a ban alone", t.doors(0), -1);
        due("log", t.wrong(0), 0);
        t.back(0);
        int[] second = {6, 5, 1, 3, 1, 1};
        for (int i = 0; i < second.length; i++) {
            due("of 0 " + i, t.of(0, i), second[i]);
        }
        due("law 0", t.visit(0, 1, 1), 50);
        due("wishes", t.count(4), 1);
        due("log", t.wrong(0), 1);
    }

    private static void countsAndStatus() {
        promise = 41;
        CornerTown t = new CornerTown();
        due("count 16", t.count(16), -1);
        due("count -1", t.count(-1), -1);
        t.rank(0, 10);
        t.rank(0, 1);
        t.stand(0, 1);
        t.house(0, 0, 1, 1, 0);
        t.house(0, 0, 1, 1, 0);
        t.door(0, 0);
        t.wish(0, 0, 1);
        t.row();
        int[] refused = {1, 2, 3, 0, 1};
        for (int i = 0; i < refused.length; i++) {
            due("count " + (8 + i), t.count(8 + i), refused[i]);
        }
        t.of(5, 5);
        t.visits(9);
        t.end(-1);
        t.flooded(0, 0);
        due("answers of none are not refusals", t.count(8) + t.count(9), 3);
        promise = 42;
        due("status of row", t.status(), -6);
        t.clear();
        t.forget();
        t.feed(0, 0, 0, 0, 0);
        t.end(0);
        t.at(9, 9);
        t.parts(-1);
        due("status stays", t.status(), -6);
        t.law();
        due("law", t.status(), -6);
        t.terms(0, 0);
        due("terms", t.status(), 0);
        t.terms(5, 0);
        due("terms", t.status(), -1);
        t.stand(0, 1);
        due("stand", t.status(), 0);
        t.force(3);
        due("force", t.status(), -2);
        t.house(1, 1, 1, 1, 0);
        due("house", t.status(), 0);
        t.wall(0, 1);
        due("wall", t.status(), -3);
        t.door(0, 1);
        due("door", t.status(), 0);
        t.log(0, 100);
        due("log", t.status(), -1);
        t.wish(0, 1, 1);
        due("wish", t.status(), 0);
        t.back(0);
        due("back", t.status(), -2);
        t.image(0);
        due("image", t.status(), 0);
        t.flood(-1, 1);
        due("flood", t.status(), -1);
        t.back(0);
        due("back", t.status(), 0);
        t.rank(5, 5);
        due("rank", t.status(), -2);
        t.log(0, 1);
        due("log", t.status(), 0);
    }

    public static void main(String[] args) {
        newObject();
        houses();
        ofRankStandAt();
        termsDoors();
        tape();
        rows();
        laws();
        touching();
        visiting();
        coming();
        partsHoldersCuts();
        cutsOfMany();
        wishes();
        newDoors();
        news();
        logs();
        fits();
        rounds();
        meeting();
        sites();
        floods();
        images();
        imagesApart();
        countsAndStatus();
        System.out.println(wrong == 0 ? "all promises are kept" : wrong + " answers are not as due");
        if (wrong != 0) {
            System.exit(1);
        }
    }
}
