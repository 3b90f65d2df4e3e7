/** Floods, images, counts and status: section IV of the document and the promises 37 to 42. */
final class FloodEdges {
    private static final String DRAW = "FLOODS with a SEED, n days: s is the SEED (0 .. 1,000,000); a DRAW of m: s becomes (s times 1103 and"
        + " 12345) modulo 1,000,003, it is s modulo m";
    private static final String WATER = "Each day HOUSE by HOUSE that stands a DRAW of 4 that is 0: it is under water that day (as if burnt"
        + " down): how many PARTS the others are in then (day DAY and how many days on)";
    private static final String IMAGES = "IMAGES 0, 1 keep all but the TAPE, FAULT, RUIN, the latest FLOODS; BACK to one all that it keeps is as"
        + " it was then (IMAGES stay)";

    private FloodEdges() {
    }

    static void ask() {
        draws();
        water();
        daysOfFloods();
        imagesKeep();
        imagesApart();
        imagesDoNotKeep();
        twoImages();
        promisesOfFloods();
        promisesOfImages();
        counts();
        status();
        statusStays();
        calls();
    }

    /** What flooded answers of each day: houses under water, and parts. */
    private static String[] days(int... due) {
        String[] all = new String[due.length];
        for (int i = 0; i < due.length; i++) {
            all[i] = "flooded " + i / 2 + " " + i % 2 + " -> " + due[i];
        }
        return all;
    }

    private static void draws() {
        Edge.says("IV", DRAW, Edge.rows(Edge.line(3), "flood -1 6 -> -1", "flood 1000001 6 -> -1", "flooded 0 0 -> -1", "flood 0 6 -> 2",
            days(0, 1, 2, 2, 0, 1, 1, 1, 2, 2, 2, 2), "flood 1 6 -> 2", days(1, 1, 0, 1, 0, 1, 5, 1, 5, 1, 2, 2), "flood 999999 6 -> 2",
            days(2, 2, 4, 1, 0, 1, 5, 1, 0, 1, 4, 1), "flood 1000000 6 -> 2", days(1, 1, 6, 1, 2, 2, 1, 1, 3, 1, 0, 1)));
        // The seeds whose first draw is the lowest and the highest that there is: 0 is 0 of 4, 1000002 is 2 of 4.
        Edge.says("IV", DRAW, "house 0 0 1 1 0", "flood 870345 1 -> 0", "flooded 0 0 -> 1", "flood 327279 1 -> 1", "flooded 0 0 -> 0",
            "flood 784216 1 -> 1", "flooded 0 0 -> 0", "flood 4 1 -> 1", "flood 5 1 -> 0");
    }

    private static void water() {
        Edge.says("IV", WATER, Edge.rows(Edge.line(3), "flood 495 3 -> 2", days(0, 1, 2, 2, 7, 0), "flooded 3 0 -> -1", "of 1 5 -> 1",
            "count 1 -> 3", "parts -1 -> 1"));
        Edge.says("IV", WATER, Edge.rows(Edge.apart(12), "flood 0 3 -> 11", days(528, 10, 18, 10, 4, 11), "flood 6 1 -> 12", days(0, 12),
            "flood 190 1 -> 11", days(2048, 11)));
        // Those that are burnt down have no draw and are under no water.
        Edge.says("IV", WATER, Edge.rows(Edge.line(3), "stand 0 0", "stand 1 0", "flood 1 1 -> 0", days(4, 0), "flood 2 1 -> 1", days(0, 1),
            "stand 2 0", "flood 1 1 -> 0", days(0, 0), "stand 0 1", "flood 1 1 -> 0", days(1, 0)));
        // Visits go one way, and doors count: parts are those of promise 22.
        Edge.says("IV", WATER, Edge.rows(Edge.apart(3), "door 0 1", "flood 6 1 -> 2", days(0, 2), "law |bars if from>to|", "force 0",
            "flood 6 1 -> 3", days(0, 3)));
    }

    private static void daysOfFloods() {
        // Seed 4 leaves two houses dry for four days.
        Edge.says("IV", WATER, Edge.rows(Edge.line(2), "law |bars if day=0|", "law |bars if day=3|", "law |bars if day=4|", "law |bars if day=100|",
            "law |bars if hour=12|", "force 0", "flood 4 4 -> 2", days(0, 2, 0, 1, 0, 1, 0, 1), "force 1", "flood 4 4 -> 2",
            days(0, 1, 0, 1, 0, 1, 0, 2), "force 2", "flood 4 4 -> 1", days(0, 1, 0, 1, 0, 1, 0, 1), "terms 1 98", "force 3",
            "flood 4 4 -> 2", days(0, 1, 0, 1, 0, 2, 0, 1), "count 15 -> 98", "force 0", "flood 4 4 -> 1",
            days(0, 1, 0, 1, 0, 1, 0, 1), "force 4", "flood 4 4 -> 2", days(0, 2, 0, 2, 0, 2, 0, 2)));
        // The last of forty days is the day DAY and 39.
        Edge.says("IV", WATER, Edge.rows("house 0 0 1 1 0", "house 1 1 1 1 0", "law |bars if day=138|", "force 0", "terms 1 99", "flood 11 40 -> 2",
            "flooded 38 0 -> 0", "flooded 38 1 -> 1", "flooded 39 0 -> 0", "flooded 39 1 -> 2", "flooded 40 1 -> -1", "terms 1 98",
            "flood 11 40 -> 1", "flooded 39 1 -> 1"));
    }

    private static void imagesKeep() {
        Edge.says("IV", IMAGES, Edge.rows("house 0 0 1 1 3", "house 1 1 1 1 4", "image 0", "house 2 2 1 1 5", "rank 0 9", "stand 1 0", "back 0 -> 0",
            "count 0 -> 2", "of 0 4 -> 3", "of 1 5 -> 1", "of 2 0 -> -1", "at 2 2 -> -1", "visits 0 -> 2", "parts -1 -> 1",
            "house 2 2 2 2 6 -> 2", "of 2 2 -> 2", "of 2 4 -> 6", "back 0 -> 0", "count 0 -> 2", "house 5 5 1 1 7 -> 2", "of 2 0 -> 5",
            "touch 1 2 -> 0"));
        Edge.says("IV", IMAGES, Edge.rows(Edge.apart(3), "door 0 1", "terms 0 5", "terms 1 6", "image 1", "door 1 2", "wall 0 1", "terms 0 7",
            "terms 1 8", "back 1 -> 0", "count 2 -> 1", "visit 0 1 0 -> 1", "visit 1 2 0 -> 0", "count 14 -> 5", "count 15 -> 6",
            "door 0 1 -> -3", "wall 1 2 -> -3", "door 1 2 -> 2"));
        Edge.says("IV", IMAGES, Edge.rows(Edge.line(2), "law |takes 5|", "force 0", "image 0", "law |takes 6|", "force 1", "visit 0 1 1 -> 6",
            "back 0 -> 0", "count 3 -> 1", "count 13 -> 0", "visit 0 1 1 -> 5", "force 1 -> -2", "law |takes 7| -> 1", "force 1 -> 0",
            "visit 0 1 1 -> 7", "image 1", "back 0", "count 3 -> 1", "visit 0 1 1 -> 5", "back 1", "count 3 -> 2", "count 13 -> 1",
            "visit 0 1 1 -> 7"));
        Edge.says("IV", IMAGES, Edge.rows(Edge.apart(3), "wish 0 1 1", "wish 0 2 0", "log 1 1", "image 0", "clear -> 2", "forget -> 1", "wish 2 1 1",
            "wish 2 0 1", "log 0 0", "log 0 0", "back 0 -> 0", "count 4 -> 1", "count 5 -> 1", "count 6 -> 1", "doors 1 -> 0",
            "doors 2 -> 1", "doors 5 -> 1", "fits 0 1 -> 1", "fits 0 3 -> 1", "wrong 0 -> 1", "clear -> 2", "forget -> 1"));
    }

    /** Two towns with nothing in common, each in its image. */
    private static void imagesApart() {
        Edge.says("IV", IMAGES, Edge.rows("image 0", "house 0 0 3 2 5", "house 3 2 1 3 6", "house 5 0 1 1 0", "law |takes 40|", "law |takes 41|",
            "force 1", "door 0 2", "door 1 2", "wish 0 1 0", "log 1 1", "visits 0 -> 6", "image 1", "back 0", "count 0 -> 0", "count 2 -> 0",
            "count 3 -> 0", "house 6 5 1 3 1", "house 5 4 1 1 2", "law |takes 50|", "force 0", "wish 1 0 1", "wish 1 0 0", "log 0 4",
            "log 0 3", "visits 0 -> 2", "count 2 -> 0", "image 0", "back 1", "of 0 0 -> 0", "of 0 1 -> 0", "of 0 2 -> 3", "of 0 3 -> 2",
            "of 0 4 -> 5", "of 1 0 -> 3", "of 1 1 -> 2", "of 1 2 -> 1", "of 1 3 -> 3", "at 2 1 -> 0", "at 6 5 -> -1", "visits 0 -> 6",
            "visit 0 1 1 -> 41", "force 0 -> 1", "visit 0 1 1 -> 40", "count 2 -> 2", "doors 0 -> -1", "wrong 0 -> 0", "count 3 -> 2",
            "back 0", "of 0 0 -> 6", "of 0 1 -> 5", "of 0 2 -> 1", "of 0 3 -> 3", "of 0 4 -> 1", "of 2 0 -> -1", "visits 0 -> 2",
            "visit 0 1 1 -> 50", "count 2 -> 0", "count 4 -> 1", "count 5 -> 1", "wrong 0 -> 2", "door 0 1 -> 1"));
    }

    private static void imagesDoNotKeep() {
        Edge.says("IV", IMAGES, "bytes 0 0 1 1 0 2 0 1 1 0", "image 0", "end 5", "back 0 -> 0", "count 7 -> 5", "row -> 1", "count 7 -> 0",
            "back 0 -> 0", "count 0 -> 0", "count 7 -> 0", "row -> -6");
        Edge.says("IV", IMAGES, "law |bars x| -> -6", "image 0", "law |bars| -> 0", "back 0 -> 0", "fault -> -1", "count 3 -> 0", "law |x| -> -6",
            "back 0 -> 0", "fault -> 0");
        Edge.says("IV", IMAGES, "bytes 9 9 9 9 9", "row -> 0", "image 0", "bytes 9 9 9 9 9 9", "row -> 0", "ruin -> 2", "back 0 -> 0", "ruin -> 2",
            "bytes 0 0 1 1 0", "row -> 1", "ruin -> 0", "back 0 -> 0", "ruin -> 0", "count 0 -> 0");
        Edge.says("IV", IMAGES, Edge.rows(Edge.line(3), "image 0", "flood 495 3 -> 2", "back 0 -> 0", days(0, 1, 2, 2, 7, 0), "flooded 3 0 -> -1",
            "flood 1 1 -> 1", "back 0 -> 0", days(1, 1), "flooded 1 0 -> -1"));
        Edge.says("IV", IMAGES, "terms 2 0 -> -1", "rank 0 0 -> -2", "image 0", "terms 2 0 -> -1", "row -> -6", "back 0 -> 0", "count 8 -> 2",
            "count 9 -> 1", "count 12 -> 1");
        Edge.says("IV", "The constants: `NONE = -1`: There is none", "count " + CornerTown.NONE + " -> -1", "parts " + CornerTown.NONE + " -> 0",
            "force " + CornerTown.NONE + " -> -1");
    }

    private static void twoImages() {
        Edge.says("IV", IMAGES, "house 0 0 1 1 1", "image 0", "house 2 0 1 1 2", "image 1", "house 4 0 1 1 3", "back 0 -> 0", "count 0 -> 1",
            "back 1 -> 0", "count 0 -> 2", "of 1 4 -> 2", "back 1 -> 0", "count 0 -> 2", "back 0 -> 0", "count 0 -> 1", "rank 0 7",
            "image 0 -> 0", "back 1", "of 0 4 -> 1", "back 0", "of 0 4 -> 7", "count 0 -> 1", "image 1 -> 0", "back 1", "count 0 -> 1");
        // What changes behind an image does not change it, though it be gone back to many times.
        Edge.says("IV", IMAGES, "image 0", "house 0 0 1 1 1", "back 0", "count 0 -> 0", "house 7 7 1 1 2 -> 0", "back 0", "count 0 -> 0",
            "at 7 7 -> -1", "house 0 0 1 1 1 -> 0", "terms 0 3 -> 12", "back 0", "terms 0 4 -> 12", "law |bars| -> 0", "back 0",
            "law |takes 2| -> 0", "back 0", "count 3 -> 0", "back 1 -> -2");
    }

    private static void promisesOfFloods() {
        Edge.says("37", "FLOODS, n 1 .. 40 days, kept as the latest: the most PARTS on any day", Edge.rows(Edge.line(3), "flood 0 1 -> 1",
            "flooded 0 1 -> 1", "flooded 1 1 -> -1", "flood 0 2 -> 2", "flooded 1 1 -> 2", "flooded 2 1 -> -1", "flood 0 39",
            "flooded 38 0 -> 2", "flooded 39 0 -> -1", "flood 0 40", "flooded 38 0 -> 2", "flooded 39 0 -> 4", "flooded 40 0 -> -1",
            "flood 0 1 -> 1", "flooded 1 0 -> -1", "flooded 39 0 -> -1"));
        Edge.says("37", "-1", Edge.rows(Edge.line(3), "flood 0 0 -> -1", "flooded 0 0 -> -1", "flood 0 41 -> -1", "flood -1 1 -> -1",
            "flood 1000001 1 -> -1", "flood 0 -1 -> -1", "flood -2147483648 1 -> -1", "flood 2147483647 1 -> -1",
            "flood 0 2147483647 -> -1", "flood 0 -2147483648 -> -1", "flooded 0 1 -> -1", "flood 495 3 -> 2", "flood 0 0 -> -1",
            "flood 0 41 -> -1", "flood 1000001 1 -> -1", days(0, 1, 2, 2, 7, 0), "flooded 3 0 -> -1"));
        Edge.says("38", "Of the i-th day of the latest FLOODS HOUSES under water, as bits (what 0), PARTS (1)", Edge.rows(Edge.line(3),
            "flood 2 6 -> 2", days(0, 1, 6, 1, 2, 2, 3, 1, 0, 1, 4, 1), "stand 1 0", "rank 0 5", "flooded 2 0 -> 2", "flooded 2 1 -> 2"));
        Edge.says("38", "NONE", Edge.rows("flooded 0 0 -> -1", "flooded 0 1 -> -1", Edge.line(3), "flood 2 6 -> 2", "flooded -1 0 -> -1",
            "flooded 6 0 -> -1", "flooded 6 1 -> -1", "flooded 5 1 -> 1", "flooded 0 -1 -> -1", "flooded 0 2 -> -1",
            "flooded 40 0 -> -1", "flooded 2147483647 0 -> -1", "flooded -2147483648 0 -> -1", "flooded 0 2147483647 -> -1"));
    }

    private static void promisesOfImages() {
        Edge.says("39", "IMAGE k is kept: 0; -1", "image -1 -> -1", "image 2 -> -1", "image 0 -> 0", "back 1 -> -2", "image 1 -> 0", "back 1 -> 0",
            "image 0 -> 0", "image 2147483647 -> -1", "image -2147483648 -> -1");
        Edge.says("40", "BACK to IMAGE k: 0", "image 0", "terms 0 1", "image 1", "terms 0 2", "back 0 -> 0", "count 14 -> 12", "back 1 -> 0",
            "count 14 -> 1");
        Edge.says("40", "-1", "back -1 -> -1", "back 2 -> -1", "image 0", "image 1", "back 2 -> -1", "back -1 -> -1", "back 2147483647 -> -1",
            "back -2147483648 -> -1");
        Edge.says("40", "-2 it was not kept", "back 0 -> -2", "back 1 -> -2", "image 1", "back 0 -> -2", "back 1 -> 0", "back 0 -> -2", "image 0",
            "back 0 -> 0");
    }

    private static void counts() {
        Edge.says("41", "0 HOUSES, 1 of these that stand, 2 DOORS, 3 LAWS, 4 WISHES, 5 BANS, 6 LOGS, 7 bytes of the TAPE, 8 .. 12 how many calls were"
            + " REFUSED by -1, -2, -3, -5, -6 (IMAGES do not keep that), 13 the LAW in FORCE, 14, 15 TERMS 0, 1", Edge.rows(Edge.apart(8),
            "stand 7 0", "door 0 1", "door 0 2", "door 0 3", "door 0 4", "door 0 5", "law |bars|", "law |takes 1|", "law |takes 2|",
            "law |takes 3|", "wish 0 1 1", "wish 0 1 1", "wish 0 1 1", "wish 0 1 0", "wish 0 2 0", Edge.times(8, "log 0 1"),
            "feed 0 0 0 0 0", "end 19", "force 2", "terms 0 21", "terms 1 77", "count 0 -> 8", "count 1 -> 7", "count 2 -> 5",
            "count 3 -> 4", "count 4 -> 3", "count 5 -> 2", "count 6 -> 8", "count 7 -> 19", "count 8 -> 0", "count 9 -> 0",
            "count 10 -> 0", "count 11 -> 0", "count 12 -> 0", "count 13 -> 2", "count 14 -> 21", "count 15 -> 77", "terms 2 0 -> -1",
            "rank 9 9 -> -2", "rank 8 9 -> -2", "door 0 0 -> -3", "door 1 1 -> -3", "door 2 2 -> -3", "log 0 1 -> -5", "log 0 2 -> -5",
            "log 0 3 -> -5", "log 0 4 -> -5", "image 0", "end 0", "row -> -6", "row -> -6", "row -> -6", "row -> -6", "row -> -6",
            "count 8 -> 1", "count 9 -> 2", "count 10 -> 3", "count 11 -> 4", "count 12 -> 5", "back 0", "count 8 -> 1",
            "count 12 -> 5"));
        Edge.says("41", "NONE for others", "count -1 -> -1", "count 16 -> -1", "count 17 -> -1", "count -2 -> -1", "count 2147483647 -> -1",
            "count -2147483648 -> -1", "count 15 -> 0", "count 0 -> 0", "count 8 -> 0");
        // What answers NONE and can't be refused counts nowhere.
        Edge.says("41", "8 .. 12 how many calls were REFUSED by -1, -2, -3, -5, -6 (IMAGES do not keep that)", "of 0 0 -> -1", "at 8 8 -> -1",
            "end 1 -> -1", "touch 0 1 -> -1", "visit 0 1 0 -> -1", "visits 0 -> -1", "comes 0 0 0 -> -1", "way 0 0 0 -> -1",
            "parts 0 -> -1", "holders 0 1 -> -1", "cut 0 1 0 -> -1", "doors 6 -> -1", "news 1 0 -> -1", "wrong 0 -> -1",
            "fits 0 0 -> -1", "round 0 0 -> -1", "stop 0 0 0 -> -1", "meet 0 0 0 -> -1", "site 0 0 0 0 0 -> -1", "flooded 0 0 -> -1",
            "count 16 -> -1", "force -1 -> -1", "count 8 -> 0", "count 9 -> 0", "count 10 -> 0", "count 11 -> 0", "count 12 -> 0");
    }

    /** Behind each call that can be refused, the runs look at status themselves; here each is refused and then is not. */
    private static void status() {
        String sentence = "What the latest call of house, rank, stand, terms, door, wall, row, law, force, wish, log, flood, image, back was"
            + " REFUSED by; 0 if it was not, or ahead of any";
        Edge.says("42", sentence, "status -> 0", "house 8 0 1 1 0 -> -1", "status -> -1", "house 0 0 1 1 0 -> 0", "status -> 0", "rank 1 0 -> -2",
            "status -> -2", "rank 0 1 -> 0", "status -> 0", "stand 0 2 -> -1", "status -> -1", "stand 0 1 -> 1", "status -> 0",
            "terms 2 0 -> -1", "status -> -1", "terms 0 0 -> 12", "status -> 0", "door 0 0 -> -3", "status -> -3", "house 2 0 1 1 0 -> 1",
            "status -> 0", "wall 0 1 -> -3", "status -> -3", "door 0 1 -> 1", "status -> 0", "wall 0 2 -> -2", "wall 0 1 -> 0",
            "status -> 0", "row -> -6", "status -> -6", "bytes 9", "status -> -6", "row -> 0", "status -> 0", "law -> -6",
            "status -> -6", "law |bars| -> 0", "status -> 0", "force 1 -> -2", "status -> -2", "force -1 -> -1", "status -> 0",
            "wish 0 0 1 -> -3", "status -> -3", "wish 0 1 1 -> 1", "status -> 0", "log 0 100 -> -1", "status -> -1", "log 0 -1 -> 1",
            "status -> 0", "flood 0 0 -> -1", "status -> -1", "flood 0 1 -> 2", "status -> 0", "back 0 -> -2", "status -> -2",
            "image 0 -> 0", "status -> 0", "image 2 -> -1", "status -> -1", "back 0 -> 0", "status -> 0");
    }

    private static void statusStays() {
        String sentence = "What the latest call of house, rank, stand, terms, door, wall, row, law, force, wish, log, flood, image, back was"
            + " REFUSED by; 0 if it was not, or ahead of any";
        String[] others = {"of 0 0", "at 0 0", "feed 0 0 0 0 0", "end 0", "end -1 -> -1", "ruin", "fault -> -1", "touch 0 1", "visit 0 1 0",
            "visits 0", "comes 0 1 0", "way 0 1 0", "parts -1", "parts 5 -> -1", "holders 0 1", "cut 0 1 2", "clear", "doors 0",
            "news 1 1", "forget", "wrong 0", "fits 0 0", "round 0 2", "stop 0 2 0", "meet 0 1 0", "site 1 1 0 0 0",
            "site 0 0 0 0 0 -> -1", "flooded 0 0 -> -1", "count 0", "count 16 -> -1"};
        String[] rows = Edge.rows(Edge.line(2), "rank 5 5 -> -2");
        String[] good = Edge.line(2);
        for (String other : others) {
            rows = Edge.rows(rows, other, "status -> -2");
            good = Edge.rows(good, other, "status -> 0");
        }
        Edge.says("42", sentence, rows);
        Edge.says("42", sentence, good);
    }

    /** With status behind house, these are 512 calls. */
    private static void calls() {
        Edge.says("0", "An object is used for at most 512 calls after it has been made; what later calls answer is free",
            Edge.rows(Edge.times(509, "count 0 -> 0"), "house 0 0 1 1 0 -> 0", "count 0 -> 1"));
        Edge.says("0", "An object is used for at most 512 calls after it has been made; what later calls answer is free",
            Edge.rows(Edge.times(255, "terms 0 12 -> 12"), "count 14 -> 12", "of 0 0 -> -1"));
    }
}
