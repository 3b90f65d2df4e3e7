/** Touching, visits, ways, parts, holders and cuts: the first half of section III and the promises 17 to 24. */
final class WayEdges {
    private static final String CORNER = "Two HOUSES TOUCH at a CORNER, if they have a corner in common and no side";
    private static final String SIDE = "at a SIDE, if they have some of a side in common";
    private static final String SHORTEST = "the SHORTEST: the least that VISITS TAKE together, of alike ones that of fewest VISITS,"
        + " then the first as a row of HOUSES";
    private static final String CUT = "A CUT: the fewest others, 0 .. 4, without all of which one does not; the lowest as bits;"
        + " in how many ways";

    private WayEdges() {
    }

    static void ask() {
        touching();
        visiting();
        coming();
        fewest();
        shortest();
        parts();
        holders();
        cuts();
        promisesOfVisits();
        promisesOfWays();
        promisesOfParts();
        promisesOfCuts();
    }

    /** Three diamonds in a chain: 0 - 1, 2 - 3 - 4, 5 - 6 - 7, 8 - 9. */
    private static String[] chain() {
        int[][] places = {{1, 0}, {0, 1}, {2, 1}, {1, 2}, {0, 3}, {2, 3}, {1, 4}, {0, 5}, {2, 5}, {1, 6}};
        String[] all = new String[places.length];
        for (int i = 0; i < places.length; i++) {
            all[i] = "house " + places[i][0] + " " + places[i][1] + " 1 1 0";
        }
        return all;
    }

    /** All twelve houses one behind the other: eight in a slanted line, the others by doors. */
    private static String[] longest() {
        return Edge.rows(Edge.line(8), "house 0 7 1 1 0", "house 0 5 1 1 0", "house 2 7 1 1 0", "house 7 0 1 1 0", "door 7 8",
            "door 8 9", "door 9 10", "door 10 11");
    }

    /** Between 0 and 1 just so many others, each of which touches or has doors to both. */
    private static String[] between(int many) {
        String[] places = {"2 2", "4 4", "2 4", "4 2", "7 0"};
        String[] all = {"house 3 3 1 1 0", "house 0 7 1 1 0"};
        for (int i = 0; i < many; i++) {
            all = Edge.rows(all, "house " + places[i] + " 1 1 0", "door 1 " + (i + 2));
        }
        return many == 5 ? Edge.rows(all, "door 0 6") : all;
    }

    private static void touch(String sentence, String other, int want) {
        Edge.says("III", sentence, "house 2 2 2 2 0", "house " + other + " 0", "touch 0 1 -> " + want, "touch 1 0 -> " + want,
            "visit 0 1 0 -> " + (want == 1 ? 1 : 0), "stand 1 0", "touch 0 1 -> " + want);
    }

    private static void touching() {
        for (String other : new String[] {"1 1 1 1", "4 4 1 1", "4 1 1 1", "1 4 1 1", "0 0 2 2", "4 4 3 3", "4 0 2 2", "0 4 2 2",
            "1 0 1 2", "0 1 2 1", "4 0 1 2", "4 1 3 1", "0 4 2 1", "1 4 1 3", "4 4 1 3", "4 4 3 1"}) {
            touch(CORNER, other, 1);
        }
        for (String other : new String[] {"2 1 1 1", "3 1 1 1", "1 2 1 1", "1 3 1 1", "4 2 1 1", "4 3 1 1", "2 4 1 1", "3 4 1 1",
            "1 1 2 1", "1 1 3 1", "3 1 2 1", "2 0 3 2", "1 1 1 2", "1 0 1 3", "0 3 2 2", "1 3 1 3", "4 1 1 2", "4 3 3 3", "3 4 3 3",
            "1 4 2 1", "0 4 3 3", "2 4 2 2"}) {
            touch(SIDE, other, 2);
        }
        for (String other : new String[] {"0 0 1 1", "1 0 1 1", "0 1 1 1", "5 5 1 1", "4 5 1 1", "5 4 1 1", "5 2 1 1", "2 0 1 1",
            "0 2 1 1", "2 5 1 1", "5 0 1 2", "5 1 1 1", "4 0 1 1", "1 5 1 1", "0 4 1 1", "0 5 2 2", "5 0 3 3", "7 7 1 1"}) {
            touch(SIDE, other, 0);
        }
    }

    private static void visiting() {
        String can = "One can VISIT from a HOUSE to another one, if both stand, they TOUCH at a CORNER or a DOOR is between them,"
            + " and it is not BARRED";
        Edge.says("III", can, Edge.rows(Edge.line(2), "visit 0 1 0 -> 1", "stand 0 0", "visit 0 1 0 -> 0", "visit 1 0 0 -> 0",
            "stand 1 0", "visit 0 1 0 -> 0", "stand 0 1", "visit 0 1 0 -> 0", "visit 1 0 0 -> 0", "stand 1 1", "visit 0 1 0 -> 1",
            "visit 1 0 0 -> 1"));
        Edge.says("III", can, "house 0 0 1 1 0", "house 1 0 1 1 0", "house 5 5 1 1 0", "visit 0 1 0 -> 0", "visit 0 2 0 -> 0",
            "door 0 1", "door 0 2", "visit 0 1 0 -> 1", "visit 1 0 0 -> 1", "visit 0 2 0 -> 1", "stand 2 0", "visit 0 2 0 -> 0",
            "visit 2 0 0 -> 0", "law |bars if from=0|", "force 0", "visit 0 1 0 -> 0", "visit 1 0 0 -> 1");
        Edge.says("III", can, Edge.rows(Edge.line(2), "door 0 1", "law |bars if door=1|", "visit 0 1 0 -> 1", "force 0",
            "visit 0 1 0 -> 0", "wall 0 1", "visit 0 1 0 -> 1"));
    }

    private static void coming() {
        String comes = "One COMES from a HOUSE (that stands) to another one by VISITS one behind the other (to itself by none)";
        Edge.says("III", comes, Edge.rows(Edge.line(4), "comes 0 3 0 -> 3", "comes 0 0 0 -> 0", "comes 0 0 1 -> 1",
            "comes 0 0 2 -> 0", "comes 0 0 3 -> 0", "stand 3 0", "comes 0 3 0 -> -1", "comes 3 0 0 -> -1", "comes 3 3 0 -> -1",
            "comes 3 3 1 -> 0", "comes 3 3 2 -> -1", "comes 3 3 3 -> -1", "way 3 3 0 -> -1", "comes 0 2 0 -> 2", "stand 1 0",
            "comes 0 2 0 -> -1", "comes 0 2 1 -> 0", "stand 1 1", "comes 0 2 0 -> 2"));
        Edge.says("III", comes, Edge.rows(longest(), "comes 0 11 0 -> 11", "comes 11 0 0 -> 11", "comes 0 11 1 -> 1",
            "comes 0 11 2 -> 11", "comes 0 11 3 -> 11", "law |takes 100|", "force 0", "comes 0 11 2 -> 1089", "comes 0 11 3 -> 11",
            "way 0 11 10 -> 10", "way 0 11 11 -> 11", "way 0 11 12 -> -1", "news 1 11 -> 11", "round 0 2048 -> 2178",
            "round 5 4063 -> 2178"));
        Edge.says("III", comes, Edge.rows(Edge.line(3), "law |bars if from=0 and to=1|", "force 0", "comes 0 2 0 -> -1",
            "comes 2 0 0 -> 2", "comes 0 0 0 -> 0"));
    }

    private static void fewest() {
        String fewest = "FEWEST VISITS, and in how many ways just so many";
        Edge.says("III", fewest, Edge.rows(chain(), "comes 0 1 0 -> 1", "comes 0 1 1 -> 1", "comes 0 3 0 -> 2", "comes 0 3 1 -> 2",
            "comes 0 6 0 -> 4", "comes 0 6 1 -> 4", "comes 0 9 0 -> 6", "comes 0 9 1 -> 8", "comes 9 0 1 -> 8", "stand 4 0",
            "comes 0 9 0 -> 6", "comes 0 9 1 -> 4", "stand 5 0", "comes 0 9 0 -> -1", "comes 0 9 1 -> 0", "door 3 6",
            "comes 0 9 0 -> 5", "comes 0 9 1 -> 4", "stand 5 1", "comes 0 9 0 -> 5", "comes 0 9 1 -> 4"));
        // Visits count, not what they take, and one-way visits count one way.
        Edge.says("III", fewest, Edge.rows(chain(), "law |takes 50 if to=1; bars if to=4|", "force 0", "comes 0 3 0 -> 2",
            "comes 0 3 1 -> 2", "comes 0 9 1 -> 4", "comes 4 9 1 -> 2", "comes 0 4 0 -> -1", "comes 0 4 1 -> 0"));
    }

    private static void shortest() {
        Edge.says("III", SHORTEST, Edge.rows(chain(), "door 0 9", "law |takes 5 if door=1|", "law |takes 6 if door=1|",
            "law |takes 7 if door=1|", "force 0", "comes 0 9 2 -> 5", "comes 0 9 3 -> 1", "way 0 9 1 -> 9", "force 1",
            "comes 0 9 2 -> 6", "comes 0 9 3 -> 1", "way 0 9 1 -> 9", "way 0 9 2 -> -1", "force 2", "comes 0 9 2 -> 6",
            "comes 0 9 3 -> 6", "way 0 9 0 -> 0", "way 0 9 1 -> 1", "way 0 9 2 -> 3", "way 0 9 3 -> 4", "way 0 9 4 -> 6",
            "way 0 9 5 -> 7", "way 0 9 6 -> 9", "way 0 9 7 -> -1", "comes 0 9 0 -> 1"));
        Edge.says("III", SHORTEST, Edge.rows(chain(), "law |takes 2 if to=1 or to=7|", "force 0", "comes 0 9 2 -> 6", "way 0 9 1 -> 2",
            "way 0 9 2 -> 3", "way 0 9 3 -> 4", "way 0 9 4 -> 6", "way 0 9 5 -> 8", "way 0 9 6 -> 9", "way 9 0 1 -> 8",
            "way 9 0 5 -> 2"));
        // Rows are told apart at their first house that differs, not at their last.
        Edge.says("III", SHORTEST, Edge.rows(Edge.apart(6), "door 0 4", "door 4 2", "door 2 5", "door 0 3", "door 3 1", "door 1 5",
            "comes 0 5 1 -> 2", "way 0 5 1 -> 3", "way 0 5 2 -> 1", "way 5 0 1 -> 1", "way 5 0 2 -> 3"));
        // Alike in what they take, fewest visits come ahead of the first row.
        Edge.says("III", SHORTEST, Edge.rows(Edge.apart(4), "door 0 1", "door 1 2", "door 2 3", "door 0 2", "law |takes 2 if from=0 and to=2|",
            "force 0", "comes 0 3 2 -> 3", "comes 0 3 3 -> 2", "way 0 3 1 -> 2", "law |takes 3 if from=0 and to=2|", "force 1",
            "comes 0 3 2 -> 3", "comes 0 3 3 -> 3", "way 0 3 1 -> 1"));
    }

    private static void parts() {
        String parts = "PARTS: HOUSES that stand of which each COMES to each other one; in order of their lowest HOUSES";
        Edge.says("III", parts, Edge.rows(Edge.apart(12), "parts -1 -> 12", "parts 0 -> 1", "parts 11 -> 2048", "parts 12 -> -1",
            "door 0 11", "parts -1 -> 11", "parts 0 -> 2049", "parts 1 -> 2", "parts 10 -> 1024", "parts 11 -> -1", "door 5 1",
            "parts 1 -> 34", "parts 2 -> 4", "parts -1 -> 10", "stand 0 0", "parts -1 -> 10", "parts 0 -> 34", "parts 9 -> 2048"));
        Edge.says("III", parts, Edge.rows(Edge.apart(4), "door 0 1", "door 1 2", "door 2 0", "law |bars if from=1 and to=0|",
            "law |bars if from=0|", "law |bars if from>to|", "force 0", "parts -1 -> 2", "parts 0 -> 7", "parts 1 -> 8", "force 1",
            "parts -1 -> 3", "parts 0 -> 1", "parts 1 -> 6", "parts 2 -> 8", "force 2", "parts -1 -> 4", "parts 2 -> 4"));
        Edge.says("III", parts, Edge.rows(Edge.line(2), "stand 0 0", "parts -1 -> 1", "parts 0 -> 2", "stand 1 0", "parts -1 -> 0",
            "parts 0 -> -1"));
    }

    private static void holders() {
        String holder = "A HOLDER between two HOUSES is another one, without which (burnt down) one no longer COMES from the first"
            + " to the other";
        Edge.says("III", holder, Edge.rows(chain(), "holders 0 9 -> 72", "holders 9 0 -> 72", "holders 0 3 -> 0", "holders 0 1 -> 0",
            "holders 1 2 -> 0", "holders 1 9 -> 72", "stand 1 0", "holders 0 9 -> 76", "holders 0 3 -> 4", "stand 2 0",
            "holders 0 9 -> -1", "door 0 9", "holders 0 9 -> 0", "holders 3 0 -> 576"));
        Edge.says("III", holder, Edge.rows(longest(), "holders 0 11 -> 2046", "holders 11 0 -> 2046", "holders 0 10 -> 1022",
            "holders 10 11 -> 0"));
        Edge.says("III", holder, Edge.rows(Edge.apart(12), "door 0 1", "door 0 2", "door 11 2", "door 11 3", "holders 1 2 -> 1",
            "holders 2 3 -> 2048", "holders 1 3 -> 2053"));
        // Only the ways from the first to the other count.
        Edge.says("III", holder, Edge.rows(chain(), "law |bars if to=1 and from=0|", "force 0", "holders 0 9 -> 76",
            "holders 9 0 -> 72"));
    }

    private static void cuts() {
        for (int many = 0; many <= 4; many++) {
            Edge.says("III", CUT, Edge.rows(between(many), "cut 0 1 0 -> " + many, "cut 0 1 1 -> " + (((1 << many) - 1) << 2),
                "cut 0 1 2 -> 1", "cut 1 0 0 -> " + many));
        }
        Edge.says("III", CUT, Edge.rows(between(5), "cut 0 1 0 -> -1", "cut 0 1 1 -> -1", "cut 0 1 2 -> 0", "stand 6 0",
            "cut 0 1 0 -> 4", "cut 0 1 1 -> 60", "cut 0 1 2 -> 1", "stand 2 0", "cut 0 1 0 -> 3", "cut 0 1 1 -> 56"));
        Edge.says("III", CUT, Edge.rows(chain(), "cut 0 9 0 -> 1", "cut 0 9 1 -> 8", "cut 0 9 2 -> 2", "cut 9 0 1 -> 8",
            "cut 0 3 0 -> 2", "cut 0 3 1 -> 6", "cut 0 3 2 -> 1", "cut 0 1 0 -> -1", "cut 0 1 1 -> -1", "cut 0 1 2 -> 0",
            "cut 1 2 0 -> 2", "cut 1 2 1 -> 9", "cut 1 2 2 -> 1", "stand 3 0", "cut 0 9 0 -> 0", "cut 0 9 1 -> 0",
            "cut 0 9 2 -> 1"));
        Edge.says("III", CUT, Edge.rows(Edge.apart(6), "door 0 1", "door 1 2", "door 2 5", "door 0 3", "door 3 5", "cut 0 5 0 -> 2",
            "cut 0 5 1 -> 10", "cut 0 5 2 -> 2", "cut 1 3 0 -> 2", "cut 1 3 1 -> 5", "cut 1 3 2 -> 2"));
        Edge.says("III", CUT, Edge.rows(longest(), "cut 0 11 0 -> 1", "cut 0 11 1 -> 2", "cut 0 11 2 -> 10", "cut 11 9 1 -> 1024"));
        // One way alone: nobody needs to be taken away where one does not come.
        Edge.says("III", CUT, Edge.rows(chain(), "law |bars if from<to|", "force 0", "cut 0 9 0 -> 0", "cut 0 1 0 -> 0",
            "cut 9 0 0 -> 1", "cut 1 0 0 -> -1"));
    }

    private static void promisesOfVisits() {
        Edge.says("17", "How two HOUSES TOUCH: 1 at a CORNER, 2 at a SIDE, 0 not", "house 0 0 1 1 0", "house 1 1 1 1 0",
            "house 1 0 1 1 0", "house 3 3 1 1 0", "touch 0 1 -> 1", "touch 0 2 -> 2", "touch 0 3 -> 0", "touch 1 2 -> 2",
            "door 0 3", "touch 0 3 -> 0", "stand 1 0", "touch 0 1 -> 1");
        Edge.says("17", "NONE (the same one, too)", Edge.rows(Edge.line(2), "touch 0 0 -> -1", "touch 1 1 -> -1", "touch 0 2 -> -1",
            "touch 2 0 -> -1", "touch -1 0 -> -1", "touch 0 -1 -> -1", "touch 12 0 -> -1", "touch 2147483647 0 -> -1",
            "touch 0 -2147483648 -> -1", "touch 2 2 -> -1", "count 9 -> 0"));
        Edge.says("18", "Of a VISIT from a HOUSE to another one: whether one can (what 0: 1, 0), what it TAKES (1; whether or not),"
            + " whether it is BARRED (2: 1, 0)", Edge.rows(Edge.line(3), "law |takes 9 if to=2; bars if to=1|", "force 0",
            "visit 0 1 0 -> 0", "visit 0 1 1 -> 1", "visit 0 1 2 -> 1", "visit 1 2 0 -> 1", "visit 1 2 1 -> 9", "visit 1 2 2 -> 0",
            "visit 0 2 0 -> 0", "visit 0 2 1 -> 9", "visit 0 2 2 -> 0", "stand 2 0", "visit 1 2 0 -> 0", "visit 1 2 1 -> 9",
            "visit 1 2 2 -> 0", "visit 2 1 2 -> 1"));
        Edge.says("18", "NONE (to itself, too)", Edge.rows(Edge.line(2), "visit 0 0 0 -> -1", "visit 0 0 1 -> -1",
            "visit 0 0 2 -> -1", "visit 0 1 -1 -> -1", "visit 0 1 3 -> -1", "visit 0 2 0 -> -1", "visit 2 0 1 -> -1",
            "visit -1 0 2 -> -1", "visit 0 -1 0 -> -1", "visit 12 0 0 -> -1", "visit 0 2147483647 1 -> -1",
            "visit 0 1 2147483647 -> -1", "visit 0 1 -2147483648 -> -1"));
        Edge.says("19", "HOUSES that one can VISIT from a HOUSE, as bits", Edge.rows(Edge.apart(12), "visits 0 -> 0", "door 0 11",
            "visits 0 -> 2048", "visits 11 -> 1", "door 11 10", "visits 11 -> 1025", "stand 0 0", "visits 11 -> 1024",
            "visits 0 -> 0", "law |bars if from=10|", "force 0", "visits 10 -> 0", "visits 11 -> 1024"));
        Edge.says("19", "NONE", Edge.rows(Edge.line(2), "visits 2 -> -1", "visits -1 -> -1", "visits 12 -> -1",
            "visits -2147483648 -> -1", "visits 2147483647 -> -1", "visits 1 -> 1"));
    }

    private static void promisesOfWays() {
        Edge.says("20", "From a HOUSE to another one: FEWEST VISITS (what 0), in how many ways (1; 0), what the SHORTEST TAKES (2),"
            + " how many VISITS that has (3)", Edge.rows(chain(), "door 0 3", "law |takes 9 if door=1|", "force 0",
            "comes 0 3 0 -> 1", "comes 0 3 1 -> 1", "comes 0 3 2 -> 2", "comes 0 3 3 -> 2", "comes 3 0 0 -> 1", "stand 1 0",
            "stand 2 0", "comes 0 3 2 -> 9", "comes 0 3 3 -> 1", "stand 3 0", "comes 0 3 1 -> 0"));
        for (int what = 0; what < 4; what++) {
            int[] due = {2, 1, 10, 2};
            Edge.says("20", "NONE (one does not COME there, for 0, 2, 3)", Edge.rows(Edge.line(3), "law |takes 5|", "force 0",
                "comes 0 2 " + what + " -> " + due[what], "stand 2 0", "comes 0 2 " + what + " -> " + (what == 1 ? 0 : -1)));
        }
        Edge.says("20", "NONE (one does not COME there, for 0, 2, 3)", Edge.rows(Edge.apart(2), "comes 0 1 0 -> -1",
            "comes 0 1 1 -> 0", "comes 0 1 2 -> -1", "comes 0 1 3 -> -1", "comes 0 1 4 -> -1", "comes 0 1 -1 -> -1",
            "comes 0 0 4 -> -1", "comes 0 2 0 -> -1", "comes 0 2 1 -> -1", "comes 2 0 1 -> -1", "comes -1 0 1 -> -1",
            "comes 0 -1 2 -> -1", "comes 12 12 3 -> -1", "comes 2 2 1 -> -1", "comes 0 0 2147483647 -> -1",
            "comes 2147483647 0 1 -> -1", "comes 0 -2147483648 1 -> -1"));
        Edge.says("21", "The i-th HOUSE of the SHORTEST (from first)", Edge.rows(Edge.line(3), "way 0 2 0 -> 0", "way 0 2 1 -> 1",
            "way 0 2 2 -> 2", "way 2 0 0 -> 2", "way 2 0 1 -> 1", "way 2 0 2 -> 0", "way 1 1 0 -> 1"));
        Edge.says("21", "The i-th HOUSE of the SHORTEST (from first)", Edge.rows(Edge.apart(3), "door 0 1", "door 0 2", "way 1 2 1 -> 0",
            "way 1 2 2 -> 2", "way 2 1 1 -> 0"));
        Edge.says("21", "NONE", Edge.rows(Edge.line(3), "house 7 0 1 1 0", "way 0 2 3 -> -1", "way 0 2 -1 -> -1", "way 1 1 1 -> -1",
            "way 1 1 -1 -> -1", "way 0 3 0 -> -1", "way 0 3 -1 -> -1", "way 0 4 0 -> -1", "way 4 0 0 -> -1", "way 4 4 0 -> -1",
            "way -1 0 0 -> -1", "way 0 -1 0 -> -1", "way 0 12 0 -> -1", "way 12 0 0 -> -1",
            "way 2147483647 0 0 -> -1", "way 0 -2147483648 0 -> -1", "way 0 2 2147483647 -> -1", "way 0 2 -2147483648 -> -1", "stand 0 0", "way 0 0 0 -> -1",
            "way 0 1 0 -> -1", "way 1 0 0 -> -1"));
    }

    private static void promisesOfParts() {
        Edge.says("22", "How many PARTS there are (i NONE); HOUSES of the i-th, as bits", Edge.rows(Edge.line(3), "house 7 0 1 1 0",
            "parts -1 -> 2", "parts 0 -> 7", "parts 1 -> 8", "stand 1 0", "parts -1 -> 3", "parts 0 -> 1", "parts 1 -> 4",
            "parts 2 -> 8"));
        Edge.says("22", "NONE", Edge.rows("parts -1 -> 0", "parts 0 -> -1", Edge.line(3), "parts 0 -> 7", "parts 1 -> -1",
            "parts -2 -> -1", "parts 2147483647 -> -1", "parts -2147483648 -> -1", "parts -1 -> 1"));
        Edge.says("23", "HOLDERS between two HOUSES, as bits", Edge.rows(Edge.line(4), "holders 0 3 -> 6", "holders 0 2 -> 2",
            "holders 0 1 -> 0"));
        Edge.says("23", "NONE (one does not COME, the same one)", Edge.rows(Edge.line(4), "house 7 0 1 1 0", "holders 0 4 -> -1",
            "holders 2 2 -> -1", "holders 0 5 -> -1", "holders 5 0 -> -1", "holders -1 0 -> -1", "holders 5 5 -> -1", "stand 1 0",
            "holders 0 3 -> -1", "holders 0 1 -> -1", "holders 1 2 -> -1", "holders 1 1 -> -1", "holders 2 3 -> 0",
            "holders 2147483647 0 -> -1"));
    }

    private static void promisesOfCuts() {
        Edge.says("24", "A CUT between two HOUSES: how many (what 0), which (1), in how many ways (2; 0)", Edge.rows(Edge.line(4),
            "cut 0 3 0 -> 1", "cut 0 3 1 -> 2", "cut 0 3 2 -> 2", "cut 0 1 2 -> 0", "stand 1 0", "cut 0 3 0 -> 0", "cut 0 3 1 -> 0",
            "cut 0 3 2 -> 1"));
        String none = "NONE (not with 4, for 0, 1; the same one; one of them does not stand)";
        Edge.says("24", none, Edge.rows(Edge.line(4), "cut 0 1 0 -> -1", "cut 0 1 1 -> -1", "cut 0 1 2 -> 0", "cut 1 1 0 -> -1",
            "cut 1 1 1 -> -1", "cut 1 1 2 -> -1", "stand 3 0", "cut 0 3 0 -> -1", "cut 0 3 1 -> -1", "cut 0 3 2 -> -1",
            "cut 3 0 0 -> -1", "cut 3 0 2 -> -1", "cut 3 3 2 -> -1", "cut 0 4 0 -> -1", "cut 0 4 2 -> -1", "cut 4 0 2 -> -1",
            "cut -1 0 2 -> -1", "cut 0 2 -1 -> -1", "cut 0 2 3 -> -1", "cut 0 2147483647 2 -> -1", "cut 0 2 2147483647 -> -1"));
        Edge.says("24", none, Edge.rows(between(5), "cut 0 1 0 -> -1", "cut 0 1 1 -> -1", "cut 0 1 2 -> 0", "wall 0 6",
            "cut 0 1 0 -> 4", "cut 0 1 1 -> 60", "cut 0 1 2 -> 1"));
    }
}
