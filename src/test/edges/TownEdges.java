/** Houses, terms and doors: section I of the document and the promises 1 to 9. */
final class TownEdges {
    private static final String REFUSED = "REFUSED by: -1 a number that can't be; -2 there is no such HOUSE, LAW, DOOR, IMAGE;"
        + " -3 it can't be by what stands; -5 no room; -6 a TEXT, a ROW that can't be";
    private static final String ORDER = "The first of these in that order";

    private TownEdges() {
    }

    static void ask() {
        plots();
        sizes();
        neighbours();
        ranksAndFire();
        terms();
        doors();
        refusals();
        orderOfRefusals();
        orderOfRefusalsWithWishesAndLogs();
        newObject();
        promisesOfHouses();
        promisesOfTermsAndDoors();
    }

    private static void plots() {
        Edge.says("I", "PLOTS x, y 0 .. 7",
            "house 0 0 1 1 0 -> 0", "house 7 0 1 1 0 -> 1", "house 0 7 1 1 0 -> 2", "house 7 7 1 1 0 -> 3",
            "house -1 3 1 1 0 -> -1", "house 8 3 1 1 0 -> -1", "house 3 -1 1 1 0 -> -1", "house 3 8 1 1 0 -> -1",
            "house -2147483648 3 3 1 0 -> -1", "house 2147483647 3 3 1 0 -> -1", "house 3 -2147483648 1 3 0 -> -1",
            "house 3 2147483647 1 3 0 -> -1", "house 6 6 1 1 0 -> 4", "house 1 1 1 1 0 -> 5",
            "at 0 0 -> 0", "at 7 0 -> 1", "at 0 7 -> 2", "at 7 7 -> 3", "at 6 6 -> 4", "at 1 1 -> 5",
            "at -1 0 -> -1", "at 8 0 -> -1", "at 0 -1 -> -1", "at 0 8 -> -1", "at 7 8 -> -1", "at 8 7 -> -1");
        Edge.says("I", "HOUSES 0 .. 11 (12 at most)", Edge.rows(Edge.apart(10),
            "of 10 0 -> -1", "house 4 4 1 1 3 -> 10", "of 10 4 -> 3", "of 11 4 -> -1", "house 6 4 1 1 5 -> 11",
            "of 11 4 -> 5", "of 12 4 -> -1", "house 7 7 1 1 0 -> -5", "count 0 -> 12", "of 12 4 -> -1", "at 7 7 -> -1",
            "stand 11 0 -> 1", "house 7 7 1 1 0 -> -5"));
    }

    private static void sizes() {
        Edge.says("I", "from x, y so WIDE and so DEEP (1 .. 3 each",
            "house 0 0 0 1 0 -> -1", "house 0 0 1 0 0 -> -1", "house 0 0 4 1 0 -> -1", "house 0 0 1 4 0 -> -1",
            "house 0 0 -1 1 0 -> -1", "house 0 0 1 -1 0 -> -1", "house 0 0 2147483647 1 0 -> -1",
            "house 0 0 1 -2147483648 0 -> -1", "house 0 0 1 1 0 -> 0", "house 1 0 3 1 0 -> 1", "house 0 1 1 3 0 -> 2",
            "house 2 2 2 3 0 -> 3", "house 5 4 3 2 0 -> 4", "house 5 0 3 3 0 -> 5",
            "at 1 0 -> 1", "at 3 0 -> 1", "at 4 0 -> -1", "at 2 1 -> -1", "at 0 1 -> 2", "at 0 3 -> 2", "at 0 4 -> -1",
            "at 2 2 -> 3", "at 3 4 -> 3", "at 4 4 -> -1", "at 3 5 -> -1", "at 1 2 -> -1", "at 2 1 -> -1", "at 5 4 -> 4",
            "at 7 5 -> 4", "at 7 6 -> -1", "at 4 5 -> -1", "at 5 0 -> 5", "at 7 2 -> 5", "at 7 3 -> -1");
        Edge.says("I", "within the PLOTS",
            "house 7 0 1 1 0 -> 0", "house 6 1 2 1 0 -> 1", "house 5 2 3 1 0 -> 2", "house 0 7 1 1 0 -> 3",
            "house 1 6 1 2 0 -> 4", "house 2 5 1 3 0 -> 5", "house 7 3 2 1 0 -> -1", "house 6 3 3 1 0 -> -1",
            "house 7 3 3 1 0 -> -1", "house 3 7 1 2 0 -> -1", "house 3 6 1 3 0 -> -1", "house 3 7 1 3 0 -> -1",
            "house 7 7 2 2 0 -> -1", "house 6 6 3 3 0 -> -1", "house 5 5 3 3 0 -> 6");
    }

    private static void neighbours() {
        Edge.says("I", "on no PLOT of another one",
            "house 3 3 2 2 0 -> 0", "house 2 2 2 2 0 -> -3", "house 4 2 2 2 0 -> -3", "house 2 4 2 2 0 -> -3",
            "house 4 4 2 2 0 -> -3", "house 4 4 1 1 0 -> -3", "house 3 3 1 1 0 -> -3", "house 2 2 3 3 0 -> -3",
            "house 1 3 3 1 0 -> -3", "house 4 2 1 2 0 -> -3", "house 3 3 2 2 0 -> -3",
            "house 1 3 2 2 0 -> 1", "house 5 3 2 2 0 -> 2", "house 3 1 2 2 0 -> 3", "house 3 5 2 2 0 -> 4",
            "house 1 1 2 2 0 -> 5", "house 5 5 2 2 0 -> 6", "house 6 6 1 1 0 -> -3", "house 7 7 1 1 0 -> 7");
    }

    private static void ranksAndFire() {
        Edge.says("I", "RANK 0 .. 9",
            "house 0 0 1 1 -1 -> -1", "house 0 0 1 1 10 -> -1", "house 0 0 1 1 0 -> 0", "house 2 0 1 1 9 -> 1",
            "of 0 4 -> 0", "of 1 4 -> 9", "rank 0 -1 -> -1", "rank 0 10 -> -1", "rank 0 9 -> 0", "rank 0 8 -> 9",
            "rank 0 0 -> 8", "rank 0 1 -> 0", "of 0 4 -> 1", "rank 0 -2147483648 -> -1", "rank 0 2147483647 -> -1",
            "of 0 4 -> 1");
        Edge.says("I", "a HOUSE stands, or is burnt down (its PLOTS are its own still)",
            "house 2 2 2 2 0 -> 0", "of 0 5 -> 1", "count 1 -> 1", "stand 0 0 -> 1", "of 0 5 -> 0", "count 1 -> 0",
            "count 0 -> 1", "at 2 2 -> 0", "at 3 3 -> 0", "house 3 3 1 1 0 -> -3", "house 1 1 2 2 0 -> -3",
            "site 1 1 0 0 0 -> 60", "bytes 3 3 1 1 0", "row -> 0", "ruin -> 1", "house 1 1 1 1 0 -> 1",
            "house 4 4 1 1 0 -> 2", "touch 0 1 -> 1", "touch 0 2 -> 1", "stand 0 1 -> 0", "of 0 5 -> 1", "count 1 -> 3");
    }

    private static void terms() {
        String sentence = "TERMS: 0 HOUR 0 .. 23 (12 at first), 1 DAY 0 .. 99 (0)";
        Edge.says("I", sentence,
            "count 14 -> 12", "count 15 -> 0", "terms 0 -1 -> -1", "terms 0 24 -> -1", "count 14 -> 12", "terms 0 0 -> 12",
            "terms 0 -1 -> -1", "count 14 -> 0", "terms 0 23 -> 0", "terms 0 24 -> -1", "terms 0 25 -> -1", "count 14 -> 23",
            "terms 0 22 -> 23", "terms 0 1 -> 22", "count 15 -> 0", "count 14 -> 1");
        Edge.says("I", sentence,
            "terms 1 -1 -> -1", "terms 1 100 -> -1", "count 15 -> 0", "terms 1 99 -> 0", "terms 1 100 -> -1",
            "count 15 -> 99", "terms 1 98 -> 99", "terms 1 24 -> 98", "terms 1 23 -> 24", "terms 1 0 -> 23",
            "terms 1 -1 -> -1", "count 15 -> 0", "terms 1 1 -> 0", "count 14 -> 12", "terms 1 -2147483648 -> -1",
            "terms 0 2147483647 -> -1", "count 15 -> 1");
        // An hour, a day beyond its bound is refused and does not begin anew; visits see the bounds themselves.
        Edge.says("I", sentence, Edge.rows(Edge.line(2), "law |takes hour+40; takes day if day > 0|", "force 0",
            "visit 0 1 1 -> 52", "terms 0 23", "visit 0 1 1 -> 63", "terms 0 24 -> -1", "visit 0 1 1 -> 63", "terms 0 0",
            "visit 0 1 1 -> 40", "terms 0 -1 -> -1", "visit 0 1 1 -> 40", "terms 1 99", "visit 0 1 1 -> 99",
            "terms 1 100 -> -1", "visit 0 1 1 -> 99", "terms 1 0", "visit 0 1 1 -> 40", "terms 1 -1 -> -1",
            "visit 0 1 1 -> 40"));
    }

    private static void doors() {
        Edge.says("I", "DOORS, 6 at most: between two HOUSES", Edge.rows(Edge.apart(12),
            "door 0 1 -> 1", "door 0 2 -> 2", "door 11 10 -> 3", "door 0 11 -> 4", "door 5 4 -> 5", "count 2 -> 5",
            "door 6 7 -> 6", "count 2 -> 6", "door 8 9 -> -5", "visit 8 9 0 -> 0", "count 2 -> 6", "wall 7 6 -> 5",
            "door 8 9 -> 6", "visit 9 8 0 -> 1", "visit 6 7 0 -> 0", "door 6 7 -> -5", "visit 11 10 0 -> 1",
            "visit 4 5 0 -> 1"));
        Edge.says("I", "DOORS, 6 at most: between two HOUSES", Edge.rows(Edge.apart(2),
            "door 0 0 -> -3", "door 1 1 -> -3", "door 0 2 -> -2", "door -1 0 -> -2", "count 2 -> 0", "door 1 0 -> 1"));
    }

    /** Each kind of refusal by itself, and the number of those of that kind. */
    private static void refusals() {
        Edge.says("I", REFUSED, Edge.rows("count 8 -> 0", "count 9 -> 0", "count 10 -> 0", "count 11 -> 0", "count 12 -> 0",
            Edge.apart(12), "terms 2 0 -> -1", "stand 12 1 -> -2", "force 0 -> -2", "back 1 -> -2", "house 0 0 1 1 0 -> -3",
            "wall 0 1 -> -3", "house 1 1 1 1 0 -> -5", "row -> -6", "law -> -6", "law |takes| -> -6",
            "count 8 -> 1", "count 9 -> 3", "count 10 -> 2", "count 11 -> 1", "count 12 -> 3"));
    }

    private static void orderOfRefusals() {
        Edge.says("I", ORDER, Edge.rows(Edge.apart(11), "house 0 0 1 1 10 -> -1", "house 0 0 1 1 9 -> -3",
            "house 7 7 2 1 0 -> -1", "house 6 4 1 1 0 -> 11", "house 0 0 1 1 10 -> -1", "house 0 0 1 1 9 -> -3",
            "house 7 7 1 1 10 -> -1", "house 7 7 2 1 0 -> -1", "house 7 7 1 1 0 -> -5"));
        Edge.says("I", ORDER, "rank 0 10 -> -1", "rank 0 9 -> -2", "rank -1 -1 -> -1", "rank -1 0 -> -2",
            "stand 0 2 -> -1", "stand 0 1 -> -2", "stand 12 -1 -> -1", "stand 12 0 -> -2", "back 2 -> -1", "back -1 -> -1",
            "back 1 -> -2", "back 0 -> -2", "image 2 -> -1", "image -1 -> -1", "force 0 -> -2", "force -2 -> -2");
        Edge.says("I", ORDER, Edge.rows(Edge.apart(8), "door 8 8 -> -2", "door 8 0 -> -2", "door 0 8 -> -2", "door -1 -1 -> -2",
            "door 0 1", "door 0 2", "door 0 3", "door 0 4", "door 0 5", "door 0 6", "door 8 8 -> -2", "door 0 8 -> -2",
            "door 8 0 -> -2", "door 0 0 -> -3", "door 1 0 -> -3", "door 0 7 -> -5", "wall 8 8 -> -2", "wall 0 8 -> -2",
            "wall 8 0 -> -2", "wall -1 0 -> -2", "wall 0 0 -> -3", "wall 1 2 -> -3", "count 2 -> 6"));
        Edge.says("I", ORDER, Edge.rows(Edge.times(6, "law |bars|"), "law |bar| -> -5", "law || -> -5", "law |bars| -> -5",
            "count 12 -> 0", "force 6 -> -2", "force 5 -> -1"));
    }

    private static void orderOfRefusalsWithWishesAndLogs() {
        Edge.says("I", ORDER, Edge.rows(Edge.apart(3), "wish 3 3 2 -> -1", "wish 0 0 2 -> -1", "wish 3 3 1 -> -2",
            "wish 0 3 0 -> -2", "wish -1 0 0 -> -2", "wish 0 0 1 -> -3", Edge.times(4, "wish 0 1 1"), Edge.times(4, "wish 0 2 0"),
            "wish 0 1 2 -> -1", "wish 3 3 -1 -> -1", "wish 3 0 1 -> -2", "wish 0 3 0 -> -2", "wish 1 1 1 -> -3",
            "wish 2 2 0 -> -3", "wish 1 2 1 -> -5", "wish 1 2 0 -> -5"));
        Edge.says("I", ORDER, Edge.rows(Edge.apart(2), "log 2 100 -> -1", "log 2 -2 -> -1", "log 2 99 -> -2",
            Edge.times(8, "log 0 0"), "log 2 100 -> -1", "log 0 100 -> -1", "log 0 -2 -> -1", "log 2 0 -> -2", "log -1 0 -> -2",
            "log 0 0 -> -5"));
    }

    private static void newObject() {
        Edge.says("1", "No HOUSES",
            "count 0 -> 0", "count 1 -> 0", "count 2 -> 0", "count 3 -> 0", "count 4 -> 0", "count 5 -> 0", "count 6 -> 0",
            "count 7 -> 0", "of 0 0 -> -1", "at 0 0 -> -1", "at 7 7 -> -1", "touch 0 1 -> -1", "visit 0 1 0 -> -1",
            "visits 0 -> -1", "comes 0 0 0 -> -1", "comes 0 0 1 -> -1", "way 0 0 0 -> -1", "parts -1 -> 0", "parts 0 -> -1",
            "holders 0 1 -> -1", "cut 0 1 2 -> -1", "clear -> 0", "doors 0 -> 0", "doors 1 -> -1", "doors 5 -> 1",
            "news 0 0 -> -1", "forget -> 0", "wrong 0 -> -1", "fits 0 0 -> -1", "round 0 0 -> -1", "stop 0 0 0 -> -1",
            "meet 0 0 0 -> -1", "site 1 1 0 0 0 -> 64", "site 3 3 0 0 0 -> 36", "site 1 1 1 0 0 -> -1", "flooded 0 0 -> -1",
            "rank 0 0 -> -2", "stand 0 0 -> -2", "door 0 1 -> -2", "wall 0 1 -> -2", "wish 0 1 1 -> -2", "log 0 0 -> -2",
            "flood 0 40 -> 0", "flooded 39 0 -> 0", "flooded 39 1 -> 0", "fault -> -1", "ruin -> 0", "count 13 -> -1");
    }

    private static void promisesOfHouses() {
        Edge.says("2", "A HOUSE that stands: its number", "house 4 4 1 1 0 -> 0", "house 0 0 1 1 0 -> 1", "of 0 5 -> 1",
            "house 0 0 1 1 0 -> -3", "house 2 0 1 1 0 -> 2", "of 2 5 -> 1", "count 1 -> 3");
        Edge.says("2", "-1 (beyond the PLOTS, too)", "house 8 0 1 1 0 -> -1", "house 7 0 2 1 0 -> -1", "house 0 7 1 2 0 -> -1",
            "house 0 0 4 1 0 -> -1", "house 0 0 1 1 10 -> -1", "count 0 -> 0");
        Edge.says("2", "-3 a PLOT of another one", "house 0 0 3 3 0 -> 0", "house 2 2 1 1 0 -> -3", "house 3 2 1 1 0 -> 1",
            "house 2 3 1 1 0 -> 2", "house 3 3 1 1 0 -> 3", "count 0 -> 4");
        Edge.says("2", "-5", Edge.rows(Edge.apart(11), "house 7 7 1 1 0 -> 11", "house 7 5 1 1 0 -> -5", "count 0 -> 12"));
        Edge.says("3", "Of a HOUSE 0 x, 1 y, 2 WIDE, 3 DEEP, 4 RANK, 5 whether it stands (1, 0)", "house 5 6 3 2 9 -> 0",
            "of 0 0 -> 5", "of 0 1 -> 6", "of 0 2 -> 3", "of 0 3 -> 2", "of 0 4 -> 9", "of 0 5 -> 1", "stand 0 0 -> 1",
            "of 0 5 -> 0", "of 0 0 -> 5", "of 0 4 -> 9", "rank 0 3 -> 9", "of 0 4 -> 3");
        Edge.says("3", "NONE", "house 5 6 3 2 9 -> 0", "of 0 -1 -> -1", "of 0 6 -> -1", "of -1 0 -> -1", "of 1 0 -> -1",
            "of 12 0 -> -1", "of -2147483648 0 -> -1", "of 2147483647 0 -> -1", "of 0 -2147483648 -> -1",
            "of 0 2147483647 -> -1", "status -> 0", "count 8 -> 0", "count 9 -> 0");
        Edge.says("4", "RANK of a HOUSE: what it was", Edge.rows(Edge.apart(12), "rank 0 9 -> 0", "rank 0 0 -> 9",
            "rank 11 4 -> 0", "rank 11 5 -> 4", "of 11 4 -> 5", "of 0 4 -> 0", "stand 11 0 -> 1", "rank 11 6 -> 5"));
        Edge.says("4", "-1", "house 0 0 1 1 5", "rank 0 -1 -> -1", "rank 0 10 -> -1", "of 0 4 -> 5");
        Edge.says("4", "-2", "house 0 0 1 1 5", "rank 1 5 -> -2", "rank -1 5 -> -2", "rank 12 5 -> -2",
            "rank 2147483647 5 -> -2", "of 0 4 -> 5");
        Edge.says("5", "A HOUSE burns down (0) or stands (1): what it was", Edge.rows(Edge.apart(12), "stand 0 1 -> 1",
            "stand 0 0 -> 1", "stand 0 0 -> 0", "stand 0 1 -> 0", "stand 11 0 -> 1", "of 11 5 -> 0", "of 10 5 -> 1",
            "count 1 -> 11", "stand 11 1 -> 0", "count 1 -> 12"));
        Edge.says("5", "-1", "house 0 0 1 1 5", "stand 0 -1 -> -1", "stand 0 2 -> -1", "of 0 5 -> 1", "stand 0 0",
            "stand 0 2 -> -1", "stand 0 -1 -> -1", "of 0 5 -> 0");
        Edge.says("5", "-2", "house 0 0 1 1 5", "stand 1 0 -> -2", "stand -1 0 -> -2", "stand 12 0 -> -2",
            "stand 32 0 -> -2", "stand -2147483648 0 -> -2", "of 0 5 -> 1");
        Edge.says("6", "The HOUSE (standing or burnt down) on a PLOT", "house 1 1 2 3 0 -> 0", "at 1 1 -> 0", "at 2 3 -> 0",
            "stand 0 0", "at 1 1 -> 0", "at 2 3 -> 0", "house 3 1 1 1 0 -> 1", "at 3 1 -> 1");
        Edge.says("6", "NONE", "house 1 1 2 3 0 -> 0", "at 0 1 -> -1", "at 1 0 -> -1", "at 3 1 -> -1", "at 1 4 -> -1",
            "at 3 4 -> -1", "at 0 0 -> -1", "at -1 -1 -> -1", "at 8 8 -> -1", "at 2147483647 1 -> -1", "at 1 -2147483648 -> -1");
    }

    private static void promisesOfTermsAndDoors() {
        Edge.says("7", "A TERM: what it was", "terms 0 5 -> 12", "terms 0 6 -> 5", "terms 1 5 -> 0", "terms 1 6 -> 5",
            "count 14 -> 6", "count 15 -> 6");
        Edge.says("7", "-1", "terms -1 0 -> -1", "terms 2 0 -> -1", "terms 0 24 -> -1", "terms 1 100 -> -1", "terms 0 -1 -> -1",
            "terms 1 -1 -> -1", "terms -2147483648 0 -> -1", "terms 2147483647 0 -> -1", "count 14 -> 12", "count 15 -> 0");
        Edge.says("8", "A DOOR: how many there are", Edge.rows(Edge.apart(4), "door 0 3 -> 1", "door 3 2 -> 2", "visits 3 -> 5",
            "visits 0 -> 8", "visits 2 -> 8", "count 2 -> 2", "stand 0 0", "stand 1 0", "door 0 1 -> 3", "count 2 -> 3"));
        Edge.says("8", "-2", Edge.rows(Edge.apart(2), "door 0 2 -> -2", "door 2 0 -> -2", "door 0 -1 -> -2", "door -1 0 -> -2",
            "door 12 0 -> -2", "door 0 2147483647 -> -2", "door 2 2 -> -2", "count 2 -> 0"));
        Edge.says("8", "-3 the same HOUSE, one is there", Edge.rows(Edge.apart(2), "door 0 0 -> -3", "door 0 1 -> 1",
            "door 0 1 -> -3", "door 1 0 -> -3", "door 1 1 -> -3", "count 2 -> 1"));
        Edge.says("8", "-5", Edge.rows(Edge.apart(5), "door 0 1", "door 0 2", "door 0 3", "door 0 4", "door 1 2 -> 5",
            "door 1 3 -> 6", "door 1 4 -> -5", "visit 1 4 0 -> 0", "count 2 -> 6"));
        Edge.says("9", "A DOOR is walled up: how many are left", Edge.rows(Edge.apart(3), "door 0 1", "door 1 2", "wall 1 0 -> 1",
            "visit 0 1 0 -> 0", "visit 1 0 0 -> 0", "visit 1 2 0 -> 1", "wall 1 2 -> 0", "count 2 -> 0", "door 0 1 -> 1",
            "visit 1 0 0 -> 1"));
        Edge.says("9", "-2 no such HOUSE", Edge.rows(Edge.apart(2), "wall 0 2 -> -2", "wall 2 0 -> -2", "wall -1 0 -> -2",
            "wall 0 -1 -> -2", "wall 12 12 -> -2", "wall 2147483647 -2147483648 -> -2"));
        Edge.says("9", "-3 none is there", Edge.rows(Edge.apart(3), "wall 0 1 -> -3", "wall 0 0 -> -3", "door 0 1", "wall 0 2 -> -3",
            "wall 1 2 -> -3", "wall 0 1 -> 0", "wall 0 1 -> -3", "wall 1 0 -> -3"));
        // Those that touch at a corner have no door by that.
        Edge.says("9", "-3 none is there", Edge.rows(Edge.line(2), "wall 0 1 -> -3", "visit 0 1 0 -> 1"));
    }
}
