/** Wishes, new doors, news, logs, rounds, meetings and sites: the second half of section III and the promises 25 to 36. */
final class WantEdges {
    private static final String NEW_DOORS = "NEW DOORS: the fewest, 0 .. 2, with room for them or not, by which all WISHES and no BANS"
        + " are so; the first as pairs (the lower HOUSE ahead; HOUSES between which no DOOR is)";
    private static final String NEWS = "NEWS is at some HOUSES (bits) on DAY 0 of it; each day it goes by all VISITS one can make from"
        + " HOUSES that have it (day, hour as told)";
    private static final String FITS = "FITS: no DOOR more, or one DOOR between two HOUSES without one, by which all LOGS are so, the"
        + " news being at a told HOUSE";
    private static final String ROUND = "A ROUND from a HOUSE to some others (bits) and home: the least that it TAKES, by SHORTEST ways"
        + " between them; the first order as a row";
    private static final String MEET = "TWO MEET at the HOUSE to which the later one COMES soonest (then the sum is least, then the"
        + " lowest)";
    private static final String SITE = "A SITE for a HOUSE so WIDE and DEEP, for friends and foes (bits of HOUSES that stand): free PLOTS"
        + " (none of any HOUSE) where it would TOUCH all friends at a CORNER and no foe at a CORNER or a SIDE; by y, then x";

    private WantEdges() {
    }

    static void ask() {
        wishes();
        newDoors();
        newDoorsByLaws();
        news();
        logs();
        fits();
        rounds();
        meetings();
        sites();
        sitesOfFoes();
        promisesOfWishes();
        promisesOfNews();
        promisesOfFits();
        promisesOfRounds();
        promisesOfMeetings();
        promisesOfSites();
    }

    /** 0 at the top, 1 and 2 between, 3 below: 0 - 1, 2 - 3. */
    private static String[] diamond() {
        return new String[] {"house 1 0 1 1 0", "house 0 1 1 1 0", "house 2 1 1 1 0", "house 1 2 1 1 0"};
    }

    /** What doors 0 to 5 answer. */
    private static String[] answers(int... due) {
        String[] all = new String[due.length];
        for (int i = 0; i < due.length; i++) {
            all[i] = "doors " + i + " -> " + due[i];
        }
        return all;
    }

    private static void wishes() {
        String four = "WISHES, 4 at most: two HOUSES that should COME (from the first to the other one)";
        Edge.says("III", four, Edge.rows(Edge.apart(3), "wish 0 1 1 -> 1", "wish 0 1 1 -> 2", "wish 1 0 1 -> 3", "count 4 -> 3",
            "wish 2 1 1 -> 4", "count 4 -> 4", "wish 0 2 1 -> -5", "count 4 -> 4", "count 5 -> 0", "wish 0 2 0 -> 1", "clear -> 5",
            "wish 0 2 1 -> 1"));
        // The fourth is asked as the first is, and the wish goes one way.
        Edge.says("III", four, Edge.rows(Edge.line(3), "house 7 0 1 1 0", "wish 0 1 1", "wish 1 2 1", "wish 2 0 1", "doors 0 -> 0",
            "wish 0 3 1", "doors 0 -> 1", "doors 5 -> 3"));
        Edge.says("III", four, Edge.rows(Edge.apart(2), "law |bars if from>to|", "force 0", "wish 0 1 1", "doors 0 -> 1", "clear",
            "wish 1 0 1", "doors 0 -> -1"));
        String bans = "BANS, 4 at most: two that should not";
        Edge.says("III", bans, Edge.rows(Edge.apart(3), "wish 0 1 0 -> 1", "wish 0 1 0 -> 2", "wish 1 0 0 -> 3", "count 5 -> 3",
            "wish 2 1 0 -> 4", "count 5 -> 4", "wish 0 2 0 -> -5", "count 5 -> 4", "count 4 -> 0", "wish 0 2 1 -> 1", "clear -> 5",
            "wish 0 2 0 -> 1"));
        Edge.says("III", bans, Edge.rows(Edge.line(2), "house 7 0 1 1 0", "house 7 2 1 1 0", "wish 0 2 0", "wish 2 0 0", "wish 2 3 0",
            "doors 0 -> 0", "wish 1 0 0", "doors 0 -> -1", "doors 5 -> 0"));
    }

    private static void newDoors() {
        Edge.says("III", NEW_DOORS, answers(0, -1, -1, -1, -1, 1));
        Edge.says("III", NEW_DOORS, Edge.rows(Edge.line(2), "wish 0 1 1", answers(0, -1, -1, -1, -1, 1)));
        Edge.says("III", NEW_DOORS, Edge.rows(Edge.apart(6), "wish 1 0 1", answers(1, 0, 1, -1, -1, 1), "wish 3 2 1",
            answers(2, 0, 1, 2, 3, 1), "wish 5 4 1", answers(-1, -1, -1, -1, -1, 0)));
        Edge.says("III", NEW_DOORS, Edge.rows(Edge.apart(6), "wish 0 1 1", "wish 0 2 1", answers(2, 0, 1, 0, 2, 3), "wish 0 3 1",
            answers(-1, -1, -1, -1, -1, 0)));
        Edge.says("III", NEW_DOORS, Edge.rows(Edge.apart(12), "wish 11 10 1", answers(1, 10, 11, -1, -1, 1), "wish 9 8 1",
            answers(2, 8, 9, 10, 11, 1)));
        // With six doors there is no room, and the fewest are told all the same.
        Edge.says("III", NEW_DOORS, Edge.rows(Edge.apart(12), "door 0 1", "door 2 3", "door 4 5", "door 6 7", "door 8 9", "door 10 11",
            "door 1 2 -> -5", "wish 11 0 1", answers(1, 0, 10, -1, -1, 4), "wish 2 4 1", answers(2, 0, 10, 2, 4, 16)));
        // A pair that has a door is none of those that can be picked.
        Edge.says("III", NEW_DOORS, Edge.rows(Edge.apart(3), "door 0 1", "wish 0 2 1", answers(1, 0, 2, -1, -1, 2), "door 0 2",
            answers(0, -1, -1, -1, -1, 1)));
        // Pairs that were none before or are none any more count as what they are now.
        Edge.says("III", NEW_DOORS, Edge.rows(Edge.apart(3), "wish 0 2 1", answers(1, 0, 2, -1, -1, 1), "door 0 1", answers(1, 0, 2, -1, -1, 2),
            "wall 0 1", answers(1, 0, 2, -1, -1, 1)));
        Edge.says("III", NEW_DOORS, Edge.rows(Edge.apart(4), "wish 0 2 1", "wish 0 3 1", answers(2, 0, 2, 0, 3, 3), "door 0 1",
            answers(2, 0, 2, 0, 3, 8), "stand 1 0", answers(2, 0, 2, 0, 3, 3)));
        Edge.says("III", NEW_DOORS, Edge.rows(Edge.apart(4), "wish 0 1 1", "wish 2 3 1", "wish 0 2 0", answers(2, 0, 1, 2, 3, 1), "wish 1 0 0",
            answers(-1, -1, -1, -1, -1, 0)));
        Edge.says("III", NEW_DOORS, Edge.rows(Edge.apart(3), "wish 0 2 1", "wish 0 1 0", answers(1, 0, 2, -1, -1, 1), "stand 2 0",
            answers(-1, -1, -1, -1, -1, 0), "clear", "wish 0 2 0", answers(0, -1, -1, -1, -1, 1)));
    }

    private static void newDoorsByLaws() {
        // A door can shut a visit: then a ban is met by doors.
        Edge.says("III", NEW_DOORS, Edge.rows(Edge.line(2), "wish 0 1 0", answers(-1, -1, -1, -1, -1, 0), "law |bars if door=1|", "force 0",
            answers(1, 0, 1, -1, -1, 1)));
        Edge.says("III", NEW_DOORS, Edge.rows(Edge.line(3), "wish 0 2 0", "law |bars if door=1|", "force 0",
            answers(1, 0, 1, -1, -1, 2)));
        Edge.says("III", NEW_DOORS, Edge.rows(diamond(), "wish 0 3 0", "law |bars if door=1|", "force 0", answers(2, 0, 1, 0, 2, 4)));
        // Three ways between would need three doors.
        Edge.says("III", NEW_DOORS, "house 3 3 1 1 0", "house 0 7 1 1 0", "house 2 2 1 1 0", "house 4 4 1 1 0", "house 2 4 1 1 0", "door 1 2",
            "door 1 3", "door 1 4", "law |bars if door=1 and from=0|", "force 0", "wish 0 1 0", "doors 0 -> -1", "doors 5 -> 0",
            "stand 4 0", "doors 0 -> 2", "doors 1 -> 0", "doors 2 -> 2", "doors 3 -> 0", "doors 4 -> 3", "doors 5 -> 1");
    }

    private static void news() {
        Edge.says("III", NEWS, Edge.rows(Edge.line(4), "news 1 0 -> 0", "news 1 1 -> 1", "news 1 3 -> 3", "news 9 0 -> 0", "news 9 1 -> 1",
            "news 9 2 -> 1", "news 15 2 -> 0", "news 8 0 -> 3", "news 0 0 -> -1", "stand 1 0", "news 1 2 -> -1", "news 3 0 -> 0",
            "news 3 2 -> -1", "news 5 3 -> 1"));
        Edge.says("III", NEWS, Edge.rows(Edge.line(4), "law |bars if day>0 or hour>12; takes 50|", "force 0", "news 1 3 -> 3",
            "terms 1 1", "news 1 3 -> -1", "news 1 0 -> 0", "terms 1 0", "terms 0 13", "news 1 1 -> -1", "terms 0 12",
            "news 1 1 -> 1"));
        Edge.says("III", NEWS, Edge.rows(Edge.line(3), "law |bars if from>to|", "force 0", "news 1 2 -> 2", "news 4 0 -> -1",
            "news 4 2 -> 0"));
    }

    private static void logs() {
        String eight = "LOGS, 8 at most: a HOUSE had it on a DAY 0 .. 99 of it first (NONE: never)";
        Edge.says("III", eight, Edge.rows(Edge.line(3), "house 7 0 1 1 0", "log 0 -2 -> -1", "log 0 100 -> -1", "count 6 -> 0",
            "log 0 0 -> 1", "log 1 1 -> 2", "log 2 2 -> 3", "log 3 -1 -> 4", "wrong 0 -> 0", "log 0 99 -> 5", "wrong 0 -> 1",
            "log 3 0 -> 6", "wrong 0 -> 2", "log 2 -1 -> 7", "wrong 0 -> 3", "count 6 -> 7", "log 2 3 -> 8", "wrong 0 -> 4",
            "log 2 1 -> -5", "count 6 -> 8", "wrong 0 -> 4", "forget -> 8", "log 2 1 -> 1", "wrong 0 -> 1", "wrong 1 -> 0",
            "wrong 2 -> 1"));
        Edge.says("III", eight, Edge.rows(Edge.line(3), "log 0 -1", "log 0 0", "wrong 0 -> 1", "wrong 1 -> 2", "stand 0 0", "wrong 1 -> 1",
            "wrong 0 -> 1"));
    }

    private static void fits() {
        Edge.says("III", FITS, Edge.rows(Edge.apart(3), "fits 0 0 -> 1", "fits 0 1 -> 3", "fits 0 2 -> 0", "fits 0 3 -> 1", "log 1 1",
            "fits 0 0 -> 0", "fits 0 1 -> 1", "fits 0 2 -> 0", "fits 0 3 -> 1", "fits 2 1 -> 1", "fits 2 2 -> 1", "fits 2 3 -> 2",
            "fits 1 0 -> 0", "fits 1 1 -> 0", "fits 1 2 -> -1", "fits 1 3 -> -1", "log 2 2", "fits 0 1 -> 0", "fits 0 2 -> -1",
            "fits 0 3 -> -1"));
        Edge.says("III", FITS, Edge.rows(Edge.apart(3), "door 0 1", "log 2 2", "fits 0 0 -> 0", "fits 0 1 -> 1", "fits 0 2 -> 1",
            "fits 0 3 -> 2", "forget", "log 2 1", "fits 0 1 -> 1", "fits 0 2 -> 0", "fits 0 3 -> 2", "forget", "log 2 -1",
            "fits 0 0 -> 1", "fits 0 1 -> 0", "fits 0 2 -> -1", "forget", "log 1 1", "fits 0 0 -> 1", "fits 0 1 -> 2",
            "fits 0 2 -> 0", "fits 0 3 -> 2"));
        // Without logs each single door does: there are 66 pairs of twelve houses, less those with doors.
        Edge.says("III", FITS, Edge.rows(Edge.apart(12), "fits 11 1 -> 66", "door 0 1", "fits 11 1 -> 65", "fits 11 2 -> 0", "fits 11 3 -> 2",
            "door 0 2", "door 0 3", "door 0 4", "door 0 5", "door 0 6", "fits 11 1 -> 60", "fits 11 3 -> 7", "log 11 0",
            "fits 11 0 -> 1", "fits 11 1 -> 60", "log 10 1", "fits 11 0 -> 0", "fits 11 1 -> 1", "fits 11 2 -> 10", "fits 11 3 -> 11"));
        // A door to one that is burnt down carries nothing, and one from it neither.
        Edge.says("III", FITS, Edge.rows(Edge.apart(3), "stand 2 0", "log 2 1", "fits 0 0 -> 0", "fits 0 1 -> 0", "fits 0 2 -> -1", "forget",
            "log 2 0", "fits 2 0 -> 0", "fits 2 1 -> 0", "forget", "log 1 1", "fits 2 1 -> 0", "fits 0 1 -> 1"));
        Edge.says("III", FITS, Edge.rows(Edge.line(2), "log 1 -1", "fits 0 0 -> 0", "fits 0 1 -> 0", "law |bars if door=1|", "force 0",
            "fits 0 0 -> 0", "fits 0 1 -> 1", "fits 0 2 -> 0", "fits 0 3 -> 1", "law |bars if door=0|", "force 1", "fits 0 0 -> 1",
            "fits 0 1 -> 0", "fits 0 2 -> -1"));
    }

    private static void rounds() {
        Edge.says("III", ROUND, Edge.rows(diamond(), "round 0 0 -> 0", "round 0 2 -> 2", "stop 0 2 0 -> 1", "round 0 8 -> 4",
            "stop 0 8 0 -> 3", "round 0 14 -> 4", "stop 0 14 0 -> 1", "stop 0 14 1 -> 3", "stop 0 14 2 -> 2", "stop 0 14 3 -> -1",
            "round 0 6 -> 4", "stop 0 6 0 -> 1", "stop 0 6 1 -> 2", "round 3 7 -> 4", "stop 3 7 0 -> 1", "stop 3 7 1 -> 0",
            "stop 3 7 2 -> 2"));
        Edge.says("III", ROUND, Edge.rows(diamond(), "law |takes 9 if from=0 and to=1|", "force 0", "round 0 14 -> 4", "stop 0 14 0 -> 2",
            "stop 0 14 1 -> 3", "stop 0 14 2 -> 1", "round 0 2 -> 4", "round 1 1 -> 4"));
        // All twelve in a ring of visits to the next number alone: the round takes twelve, in the order of the ring.
        Edge.says("III", ROUND, Edge.rows(Edge.line(8), "house 0 7 1 1 0", "house 0 5 1 1 0", "house 2 7 1 1 0", "house 7 0 1 1 0", "door 7 8",
            "door 8 9", "door 9 10", "door 10 11", "door 11 0", "law |bars if not (to=from+1 or from=11)|", "force 0",
            "round 0 4094 -> 12", "stop 0 4094 0 -> 1", "stop 0 4094 9 -> 10", "stop 0 4094 10 -> 11", "stop 0 4094 11 -> -1",
            "round 5 4063 -> 12", "stop 5 4063 0 -> 6", "stop 5 4063 10 -> 4", "round 11 1 -> 12", "law |bars if to>from|", "force 1",
            "round 5 4063 -> -1", "stop 5 4063 0 -> -1"));
    }

    private static void meetings() {
        Edge.says("III", MEET, Edge.rows(Edge.line(4), "meet 0 2 0 -> 1", "meet 0 2 1 -> 1", "meet 0 3 0 -> 1", "meet 0 3 1 -> 2",
            "meet 3 0 0 -> 1", "meet 2 2 0 -> 2", "meet 2 2 1 -> 0", "meet 0 1 0 -> 0", "meet 1 0 0 -> 0", "meet 1 0 1 -> 1",
            "meet 3 2 0 -> 2"));
        // The later one comes soonest ahead of the least sum: at 2 the later comes at 2 and the sum is 4, at 0 it is 3 and 3.
        Edge.says("III", MEET, Edge.rows(Edge.apart(3), "door 0 1", "door 0 2", "door 1 2", "law |takes 2; takes 3 if to=0 or to=1|",
            "force 0", "meet 0 1 0 -> 2", "meet 0 1 1 -> 2", "law |takes 2|", "force 1", "meet 0 1 0 -> 0", "meet 0 1 1 -> 2"));
        // Of houses to which the later one comes alike, the sum is least at 3, not at 1, which is lower.
        Edge.says("III", MEET, Edge.rows(diamond(), "law |takes 2 if from=3|", "force 0", "meet 0 3 0 -> 3", "meet 3 0 0 -> 3",
            "meet 0 3 1 -> 2", "force -1", "meet 0 3 0 -> 1", "meet 1 2 0 -> 0"));
        Edge.says("III", MEET, Edge.rows(Edge.line(4), "law |bars if from>to|", "force 0", "meet 0 3 0 -> 3", "meet 3 0 1 -> 3", "stand 2 0",
            "meet 0 3 0 -> -1", "meet 0 3 1 -> -1", "meet 0 1 0 -> 1"));
    }

    private static void sites() {
        Edge.says("III", SITE, "site 1 1 0 0 0 -> 64", "site 1 1 0 0 1 -> 0", "site 1 1 0 0 2 -> 0", "site 3 3 0 0 0 -> 36",
            "site 3 1 0 0 0 -> 48", "site 1 2 0 0 0 -> 56", "house 3 3 1 1 0", "site 1 1 1 0 0 -> 4", "site 1 1 1 0 1 -> 2",
            "site 1 1 1 0 2 -> 2", "site 2 2 1 0 0 -> 4", "site 2 2 1 0 1 -> 1", "site 2 2 1 0 2 -> 1", "site 3 3 1 0 0 -> 4",
            "site 3 3 1 0 1 -> 0", "site 3 3 1 0 2 -> 0", "site 3 1 1 0 1 -> 0", "site 3 1 1 0 2 -> 2", "site 1 3 1 0 1 -> 2",
            "site 1 3 1 0 2 -> 0");
        Edge.says("III", SITE, "house 0 0 1 1 0", "house 7 7 1 1 0", "site 1 1 1 0 0 -> 1", "site 1 1 1 0 1 -> 1", "site 1 1 2 0 0 -> 1",
            "site 1 1 2 0 1 -> 6", "site 1 1 2 0 2 -> 6", "site 3 3 2 0 0 -> 1", "site 3 3 2 0 1 -> 4", "site 3 3 2 0 2 -> 4",
            "site 3 3 3 0 0 -> 0", "site 3 3 3 0 1 -> -1", "site 3 3 3 0 2 -> -1");
        // By y, then x: 3, 0 is taken, so that 5, 0 comes ahead of 3, 2.
        Edge.says("III", SITE, "house 4 1 1 1 0", "site 1 1 1 0 1 -> 3", "site 1 1 1 0 2 -> 0", "house 3 0 1 1 0", "site 1 1 1 0 0 -> 3",
            "site 1 1 1 0 1 -> 5", "site 1 1 1 0 2 -> 0", "stand 1 0", "site 1 1 1 0 0 -> 3", "site 1 1 1 0 1 -> 5");
        // A house on each of these four plots leaves room for no house of three by three.
        Edge.says("III", SITE, "house 2 2 1 1 0", "house 5 2 1 1 0", "house 2 5 1 1 0", "site 3 3 0 0 0 -> 9", "house 5 5 1 1 0",
            "site 3 3 0 0 0 -> 0", "site 3 3 0 0 1 -> -1", "site 3 3 0 0 2 -> -1", "site 3 2 0 0 0 -> 18", "site 1 1 0 0 0 -> 60");
        // Twelve houses stand: free plots are told all the same.
        Edge.says("III", SITE, Edge.rows(Edge.apart(12), "site 1 1 0 0 0 -> 52", "site 1 1 2048 0 0 -> 4", "site 1 1 2048 0 1 -> 5",
            "site 1 1 2048 0 2 -> 3", "site 1 1 0 4095 0 -> 16", "site 1 1 0 4095 2 -> 6", "site 1 1 4095 0 0 -> 0"));
    }

    private static void sitesOfFoes() {
        Edge.says("III", SITE, "house 0 0 1 1 0", "site 1 1 0 1 0 -> 60", "site 1 1 0 1 1 -> 2", "site 1 1 0 1 2 -> 0",
            "site 1 1 0 0 0 -> 63", "site 1 1 0 0 1 -> 1", "site 1 1 1 1 0 -> 0", "site 1 1 1 1 1 -> -1", "site 1 1 1 1 2 -> -1",
            "house 2 2 1 1 0", "site 1 1 1 2 0 -> 0", "site 1 1 2 0 0 -> 4", "site 1 1 2 1 0 -> 3", "site 1 1 2 1 1 -> 3",
            "site 1 1 2 1 2 -> 1", "site 1 1 3 0 0 -> 1", "site 1 1 0 3 0 -> 52");
        Edge.says("III", SITE, "house 3 3 2 2 0", "site 1 1 0 1 0 -> 48", "site 2 2 0 1 0 -> 24", "site 3 3 0 1 0 -> 0", "site 1 1 0 0 0 -> 60");
    }

    private static void promisesOfWishes() {
        Edge.says("25", "A WISH (is 1) or a BAN (0) of two HOUSES: how many of these there are", Edge.rows(Edge.apart(3), "wish 0 1 1 -> 1",
            "wish 0 1 0 -> 1", "wish 1 2 0 -> 2", "wish 2 1 1 -> 2", "count 4 -> 2", "count 5 -> 2", "stand 0 0", "wish 0 1 1 -> 3"));
        Edge.says("25", "-1", Edge.rows(Edge.apart(2), "wish 0 1 -1 -> -1", "wish 0 1 2 -> -1", "wish 0 1 2147483647 -> -1", "count 4 -> 0",
            "count 5 -> 0"));
        Edge.says("25", "-2", Edge.rows(Edge.apart(2), "wish 0 2 1 -> -2", "wish 2 0 0 -> -2", "wish -1 0 1 -> -2", "wish 0 -1 0 -> -2",
            "wish 12 0 1 -> -2", "wish 2 2 1 -> -2", "count 4 -> 0"));
        Edge.says("25", "-3 the same HOUSE", Edge.rows(Edge.apart(2), "wish 0 0 1 -> -3", "wish 1 1 0 -> -3", "wish 0 1 1 -> 1"));
        Edge.says("25", "-5", Edge.rows(Edge.apart(2), Edge.times(4, "wish 0 1 1"), "wish 0 1 1 -> -5", Edge.times(3, "wish 0 1 0"),
            "wish 0 1 0 -> 4", "wish 0 1 0 -> -5", "count 4 -> 4", "count 5 -> 4"));
        Edge.says("26", "WISHES and BANS are none then: how many there were", Edge.rows("clear -> 0", Edge.apart(2), Edge.times(4, "wish 0 1 1"),
            Edge.times(4, "wish 1 0 0"), "doors 0 -> -1", "clear -> 8", "count 4 -> 0", "count 5 -> 0", "doors 0 -> 0", "clear -> 0",
            "wish 0 1 0 -> 1", "clear -> 1", "wish 0 1 1 -> 1"));
        Edge.says("27", "NEW DOORS: how many (what 0), HOUSES of the first (1, 2), of the second (3, 4), in how many ways (5; 0)",
            Edge.rows(Edge.apart(5), answers(0, -1, -1, -1, -1, 1), "wish 3 1 1", answers(1, 1, 3, -1, -1, 1), "wish 4 2 1",
            answers(2, 1, 3, 2, 4, 1), "wish 3 4 0", answers(2, 1, 3, 2, 4, 1), "wish 3 1 0", answers(-1, -1, -1, -1, -1, 0)));
        Edge.says("27", "NONE (not with 2, but for 5; there are not so many)", Edge.rows(Edge.apart(4), "wish 0 1 1", answers(1, 0, 1, -1, -1, 1),
            "doors 6 -> -1", "doors -1 -> -1", "doors 2147483647 -> -1", "doors -2147483648 -> -1", "wish 0 2 1", "wish 0 3 1",
            answers(-1, -1, -1, -1, -1, 0), "doors 6 -> -1"));
    }

    private static void promisesOfNews() {
        Edge.says("28", "On which DAY of it NEWS that was at some HOUSES (bits) is at a HOUSE first", Edge.rows(Edge.apart(12), "news 4095 11 -> 0",
            "news 2048 11 -> 0", "news 2047 11 -> -1", "door 0 11", "news 2047 11 -> 1", "news 2048 0 -> 1", "door 0 1",
            "news 2048 1 -> 2", "news 2049 1 -> 1"));
        String none = "NONE (never, too; bits of those that do not stand do not count)";
        Edge.says("28", none, Edge.rows(Edge.line(3), "news 0 0 -> -1", "news 7 0 -> 0", "news 8 0 -> -1", "news 9 0 -> -1", "news 4097 0 -> -1",
            "news -1 0 -> -1", "news -2147483648 0 -> -1", "news 2147483647 0 -> -1", "news 1 3 -> -1", "news 1 -1 -> -1",
            "news 1 12 -> -1", "news 1 2147483647 -> -1", "stand 0 0", "news 1 0 -> -1", "news 1 1 -> -1", "news 3 2 -> 1",
            "news 3 0 -> -1", "news 7 0 -> -1", "news 11 2 -> -1", "news 5 1 -> 1"));
        Edge.says("28", none, Edge.rows(Edge.apart(2), "news 1 1 -> -1", "news 3 1 -> 0", "news 4 0 -> -1"));
        Edge.says("29", "A LOG: how many there are", Edge.rows(Edge.apart(2), "log 0 0 -> 1", "log 0 0 -> 2", "log 1 99 -> 3", "stand 1 0",
            "log 1 -1 -> 4", "count 6 -> 4"));
        Edge.says("29", "-1 (DAY NONE .. 99)", Edge.rows(Edge.apart(2), "log 0 -2 -> -1", "log 0 -1 -> 1", "log 0 0 -> 2", "log 0 98 -> 3",
            "log 0 99 -> 4", "log 0 100 -> -1", "log 0 2147483647 -> -1", "log 0 -2147483648 -> -1", "count 6 -> 4"));
        Edge.says("29", "-2", Edge.rows(Edge.apart(2), "log 2 0 -> -2", "log -1 0 -> -2", "log 12 0 -> -2", "log 2147483647 0 -> -2",
            "count 6 -> 0", "log 1 0 -> 1"));
        Edge.says("29", "-5", Edge.rows(Edge.apart(2), Edge.times(7, "log 0 0"), "log 1 0 -> 8", "log 1 0 -> -5", "count 6 -> 8"));
        Edge.says("30", "LOGS are none then: how many there were", Edge.rows(Edge.apart(3), "log 1 1", "fits 0 0 -> 0", "fits 0 1 -> 1",
            "forget -> 1", "fits 0 0 -> 1", "fits 0 1 -> 3"));
        Edge.says("30", "LOGS are none then: how many there were", Edge.rows("forget -> 0", Edge.apart(2), Edge.times(8, "log 0 5"), "wrong 0 -> 8",
            "forget -> 8", "count 6 -> 0", "wrong 0 -> 0", "forget -> 0", "log 0 5 -> 1", "forget -> 1"));
        Edge.says("31", "How many LOGS are not so, the NEWS being at a HOUSE, with the DOORS there are", Edge.rows(Edge.apart(3), "wrong 0 -> 0",
            "log 0 0", "log 1 1", "log 2 -1", "wrong 0 -> 1", "door 0 1", "wrong 0 -> 0", "door 1 2", "wrong 0 -> 1", "wrong 1 -> 3",
            "wall 0 1", "wrong 0 -> 1", "wrong 2 -> 2"));
        Edge.says("31", "How many LOGS are not so, the NEWS being at a HOUSE, with the DOORS there are", Edge.rows(Edge.apart(12), "log 11 0",
            "log 11 -1", "wrong 11 -> 1", "wrong 0 -> 1", "door 0 11", "log 11 1", "wrong 0 -> 2", "log 0 1", "wrong 11 -> 2"));
        Edge.says("31", "NONE", Edge.rows(Edge.apart(2), "log 0 0", "wrong 2 -> -1", "wrong -1 -> -1", "wrong 12 -> -1",
            "wrong 2147483647 -> -1", "wrong -2147483648 -> -1", "wrong 1 -> 1"));
    }

    private static void promisesOfFits() {
        Edge.says("32", "FITS: whether no DOOR more does (what 0: 1, 0), by how many single DOORS more (1), HOUSES of the first such (2, 3)",
            Edge.rows(Edge.apart(4), "log 3 1", "fits 0 0 -> 0", "fits 0 1 -> 1", "fits 0 2 -> 0", "fits 0 3 -> 3", "fits 2 2 -> 2",
            "fits 2 3 -> 3", "fits 0 4 -> -1", "fits 0 -1 -> -1", "door 0 3", "fits 0 0 -> 1", "fits 0 1 -> 5", "fits 0 2 -> 0", "fits 0 3 -> 1", "count 2 -> 1"));
        Edge.says("32", "NONE (none, for 2, 3)", Edge.rows(Edge.apart(4), "log 3 3", "fits 0 0 -> 0", "fits 0 1 -> 0", "fits 0 2 -> -1",
            "fits 0 3 -> -1", "fits 0 4 -> -1", "fits 0 -1 -> -1", "fits 4 0 -> -1", "fits -1 0 -> -1", "fits 12 1 -> -1",
            "fits 4 1 -> -1", "fits 2147483647 0 -> -1", "fits 0 2147483647 -> -1", "fits 0 -2147483648 -> -1"));
        // One house alone has no pair; without logs no door more does.
        Edge.says("32", "NONE (none, for 2, 3)", "house 0 0 1 1 0", "fits 0 0 -> 1", "fits 0 1 -> 0", "fits 0 2 -> -1", "fits 0 3 -> -1");
    }

    private static void promisesOfRounds() {
        Edge.says("33", "A ROUND: what it TAKES", Edge.rows(Edge.line(3), "round 0 0 -> 0", "round 0 2 -> 2", "round 0 4 -> 4", "round 0 6 -> 4",
            "round 1 5 -> 4", "law |takes 99|", "force 0", "round 0 6 -> 396", "round 1 5 -> 396", "round 1 0 -> 0"));
        Edge.says("33", "A ROUND: what it TAKES", Edge.rows(Edge.line(4), "round 0 8 -> 6", "round 1 8 -> 4", "round 2 8 -> 2", "round 2 9 -> 6",
            "round 3 9 -> -1", "round 2 9 -> 6", "round 2 1 -> 4", "door 0 2", "round 2 1 -> 2", "wall 0 2", "round 2 1 -> 4"));
        String none = "NONE (one does not COME to all and home, home is one of them)";
        Edge.says("33", none, Edge.rows(Edge.line(3), "house 7 0 1 1 0", "round 0 1 -> -1", "round 0 3 -> -1", "round 0 7 -> -1",
            "round 1 2 -> -1", "round 0 8 -> -1", "round 0 10 -> -1", "round 0 16 -> -1", "round 0 18 -> -1", "round 0 4098 -> -1",
            "round 0 -2 -> -1", "round 0 -2147483648 -> -1", "round 0 2147483646 -> -1", "round 4 0 -> -1", "round 4 1 -> -1",
            "round -1 0 -> -1", "round -1 1 -> -1", "round 12 1 -> -1", "round 2147483647 0 -> -1", "round 32 2 -> -1",
            "round 3 0 -> 0", "stand 2 0", "round 0 4 -> -1", "round 0 6 -> -1", "round 0 2 -> 2", "round 2 0 -> -1", "stand 1 0",
            "round 0 2 -> -1"));
        Edge.says("33", none, Edge.rows(Edge.line(3), "law |bars if to=0|", "law |bars if from=0|", "force 0", "round 0 2 -> -1", "round 0 0 -> 0",
            "round 1 4 -> 2", "force 1", "round 0 2 -> -1", "round 1 1 -> -1", "round 1 4 -> 2"));
        Edge.says("34", "The i-th HOUSE of the first order of a ROUND (home aside)", Edge.rows(Edge.line(3), "stop 0 4 0 -> 2", "stand 1 0",
            "stop 0 4 0 -> -1", "stand 1 1", "stop 0 4 0 -> 2", "stop 1 4 0 -> 2", "stop 1 5 0 -> 0", "stop 1 5 1 -> 2"));
        Edge.says("34", "The i-th HOUSE of the first order of a ROUND (home aside)", Edge.rows(Edge.line(4), "stop 0 14 0 -> 1", "stop 0 14 1 -> 2",
            "stop 0 14 2 -> 3", "stop 1 13 0 -> 0", "stop 1 13 1 -> 2", "stop 1 13 2 -> 3", "stop 3 3 0 -> 0", "stop 3 3 1 -> 1"));
        Edge.says("34", "NONE", Edge.rows(Edge.line(4), "stop 0 14 3 -> -1", "stop 0 14 -1 -> -1", "stop 0 0 0 -> -1", "stop 0 1 0 -> -1",
            "stop 0 15 0 -> -1", "stop 0 16 0 -> -1", "stop 4 1 0 -> -1", "stop -1 1 0 -> -1", "stop 0 -2 0 -> -1",
            "stop 0 14 2147483647 -> -1", "stop 0 14 -2147483648 -> -1", "stop 0 2 1 -> -1", "stop 0 2 0 -> 1", "stand 3 0",
            "stop 0 14 0 -> -1", "stop 0 6 1 -> 2", "stop 3 0 0 -> -1"));
    }

    private static void promisesOfMeetings() {
        Edge.says("35", "Where TWO MEET: the HOUSE (what 0), when the later one COMES (1)", Edge.rows(Edge.line(3), "law |takes 7|", "force 0",
            "meet 0 2 0 -> 1", "meet 0 2 1 -> 7", "meet 0 1 0 -> 0", "meet 0 1 1 -> 7", "meet 2 2 0 -> 2", "meet 2 2 1 -> 0"));
        Edge.says("35", "Where TWO MEET: the HOUSE (what 0), when the later one COMES (1)", Edge.rows(Edge.apart(12), "door 10 11", "door 9 11",
            "meet 10 11 0 -> 10", "meet 10 11 1 -> 1", "meet 9 10 0 -> 11", "meet 9 10 1 -> 1", "meet 11 11 0 -> 11", "meet 0 0 0 -> 0",
            "meet 0 11 0 -> -1", "meet 0 1 1 -> -1"));
        Edge.says("35", "NONE", Edge.rows(Edge.line(3), "house 7 0 1 1 0", "meet 0 3 0 -> -1", "meet 0 3 1 -> -1", "meet 0 2 -1 -> -1",
            "meet 0 2 2 -> -1", "meet 0 4 0 -> -1", "meet 4 0 1 -> -1", "meet 4 4 0 -> -1", "meet -1 0 0 -> -1", "meet 0 -1 1 -> -1",
            "meet 12 0 0 -> -1", "meet 0 2147483647 0 -> -1", "meet 0 2 2147483647 -> -1", "stand 2 0", "meet 0 2 0 -> -1",
            "meet 2 0 1 -> -1", "meet 2 2 0 -> -1", "meet 2 2 1 -> -1", "meet 0 1 0 -> 0"));
    }

    private static void promisesOfSites() {
        Edge.says("36", "SITES: how many (what 0), x (1), y (2) of the first", "site 3 3 0 0 0 -> 36", "house 0 0 3 3 0", "site 3 3 0 0 0 -> 27",
            "site 3 3 0 0 1 -> 3", "site 3 3 0 0 2 -> 0", "site 3 3 1 0 0 -> 1", "site 3 3 1 0 1 -> 3", "site 3 3 1 0 2 -> 3",
            "count 0 -> 1");
        Edge.says("36", "NONE (none, for 1, 2; HOUSES that do not stand)", "house 3 3 1 1 0", "house 0 0 1 1 0", "site 0 1 0 0 0 -> -1",
            "site 1 0 0 0 0 -> -1", "site 4 1 0 0 0 -> -1", "site 1 4 0 0 0 -> -1", "site -1 1 0 0 0 -> -1",
            "site 2147483647 1 0 0 0 -> -1", "site 1 -2147483648 0 0 0 -> -1", "site 1 1 0 0 -1 -> -1", "site 1 1 0 0 3 -> -1",
            "site 1 1 0 0 2147483647 -> -1", "site 3 3 0 0 0 -> 26", "site 1 1 4 0 0 -> -1", "site 1 1 0 4 0 -> -1",
            "site 1 1 4 0 1 -> -1", "site 1 1 0 4 2 -> -1", "site 1 1 4096 0 0 -> -1", "site 1 1 0 4096 0 -> -1",
            "site 1 1 -1 0 0 -> -1", "site 1 1 0 -1 0 -> -1", "site 1 1 -2147483648 0 0 -> -1", "site 1 1 1 1 0 -> 0",
            "site 1 1 1 1 1 -> -1", "site 1 1 1 1 2 -> -1", "stand 1 0", "site 1 1 2 0 0 -> -1", "site 1 1 0 2 0 -> -1",
            "site 1 1 3 0 0 -> -1", "site 1 1 1 2 1 -> -1", "site 1 1 1 0 0 -> 4", "site 1 1 0 0 0 -> 62", "stand 1 1",
            "site 1 1 2 0 0 -> 1");
    }
}
