/** What one call changes, all others see at once: the answers ahead of a change, behind it, and behind its undoing. */
final class ChangeEdges {
    private static final String[] ASKED = {"visits 0", "comes 0 2 0", "comes 0 2 2", "comes 0 2 3", "way 0 2 1", "parts -1", "holders 0 2",
        "cut 0 2 0", "news 1 2", "round 0 4", "stop 0 4 0", "meet 0 2 0", "doors 0", "fits 0 0", "wrong 0"};
    private static final int[] FIRST = {2, 2, 2, 2, 1, 1, 2, 1, 2, 4, 2, 1, 0, 1, 0};
    private static final int[] ALL_BARRED = {0, -1, -1, -1, -1, 3, -1, 0, -1, -1, -1, -1, -1, 0, 1};
    private static final int[] ONE_BURNT = {0, -1, -1, -1, -1, 2, -1, 0, -1, -1, -1, -1, 1, 0, 1};

    private ChangeEdges() {
    }

    /** 0 - 1 - 2, a wish that 2 is come to from 0, and a log that it has the news of 0 on the second day. */
    private static String[] town() {
        return Edge.rows(Edge.line(3), "law |bars if rank>3 or hour>20 or day>50|", "law |bars|", "force 0", "wish 0 2 1", "log 2 2",
            "stand 1 0", "image 1", "stand 1 1", "image 0");
    }

    private static String[] asked(int[] due) {
        String[] all = new String[ASKED.length];
        for (int i = 0; i < ASKED.length; i++) {
            all[i] = ASKED[i] + " -> " + due[i];
        }
        return all;
    }

    /** One question at a time, too, so that none leans on what another one worked out. */
    private static void seen(String section, String sentence, String change, String[] undo, int[] due) {
        Edge.says(section, sentence, Edge.rows(town(), asked(FIRST), change, asked(due), undo, asked(FIRST)));
        for (int i = 0; i < ASKED.length; i++) {
            Edge.says(section, sentence, Edge.rows(town(), ASKED[i] + " -> " + FIRST[i], change, ASKED[i] + " -> " + due[i], undo,
                ASKED[i] + " -> " + FIRST[i]));
        }
    }

    private static String[] undo(String... rows) {
        return rows;
    }

    static void ask() {
        seen("5", "A HOUSE burns down (0) or stands (1): what it was", "stand 1 0", undo("stand 1 1"), ONE_BURNT);
        seen("4", "RANK of a HOUSE: what it was", "rank 0 4", undo("rank 0 3"),
            new int[] {0, -1, -1, -1, -1, 2, -1, 0, -1, -1, -1, 0, -1, 0, 1});
        seen("7", "A TERM: what it was", "terms 0 21", undo("terms 0 20"), ALL_BARRED);
        seen("7", "A TERM: what it was", "terms 1 51", undo("terms 1 50"), ALL_BARRED);
        seen("16", "A LAW is in FORCE (NONE: none): which was", "force 1", undo("force 0"), ALL_BARRED);
        seen("40", "BACK to IMAGE k: 0", "back 1", undo("back 0"), ONE_BURNT);
        seen("8", "A DOOR: how many there are", "door 0 2", undo("wall 0 2"), new int[] {6, 1, 1, 1, 2, 1, 0, -1, 1, 2, 2, 0, 0, 0, 1});
        seen("25", "A WISH (is 1) or a BAN (0) of two HOUSES: how many of these there are", "wish 2 0 0", undo("clear", "wish 0 2 1"),
            new int[] {2, 2, 2, 2, 1, 1, 2, 1, 2, 4, 2, 1, -1, 1, 0});
        seen("26", "WISHES and BANS are none then: how many there were", "clear", undo("wish 0 1 1"), FIRST);
        seen("29", "A LOG: how many there are", "log 2 1", undo("forget", "log 2 2"),
            new int[] {2, 2, 2, 2, 1, 1, 2, 1, 2, 4, 2, 1, 0, 0, 1});
        seen("30", "LOGS are none then: how many there were", "forget", undo("log 1 1"), FIRST);
        seen("37", "FLOODS, n 1 .. 40 days, kept as the latest: the most PARTS on any day", "flood 495 40", undo("flood 495 3"), FIRST);
        built("2", "A HOUSE that stands: its number", "house 1 1 1 1 0 -> 2");
        built("12", "A ROW, the TAPE is empty then: how many came", "row -> 1");
        wantsGone();
    }

    /** A house that is built between two who were apart, and gone back from. */
    private static void built(String section, String sentence, String change) {
        String[][] due = {{"visits 0", "0", "4"}, {"comes 0 1 0", "-1", "2"}, {"comes 0 1 2", "-1", "2"}, {"comes 0 1 3", "-1", "2"},
            {"way 0 1 1", "-1", "2"}, {"parts -1", "2", "1"}, {"holders 0 1", "-1", "4"}, {"cut 0 1 0", "0", "1"}, {"news 1 1", "-1", "2"},
            {"round 0 2", "-1", "4"}, {"stop 0 2 0", "-1", "1"}, {"meet 0 1 0", "-1", "2"}, {"doors 0", "1", "0"}, {"fits 0 1", "0", "2"},
            {"site 1 1 1 0 0", "1", "0"}, {"at 1 1", "-1", "2"}, {"visits 2", "-1", "3"}};
        for (String[] one : due) {
            Edge.says(section, sentence, "house 0 0 1 1 0", "house 2 2 1 1 0", "wish 0 1 1", "log 1 2", "image 0", one[0] + " -> " + one[1],
                "bytes 1 1 1 1 0", change, one[0] + " -> " + one[2], "back 0", one[0] + " -> " + one[1]);
        }
    }

    /** Wishes and logs that are not so, and then are none. */
    private static void wantsGone() {
        Edge.says("26", "WISHES and BANS are none then: how many there were", Edge.rows(Edge.apart(2), "wish 0 1 1", "wish 1 0 0", "doors 0 -> -1",
            "doors 5 -> 0", "clear -> 2", "doors 0 -> 0", "doors 5 -> 1"));
        Edge.says("30", "LOGS are none then: how many there were", Edge.rows(Edge.apart(2), "log 1 1", "wrong 0 -> 1", "fits 0 0 -> 0",
            "forget -> 1", "fits 0 0 -> 1", "wrong 0 -> 0"));
    }
}
