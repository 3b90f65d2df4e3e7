/** The tape, rows of houses and laws as texts: section II of the document, part of IV, and the promises 10 to 16. */
final class TapeEdges {
    private TapeEdges() {
    }

    private static String many(int times, String text) {
        return text.repeat(times);
    }

    /** A text and the place of its fault; -1: it is a law. */
    private static void fault(String sentence, String text, int place) {
        Edge.says("II", sentence, "law |" + text + "| -> " + (place == -1 ? 0 : -6), "fault -> " + place, "count 7 -> 0",
            "count 3 -> " + (place == -1 ? 1 : 0));
    }

    static void ask() {
        feeding();
        ending();
        rowsOfHouses();
        ruin();
        lawsAndTape();
        tokens();
        clauses();
        sentencesOfTests();
        sentencesOfSums();
        numbersAndParts();
        brackets();
        faults();
        promisesOfLaws();
    }

    private static void feeding() {
        Edge.says("10", "Twenty bytes come behind the TAPE, four of each number, the highest first: how many it has",
            "feed 0x00000101 0x09020001 0x01080400 0x01010706 0x00010106 -> 20", "count 7 -> 20", "feed 0 0 0 0 0 -> 40",
            "end 20", "row -> 4", "of 0 4 -> 9", "of 1 0 -> 2", "of 1 4 -> 8", "of 2 0 -> 4", "of 2 4 -> 7", "of 3 0 -> 6",
            "of 3 4 -> 6", "feed 0 0 0 0 0 -> 20");
        // Bytes above 127 stay as they are, whichever of the four they are.
        Edge.says("10", "four of each number, the highest first", "feed 0xff000101 0 0 0 0 -> 20", "end 5", "row -> 0",
            "ruin -> 1", "feed 0x62617273 0xff000000 0 0 0", "end 5", "law -> -6", "fault -> 4", "feed 0x626172f3 0 0 0 0",
            "end 4", "law -> -6", "fault -> 0", "feed 0x62e17273 0 0 0 0", "end 4", "law -> -6", "fault -> 0",
            "feed 0x62617273 0 0 0 0", "end 4", "law -> 0");
        // The text "bars" behind 376 blanks is the last four bytes of 380; the feed that goes is the one behind them.
        Edge.says("10", "NONE, if there would be more than 400", Edge.rows(
            Edge.times(19, "feed 0x20202020 0x20202020 0x20202020 0x20202020 0x20202020"), "count 7 -> 380",
            "feed 0x20202020 0x20202020 0x20202020 0x20202020 0x62617273 -> 400", "feed 0 0 0 0 0 -> -1", "count 7 -> 400",
            "end 401 -> -1", "end 400 -> 400", "status -> 0", "count 11 -> 0", "law -> 0", "fault -> -1"));
        Edge.says("10", "NONE, if there would be more than 400", Edge.rows(Edge.times(20, "feed 0 0 0 0 0"), "end 399",
            "feed 0 0 0 0 0 -> -1", "count 7 -> 399", "end 381", "feed 0 0 0 0 0 -> -1", "count 7 -> 381", "end 380",
            "feed 0 0 0 0 0 -> 400", "end 379", "feed 0 0 0 0 0 -> 399", "feed 0 0 0 0 0 -> -1", "count 7 -> 399"));
        Edge.says("10", "NONE, if there would be more than 400", Edge.rows("tape |" + many(377, " ") + "bars|", "count 7 -> 381",
            "feed 0 0 0 0 0 -> -1", "law -> 0", "visits 0 -> -1"));
    }

    private static void ending() {
        Edge.says("11", "The TAPE has its first n bytes alone: n", "tape |barsxx|", "end 5 -> 5", "count 7 -> 5", "end 4 -> 4",
            "end 4 -> 4", "law -> 0", "end 0 -> 0", "tape |bars|", "end 0 -> 0", "count 7 -> 0", "row -> -6");
        Edge.says("11", "NONE, if it has not so many, or n is below 0", "end 1 -> -1", "end 0 -> 0", "end -1 -> -1",
            "feed 0 0 0 0 0", "end 21 -> -1", "count 7 -> 20", "end 20 -> 20", "end 19 -> 19", "end 20 -> -1", "count 7 -> 19",
            "end -1 -> -1", "end -2147483648 -> -1", "end 2147483647 -> -1", "count 7 -> 19", "status -> 0", "count 8 -> 0",
            "end 1 -> 1", "end 2 -> -1", "end 0 -> 0", "end 1 -> -1", "count 7 -> 0");
    }

    private static void rowsOfHouses() {
        String fives = "A ROW of HOUSES: the TAPE's bytes by fives: x, y, WIDE, DEEP, RANK";
        Edge.says("IV", fives, "bytes 1 2 3 2 9 7 7 1 1 0", "row -> 2", "of 0 0 -> 1", "of 0 1 -> 2", "of 0 2 -> 3", "of 0 3 -> 2",
            "of 0 4 -> 9", "of 0 5 -> 1", "of 1 0 -> 7", "of 1 1 -> 7", "of 1 4 -> 0", "count 7 -> 0", "ruin -> 0");
        String ruined = "one that can't be, one within which the TAPE ends, one for which there is no room is RUIN: none";
        String[] cannotBe = {"8 0 1 1 0", "0 8 1 1 0", "0 0 0 1 0", "0 0 4 1 0", "0 0 1 0 0", "0 0 1 4 0", "0 0 1 1 10",
            "6 0 3 1 0", "0 6 1 3 0", "255 0 1 1 0", "0 255 1 1 0", "0 0 255 1 0", "0 0 1 255 0", "0 0 1 1 255"};
        for (String five : cannotBe) {
            Edge.says("IV", ruined, "bytes " + five, "row -> 0", "ruin -> 1", "count 0 -> 0", "count 8 -> 0");
        }
        String[] justCan = {"7 0 1 1 0", "0 7 1 1 0", "0 0 1 1 9", "5 0 3 1 0", "0 5 1 3 0", "5 5 3 3 9"};
        for (String five : justCan) {
            Edge.says("IV", ruined, "bytes " + five, "row -> 1", "ruin -> 0", "count 0 -> 1");
        }
        for (int length = 1; length <= 16; length++) {
            int came = length / 5;
            String fifteen = "0 0 1 1 0 2 0 1 1 0 4 0 1 1 0 6";
            String bytes = "bytes " + String.join(" ", java.util.Arrays.copyOf(fifteen.split(" "), length));
            Edge.says("IV", "one within which the TAPE ends", bytes, "row -> " + came, "ruin -> " + (length % 5 == 0 ? 0 : 1),
                "count 0 -> " + came, "count 7 -> 0");
        }
        Edge.says("IV", "one for which there is no room", Edge.rows(Edge.apart(11), "bytes 7 7 1 1 4 1 7 1 1 0 7 5 1 1 0",
            "row -> 1", "ruin -> 2", "count 0 -> 12", "of 11 4 -> 4", "count 11 -> 0", "bytes 7 5 1 1 0", "row -> 0",
            "ruin -> 1", "count 0 -> 12", "status -> 0"));
        // One that can't be leaves no gap: the next one has the next number, and one of the same row is in the way, too.
        Edge.says("IV", ruined, "bytes 0 0 2 2 1 1 1 1 1 2 2 2 1 1 3 9 9 9 9 9 3 3 1 1 4", "row -> 3", "ruin -> 2", "of 1 4 -> 3",
            "of 2 4 -> 4", "stand 0 0", "bytes 1 1 1 1 0", "row -> 0", "ruin -> 1", "count 10 -> 0");
        Edge.says("IV", ruined, Edge.rows(Edge.times(20, "feed 0 0 0 0 0"), "row -> 0", "ruin -> 80", "count 7 -> 0"));
    }

    private static void ruin() {
        Edge.says("12", "A ROW, the TAPE is empty then: how many came", "bytes 0 0 1 1 0 0 0 1 1 0", "row -> 1", "count 7 -> 0",
            "bytes 9 9 9 9 9", "row -> 0", "count 7 -> 0", "status -> 0", "bytes 2 0 1 1 0 4 0 1 1 0 6", "row -> 2",
            "count 7 -> 0", "count 0 -> 3");
        Edge.says("12", "-6 the TAPE is empty", "row -> -6", "bytes 0 0 1 1 0", "row -> 1", "row -> -6", "bytes 0", "end 0",
            "row -> -6", "count 12 -> 3", "bytes 0", "row -> 0", "count 12 -> 3");
        Edge.says("13", "How many were RUIN in the latest row() that was not REFUSED (0 ahead of any)", "ruin -> 0", "row -> -6",
            "ruin -> 0", "bytes 9 9 9 9 9 8", "row -> 0", "ruin -> 2", "row -> -6", "ruin -> 2", "house 9 9 9 9 9 -> -1",
            "ruin -> 2", "image 0", "bytes 0 0 1 1 0", "row -> 1", "ruin -> 0", "bytes 0 0 1 1 0", "row -> 0", "ruin -> 1",
            "back 0", "ruin -> 1", "law |x| -> -6", "ruin -> 1");
    }

    private static void lawsAndTape() {
        String sentence = "LAWS are TEXTS, 6 at most, on a TAPE of at most 400 bytes";
        Edge.says("II", sentence, Edge.rows(Edge.line(2), "law |takes 10| -> 0", "law |takes 11| -> 1", "law |takes 12| -> 2",
            "law |takes 13| -> 3", "law |takes 14| -> 4", "count 3 -> 5", "law |takes 15| -> 5", "count 3 -> 6",
            "law |takes 16| -> -5", "count 3 -> 6", "force 5 -> -1", "visit 0 1 1 -> 15", "force 0 -> 5", "visit 0 1 1 -> 10",
            "force 6 -> -2"));
        fault(sentence, "bars" + many(395, " "), -1);
        fault(sentence, many(396, " ") + "bars", -1);
        fault(sentence, many(395, " ") + "bars;", 400);
        fault(sentence, many(399, " ") + "x", 399);
        fault(sentence, many(400, " "), 400);
        fault(sentence, many(399, " "), 399);
        Edge.says("II", "one is in FORCE (NONE at first: no CLAUSE)", Edge.rows(Edge.line(2), "count 13 -> -1", "law |bars; takes 9|",
            "count 13 -> -1", "visit 0 1 0 -> 1", "visit 0 1 1 -> 1", "visit 0 1 2 -> 0", "law |takes 7|", "force 0 -> -1",
            "visit 0 1 0 -> 0", "visit 0 1 1 -> 9", "visit 0 1 2 -> 1", "force 1 -> 0", "visit 0 1 0 -> 1",
            "visit 0 1 1 -> 7", "visit 0 1 2 -> 0", "force -1 -> 1", "visit 0 1 1 -> 1", "count 13 -> -1"));
    }

    private static void tokens() {
        String letters = "TOKENS: longest rows of letters a .. z, of digits, single other bytes, any blanks (32) between";
        fault(letters, "takes from", -1);
        fault(letters, "takesfrom", 0);
        fault(letters, "takes fromif 1=1", 6);
        fault(letters, "takes 1if 1=1", -1);
        fault(letters, "takes1if1=1;bars", -1);
        fault(letters, "takes 1 0", 8);
        fault(letters, "takes 10", -1);
        fault(letters, "t akes 1", 0);
        fault(letters, "takes 1+1", -1);
        fault(letters, "takes 1  +  1  ", -1);
        fault(letters, "     takes     1     ", -1);
        fault(letters, "bars if 1<=2", 10);
        fault(letters, "bars if[1]<[2]", -1);
        fault(letters, "bars if((1<2))", -1);
        // The neighbours of a, z, 0, 9 and of the blank are single bytes, which no law knows.
        String[] others = {"`", "{", "@", "A", "Z", "/", ":", "_", "\u001f", "!", "\t", "\n", "\r", "\u0000", "\u007f", "\u0080",
            "\u00a0", "\u00e1", "\u00ff"};
        for (String other : others) {
            fault(letters, "bars" + other, 4);
            fault(letters, "bars " + other, 5);
            fault(letters, other + "bars", 0);
            fault(letters, "takes" + other + "1", 5);
            fault(letters, "takes " + other, 6);
        }
        fault(letters, "takes 1:", 7);
        fault(letters, "takes 1/", 8);
        fault(letters, "takes 9if 9=9", -1);
        fault(letters, "takes 0if 0=0", -1);
        fault(letters, "bars if area = yard", -1);
        fault(letters, "bars if a = z", 8);
        fault(letters, "barsa", 0);
        fault(letters, "barsz", 0);
        fault(letters, "bars z", 5);
        fault(letters, "takes 1z", 7);
        fault(letters, "takes 0z", 7);
        fault(letters, "takes z0", 6);
        fault(letters, "takes a9", 6);
        fault(letters, "Bars", 0);
        fault(letters, "bArs", 0);
        fault(letters, "bars If 1=1", 5);
    }

    private static void clauses() {
        String twelve = "CLAUSE {\";\" CLAUSE}, 12 at most (FAULT at the 13th's first TOKEN)";
        fault(twelve, "bars", -1);
        fault(twelve, "bars;bars", -1);
        fault(twelve, "bars bars", 5);
        fault(twelve, "bars;;bars", 5);
        fault(twelve, ";", 0);
        fault(twelve, "bars;", 5);
        fault(twelve, "bars;  ", 7);
        fault(twelve, many(10, "bars;") + "bars", -1);
        fault(twelve, many(11, "bars;") + "bars", -1);
        fault(twelve, many(12, "bars;") + "bars", 60);
        fault(twelve, many(12, "bars;") + "   takes 1", 63);
        fault(twelve, many(12, "bars;") + "x", 60);
        fault(twelve, many(12, "bars;") + ";", 60);
        fault(twelve, many(12, "bars;"), 60);
        fault(twelve, many(12, "bars;") + "  ", 62);
        fault(twelve, many(13, "bars;") + "bars", 60);
        fault(twelve, many(11, "bars;") + "bars  if 1=1  ", -1);
        fault(twelve, many(11, "takes 1;") + "takes 1", -1);
        fault(twelve, many(12, "takes 1;") + "takes 1", 96);
        fault(twelve, many(11, "bars if 1=1;") + "bars if 1=1", -1);
        fault(twelve, many(12, "bars if 1=1;") + "bars if 1=1", 144);
        Edge.says("II", twelve, Edge.rows(Edge.line(2), "law |" + many(11, "takes 5;") + "takes 8|", "force 0", "visit 0 1 1 -> 8",
            "law |" + many(11, "takes 5;") + "bars|", "force 1", "visit 0 1 1 -> 5", "visit 0 1 2 -> 1"));
        String clause = "CLAUSE: (\"takes\" SUM | \"bars\") [\"if\" TEST]";
        fault(clause, "takes 1", -1);
        fault(clause, "takes 1 if 1=1", -1);
        fault(clause, "bars if 1=1", -1);
        fault(clause, "takes", 5);
        fault(clause, "takes if 1=1", 6);
        fault(clause, "takes 1 1", 8);
        fault(clause, "bars 1", 5);
        fault(clause, "bars if", 7);
        fault(clause, "takes 1 if", 10);
        fault(clause, "if 1=1", 0);
        fault(clause, "bars takes 1", 5);
        fault(clause, "takes bars", 6);
        fault(clause, "bars if 1=1 if 1=1", 12);
        fault(clause, "takes 1 or", 8);
        fault(clause, "bars if 1=1 bars", 12);
    }

    private static void sentencesOfTests() {
        String test = "TEST: BOTH {\"or\" BOTH}";
        fault(test, "bars if 1=1 or 1=1", -1);
        fault(test, "bars if 1=1 or 1=1 or 1=1", -1);
        fault(test, "bars if 1=1 or", 14);
        fault(test, "bars if or 1=1", 8);
        fault(test, "bars if 1=1 or or 1=1", 15);
        fault(test, "bars if 1=1 1=1", 12);
        String both = "BOTH: PLAIN {\"and\" PLAIN}";
        fault(both, "bars if 1=1 and 1=1", -1);
        fault(both, "bars if 1=1 and 1=1 and 1=1 or 1=1 and 1=1", -1);
        fault(both, "bars if 1=1 and", 15);
        fault(both, "bars if and 1=1", 8);
        fault(both, "bars if 1=1 and or 1=1", 16);
        String plain = "PLAIN: \"not\" PLAIN | \"(\" TEST \")\" | SUM (\"<\" | \">\" | \"=\") SUM";
        fault(plain, "bars if not 1=1", -1);
        fault(plain, "bars if not not (not 1=1)", -1);
        fault(plain, "bars if not", 11);
        fault(plain, "bars if not not", 15);
        fault(plain, "bars if 1=1 not", 12);
        fault(plain, "bars if not or", 12);
        fault(plain, "bars if (1=1)", -1);
        fault(plain, "bars if (1=1 or 1=1 and not 1=1)", -1);
        fault(plain, "bars if ()", 9);
        fault(plain, "bars if (1=1", 12);
        fault(plain, "bars if (1=1]", 12);
        fault(plain, "bars if 1=1)", 11);
        fault(plain, "bars if (1)=1", 10);
        fault(plain, "bars if (1=1)=1", 13);
        fault(plain, "bars if 1<1", -1);
        fault(plain, "bars if 1>1", -1);
        fault(plain, "bars if 1", 9);
        fault(plain, "bars if 1<", 10);
        fault(plain, "bars if <1", 8);
        fault(plain, "bars if 1<1<1", 11);
        fault(plain, "bars if 1><1", 10);
        fault(plain, "bars if 1=(1)", 10);
        fault(plain, "bars if 1+1=1*1-1/1", -1);
        fault(plain, "bars if " + many(97, "not ") + "1=1", -1);
        fault(plain, "bars if " + many(98, "not "), 400);
    }

    private static void sentencesOfSums() {
        String sum = "SUM: TERM {(\"+\" | \"-\") TERM}";
        fault(sum, "takes 1+1-1+1", -1);
        fault(sum, "takes 1+", 8);
        fault(sum, "takes 1-", 8);
        fault(sum, "takes +1", 6);
        fault(sum, "takes -1", 6);
        fault(sum, "takes 1--1", 8);
        String term = "TERM: PART {(\"*\" | \"/\") PART}";
        fault(term, "takes 1*1/1*1", -1);
        fault(term, "takes 1*", 8);
        fault(term, "takes 1/", 8);
        fault(term, "takes *1", 6);
        fault(term, "takes 1*-1", 8);
        fault(term, "takes 1+*1", 8);
        String part = "PART: NUMBER (to 1,000) | \"[\" SUM \"]\" | \"from\" | \"to\" | \"rank\" | \"other\" | \"area\" | \"yard\""
            + " | \"door\" | \"hour\" | \"day\"";
        fault(part, "takes 999", -1);
        fault(part, "takes 1000", -1);
        fault(part, "takes 1001", 6);
        fault(part, "takes 0", -1);
        fault(part, "takes 00000000000000000000001000", -1);
        fault(part, "takes 00000000000000000000001001", 6);
        fault(part, "takes 2147483648", 6);
        fault(part, "takes 4294967296", 6);
        fault(part, "takes 4294967297", 6);
        fault(part, "takes 18446744073709551617", 6);
        fault(part, "takes " + many(394, "9"), 6);
        fault(part, "takes 1+1001", 8);
        fault(part, "bars if 1=1001", 10);
        fault(part, "bars if 1=1000", -1);
        fault(part, "takes [1]", -1);
        fault(part, "takes [1+[2*3]]", -1);
        fault(part, "takes []", 7);
        fault(part, "takes [1", 8);
        fault(part, "takes [1)", 8);
        fault(part, "takes (1)", 6);
        fault(part, "takes 1]", 7);
        fault(part, "takes [1=1]", 8);
        String[] words = {"from", "to", "rank", "other", "area", "yard", "door", "hour", "day"};
        for (String word : words) {
            fault(part, "takes " + word, -1);
            fault(part, "takes " + word + "s", 6);
            fault(part, "takes " + word.substring(0, word.length() - 1), 6);
            fault(part, "takes x" + word, 6);
            fault(part, "takes " + word + " " + word, 7 + word.length());
        }
        for (String word : new String[] {"if", "not", "or", "and", "takes", "bars", "x", "form", "toe", "dry"}) {
            fault(part, "takes " + word, 6);
        }
        // A word is its letters, the first and the last among them.
        for (String word : words) {
            String rest = word.substring(1);
            String start = word.substring(0, word.length() - 1);
            fault(part, "takes x" + rest, 6);
            fault(part, "takes " + start + "x", 6);
        }
        for (String text : new String[] {"cars", "barz", "makes 1", "taken 1"}) {
            fault("CLAUSE: (\"takes\" SUM | \"bars\") [\"if\" TEST]", text, 0);
        }
        for (String text : new String[] {"bars of 1=1", "bars is 1=1"}) {
            fault("CLAUSE: (\"takes\" SUM | \"bars\") [\"if\" TEST]", text, 5);
        }
        for (String text : new String[] {"bars if 1=1 er 1=1", "bars if 1=1 on 1=1", "bars if 1=1 end 1=1", "bars if 1=1 any 1=1"}) {
            fault("TEST: BOTH {\"or\" BOTH}", text, 12);
        }
        for (String text : new String[] {"bars if got 1=1", "bars if now 1=1"}) {
            fault("BOTH: PLAIN {\"and\" PLAIN}", text, 8);
        }
    }

    private static void numbersAndParts() {
        String fifty = "50 PARTS that are NUMBERS and words (FAULT at the 51st)";
        fault(fifty, "takes 1" + many(48, "+1"), -1);
        fault(fifty, "takes 1" + many(49, "+1"), -1);
        fault(fifty, "takes 1" + many(50, "+1"), 106);
        fault(fifty, "takes 1" + many(49, "+1") + "+  1", 108);
        fault(fifty, "takes to" + many(49, "+to"), -1);
        fault(fifty, "takes to" + many(50, "+to"), 156);
        fault(fifty, "takes to" + many(49, "*1"), -1);
        fault(fifty, "takes to" + many(49, "*1") + "+day", 107);
        fault(fifty, "takes [1]" + many(49, "+[1]"), -1);
        fault(fifty, "takes [1]" + many(49, "+[1]") + "+[1]", 207);
        fault(fifty, "takes 1" + many(49, "+1") + "+[", 107);
        fault(fifty, "takes 1" + many(49, "+1") + "+[[1]]", 108);
        // All parts of the text count, those of tests and of each clause.
        fault(fifty, "takes 1" + many(47, "+1") + " if 1=1", -1);
        fault(fifty, "takes 1" + many(48, "+1") + " if 1=1", 109);
        fault(fifty, "takes 1" + many(49, "+1") + ";bars", -1);
        fault(fifty, "takes 1" + many(49, "+1") + ";bars if 1=1", 114);
        fault(fifty, "takes 1" + many(49, "+1") + ";takes day", 112);
        fault(fifty, "bars if 1=1" + many(24, " or 1=1"), -1);
        fault(fifty, "bars if 1=1" + many(25, " or 1=1"), 183);
        // Any 51st that is none can't go on there in either reading; a sign that can is no part.
        fault(fifty, "takes 1" + many(49, "+1") + "+1001", 106);
        fault(fifty, "takes 1" + many(49, "+1") + "+x", 106);
        fault(fifty, "takes 1" + many(49, "+1") + "+", 106);
        // The next text is counted anew, also behind one with a fault.
        String fiftyParts = "takes 1" + many(49, "+1");
        Edge.says("II", fifty, "law |" + fiftyParts + "| -> 0", "law |" + fiftyParts + "| -> 1", "law |" + fiftyParts + "+1| -> -6",
            "fault -> 106", "law |" + fiftyParts + "| -> 2", "law |x| -> -6", "law |" + many(11, "bars;") + "bars| -> 3",
            "law |" + many(11, "bars;") + "bars| -> 4");
        Edge.says("II", fifty, Edge.rows(Edge.line(2), "law |takes 1" + many(49, "+1") + "|", "force 0", "visit 0 1 1 -> 50"));
    }

    private static void brackets() {
        String eight = "8 brackets of both kinds within one another (FAULT at the 9th) at most";
        fault(eight, "takes " + many(7, "[") + "1" + many(7, "]"), -1);
        fault(eight, "takes " + many(8, "[") + "1" + many(8, "]"), -1);
        fault(eight, "takes " + many(9, "[") + "1" + many(9, "]"), 14);
        fault(eight, "takes " + many(8, "[") + " [1", 15);
        fault(eight, "bars if " + many(7, "(") + "1=1" + many(7, ")"), -1);
        fault(eight, "bars if " + many(8, "(") + "1=1" + many(8, ")"), -1);
        fault(eight, "bars if " + many(9, "(") + "1=1" + many(9, ")"), 16);
        fault(eight, "bars if " + many(9, "not (") + "1=1" + many(9, ")"), 52);
        fault(eight, "bars if " + many(7, "(") + "[1]=[1]" + many(7, ")"), -1);
        fault(eight, "bars if " + many(8, "(") + "[1]=1" + many(8, ")"), 16);
        fault(eight, "bars if " + many(8, "(") + "1=[1]" + many(8, ")"), 18);
        fault(eight, "bars if " + many(5, "(") + many(3, "[") + "1" + many(3, "]") + "=1" + many(5, ")"), -1);
        fault(eight, "bars if " + many(5, "(") + many(4, "[") + "1" + many(4, "]") + "=1" + many(5, ")"), 16);
        fault(eight, "bars if " + many(1, "(") + many(7, "[") + "1" + many(7, "]") + "=1" + many(1, ")"), -1);
        fault(eight, "bars if " + many(1, "(") + many(8, "[") + "1" + many(8, "]") + "=1" + many(1, ")"), 16);
        // Those that are closed again stand within no other one.
        String closed = many(8, "[") + "1" + many(8, "]");
        fault(eight, "takes " + closed + "+" + closed + "*" + closed, -1);
        fault(eight, "takes " + closed + "+[" + closed + "]", 32);
        fault(eight, "takes " + closed + ";takes " + closed + " if " + closed + "=" + closed, -1);
        String shut = many(8, "(") + "1=1" + many(8, ")");
        fault(eight, "bars if " + shut + " or " + shut + " and not " + shut, -1);
        fault(eight, "bars if " + shut + " or (" + shut, 39);
        // An opened one that stays open and a wrong one that closes are faults, and no ends.
        fault(eight, "takes " + many(8, "[") + "1" + many(7, "]"), 22);
        fault(eight, "takes " + many(8, "[") + "1" + many(9, "]"), 23);
        fault(eight, "bars if " + many(8, "(") + "1=1" + many(7, ")"), 26);
        fault(eight, "bars if " + many(8, "(") + "1=1" + many(9, ")"), 27);
    }

    private static void faults() {
        String first = "FAULT: the first TOKEN that can't go on there (the end's: the TEXT's length)";
        fault(first, "", 0);
        fault(first, " ", 1);
        fault(first, "x", 0);
        fault(first, "  x", 2);
        fault(first, "bar", 0);
        fault(first, "barsx", 0);
        fault(first, "takes 1x", 7);
        fault(first, "takes    ", 9);
        fault(first, "takes 1 +   ", 12);
        fault(first, "bars if 1 = 1 ; bars if 2 ; x", 26);
        fault(first, "x y z", 0);
        fault(first, "takes 1 x 1001", 8);
        fault(first, "bars if 1 =", 11);
        fault(first, "bars if 1 =  ", 13);
    }

    private static void promisesOfLaws() {
        Edge.says("14", "The TAPE, which is empty then, becomes a LAW: its number", "law |bars| -> 0", "count 7 -> 0",
            "count 3 -> 1", "law |takes 1| -> 1", "count 3 -> 2", "law |x| -> -6", "law |bars| -> 2", "law -> -6",
            "count 3 -> 3");
        Edge.says("14", "-5 (ahead of reading it; the TAPE is empty then, too)", Edge.rows(Edge.times(5, "law |bars|"),
            "law |bar| -> -6", "fault -> 0", "law |takes 5| -> 5", "fault -> -1", "law |bar| -> -5", "count 7 -> 0",
            "fault -> -1", "law |bars| -> -5", "count 7 -> 0", "law -> -5", "fault -> -1", "count 12 -> 1", "count 11 -> 3"));
        Edge.says("14", "-6 (blanks alone: FAULT at the end)", "law -> -6", "fault -> 0", "law | | -> -6", "fault -> 1",
            "law |   | -> -6", "fault -> 3", "count 7 -> 0", "law |" + many(20, " ") + "| -> -6", "fault -> 20", "count 3 -> 0",
            "count 12 -> 4");
        Edge.says("15", "FAULT of the latest law() that read a TEXT: its place", Edge.rows("law |bars x| -> -6", "fault -> 5",
            "row -> -6", "fault -> 5", "law |takes x| -> -6", "fault -> 6", "image 0", "law |bars| -> 0", "fault -> -1", "back 0",
            "fault -> -1", "law |x| -> -6", "fault -> 0", "back 0", "fault -> 0", Edge.times(5, "law |bars|"), "law |bars| -> 5",
            "image 0", "back 0", "fault -> -1", "law |bars x| -> -5", "fault -> -1"));
        Edge.says("15", "NONE without", "fault -> -1", "bytes 1 2 3", "fault -> -1", "row -> 0", "fault -> -1", "law |bars| -> 0",
            "fault -> -1");
        Edge.says("16", "A LAW is in FORCE (NONE: none): which was", Edge.rows(Edge.times(6, "law |bars|"), "force -1 -> -1",
            "force 0 -> -1", "force 5 -> 0", "force 5 -> 5", "force -1 -> 5", "force -1 -> -1", "count 13 -> -1", "force 3 -> -1",
            "count 13 -> 3"));
        Edge.says("16", "-2", "force 0 -> -2", "law |bars| -> 0", "force 1 -> -2", "force -2 -> -2", "count 13 -> -1",
            "force 0 -> -1", "force 1 -> -2", "force 6 -> -2", "force -2147483648 -> -2", "force 2147483647 -> -2",
            "count 13 -> 0", "law |x| -> -6", "force 1 -> -2", "law |bars| -> 1", "force 1 -> 0", "force 2 -> -2",
            "count 13 -> 1");
    }
}
