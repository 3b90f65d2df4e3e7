/** What laws say of a visit: the second half of section II of the document. */
final class LawEdges {
    private static final String BROKEN = "Beyond 1,000,000,000 either way, or divided by 0, a SUM, a TEST is BROKEN";
    private static final String HOLDS = "A CLAUSE HOLDS, if its \"if\" (if it has one) is so, and neither that nor its SUM is BROKEN";
    private static final String ONLY_IF = "(\"or\", \"and\" ask what stands behind only if it can still matter)";
    private static final String MILLIARD = "1000*1000*1000";

    private LawEdges() {
    }

    /** From house 0 (rank 7, 6 plots) to house 1 (rank 2, 1 plot), which touch at a corner; hour 12, day 0. */
    private static String[] two() {
        return new String[] {"house 0 0 3 2 7", "house 3 2 1 1 2"};
    }

    private static void takes(String sentence, String text, int want) {
        Edge.says("II", sentence, Edge.rows(two(), "law |" + text + "|", "force 0", "visit 0 1 1 -> " + want));
    }

    private static void so(String sentence, String test, int want) {
        Edge.says("II", sentence, Edge.rows(two(), "law |bars if " + test + "|", "force 0", "visit 0 1 2 -> " + want,
            "visit 0 1 0 -> " + (1 - want)));
    }

    /** A broken test is not so, and the turned one is not so either. */
    private static void broken(String sentence, String test) {
        so(sentence, test, 0);
        so(sentence, "not (" + test + ")", 0);
    }

    static void ask() {
        words();
        milliards();
        divisions();
        holding();
        onlyIfItMatters();
        tests();
        times();
        bars();
    }

    private static void words() {
        Edge.says("II", "It is asked of a VISIT from a HOUSE to another one: their numbers", Edge.rows(Edge.apart(12),
            "law |takes from*10+to+1|", "force 0", "visit 0 1 1 -> 2", "visit 1 0 1 -> 11", "visit 0 11 1 -> 12",
            "visit 8 11 1 -> 92", "visit 8 10 1 -> 91", "law |takes from+50|", "force 1", "visit 11 0 1 -> 61",
            "visit 0 11 1 -> 50"));
        Edge.says("II", "rank, other: RANKS of from, to", Edge.rows("house 0 0 1 1 0", "house 2 0 1 1 9",
            "law |takes rank*10+other+3|", "force 0", "visit 0 1 1 -> 12", "visit 1 0 1 -> 93", "rank 0 9", "rank 1 0",
            "visit 0 1 1 -> 93", "visit 1 0 1 -> 12"));
        Edge.says("II", "area, yard: their PLOTS", "house 0 0 1 1 0", "house 2 0 3 3 0", "house 0 4 2 3 0",
            "law |takes area*10+yard|", "force 0", "visit 0 1 1 -> 19", "visit 1 0 1 -> 91", "visit 0 2 1 -> 16",
            "visit 2 0 1 -> 61", "visit 2 1 1 -> 69", "stand 1 0", "visit 1 0 1 -> 91");
        Edge.says("II", "door: 1 if a DOOR is between them, else 0", Edge.rows(Edge.apart(3), "law |takes door+10|", "force 0",
            "visit 0 1 1 -> 10", "door 0 1", "visit 0 1 1 -> 11", "visit 1 0 1 -> 11", "visit 0 2 1 -> 10", "stand 1 0",
            "visit 0 1 1 -> 11", "wall 1 0", "visit 0 1 1 -> 10"));
        Edge.says("II", "hour, day", Edge.rows(two(), "law |takes hour*4+day|", "force 0", "visit 0 1 1 -> 48", "terms 0 23",
            "visit 0 1 1 -> 92", "terms 0 0", "visit 0 1 1 -> 1", "terms 1 99", "visit 0 1 1 -> 99", "terms 1 98",
            "visit 0 1 1 -> 98", "terms 0 1", "terms 1 1", "visit 0 1 1 -> 5"));
    }

    private static void milliards() {
        takes(BROKEN, "takes 5; takes " + MILLIARD, 99);
        takes(BROKEN, "takes 5; takes " + MILLIARD + "+0", 99);
        takes(BROKEN, "takes 5; takes " + MILLIARD + "-1", 99);
        takes(BROKEN, "takes 5; takes " + MILLIARD + "+1", 5);
        takes(BROKEN, "takes 5; takes 1+" + MILLIARD, 5);
        takes(BROKEN, "takes 5; takes 0-" + MILLIARD, 1);
        takes(BROKEN, "takes 5; takes 1-" + MILLIARD, 1);
        takes(BROKEN, "takes 5; takes 0-" + MILLIARD + "-1", 5);
        takes(BROKEN, "takes 5; takes 0-1-" + MILLIARD, 5);
        takes(BROKEN, "takes 5; takes 1000*1000*999", 99);
        takes(BROKEN, "takes 5; takes [0-1]*" + MILLIARD, 1);
        takes(BROKEN, "takes 5; takes " + MILLIARD + "*1", 99);
        takes(BROKEN, "takes 5; takes " + MILLIARD + "*2", 5);
        takes(BROKEN, "takes 5; takes [0-2]*" + MILLIARD, 5);
        takes(BROKEN, "takes 5; takes " + MILLIARD + "*1000", 5);
        takes(BROKEN, "takes 5; takes " + MILLIARD + "*0", 1);
        takes(BROKEN, "takes 5; takes [" + MILLIARD + "+1]*0", 5);
        takes(BROKEN, "takes 5; takes [" + MILLIARD + "]/1000/1000/100", 10);
        // Products far beyond what a machine's number holds do not come back below the bound.
        takes(BROKEN, "takes 5; takes " + MILLIARD + "*" + MILLIARD + "*" + MILLIARD + "*" + MILLIARD, 5);
        takes(BROKEN, "takes 5; takes 1000" + "*1000".repeat(48), 5);
        so(BROKEN, MILLIARD + " > 0", 1);
        so(BROKEN, "0-" + MILLIARD + " < 0", 1);
        so(BROKEN, MILLIARD + " = " + MILLIARD, 1);
        so(BROKEN, "0-" + MILLIARD + " < " + MILLIARD, 1);
        broken(BROKEN, MILLIARD + "+1 > 0");
        broken(BROKEN, "0 < " + MILLIARD + "+1");
        broken(BROKEN, "0-" + MILLIARD + "-1 < 0");
        broken(BROKEN, "0 > 0-" + MILLIARD + "-1");
        broken(BROKEN, MILLIARD + "+1 = " + MILLIARD + "+1");
        broken(BROKEN, "[" + MILLIARD + "*2]/2 > 0");
    }

    private static void divisions() {
        takes(BROKEN, "takes 5; takes 8/1", 8);
        takes(BROKEN, "takes 5; takes 8/0", 5);
        takes(BROKEN, "takes 5; takes 0/0", 5);
        takes(BROKEN, "takes 5; takes 8/day", 5);
        takes(BROKEN, "takes 5; takes 8/[day+1]", 8);
        takes(BROKEN, "takes 5; takes 8/[day-1]+20", 12);
        takes(BROKEN, "takes 5; takes 8/from*0", 5);
        takes(BROKEN, "takes 5; takes 0*[1/0]", 5);
        takes(BROKEN, "takes 5; takes 1/0-1/0", 5);
        broken(BROKEN, "1/0 = 1");
        broken(BROKEN, "1 = 1/0");
        broken(BROKEN, "1/0 = 1/0");
        String cut = "/ is cut towards 0";
        takes(cut, "takes 7/2", 3);
        takes(cut, "takes 6/2", 3);
        takes(cut, "takes 5/2", 2);
        takes(cut, "takes 10+[0-7]/2", 7);
        takes(cut, "takes 10+7/[0-2]", 7);
        takes(cut, "takes 10+[0-7]/[0-2]", 13);
        takes(cut, "takes 10+[0-1]/2", 10);
        takes(cut, "takes 10+1/[0-1000]", 10);
        takes(cut, "takes 10+[0-2]/2", 9);
        takes(cut, "takes 10-7/2", 7);
        takes(cut, "takes 999/1000+4", 4);
        takes(cut, "takes 1000/1000+4", 5);
    }

    private static void holding() {
        takes(HOLDS, "takes 8", 8);
        takes(HOLDS, "takes 8 if 1=1", 8);
        takes(HOLDS, "takes 8 if 1=2", 1);
        takes(HOLDS, "takes 8/0 if 1=1", 1);
        takes(HOLDS, "takes 8 if 1/0=1", 1);
        takes(HOLDS, "takes 8 if not 1/0=1", 1);
        takes(HOLDS, "takes 8/0 if 1=2", 1);
        takes(HOLDS, "takes 8/0; takes 6", 6);
        takes(HOLDS, "takes 6; takes 8/0; bars if 1/0=1", 6);
        so(HOLDS, "1=1", 1);
        so(HOLDS, "1=2", 0);
        broken(HOLDS, "1/0=1");
        // A clause that is broken does not touch the others.
        Edge.says("II", HOLDS, Edge.rows(two(), "law |bars if 1/0=1; bars; takes 1/0; takes 4 if 1=1|", "force 0", "visit 0 1 2 -> 1",
            "visit 0 1 1 -> 4", "law |takes 1/0; bars if 1/0=1|", "force 1", "visit 0 1 2 -> 0", "visit 0 1 1 -> 1"));
    }

    private static void onlyIfItMatters() {
        so(ONLY_IF, "1=1 or 1/0=1", 1);
        so(ONLY_IF, "1=1 or 1/0=1 or 1/0=1", 1);
        so(ONLY_IF, "1=2 or 1=1 or 1/0=1", 1);
        so(ONLY_IF, "not (1=2 and 1/0=1)", 1);
        so(ONLY_IF, "not (1=2 and 1/0=1 and 1/0=1)", 1);
        so(ONLY_IF, "not (1=1 and 1=2 and 1/0=1)", 1);
        so(ONLY_IF, "1=2 and 1/0=1 or 1=1", 1);
        so(ONLY_IF, "1=1 or 1/0=1 and 1/0=1", 1);
        so(ONLY_IF, "not (not 1=1 and 1/0=1)", 1);
        so(ONLY_IF, "(1=1 or 1/0=1) and (1=1 or 1/0=1)", 1);
        takes(ONLY_IF, "takes 8 if not (1=2 and 3=4)", 8);
        takes(ONLY_IF, "takes 8 if 1=1 or 3=4", 8);
        takes(ONLY_IF, "takes 8 if 1=2 and 3=4 or 5=5", 8);
        takes(ONLY_IF, "takes 8+1 if not (1=2 and 3=3) and (4=4 or 5=6)", 9);
        takes(ONLY_IF, "takes 0+0 if not (1=2 and 3=3)", 1);
        broken(ONLY_IF, "1=2 or 1/0=1");
        broken(ONLY_IF, "1=1 and 1/0=1");
        broken(ONLY_IF, "1/0=1 or 1=1");
        broken(ONLY_IF, "1/0=1 and 1=2");
        broken(ONLY_IF, "1=1 and 1/0=1 or 1=1");
        broken(ONLY_IF, "1=2 or 1=1 and 1/0=1");
        broken(ONLY_IF, "(1=2 or 1/0=1) or 1=1");
        broken(ONLY_IF, "1=1 and (1=2 or 1/0=1)");
    }

    private static void tests() {
        String[][] due = {
            {"1<2", "1"}, {"2<2", "0"}, {"3<2", "0"}, {"1>2", "0"}, {"2>2", "0"}, {"3>2", "1"}, {"1=2", "0"}, {"2=2", "1"},
            {"3=2", "0"}, {"0-1<0", "1"}, {"0>0-1", "1"}, {"0-1=0-1", "1"}};
        for (String[] one : due) {
            so("PLAIN: \"not\" PLAIN | \"(\" TEST \")\" | SUM (\"<\" | \">\" | \"=\") SUM", one[0], Integer.parseInt(one[1]));
            so("PLAIN: \"not\" PLAIN | \"(\" TEST \")\" | SUM (\"<\" | \">\" | \"=\") SUM", "not " + one[0],
                1 - Integer.parseInt(one[1]));
        }
        so("TEST: BOTH {\"or\" BOTH}", "1=1 or 1=2 and 1=2", 1);
        so("TEST: BOTH {\"or\" BOTH}", "1=2 and 1=2 or 1=1", 1);
        so("TEST: BOTH {\"or\" BOTH}", "(1=1 or 1=2) and 1=2", 0);
        so("TEST: BOTH {\"or\" BOTH}", "1=2 or 1=2 or 1=2", 0);
        so("TEST: BOTH {\"or\" BOTH}", "1=2 or 1=2 or 1=1", 1);
        so("BOTH: PLAIN {\"and\" PLAIN}", "1=1 and 1=1 and 1=2", 0);
        so("BOTH: PLAIN {\"and\" PLAIN}", "1=1 and 1=1 and 1=1", 1);
        so("BOTH: PLAIN {\"and\" PLAIN}", "not 1=2 and 1=2", 0);
        so("BOTH: PLAIN {\"and\" PLAIN}", "not 1=1 and 1=2", 0);
        so("BOTH: PLAIN {\"and\" PLAIN}", "not (1=1 and 1=2)", 1);
        so("BOTH: PLAIN {\"and\" PLAIN}", "not not not 1=2", 1);
        takes("SUM: TERM {(\"+\" | \"-\") TERM}", "takes 20-5-4", 11);
        takes("SUM: TERM {(\"+\" | \"-\") TERM}", "takes 20-[5-4]", 19);
        takes("SUM: TERM {(\"+\" | \"-\") TERM}", "takes 2+3*4-1", 13);
        takes("TERM: PART {(\"*\" | \"/\") PART}", "takes 80/4/5", 4);
        takes("TERM: PART {(\"*\" | \"/\") PART}", "takes 80/[20/5]", 20);
        takes("TERM: PART {(\"*\" | \"/\") PART}", "takes 7/2*2", 6);
        takes("TERM: PART {(\"*\" | \"/\") PART}", "takes 2*7/2", 7);
        takes("TERM: PART {(\"*\" | \"/\") PART}", "takes [2+3]*4", 20);
    }

    private static void times() {
        String last = "A VISIT TAKES what the last \"takes\" that HOLDS tells, 1 .. 99 (else the nearest), 1 without";
        takes(last, "takes 0-1", 1);
        takes(last, "takes 0", 1);
        takes(last, "takes 1", 1);
        takes(last, "takes 2", 2);
        takes(last, "takes 98", 98);
        takes(last, "takes 99", 99);
        takes(last, "takes 100", 99);
        takes(last, "takes 1000", 99);
        takes(last, "takes " + MILLIARD, 99);
        takes(last, "takes 0-" + MILLIARD, 1);
        takes(last, "bars", 1);
        takes(last, "bars if 1=2", 1);
        takes(last, "takes 50 if 1=2", 1);
        takes(last, "takes 5; takes 6", 6);
        takes(last, "takes 6; takes 5", 5);
        takes(last, "takes 5; takes 6 if 1=2", 5);
        takes(last, "takes 5 if 1=1; takes 6 if 1=1; takes 7 if 1=2", 6);
        takes(last, "takes 5; bars; takes 0", 1);
        takes(last, "takes 5; takes 100; bars", 99);
        takes(last, "takes 5; takes 6/0; takes 7 if 1/0=0", 5);
        Edge.says("II", last, Edge.rows(two(), "visit 0 1 1 -> 1", "law |bars|", "visit 0 1 1 -> 1"));
    }

    private static void bars() {
        String barred = "It is BARRED, if \"bars\" HOLDS";
        Edge.says("II", barred, Edge.rows(two(), "visit 0 1 2 -> 0", "law |bars|", "law |takes 5|", "law |bars if 1=2; bars if 1=1|",
            "law |bars if 1=1; bars if 1=2|", "law |bars if 1=2; bars if 2=3|", "law |bars if from=0|", "force 0", "visit 0 1 2 -> 1",
            "visit 1 0 2 -> 1", "force 1", "visit 0 1 2 -> 0", "force 2", "visit 0 1 2 -> 1", "force 3", "visit 0 1 2 -> 1",
            "force 4", "visit 0 1 2 -> 0", "force 5", "visit 0 1 2 -> 1", "visit 1 0 2 -> 0", "force -1", "visit 0 1 2 -> 0"));
    }
}
