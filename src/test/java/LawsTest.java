/** The language of laws: faults by their places, and what visits take or are barred by. */
public final class LawsTest {
    private static int wrong = 0;

    private static void due(String call, int got, int want) {
        if (got != want) {
            wrong++;
            System.out.println(call + " answered " + got + ", due is " + want);
        }
    }

    private static void feed(CornerTown t, String text) {
        t.end(0);
        for (int i = 0; i < text.length(); i += 20) {
            int[] n = new int[5];
            for (int j = 0; j < 20 && i + j < text.length(); j++) {
                n[j / 4] |= text.charAt(i + j) << (24 - 8 * (j % 4));
            }
            due("feed", t.feed(n[0], n[1], n[2], n[3], n[4]), i + 20);
        }
        due("end", t.end(text.length()), text.length());
    }

    private static void fault(String text, int place) {
        CornerTown t = new CornerTown();
        feed(t, text);
        due("law of '" + text + "'", t.law(), place == -1 ? 0 : -6);
        due("fault of '" + text + "'", t.fault(), place);
    }

    private static void right(String text) {
        fault(text, -1);
    }

    /** From house 0 (rank 7, 6 plots) to house 1 (rank 2, 1 plot) at hour 12, day 0. */
    private static CornerTown town(String text) {
        CornerTown t = new CornerTown();
        t.house(0, 0, 3, 2, 7);
        t.house(3, 2, 1, 1, 2);
        feed(t, text);
        due("force of '" + text + "'", t.force(t.law()), -1);
        return t;
    }

    private static void takes(String text, int want) {
        due("'" + text + "' takes", town(text).visit(0, 1, 1), want);
    }

    private static void so(String test) {
        due("'" + test + "' is so", town("bars if " + test).visit(0, 1, 2), 1);
    }

    private static void notSo(String test) {
        due("'" + test + "' is not so", town("bars if " + test).visit(0, 1, 2), 0);
    }

    private static void broken(String test) {
        notSo(test);
        notSo("not " + test);
    }

    private static String times(String text, int many) {
        StringBuilder all = new StringBuilder();
        for (int i = 0; i < many; i++) {
            all.append(text);
        }
        return all.toString();
    }

    private static void tokens() {
        right("bars");
        right("   bars   ");
        right("takes 1");
        right("takes1if1=1;bars");
        right("takes  [ 1+ 2 ]*3 ;bars if not ( from<to )");
        fault("", 0);
        fault(" ", 1);
        fault("     ", 5);
        fault("bar", 0);
        fault("barss", 0);
        fault("barsz", 0);
        fault("barsa", 0);
        fault("bars{", 4);
        fault("bars`", 4);
        fault("takes 1/", 8);
        fault("takes 1:", 7);
        fault("takes 9 if hour=09", -1);
        fault("takestakes", 0);
        fault("Bars", 0);
        fault("  tAkes 1", 2);
        fault("bars\t", 4);
        fault("bars \u00ff", 5);
        fault("bars\u0000", 4);
        fault("takes 1 \u00e9", 8);
        fault("takes fromto", 6);
        fault("takes rank2", 10);
        fault("takes 2rank", 7);
    }

    private static void clauses() {
        fault("bars;", 5);
        fault("bars ; ", 7);
        fault(";bars", 0);
        fault("bars;;bars", 5);
        fault("bars bars", 5);
        fault("takes", 5);
        fault("takes ;", 6);
        fault("takes if", 6);
        fault("takes 1 if", 10);
        fault("takes 1 if ;", 11);
        fault("bars if 1=1 if 1=1", 12);
        fault("bars 1", 5);
        right(times("bars;", 11) + "bars");
        fault(times("bars;", 12) + "bars", 60);
        fault(times("bars;", 12) + "  bars", 62);
        fault(times("bars;", 12) + "x", 60);
        fault(times("bars;", 12), 60);
        fault(times("bars;", 12) + " ", 61);
        fault(times("bars;", 11) + "bars x", 60);
    }

    private static void sums() {
        right("takes 1000");
        right("takes 0001000");
        right("takes 0");
        fault("takes 1001", 6);
        fault("takes 99999999999999999999999999", 6);
        fault("takes 1 + 4294967296", 10);
        fault("takes -1", 6);
        fault("takes +1", 6);
        fault("takes 1+", 8);
        fault("takes 1+*2", 8);
        fault("takes 1 2", 8);
        fault("takes (1)", 6);
        fault("takes [1)", 8);
        fault("takes [1", 8);
        fault("takes []", 7);
        fault("takes 1]", 7);
        fault("takes 1<2", 7);
        fault("takes 1 and 2", 8);
        fault("takes houses", 6);
        fault("takes if 1=1", 6);
        fault("takes takes", 6);
        fault("takes not 1", 6);
        right("takes from+to-rank*other/area+yard-door+hour*day");
    }

    private static void tests() {
        fault("bars if 1", 9);
        fault("bars if 1+", 10);
        fault("bars if 1<", 10);
        fault("bars if 1<2<3", 11);
        fault("bars if 1==2", 10);
        fault("bars if (1)", 10);
        fault("bars if (1<2", 12);
        fault("bars if (1<2]", 12);
        fault("bars if ()", 9);
        fault("bars if 1<2)", 11);
        fault("bars if [1<2]", 10);
        fault("bars if (1+2)<3", 12);
        fault("bars if (1<2)+3", 13);
        fault("bars if (1<2)<3", 13);
        fault("bars if not", 11);
        fault("bars if not and", 12);
        fault("bars if 1<2 and", 15);
        fault("bars if 1<2 or", 14);
        fault("bars if 1<2 or or", 15);
        fault("bars if 1<2*", 12);
        fault("bars if 1<2 not", 12);
        fault("bars if and", 8);
        fault("bars if 1 not", 10);
        fault("bars if [1", 10);
        right("bars if not not not 1=1 and ((1<2) or not (2>1)) or [1]=[[1]]");
        right("bars if " + times("not ", 96) + "1=1");
    }

    private static void bounds() {
        right("takes " + times("1+", 49) + "1");
        fault("takes " + times("1+", 50) + "1", 106);
        right("takes 1" + times("+[day]", 49));
        fault("takes 1" + times("+[day]", 49) + " if hour = 1", 305);
        fault("takes 1" + times("+1", 48) + ";bars if 2=2", 114);
        fault("takes " + times("1+", 49) + "1+x", 106);
        fault("takes " + times("1+", 49) + "1+1001", 106);
        right("takes " + times("[", 8) + "1" + times("]", 8));
        fault("takes " + times("[", 9) + "1" + times("]", 9), 14);
        right("bars if " + times("(", 8) + "1=1" + times(")", 8));
        fault("bars if " + times("(", 9) + "1=1" + times(")", 9), 16);
        right("bars if " + times("(", 4) + times("[", 4) + "1" + times("]", 4) + "=1" + times(")", 4));
        fault("bars if " + times("(", 4) + times("[", 5) + "1", 16);
        fault("bars if " + times("( ", 8) + "[1", 24);
        right("bars if " + times("(", 7) + "[1]+[1]=[1]" + times(")", 7));
        right("takes [[[[[[[[1]]]]]]]]+[[[[[[[[1]]]]]]]]");
        right("takes 1;" + times(" ", 388) + "bars");
        fault("takes 1;" + times(" ", 388) + "bard", 396);
        right("bars if " + times("not(", 8) + "1=1" + times(")", 8));
    }

    private static void values() {
        takes("takes from + 20", 20);
        takes("takes to + 20", 21);
        takes("takes rank", 7);
        takes("takes other", 2);
        takes("takes area", 6);
        takes("takes yard + 4", 5);
        takes("takes door + 5", 5);
        takes("takes hour", 12);
        takes("takes day + 3", 3);
        takes("takes 2+3*4", 14);
        takes("takes [2+3]*4", 20);
        takes("takes 20-5-4", 11);
        takes("takes 80/4/5", 4);
        takes("takes 7/2*2", 6);
        takes("takes 10 + [1-8]/2", 7);
        takes("takes 10 + 7/[0-2]", 7);
        takes("takes 0", 1);
        takes("takes 1-100", 1);
        takes("takes 99", 99);
        takes("takes 100", 99);
        takes("takes 1000*1000", 99);
        takes("bars", 1);
        takes("takes 5; takes 6", 6);
        takes("takes 5; takes 6 if rank = 2", 5);
        takes("takes 5; takes 6/0", 5);
        takes("takes 6/[1-1]; bars", 1);
        takes("takes 5; takes 6 if 1/0 = 1", 5);
        takes("takes 1000*1000*1000 - 1000*1000*1000 + 8", 8);
        takes("takes 4; takes 1000*1000*1000 + 1 - 1000*1000*1000", 4);
        takes("takes 4; takes 0 - 1000*1000*1000 + 1000*1000*1000 + 8", 8);
        takes("takes 4; takes 0 - 1000*1000*1000 - 1 + 1000", 4);
        takes("takes 4; takes 1000*1000*1000*1000*1000*1000*1000/1000", 4);
        takes("takes 4; takes 5 if 1=2; bars if 1=2; takes 9 if 1>2", 4);
    }

    private static void truths() {
        so("1 = 1");
        notSo("1 = 2");
        so("1 < 2");
        notSo("2 < 2");
        so("2 > 1");
        notSo("2 > 2");
        so("not 1 = 2");
        so("not not 1 = 1");
        notSo("not not not 1 = 1");
        so("1=1 or 1=2 and 1=2");
        notSo("(1=1 or 1=2) and 1=2");
        so("not 1=2 and 1=1");
        so("not (1=2 and 1=1)");
        notSo("not (1=1 or 1=2)");
        notSo("not 1=1 or 1=2");
        so("1=2 or 1=2 or 1=1");
        notSo("1=1 and 1=1 and 1=2");
        broken("1/0 = 1");
        broken("(1/[rank-7] > 0)");
        broken("(1 = 2 or 1/0 = 1)");
        broken("(1 = 1 and 1/0 = 1)");
        broken("(1/0 = 1 or 1 = 1)");
        broken("(1/0 = 1 and 1 = 2)");
        broken("1000*1000*1000+1 > 0");
        so("1 = 1 or 1/0 = 1");
        notSo("1 = 2 and 1/0 = 1");
        so("not (1 = 2 and 1/0 = 1)");
        so("1 = 2 and 1/0 = 1 or 1 = 1");
        so("1 = 1 or 1/0 = 1 and 1/0 = 1");
        so("(1 = 1 or 1/0 = 1) and 2 = 2");
    }

    private static void settings() {
        CornerTown t = town("takes 30 if door = 1; takes 40 if hour = 5; takes 50 if day = 7; bars if from > to and door = 1");
        due("takes", t.visit(0, 1, 1), 1);
        due("bars", t.visit(1, 0, 2), 0);
        t.door(1, 0);
        due("takes by a door", t.visit(0, 1, 1), 30);
        due("takes by a door, back", t.visit(1, 0, 1), 30);
        due("bars by a door", t.visit(1, 0, 2), 1);
        due("bars by a door, back", t.visit(0, 1, 2), 0);
        t.terms(0, 5);
        due("takes by hour", t.visit(0, 1, 1), 40);
        t.terms(1, 7);
        due("takes by day", t.visit(0, 1, 1), 50);
        CornerTown back = town("takes rank*10+other; bars if area < yard");
        due("rank and other", back.visit(0, 1, 1), 72);
        due("turned", back.visit(1, 0, 1), 27);
        due("area, yard", back.visit(0, 1, 2), 0);
        due("area, yard, turned", back.visit(1, 0, 2), 1);
        back.rank(1, 9);
        due("rank anew", back.visit(0, 1, 1), 79);
    }

    public static void main(String[] args) {
        tokens();
        clauses();
        sums();
        tests();
        bounds();
        values();
        truths();
        settings();
        System.out.println(wrong == 0 ? "all laws are as due" : wrong + " answers are not as due");
        if (wrong != 0) {
            System.exit(1);
        }
    }
}
