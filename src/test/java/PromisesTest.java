/** For each promise what would fail if it were broken; the number of a row is the promise's. */
public final class PromisesTest {
    private static final int BAD = -1, NO = -2, FULL = -3, NONE = -4;
    private static final Check check = new Check();

    private static void due(int promise, String what, long want, long got) {
        check.due("promise " + promise + ": " + what, want, got);
    }

    public static void main(String[] args) {
        newObject();
        cards();
        handled();
        runs();
        writing();
        faults();
        inForce();
        rules();
        orders();
        clashes();
        counting();
        winners();
        mixtures();
        turnedCounties();
        leastCards();
        meanings();
        otherwiseCards();
        names();
        strikes();
        pairs();
        boxes();
        coulds();
        tables();
        keeping();
        goneCards();
        counts();
        check.end("PromisesTest");
    }

    private static long h(String figures) {
        return Check.holes(figures);
    }

    private static long n(String letters) {
        return Check.name(letters);
    }

    private static HangingCards with(Object... countyAndHoles) {
        HangingCards x = new HangingCards();
        for (int i = 0; i + 1 < countyAndHoles.length; i += 2) {
            x.card((Integer) countyAndHoles[i], h((String) countyAndHoles[i + 1]));
        }
        return x;
    }

    private static void newObject() {
        HangingCards x = new HangingCards();
        for (int what = 0; what <= 6; what++) due(1, "count " + what, 0, x.count(what));
        due(1, "fault", NONE, x.fault());
        due(1, "clash", NONE, x.clash());
        due(1, "wipe", 0, x.wipe());
        due(1, "a hand reads what is gone", 5, x.rule(0, 4, 999));
        due(1, "likeness", 80, x.likeness(80));
        for (int county = 0; county < 5; county++) {
            due(1, "heaps", 0, x.boxes(county, 0, 0));
            due(1, "s", 1, x.boxes(county, 1, 1));
        }
        due(1, "back", NO, x.back());
    }

    private static void cards() {
        HangingCards x = new HangingCards();
        due(2, "county -1", BAD, x.card(-1, 0));
        due(2, "county 5", BAD, x.card(5, 0));
        due(2, "holes -1", BAD, x.card(0, -1));
        due(2, "holes 6^12", BAD, x.card(0, 2176782336L));
        due(2, "holes least", BAD, x.card(0, Long.MIN_VALUE));
        due(2, "holes greatest", BAD, x.card(0, Long.MAX_VALUE));
        due(2, "the first", 0, x.card(4, h("0123 4501 2345")));
        String figures = "012345012345";
        for (int race = 0; race < 3; race++) {
            for (int hole = 0; hole < 4; hole++) {
                due(3, "hole " + race + " " + hole, figures.charAt(race * 4 + hole) - '0', x.hole(0, race, hole));
            }
        }
        due(3, "card -1", BAD, x.hole(-1, 0, 0));
        due(3, "card 1", BAD, x.hole(1, 0, 0));
        due(3, "race -1", BAD, x.hole(0, -1, 0));
        due(3, "race 3", BAD, x.hole(0, 3, 0));
        due(3, "hole -1", BAD, x.hole(0, 0, -1));
        due(3, "hole 4", BAD, x.hole(0, 0, 4));
        for (int card = 1; card < 40; card++) due(2, "card " + card, card, x.card(card % 5, 2176782335L));
        due(2, "the 41st", FULL, x.card(0, 0));
        due(2, "BAD is ahead of FULL", BAD, x.card(5, 0));
        due(2, "how many", 40, x.count(0));
        due(3, "the last one", 5, x.hole(39, 2, 3));
    }

    private static void handled() {
        HangingCards x = with(1, "0123 4500 0004");
        due(4, "strength 0", BAD, x.handle(0, 0));
        due(4, "strength 5", BAD, x.handle(0, 5));
        due(4, "card 1", BAD, x.handle(1, 1));
        due(4, "card -1", BAD, x.handle(-1, 1));
        due(4, "strength 1", 2, x.handle(0, 1));
        due(4, "4 is gone", 5, x.hole(0, 1, 0));
        due(4, "3 stays", 3, x.hole(0, 0, 3));
        due(4, "strength 1 again", 0, x.handle(0, 1));
        due(4, "strength 2", 1, x.handle(0, 2));
        due(4, "3 opens", 4, x.hole(0, 0, 3));
        due(4, "strength 3", 2, x.handle(0, 3));
        due(4, "2 opens", 3, x.hole(0, 0, 2));
        due(4, "1 stays", 1, x.hole(0, 0, 1));
        due(4, "strength 4", 2, x.handle(0, 4));
        due(4, "1 opens", 2, x.hole(0, 0, 1));
        due(4, "0 stays", 0, x.hole(0, 0, 0));
        HangingCards y = with(0, "0000 0000 0000", 0, "5555 5555 5555");
        due(4, "whole", 0, y.handle(0, 4));
        due(4, "gone", 0, y.handle(1, 4));
    }

    private static void runs() {
        HangingCards x = with(2, "4000 0000 0000", 2, "4400 0040 0000", 2, "3000 0000 0000", 3, "0040 0000 0004");
        due(5, "county 5", BAD, x.run(5, 0, 0));
        due(5, "county -1", BAD, x.run(-1, 0, 0));
        due(5, "race 3", BAD, x.run(2, 3, 0));
        due(5, "race -1", BAD, x.run(2, -1, 0));
        due(5, "hour -1", BAD, x.run(2, 0, -1));
        due(5, "hour 1000", BAD, x.run(2, 0, 1000));
        due(5, "nothing was handled", 4, x.hole(0, 0, 0));
        Check.force(x, "m5,1;m3,2;");
        due(5, "read ahead of handling", 0, x.run(3, 0, 1));
        due(5, "handled", 5, x.hole(3, 0, 2));
        due(5, "in all races", 5, x.hole(3, 2, 3));
        due(5, "others stay", 4, x.hole(0, 0, 0));
        due(5, "by m of the hour", 2, x.run(2, 0, 2));
        due(5, "by m of another hour", 1, x.run(2, 0, 1));
        due(5, "another race", 1, x.run(2, 1, 1));
        due(5, "an empty county", 0, x.run(4, 0, 999));
        due(5, "3 does not open", 3, x.hole(2, 0, 0));
    }

    private static void writing() {
        HangingCards x = new HangingCards();
        due(6, "n 0", BAD, x.write(0, 0));
        due(6, "n 9", BAD, x.write(9, 0));
        due(6, "n -1", BAD, x.write(-1, 0));
        due(6, "lowest bytes", 3, x.write(3, 0x7A7A_7A6D_322CL));
        due(6, "highest first", 5, x.write(2, 0xFFFF_FFFF_FFFF_373BL));
        due(6, "it reads", NONE, x.fault());
        for (int length = 13; length <= 197; length += 8) due(6, "length", length, x.write(8, -1));
        due(6, "past 200", FULL, x.write(4, 0));
        due(6, "BAD is ahead of FULL", BAD, x.write(9, 0));
        due(6, "nothing changed", 197, x.count(2));
        due(6, "to 200", 200, x.write(3, 0));
        due(6, "past 200", FULL, x.write(1, 0));
        due(7, "wipe", 200, x.wipe());
        due(7, "wiped", 0, x.wipe());
        due(7, "nothing to read", NONE, x.fault());
        due(7, "nothing is left behind", 4, Check.write(x, "m3,0"));
        due(7, "an old ; is not read", 0, x.fault());
    }

    private static void fault(String text, int want) {
        HangingCards x = new HangingCards();
        Check.write(x, text);
        due(8, text, want, x.fault());
        int items = (int) text.chars().filter(c -> c == ';').count();
        due(9, text, want == NONE ? items : NO, x.force());
        due(9, "in force of " + text, want == NONE ? items : 0, x.count(3));
    }

    private static void faults() {
        String[] sound = {"v0,1,0;", "v5,5,999;", "d0,0,0;", "d5,12,999;", "m2,0;", "m5,999;", "o0,0,0,0;",
            "o5,3,1,999;", "v000,001,007;", "m05,00;m2,1;d1,01,1;o1,1,1,1;"};
        for (String text : sound) fault(text, NONE);
        String[] faulty = {";", "v", "v;", "v0;", "v0,1;", "v0,1,0", "v0,1,0,0;", "v0,0,0;", "v0,6,0;", "v6,1,0;",
            "v0,1,1000;", "v0001,1,0;", "v0,,0;", "v,1,0;", "v0,1,;", "v0 ,1,0;", "v-1,1,0;", "V0,1,0;", "d0,13,0;",
            "d6,1,0;", "m1,0;", "m6,0;", "m2;", "m2,0,0;", "o0,4,0,0;", "o6,0,0,0;", "o0,0,2,0;", "o0,0,0;",
            "x0,1,0;", "v0,1,0:", "v0;1,0;", " v0,1,0;", "0", "x;", "x1;", "z0,1;", "v0.1,0;", "\u00ff", "vv0,1,0;", "v/,1,0;", "v0,1,0:;"};
        for (String text : faulty) fault(text, 0);
        fault("v0,1,0;m2,0;v6,1,0;", 12);
        fault("v0,1,0;m2,0", 7);
        fault("v0,1,0;;", 7);
        fault("v0,1,0;\u0000", 7);
        fault("m1,0;m6,0;", 0);
        StringBuilder most = new StringBuilder();
        for (int i = 0; i < 40; i++) most.append("m2,").append(i % 10).append(';');
        fault(most.toString(), NONE);
    }

    private static void inForce() {
        HangingCards x = new HangingCards();
        due(9, "items", 2, Check.force(x, "v0,2,0;v1,3,0;"));
        x.wipe();
        due(7, "what is in force stays", 2, x.rule(0, 0, 0));
        Check.write(x, "v0,3,0;v0,9,0;");
        due(9, "a fault", NO, x.force());
        due(9, "what was in force stays", 2, x.rule(0, 0, 0));
        due(9, "its items", 2, x.count(3));
        x.wipe();
        due(9, "an empty text", 0, x.force());
        due(9, "nothing in force", 5, x.rule(0, 0, 0));
        due(9, "the text stays", 0, x.count(2));
        Check.write(x, "m2,0;");
        due(9, "not in force yet", 4, x.rule(2, 0, 0));
        due(9, "forced", 1, x.force());
        due(9, "the text stays", 5, x.count(2));
        due(9, "in force", 2, x.rule(2, 0, 0));
    }

    private static void rules() {
        HangingCards x = new HangingCards();
        Check.force(x, "v5,2,12;v1,3,5;v5,4,20;d2,3,7;d5,0,9;m2,10;m5,5;");
        due(10, "v without", 5, x.rule(0, 0, 11));
        due(11, "v without", NONE, x.why(0, 0, 11));
        due(10, "v for all at noon", 2, x.rule(0, 0, 12));
        due(11, "v for all at noon", 0, x.why(0, 0, 12));
        due(10, "v of a county", 3, x.rule(0, 1, 5));
        due(10, "the last one holds, not the latest", 3, x.rule(0, 1, 12));
        due(11, "the last one holds, not the latest", 1, x.why(0, 1, 12));
        due(10, "v at 19", 2, x.rule(0, 4, 19));
        due(10, "v at 20", 4, x.rule(0, 1, 20));
        due(11, "v at 20", 2, x.why(0, 1, 20));
        due(10, "d without", 0, x.rule(1, 2, 6));
        due(10, "d", 3, x.rule(1, 2, 7));
        due(11, "d", 3, x.why(1, 2, 8));
        due(10, "d elsewhere", 0, x.rule(1, 3, 8));
        due(11, "d elsewhere", NONE, x.why(1, 3, 8));
        due(11, "d for all", 4, x.why(1, 2, 9));
        due(10, "m without", 4, x.rule(2, 0, 4));
        due(10, "m", 5, x.rule(2, 0, 5));
        due(10, "the last m", 5, x.rule(2, 4, 10));
        due(11, "the last m", 6, x.why(2, 4, 10));
        due(10, "o without", 1, x.rule(3, 0, 999));
        due(11, "o without", NONE, x.why(3, 0, 999));
        for (int promise = 10; promise <= 11; promise++) {
            boolean why = promise == 11;
            int[][] wrong = {{-1, 0, 0}, {4, 0, 0}, {0, -1, 0}, {0, 5, 0}, {2, 5, 0}, {0, 0, -1}, {0, 0, 1000}};
            for (int[] w : wrong) due(promise, "wrong", BAD, why ? x.why(w[0], w[1], w[2]) : x.rule(w[0], w[1], w[2]));
        }
    }

    private static void orders() {
        HangingCards x = new HangingCards();
        Check.force(x, "o1,2,0,3;o5,1,1,8;o1,2,1,6;o1,2,0,6;o1,2,1,5;");
        due(10, "ahead of all", 1, x.rule(3, 1, 2));
        due(11, "ahead of all", NONE, x.why(3, 1, 2));
        due(10, "stopped", 0, x.rule(3, 1, 3));
        due(11, "the latest hour, of it", 4, x.why(3, 1, 5));
        due(11, "of one hour the last", 3, x.why(3, 1, 6));
        due(10, "of one hour the last", 0, x.rule(3, 1, 6));
        due(11, "a lower rank does not bind", 3, x.why(3, 1, 8));
        due(11, "elsewhere it does", 1, x.why(3, 0, 8));
        due(10, "elsewhere it does", 1, x.rule(3, 0, 8));
        Check.force(x, "o0,0,0,0;o0,3,1,4;o0,0,0,9;");
        due(11, "rank 3 is the highest", 1, x.why(3, 0, 9));
        due(10, "rank 3 is the highest", 1, x.rule(3, 0, 9));
    }

    private static void clash(String text, int want) {
        HangingCards x = new HangingCards();
        Check.force(x, text);
        due(12, text, want, x.clash());
    }

    private static void clashes() {
        clash("o1,1,0,3;o1,1,1,3;", 1);
        clash("o1,1,0,3;o2,1,1,3;", NONE);
        clash("o1,1,0,3;o1,1,0,3;", NONE);
        clash("o1,1,0,3;o1,2,1,3;", NONE);
        clash("o1,1,0,3;o1,1,1,4;", NONE);
        clash("m2,0;o1,1,0,3;v0,1,0;o5,1,1,3;", 103);
        clash("o5,0,1,3;o4,0,0,3;", 1);
        clash("o5,0,1,3;o5,0,0,3;", 1);
        clash("o0,0,1,3;o1,1,1,3;o1,1,0,3;o0,0,0,3;", 3);
        clash("v0,1,3;d0,0,3;", NONE);
        StringBuilder far = new StringBuilder();
        for (int i = 0; i < 33; i++) far.append("m2,0;");
        clash(far.append("o0,0,0,0;o0,0,1,0;").toString(), 3334);
        HangingCards x = new HangingCards();
        Check.write(x, "o1,1,0,3;o1,1,1,3;");
        due(12, "not in force yet", NONE, x.clash());
        x.force();
        x.wipe();
        due(12, "still in force", 1, x.clash());
    }

    private static void counting() {
        HangingCards x = with(0, "5000 1100 0010", 0, "4000 5050 0000", 1, "1000 0000 5000", 4, "0005 0000 0000");
        due(13, "by hands", 1, x.counted(5, 0, 0, 0, false));
        due(13, "by a machine", 2, x.counted(5, 0, 0, 0, true));
        due(13, "of a county", 2, x.counted(0, 0, 0, 0, true));
        due(13, "of another", 0, x.counted(1, 0, 0, 0, true));
        due(13, "the last", 1, x.counted(4, 0, 3, 0, false));
        due(13, "two show", 0, x.counted(5, 1, 0, 0, false));
        due(14, "for one", 0, x.vote(0, 0, 0, false));
        due(14, "for nobody", NONE, x.vote(1, 0, 0, false));
        due(14, "by a machine", 0, x.vote(1, 0, 0, true));
        due(14, "two show", NONE, x.vote(1, 1, 0, false));
        Check.force(x, "d5,3,1;d0,4,2;v1,1,3;");
        due(14, "too few dimples ahead of it", NONE, x.vote(0, 2, 0, false));
        due(14, "dimples of the whole card", 2, x.vote(0, 2, 1, false));
        due(14, "dimples show two", NONE, x.vote(0, 1, 1, false));
        due(14, "too few dimples", NONE, x.vote(0, 2, 2, false));
        due(14, "a machine reads no dimples", NONE, x.vote(0, 2, 1, true));
        due(14, "one dimple", NONE, x.vote(2, 0, 1, false));
        due(14, "v of 1", 0, x.vote(2, 0, 3, false));
        due(14, "v of another county", NONE, x.vote(1, 0, 3, false));
        int[][] wrong = {{-1, 0, 0, 0}, {6, 0, 0, 0}, {0, -1, 0, 0}, {0, 3, 0, 0}, {0, 0, -1, 0}, {0, 0, 4, 0},
            {0, 0, 0, -1}, {0, 0, 0, 1000}};
        for (int[] w : wrong) due(13, "wrong", BAD, x.counted(w[0], w[1], w[2], w[3], false));
        int[][] wrongVotes = {{-1, 0, 0}, {4, 0, 0}, {0, -1, 0}, {0, 3, 0}, {0, 0, -1}, {0, 0, 1000}};
        for (int[] w : wrongVotes) due(14, "wrong", BAD, x.vote(w[0], w[1], w[2], true));
    }

    private static void winners() {
        HangingCards x = with(0, "5000 0000 4000", 1, "0040 0000 5000", 2, "0020 0000 0000");
        due(15, "one", 0, x.winner(0, 0, false));
        due(15, "two have most", NONE, x.winner(0, 0, true));
        due(15, "nobody any", NONE, x.winner(1, 0, false));
        due(15, "a machine", 0, x.winner(2, 0, true));
        due(15, "race 3", BAD, x.winner(3, 0, false));
        due(15, "race -1", BAD, x.winner(-1, 0, false));
        due(15, "hour -1", BAD, x.winner(0, -1, true));
        due(15, "hour 1000", BAD, x.winner(0, 1000, true));
        Check.force(x, "v5,2,7;d5,1,0;");
        due(15, "by v", 2, x.winner(0, 7, false));
        int[] by = {2, 2, NONE, NONE, 0};
        for (int n = 1; n <= 5; n++) due(16, "rule " + n, by[n - 1], x.byRule(0, n));
        due(16, "rule 0", BAD, x.byRule(0, 0));
        due(16, "rule 6", BAD, x.byRule(0, 6));
        due(16, "race 3", BAD, x.byRule(3, 1));
        due(16, "race -1", BAD, x.byRule(-1, 1));
        HangingCards y = with(0, "1000 0000 0000", 0, "1000 0000 0000", 0, "0500 0000 0000");
        Check.force(y, "d5,1,0;");
        due(15, "dimples count by d", 0, y.winner(0, 0, false));
        due(16, "nothing else is read", 1, y.byRule(0, 5));
    }

    private static void mixtures() {
        HangingCards x = with(0, "5000 0000 0000", 0, "0300 0000 0000", 0, "0300 0000 0000", 1, "0050 0000 0000",
            1, "2050 0000 0000");
        due(17, "who", 6, x.mixed(0, 31, -1));
        due(17, "0 is level at best", 0, x.mixed(0, 31, 0));
        due(17, "by rules 4 and 5", 4, x.mixed(0, 24, -1));
        due(17, "0 by rules 4 and 5", -1, x.mixed(0, 24, 0));
        due(17, "1 in the best", 1, x.mixed(0, 31, 1));
        due(17, "2 in the best", 1, x.mixed(0, 31, 2));
        due(17, "3 in the best", -1, x.mixed(0, 31, 3));
        due(17, "3 by rule 5", -2, x.mixed(0, 16, 3));
        due(17, "rules 0", -1000, x.mixed(0, 0, -1));
        due(17, "rules 32", -1000, x.mixed(0, 32, -1));
        due(17, "race 3", -1000, x.mixed(3, 1, -1));
        due(17, "race -1", -1000, x.mixed(-1, 1, -1));
        due(17, "one 4", -1000, x.mixed(0, 1, 4));
        due(17, "one -2", -1000, x.mixed(0, 1, -2));
        HangingCards y = new HangingCards();
        due(17, "no cards, who", 0, y.mixed(0, 31, -1));
        due(17, "no cards, lead", 0, y.mixed(0, 31, 2));
    }

    private static void turnedCounties() {
        HangingCards x = with(0, "5000 0000 0000", 1, "5000 0000 0000", 2, "0300 0000 0000", 3, "0300 0000 0000",
            4, "0300 0000 0000", 4, "0100 0000 0000");
        due(18, "from rule 5", 20, x.turned(0, 5, 1));
        due(18, "from rule 5 by rule 3", 28, x.turned(0, 5, 4));
        due(18, "from rule 5 by itself", NONE, x.turned(0, 5, 16));
        due(18, "from rule 5 by rule 4", NONE, x.turned(0, 5, 8));
        due(18, "from rule 1", NONE, x.turned(0, 1, 1));
        due(18, "from rule 1 by all", 20, x.turned(0, 1, 31));
        due(18, "none wins", NO, x.turned(1, 5, 31));
        due(18, "BAD is ahead of NO", BAD, x.turned(1, 5, 0));
        due(18, "race 3", BAD, x.turned(3, 5, 31));
        due(18, "rule 0", BAD, x.turned(0, 0, 31));
        due(18, "rule 6", BAD, x.turned(0, 6, 31));
        due(18, "rules 32", BAD, x.turned(0, 5, 32));
        HangingCards y = with(3, "5000 0000 0000", 1, "0300 0000 0000", 1, "0300 0000 0000", 2, "0300 0000 0000",
            2, "0300 0000 0000");
        due(18, "the least bits", 2, y.turned(0, 5, 31));
    }

    private static void leastCards() {
        HangingCards x = with(0, "5000 0000 0000", 1, "5000 0000 0000", 2, "5000 0000 0000", 3, "0500 0000 0000",
            4, "0010 0000 0000");
        due(19, "who wins", 0, x.least(0, 0, 0));
        due(19, "1", 2, x.least(0, 1, 0));
        due(19, "2", 2, x.least(0, 2, 0));
        due(19, "3", 2, x.least(0, 3, 0));
        due(19, "nobody has any", 1, x.least(1, 3, 0));
        Check.force(x, "d5,1,4;");
        due(19, "in another hour", 2, x.least(0, 2, 4));
        due(19, "race 3", BAD, x.least(3, 0, 0));
        due(19, "race -1", BAD, x.least(-1, 0, 0));
        due(19, "one -1", BAD, x.least(0, -1, 0));
        due(19, "one 4", BAD, x.least(0, 4, 0));
        due(19, "hour -1", BAD, x.least(0, 0, -1));
        due(19, "hour 1000", BAD, x.least(0, 0, 1000));
        due(19, "no cards", NONE, new HangingCards().least(0, 0, 0));
        due(19, "one card for another", 1, with(0, "0005 0000 0000").least(0, 0, 0));
        HangingCards y = with(0, "5000 0000 0000", 0, "5000 0000 0000", 0, "0500 0000 0000", 0, "0500 0000 0000");
        due(19, "two rivals", 2, y.least(0, 2, 0));
        due(19, "one of two", 1, y.least(0, 0, 0));
    }

    private static void meant(String holes, int race, int bits, int sure) {
        HangingCards x = with(0, holes);
        due(20, holes + " as bits", bits, x.meant(0, race, 0));
        due(20, holes + " sure", sure, x.meant(0, race, 1));
    }

    private static void meanings() {
        meant("5040 0000 0000", 0, 1, 0);
        meant("5005 0000 0000", 0, 9, NONE);
        meant("1040 0000 0000", 0, 5, NONE);
        meant("0001 0000 0000", 0, 8, 3);
        meant("0000 0050 0050", 0, 4, 2);
        meant("0000 0050 0500", 0, 0, NONE);
        meant("0000 5000 5000", 0, 1, 0);
        meant("0000 0050 0000", 0, 0, NONE);
        meant("0000 0050 0051", 0, 0, NONE);
        meant("0000 0055 0055", 0, 0, NONE);
        meant("0000 0040 0040", 0, 0, NONE);
        meant("0500 0000 0500", 1, 2, 1);
        meant("0005 0005 0000", 2, 8, 3);
        meant("0005 0005 0010", 2, 4, 2);
        meant("0000 0000 0000", 1, 0, NONE);
        HangingCards x = with(0, "5000 0000 0000");
        due(20, "card -1", BAD, x.meant(-1, 0, 0));
        due(20, "card 1", BAD, x.meant(1, 0, 0));
        due(20, "race -1", BAD, x.meant(0, -1, 0));
        due(20, "race 3", BAD, x.meant(0, 3, 0));
        due(20, "what -1", BAD, x.meant(0, 0, -1));
        due(20, "what 2", BAD, x.meant(0, 0, 2));
    }

    private static void otherwiseCards() {
        HangingCards x = with(0, "5000 0000 0000", 0, "3000 0000 0000", 1, "5300 0000 0000", 2, "3300 0000 0000");
        Check.force(x, "v5,3,12;v5,5,20;");
        due(21, "of all", 2, x.otherwise(5, 0, 11, 12));
        due(21, "back again", 2, x.otherwise(5, 0, 12, 11));
        due(21, "of a county", 1, x.otherwise(0, 0, 11, 12));
        due(21, "for nobody now", 1, x.otherwise(1, 0, 11, 12));
        due(21, "as they were", 0, x.otherwise(5, 0, 11, 20));
        due(21, "another race", 0, x.otherwise(5, 1, 11, 12));
        int[][] wrong = {{-1, 0, 0, 0}, {6, 0, 0, 0}, {0, -1, 0, 0}, {0, 3, 0, 0}, {0, 0, -1, 0}, {0, 0, 1000, 0},
            {0, 0, 0, -1}, {0, 0, 0, 1000}};
        for (int[] w : wrong) due(21, "wrong", BAD, x.otherwise(w[0], w[1], w[2], w[3]));
        HangingCards y = with(0, "5100 0000 0000", 0, "1000 0000 0000");
        Check.force(y, "v0,1,5;");
        due(21, "for one, for nobody", 2, y.otherwise(0, 0, 4, 5));
    }

    private static void names() {
        HangingCards x = new HangingCards();
        long[] wrong = {n("Smith"), n("sm1th"), n("a b"), 1L, n("a") | 'b', n("{"), n("`"), -1L, n("abcdefg") | 255};
        for (long name : wrong) {
            due(22, "name " + Long.toHexString(name), BAD, x.listed(name, 0));
            due(23, "name " + Long.toHexString(name), BAD, x.voter(name, 0, 0));
        }
        due(22, "day -2", BAD, x.listed(n("a"), -2));
        due(22, "day 36501", BAD, x.listed(n("a"), 36501));
        due(23, "day -2", BAD, x.voter(n("a"), -2, 0));
        due(23, "day 36501", BAD, x.voter(n("a"), 36501, 0));
        due(23, "county -1", BAD, x.voter(n("a"), 0, -1));
        due(23, "county 5", BAD, x.voter(n("a"), 0, 5));
        due(22, "empty, day untold", 0, x.listed(0, -1));
        due(22, "eight letters", 1, x.listed(n("abcdefgz"), 36500));
        for (int i = 2; i < 8; i++) due(22, "listed", i, x.listed(n("ab"), 0));
        due(22, "the ninth", FULL, x.listed(n("ab"), 0));
        due(22, "BAD is ahead of FULL", BAD, x.listed(n("A"), 0));
        due(23, "empty", 0, x.voter(0, -1, 4));
        due(23, "eight letters", 1, x.voter(n("zbcdefgh"), 36500, 0));
        for (int i = 2; i < 12; i++) due(23, "voter", i, x.voter(n("b"), 0, i % 5));
        due(23, "the 13th", FULL, x.voter(n("b"), 0, 0));
        due(23, "BAD is ahead of FULL", BAD, x.voter(n("b"), 0, 5));
        due(25, "both empty", 0, x.like(0, 0));
        due(25, "one empty", 0, x.like(0, 1));
        due(25, "six of eight, cut", 75, x.like(1, 1));
        due(25, "places, not letters", 0, x.like(2, 2));
        due(25, "voter 12", BAD, x.like(12, 0));
        due(25, "voter -1", BAD, x.like(-1, 0));
        due(25, "listed 8", BAD, x.like(0, 8));
        due(25, "listed -1", BAD, x.like(0, -1));
        HangingCards y = new HangingCards();
        y.voter(n("abc"), 0, 0);
        y.listed(n("abd"), 0);
        y.listed(n("abcdefg"), 0);
        y.listed(n("abc"), 1);
        due(25, "two of three, cut", 66, y.like(0, 0));
        due(25, "three of seven, cut", 42, y.like(0, 1));
        due(25, "all", 100, y.like(0, 2));
        y.voter(n("q"), 0, 0);
        y.listed(n("q"), 0);
        y.listed(n("r"), 0);
        due(25, "one letter", 100, y.like(1, 3));
        due(25, "another letter", 0, y.like(1, 4));
    }

    private static void strikes() {
        HangingCards x = new HangingCards();
        due(24, "0", BAD, x.likeness(0));
        due(24, "101", BAD, x.likeness(101));
        due(24, "at first", 80, x.likeness(60));
        due(24, "then", 60, x.likeness(80));
        x.listed(n("abcde"), 10);
        x.listed(n("abcdx"), -1);
        x.listed(n("abcdy"), 20);
        x.voter(n("abcde"), 10, 0);
        x.voter(n("abcde"), 20, 1);
        x.voter(n("abcdz"), 10, 1);
        x.voter(n("abcdx"), -1, 2);
        x.voter(n("abcxx"), 10, 2);
        x.voter(n("abcdy"), 10, 3);
        x.voter(n("zzzzz"), -1, 3);
        int[] as = {0, 1, 0, 1, 1, 0, NONE};
        int[] how = {2, 1, 0, 1, 1, 0, NONE};
        for (int voter = 0; voter < 7; voter++) {
            due(26, "voter " + voter, as[voter], x.struck(voter, 0));
            due(26, "how voter " + voter, how[voter], x.struck(voter, 1));
        }
        int[][] wrong = {{-1, 0}, {7, 0}, {0, -1}, {0, 2}};
        for (int[] w : wrong) due(26, "wrong", BAD, x.struck(w[0], w[1]));
        due(27, "of all", 6, x.strikes(5, 0));
        due(27, "of all wrongly", 2, x.strikes(5, 1));
        int[] struck = {1, 2, 2, 1, 0};
        int[] wrongly = {0, 1, 0, 1, 0};
        for (int county = 0; county < 5; county++) {
            due(27, "of county " + county, struck[county], x.strikes(county, 0));
            due(27, "wrongly of county " + county, wrongly[county], x.strikes(county, 1));
        }
        due(27, "county 6", BAD, x.strikes(6, 0));
        due(27, "county -1", BAD, x.strikes(-1, 1));
        due(27, "what 3", BAD, x.strikes(0, 3));
        due(27, "what -1", BAD, x.strikes(0, -1));
        x.likeness(81);
        due(26, "80 is not 81", NONE, x.struck(2, 0));
        due(26, "nor so", NONE, x.struck(2, 1));
        due(27, "by 81", 2, x.strikes(5, 0));
    }

    private static void pairs() {
        HangingCards x = new HangingCards();
        x.likeness(60);
        due(27, "nobody", 0, x.strikes(5, 2));
        x.listed(n("abcd"), -1);
        x.listed(n("abxy"), 5);
        x.voter(n("abcd"), 5, 0);
        x.voter(n("abcd"), 6, 1);
        x.voter(n("abcx"), 7, 2);
        due(27, "one listed for three", 1, x.strikes(5, 2));
        x.voter(n("abxd"), 5, 3);
        due(27, "each by another", 2, x.strikes(5, 2));
        due(27, "the county is not asked", 2, x.strikes(77, 2));
        due(27, "the county is not asked", 2, x.strikes(-1, 2));
        x.listed(n("abcx"), -1);
        due(27, "a third one", 3, x.strikes(0, 2));
        x.listed(n("abxx"), -1);
        due(27, "a fourth one", 4, x.strikes(0, 2));
    }

    private static void boxes() {
        HangingCards x = new HangingCards();
        due(28, "heaps", 0, x.boxes(0, 0, 500));
        due(28, "heaps then", 500, x.boxes(0, 0, 7));
        due(28, "s", 1, x.boxes(0, 1, 50));
        due(28, "s then", 50, x.boxes(0, 1, 2));
        due(28, "another county", 0, x.boxes(4, 0, 0));
        int[][] wrong = {{-1, 0, 1}, {5, 0, 1}, {0, -1, 1}, {0, 2, 1}, {0, 0, -1}, {0, 0, 501}, {0, 1, 0}, {0, 1, 51}};
        for (int[] w : wrong) due(28, "wrong", BAD, x.boxes(w[0], w[1], w[2]));
        due(28, "nothing changed", 7, x.boxes(0, 0, 7));
        due(28, "nor here", 2, x.boxes(0, 1, 2));
        due(33, "rounded up", 4, x.left(0, 0, 1));
    }

    private static void coulds() {
        HangingCards x = new HangingCards();
        x.boxes(0, 0, 6);
        x.boxes(1, 0, 4);
        Check.force(x, "o0,0,0,4;o1,0,0,0;o1,0,1,2;o1,0,0,6;o5,1,0,10;o5,1,1,12;");
        due(29, "enough", 1, x.could(0, 6, 2));
        due(29, "one county alone", 0, x.could(0, 4, 1));
        due(29, "too few hands together", 0, x.could(0, 6, 1));
        due(29, "too few hours", 0, x.could(0, 4, 2));
        due(29, "many in one county", 1, x.could(2, 3, 10));
        due(29, "not all in time", 0, x.could(2, 3, 9));
        due(29, "closed", 0, x.could(4, 12, 20));
        due(29, "all open again", 1, x.could(4, 13, 20));
        due(29, "to the end", 1, x.could(0, 1000, 1));
        due(30, "least", 2, x.hands(0, 6));
        due(30, "least in an hour", 10, x.hands(2, 3));
        due(30, "none", NONE, x.hands(4, 12));
        due(30, "least later", 6, x.hands(4, 13));
        due(31, "with 1", 16, x.soonest(0, 1));
        due(31, "with 2", 5, x.soonest(0, 2));
        due(31, "with 20", 3, x.soonest(0, 20));
        due(31, "from 4 on", 13, x.soonest(4, 20));
        due(31, "at the end", 1000, x.soonest(999, 10));
        due(31, "past the end", NONE, x.soonest(999, 9));
        int[][] wrong = {{-1, 0, 1}, {1, 0, 1}, {0, 1001, 1}, {1000, 1000, 1}, {1001, 1001, 1}, {1000, 999, 1}, {0, 1, 0},
            {0, 1, 21}, {0, -1, 1}};
        for (int[] w : wrong) due(29, "wrong", BAD, x.could(w[0], w[1], w[2]));
        int[][] wrongSpans = {{-1, 0}, {1, 0}, {0, 1001}, {5, 4}, {1000, 1000}, {1001, 1001}, {1000, 999}};
        for (int[] w : wrongSpans) due(30, "wrong", BAD, x.hands(w[0], w[1]));
        int[][] wrongStarts = {{-1, 1}, {1000, 1}, {1001, 1}, {0, 0}, {0, 21}};
        for (int[] w : wrongStarts) due(31, "wrong", BAD, x.soonest(w[0], w[1]));
        HangingCards y = new HangingCards();
        due(29, "nothing to do", 1, y.could(5, 5, 1));
        int[][] ends = {{999, 999}, {999, 1000}};
        for (int[] e : ends) {
            due(29, "the last hour", 1, y.could(e[0], e[1], 1));
            due(30, "the last hour", 1, y.hands(e[0], e[1]));
            due(33, "the last hour", 0, y.left(e[0], e[1], 1));
        }
        due(31, "the last hour", 999, y.soonest(999, 1));
        due(30, "nothing to do", 1, y.hands(5, 5));
        due(31, "nothing to do", 5, y.soonest(5, 1));
        y.boxes(3, 0, 21);
        due(30, "not with 20", NONE, y.hands(5, 6));
        due(30, "with 11", 11, y.hands(5, 7));
        due(30, "in no hour", NONE, y.hands(5, 5));
    }

    private static void tables() {
        HangingCards x = new HangingCards();
        x.boxes(0, 0, 3);
        x.boxes(1, 0, 3);
        x.boxes(2, 0, 5);
        Check.force(x, "o1,0,0,2;o2,0,0,1;");
        int[][] hands = {{0, 0, 4}, {1, 3, 0}, {2, 0, 0}, {0, 0, 0}};
        for (int hour = 0; hour < 4; hour++) {
            for (int county = 0; county < 5; county++) {
                int want = county < 3 ? hands[hour][county] : 0;
                due(32, "hour " + hour + " county " + county, want, x.table(0, 4, 4, hour, county));
            }
        }
        due(33, "left", 1, x.left(0, 4, 4));
        due(33, "left in the middle", 5, x.left(0, 2, 3));
        due(33, "nothing done", 11, x.left(3, 3, 20));
        due(32, "of several the lowest", 3, x.table(0, 1, 20, 0, 0));
        due(32, "no more than its work", 5, x.table(0, 1, 20, 0, 2));
        due(32, "as many as there are yet", 1, x.table(0, 1, 4, 0, 1));
        int[][] wrong = {{-1, 4, 1, 0, 0}, {0, 1001, 1, 0, 0}, {2, 1, 1, 1, 0}, {0, 4, 0, 0, 0}, {0, 4, 21, 0, 0},
            {1, 4, 1, 0, 0}, {0, 4, 1, 4, 0}, {0, 4, 1, 0, -1}, {0, 4, 1, 0, 5}, {3, 3, 1, 3, 0},
            {1000, 1000, 1, 1000, 0}, {999, 1000, 1, 1000, 0}};
        for (int[] w : wrong) due(32, "wrong", BAD, x.table(w[0], w[1], w[2], w[3], w[4]));
        int[][] wrongSpans = {{-1, 4, 1}, {0, 1001, 1}, {2, 1, 1}, {1000, 1000, 1}, {1001, 1001, 1}, {0, 4, 0}, {0, 4, 21}};
        for (int[] w : wrongSpans) due(33, "wrong", BAD, x.left(w[0], w[1], w[2]));
        HangingCards y = new HangingCards();
        y.boxes(4, 0, 500);
        due(33, "to the end", 0, y.left(500, 1000, 1));
        due(32, "the last hour", 1, y.table(500, 1000, 1, 999, 4));
        HangingCards z = new HangingCards();
        z.boxes(0, 0, 1);
        z.boxes(1, 0, 2);
        Check.force(z, "o0,0,0,1;o0,0,1,3;o1,0,0,2;");
        due(29, "it could be done", 1, z.could(0, 4, 1));
        due(33, "but not by the table", 1, z.left(0, 4, 1));
        due(32, "the lowest of two", 1, z.table(0, 4, 1, 0, 0));
        HangingCards v = new HangingCards();
        for (int county = 0; county < 5; county++) v.boxes(county, 0, 1);
        for (int county = 0; county < 5; county++) due(32, "hands in all counties", 1, v.table(0, 1, 5, 0, county));
        due(33, "all is done in an hour", 0, v.left(0, 1, 5));
        HangingCards w = new HangingCards();
        w.boxes(0, 0, 9);
        w.boxes(1, 0, 9);
        Check.force(w, "o0,0,0,0;o0,0,1,5;");
        due(32, "who is alone", 1, w.table(0, 10, 1, 4, 1));
        due(32, "as few hours from that one on, the lowest", 1, w.table(0, 10, 1, 5, 0));
        Check.force(w, "o0,0,0,0;o0,0,1,5;o1,0,0,9;");
        due(32, "fewer hours from that one on", 1, w.table(0, 10, 1, 5, 1));
        due(32, "not of all hours", 0, w.table(0, 10, 1, 5, 0));
        Check.force(w, "o1,0,0,1;o1,0,1,5;o1,0,0,8;");
        due(32, "four hours to nine", 0, w.table(0, 9, 1, 0, 0));
        due(32, "three to four", 1, w.table(0, 9, 1, 5, 1));
    }

    private static void keeping() {
        HangingCards x = with(0, "4000 0000 0000");
        due(35, "nothing kept", NO, x.back());
        due(34, "first", 1, x.keep());
        x.handle(0, 1);
        x.card(1, h("0001 0000 0000"));
        due(34, "second", 2, x.keep());
        due(34, "third", FULL, x.keep());
        x.handle(1, 4);
        x.card(2, 0);
        Check.force(x, "m2,0;");
        x.boxes(0, 0, 9);
        due(35, "to the second", 1, x.back());
        due(35, "cards", 2, x.count(0));
        due(35, "as kept", 1, x.hole(1, 0, 3));
        due(35, "handled ahead of it", 5, x.hole(0, 0, 0));
        due(35, "texts stay", 2, x.rule(2, 0, 0));
        due(35, "boxes stay", 9, x.boxes(0, 0, 9));
        due(35, "to the first", 0, x.back());
        due(35, "cards", 1, x.count(0));
        due(35, "as kept first", 4, x.hole(0, 0, 0));
        due(35, "a later one is gone", BAD, x.hole(1, 0, 0));
        due(35, "no more", NO, x.back());
        due(34, "again", 1, x.keep());
        due(2, "a number again", 1, x.card(3, h("0000 0000 0003")));
        due(3, "as told now", 3, x.hole(1, 2, 3));
        due(13, "of its county", 1, with(3, "0000 0000 0005").counted(3, 2, 3, 0, false));
    }

    private static void goneCards() {
        HangingCards x = with(0, "1000 0000 0000");
        x.keep();
        x.card(0, h("5555 0500 0001"));
        x.back();
        due(35, "a card that is gone is not counted", 0, x.counted(5, 1, 1, 0, false));
        due(35, "nor in its county", 0, x.counted(0, 1, 1, 0, false));
        due(35, "it wins nothing", NONE, x.winner(1, 0, false));
        due(35, "by no rule", NONE, x.byRule(1, 5));
        due(35, "its holes are not told", 1, x.count(1));
        Check.force(x, "v5,1,5;");
        due(35, "it does not count otherwise", 0, x.otherwise(5, 2, 4, 5));
        due(35, "the other one does", 1, x.otherwise(5, 0, 4, 5));
        due(35, "none is run", 0, x.run(0, 1, 0));
    }

    private static void counts() {
        HangingCards x = with(0, "5012 0000 0001", 0, "0000 0000 0000");
        x.listed(n("a"), 0);
        x.voter(n("b"), 0, 0);
        x.voter(n("b"), 0, 0);
        x.keep();
        Check.force(x, "m2,0;v0,1,0;d0,1,0;");
        Check.write(x, "zz");
        int[] want = {2, 4, 21, 3, 1, 2, 1};
        for (int what = 0; what < want.length; what++) due(36, "count " + what, want[what], x.count(what));
        due(36, "count -1", BAD, x.count(-1));
        due(36, "count 7", BAD, x.count(7));
    }
}
