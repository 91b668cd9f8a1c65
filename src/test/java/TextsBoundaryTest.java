/** The boundaries of promises 6 to 12: write, wipe, fault, force, rule, why, clash. */
public final class TextsBoundaryTest extends Boundary {
    public static void main(String[] args) {
        run(TextsBoundaryTest.class);
    }

    /** A text without fault, and of how many items. */
    private static void sound(String text, int items) {
        due("fault of " + text, NONE, made(written(text)).fault());
        due("force of " + text, items, made(written(text)).force());
        unchanged("fault of " + text, NONE, both(State::rich, y -> rewrite(y, text)), HangingCards::fault);
    }

    /** A text with its first fault at a place: it does not come in force. */
    private static void faulty(String text, int place) {
        due("fault of " + text, place, made(written(text)).fault());
        Play setUp = both(State::rich, y -> rewrite(y, text));
        unchanged("fault of " + text, place, setUp, HangingCards::fault);
        refused("force of " + text, NO, setUp, HangingCards::force);
    }

    private static void rewrite(HangingCards x, String text) {
        x.wipe();
        Check.write(x, text);
    }

    private static int rule(String text, int what, int county, int hour) {
        return made(forced(text)).rule(what, county, hour);
    }

    private static int why(String text, int what, int county, int hour) {
        return made(forced(text)).why(what, county, hour);
    }

    private static int clash(String text) {
        return made(forced(text)).clash();
    }

    // write

    @Says(promise = 6, value = "The lowest n bytes (1 to 8) of v, the highest of these first, come behind THE TEXT: how long it is.")
    static void promise06_n1To8() {
        edges("n", (x, v) -> x.write(v, 0)).from(1, 7).to(8, 14);
        edges("n", (x, v) -> x.write(v, -1)).on(Boundary::nothing).from(1, 1).to(8, 8);
    }

    @Says(promise = 6, value = "The lowest n bytes (1 to 8) of v, the highest of these first")
    static void promise06_theLowestAndTheHighestByte() {
        long v = 0x6D322C303B6D352CL;
        HangingCards one = made(written("m2,0"));
        due("the lowest byte alone", 5, one.write(1, 0x6D322C306D322C3BL));
        due("it reads", NONE, one.fault());
        HangingCards all = new HangingCards();
        due("all eight", 8, all.write(8, v));
        due("the last two", 10, all.write(2, 0xFFFF_FFFF_FFFF_373BL));
        due("they read", 2, all.force());
        due("the first item", 2, all.rule(2, 0, 6));
        due("the other", 5, all.rule(2, 0, 7));
        HangingCards seven = new HangingCards();
        seven.write(7, 0xFF_76302C332C353BL | 1L << 63);
        due("seven of eight", 1, seven.force());
        due("they hold", 3, seven.rule(0, 0, 5));
    }

    @Says(promise = 6, value = {"THE TEXT (bytes, 200 at most)", "FULL."})
    static void promise06_200Bytes() {
        String long192 = "x".repeat(192);
        due("to 200 by 8", 200, made(written(long192)).write(8, 0));
        due("to 199 by 7", 199, made(written(long192)).write(7, 0));
        due("to 200 by 1", 200, made(written(long192 + "1234567")).write(1, 0));
        refused("to 201 by 8", FULL, written(long192 + "1"), x -> x.write(8, 0));
        refused("to 201 by 2", FULL, written(long192 + "1234567"), x -> x.write(2, 0x3B3B));
        refused("to 201 by 1", FULL, State::full, x -> x.write(1, ';'));
        refused("to 208 by 8", FULL, State::full, x -> x.write(8, -1));
        HangingCards x = made(written(long192 + "1"));
        due("8 do not fit", FULL, x.write(8, 0));
        due("7 do", 200, x.write(7, 0));
        due("1 does not", FULL, x.write(1, 0));
    }

    @Says(promise = 6, value = "FULL.")
    static void promise06_roomAgainBehindWipe() {
        HangingCards x = made(State::full);
        due("full", FULL, x.write(1, 'v'));
        due("wiped", 200, x.wipe());
        due("room", 1, x.write(1, 'v'));
    }

    @Says(promise = 6, value = {"BAD;", "Of several the first in this order, whatever the order at a call; nothing changes then."})
    static void promise06_badAheadOfFull() {
        refused("n 0", BAD, State::full, x -> x.write(0, 0));
        refused("n 9", BAD, State::full, x -> x.write(9, 0));
        refused("n least", BAD, State::full, x -> x.write(Integer.MIN_VALUE, 0));
        refused("n greatest", BAD, State::full, x -> x.write(Integer.MAX_VALUE, 0));
    }

    @Says(promise = 6, value = "(bytes, 200 at most)")
    static void promise06_bytes0And255() {
        for (int b : new int[] {0, 1, 127, 128, 255}) {
            HangingCards x = made(written("m2,0;"));
            due("byte " + b, 6, x.write(1, b));
            due("its place", 5, x.fault());
            HangingCards y = made(written("m2,0"));
            y.write(1, b);
            due("byte " + b + " for ;", 0, y.fault());
        }
    }

    // wipe

    @Says(promise = 7, value = "THE TEXT is empty: how long it was.")
    static void promise07_emptyAndFull() {
        due("empty", 0, new HangingCards().wipe());
        due("one byte", 1, made(written("v")).wipe());
        due("199", 199, made(written("x".repeat(199))).wipe());
        due("200", 200, made(written("x".repeat(200))).wipe());
        HangingCards x = made(State::full);
        due("full", 200, x.wipe());
        due("again", 0, x.wipe());
        due("bytes", 0, x.count(2));
        due("fault", NONE, x.fault());
        due("force", 0, x.force());
    }

    @Says(promise = 7, value = "THE TEXT is empty")
    static void promise07_nothingIsLeftBehind() {
        HangingCards x = made(written("m2,0;m2,0;"));
        x.wipe();
        Check.write(x, "m3,0");
        due("the old ; is not read", 0, x.fault());
        due("the new one", 5, x.write(1, ';'));
        due("what stood behind it neither", 1, x.force());
    }

    @Says(promise = 7, value = "THE TEXT is empty")
    static void promise07_whatIsInForceStays() {
        HangingCards x = made(State::full);
        x.wipe();
        due("items", 40, x.count(3));
        due("m", 5, x.rule(2, 0, 0));
        due("its number", 39, x.why(2, 0, 0));
    }

    // fault: the ends of the numbers of each letter

    @Says(promise = 8, value = "vC,N,h   in COUNTY C (5: in all) a hand reads a HOLE that is N (1 to 5) or more, from HOUR h on")
    static void promise08_v() {
        for (int c = 0; c <= 5; c++) sound("v" + c + ",1,0;", 1);
        for (int n = 1; n <= 5; n++) sound("v5," + n + ",999;", 1);
        String[] wrong = {"v6,1,0;", "v9,1,0;", "v10,1,0;", "v999,1,0;", "v0,0,0;", "v0,6,0;", "v0,10,0;", "v0,999,0;"};
        for (String text : wrong) faulty(text, 0);
    }

    @Says(promise = 8, value = "dC,N,h   there a hand reads a dimpled HOLE (1) too, if N (0 to 12; 0: never) or more HOLES of the CARD are dimpled, from h on")
    static void promise08_d() {
        for (int c = 0; c <= 5; c++) sound("d" + c + ",0,0;", 1);
        for (int n = 0; n <= 12; n++) sound("d5," + n + ",999;", 1);
        for (String text : new String[] {"d6,0,0;", "d0,13,0;", "d0,20,0;", "d0,112,0;", "d0,999,0;"}) faulty(text, 0);
    }

    @Says(promise = 8, value = "mN,h     a machine reads a HOLE that is N (2 to 5) or more, from h on")
    static void promise08_m() {
        for (int n = 2; n <= 5; n++) sound("m" + n + ",0;", 1);
        for (String text : new String[] {"m0,0;", "m1,0;", "m6,0;", "m12,0;", "m999,0;"}) faulty(text, 0);
    }

    @Says(promise = 8, value = "oC,L,v,h  a court of rank L (0 to 3): in COUNTY C (5: in all) counting stops (v 0) or goes on (v 1), from HOUR h on")
    static void promise08_o() {
        for (int c = 0; c <= 5; c++) sound("o" + c + ",0,0,0;", 1);
        for (int rank = 0; rank <= 3; rank++) sound("o5," + rank + ",1,999;", 1);
        String[] wrong = {"o6,0,0,0;", "o0,4,0,0;", "o0,10,0,0;", "o0,0,2,0;", "o0,0,10,0;", "o0,999,0,0;", "o0,0,999,0;"};
        for (String text : wrong) faulty(text, 0);
    }

    @Says(promise = 8, value = "HOURS 0 to 999")
    static void promise08_hours0To999() {
        String[] ahead = {"v0,1,", "d0,1,", "m2,", "o0,0,0,"};
        for (String item : ahead) {
            for (String hour : new String[] {"0", "1", "9", "10", "99", "100", "998", "999"}) sound(item + hour + ";", 1);
            for (String hour : new String[] {"1000", "-1", "9999", "1e2"}) faulty(item + hour + ";", 0);
        }
    }

    @Says(promise = 8, value = "numbers (of one to three figures)")
    static void promise08_oneToThreeFigures() {
        sound("v0,1,7;", 1);
        sound("v00,01,07;", 1);
        sound("v000,001,007;", 1);
        sound("d5,012,000;", 1);
        sound("m005,999;", 1);
        sound("o005,003,001,000;", 1);
        String[] wrong = {"v,1,7;", "v0,,7;", "v0,1,;", "v0000,1,7;", "v0,0001,7;", "v0,1,0007;", "d,1,7;", "d0,,7;", "d0,1,;",
            "d0,0001,7;", "m,0;", "m2,;", "m0002,0;", "m2,0000;", "o,0,0,0;", "o0,,0,0;", "o0,0,,0;", "o0,0,0,;",
            "o0000,0,0,0;", "o0,0000,0,0;", "o0,0,0000,0;", "o0,0,0,0000;"};
        for (String text : wrong) faulty(text, 0);
    }

    @Says(promise = 8, value = "has ITEMS, each a letter, numbers (of one to three figures) parted by , and a ;")
    static void promise08_howManyNumbers() {
        String[] wrong = {"v;", "v0;", "v0,1;", "v0,1,0,0;", "d;", "d0;", "d0,1;", "d0,1,0,0;", "m;", "m2;", "m2,0,0;", "o;", "o0;",
            "o0,0;", "o0,0,0;", "o0,0,0,0,0;"};
        for (String text : wrong) faulty(text, 0);
    }

    @Says(promise = 8, value = "parted by , and a ;")
    static void promise08_whatParts() {
        String[] wrong = {"v0.1,0;", "v0;1,0;", "v0 1,0;", "v0, 1,0;", " v0,1,0;", "v 0,1,0;", "v0,1,0 ;", "v0,,1,0;", "v,0,1,0;",
            "v0,1,0,;", "v0,1,0:", "v0,1,0.", "v0,1;0;", "v0-1,0;", "v0+1,0;"};
        for (String text : wrong) faulty(text, 0);
    }

    @Says(promise = 8, value = "each a letter")
    static void promise08_letters() {
        for (char letter = 0; letter < 256; letter++) {
            String three = letter + "2,2,0;";
            String two = letter + "2,0;";
            String four = letter + "2,2,1,0;";
            due("none behind " + (int) letter, 0, made(written(letter + ";")).fault());
            due("one behind " + (int) letter, 0, made(written(letter + "2;")).fault());
            boolean ofThree = letter == 'v' || letter == 'd';
            due("three behind " + (int) letter, ofThree ? NONE : 0, made(written(three)).fault());
            due("two behind " + (int) letter, letter == 'm' ? NONE : 0, made(written(two)).fault());
            due("four behind " + (int) letter, letter == 'o' ? NONE : 0, made(written(four)).fault());
        }
    }

    @Says(promise = 8, value = "numbers (of one to three figures)")
    static void promise08_figures() {
        for (char sign = 0; sign < 256; sign++) {
            boolean figure = sign >= '0' && sign <= '9';
            due("the hour " + (int) sign, figure ? NONE : 0, made(written("m2," + sign + ";")).fault());
            due("the hour's third " + (int) sign, figure ? NONE : sign == ';' ? 6 : 0, made(written("m2,12" + sign + ";")).fault());
            due("the county " + (int) sign, sign >= '0' && sign <= '5' ? NONE : 0, made(written("v" + sign + ",1,0;")).fault());
        }
    }

    @Says(promise = 8, value = "and a ; (behind the last one, too):")
    static void promise08_behindTheLastOneToo() {
        sound("m2,0;", 1);
        faulty("m2,0", 0);
        sound("m2,0;m2,0;", 2);
        faulty("m2,0;m2,0", 5);
        faulty("m2,0;m2,0;;", 10);
        faulty(";", 0);
        faulty(";m2,0;", 0);
        String item = "o0,0,0,0;";
        for (int end = 1; end < item.length(); end++) faulty(item.substring(0, end), 0);
        for (int end = 1; end < item.length(); end++) faulty("v0,1,0;" + item.substring(0, end), 7);
    }

    @Says(promise = 8, value = {"FAULT: the place (from 0 on) of the first byte of the first ITEM that is not so.", "FAULT.", "NONE."})
    static void promise08_theFirstPlaceAndTheLast() {
        due("an empty text", NONE, new HangingCards().fault());
        faulty("x", 0);
        faulty("x;m2,0;", 0);
        faulty("m2,0;m1,0;m2,0;m6,0;", 5);
        faulty("m2,0;v0,1,0;d0,13,0;v9,0,0;", 12);
        sound("m2,0;".repeat(40), 40);
        faulty("m2,0;".repeat(39) + "m6,0;", 195);
        faulty("m2,0;".repeat(39) + "m2,0", 195);
        faulty("m2,0;".repeat(39) + "m2,0,", 195);
        faulty("m2,0;".repeat(37) + "v0,1,0;v0,1,0;;", 199);
        sound("m2,0;".repeat(38) + "v0,1,100;", 39);
        faulty("m2,0;".repeat(38) + "v0,1,1000;", 190);
    }

    @Says(promise = 8, value = "FAULT: the place (from 0 on) of the first byte of the first ITEM that is not so.")
    static void promise08_ofTheTextNotOfWhatIsInForce() {
        HangingCards x = made(forced("m3,0;"));
        x.wipe();
        due("empty", NONE, x.fault());
        x.write(1, 'm');
        due("begun", 0, x.fault());
        due("still in force", 3, x.rule(2, 0, 0));
    }

    // force

    @Says(promise = 9, value = {"IN FORCE is a TEXT without FAULT (empty at first).", "IN FORCE: how many ITEMS."})
    static void promise09_noItemAndFortyItems() {
        due("none", 0, new HangingCards().force());
        due("one", 1, made(written("m2,0;")).force());
        due("40", 40, made(written("m2,0;".repeat(40))).force());
        HangingCards x = made(written("m5,0;".repeat(39) + "m2,0;"));
        due("40 items", 40, x.force());
        due("the last one", 39, x.why(2, 4, 999));
        due("holds", 2, x.rule(2, 4, 999));
        x.wipe();
        due("an empty text again", 0, x.force());
        due("no item", 0, x.count(3));
        due("without", 4, x.rule(2, 4, 999));
        due("and of none", NONE, x.why(2, 4, 999));
    }

    @Says(promise = 9, value = {"NO: a FAULT.", "NO: not as things stand.", "nothing changes then."})
    static void promise09_aFault() {
        refused("in the text", NO, State::rich, HangingCards::force);
        refused("the last byte of 200", NO, both(forced("m3,0;"), x -> rewrite(x, "m2,0;".repeat(39) + "m2,0:")), HangingCards::force);
        HangingCards x = made(forced("m3,5;o0,0,0,5;"));
        rewrite(x, "m2,0;o0,0,1,0;m9,9;");
        due("a fault", NO, x.force());
        due("m stays", 3, x.rule(2, 0, 5));
        due("o stays", 0, x.rule(3, 0, 5));
        x.boxes(0, 0, 1);
        due("so do the hours", 0, x.could(5, 6, 1));
        due("items", 2, x.count(3));
        due("the text", 19, x.count(2));
        due("the fault", 14, x.fault());
    }

    @Says(promise = 9, value = "IN FORCE is a TEXT without FAULT")
    static void promise09_whatIsWrittenLaterIsNotInForce() {
        HangingCards x = made(forced("m3,0;"));
        Check.write(x, "m5,0;");
        due("not yet", 3, x.rule(2, 0, 0));
        due("one item", 1, x.count(3));
        due("both", 2, x.force());
        due("now", 5, x.rule(2, 0, 0));
        due("the text stays", 10, x.count(2));
        due("again", 2, x.force());
    }

    // rule

    @Says(promise = 10, value = "What holds in a COUNTY (0 to 4) in an HOUR: N of v (what = 0), of d (1), of m (2), v of o (3). BAD.")
    static void promise10_whatCountyAndHour() {
        edges("what", (x, v) -> x.rule(v, 0, 12)).from(0, 3).to(3, 1);
        edges("county", (x, v) -> x.rule(3, v, 4)).from(0, 0).to(4, 1);
        edges("hour", (x, v) -> x.rule(2, 0, v)).from(0, 4).to(999, 3);
        for (int what = 0; what < 4; what++) {
            int one = what;
            refused("county 5 is not all here", BAD, State::rich, x -> x.rule(one, 5, 0));
            refused("county 5 in a new object", BAD, Boundary::nothing, x -> x.rule(one, 5, 0));
        }
    }

    @Says(promise = 10, value = {"from HOUR h on (5 without)", "from h on (0 without)", "from h on (4 without)", "(it goes on without)"})
    static void promise10_fromTheHourOn() {
        String[] items = {"v5,2,", "d5,2,", "m2,", "o5,0,0,"};
        int[] without = {5, 0, 4, 1};
        int[] with = {2, 2, 2, 0};
        for (int what = 0; what < 4; what++) {
            due("hour 0 from 0 on", with[what], rule(items[what] + "0;", what, 0, 0));
            due("hour 999 from 0 on", with[what], rule(items[what] + "0;", what, 4, 999));
            due("hour 0 from 1 on", without[what], rule(items[what] + "1;", what, 0, 0));
            due("hour 6 from 7 on", without[what], rule(items[what] + "7;", what, 2, 6));
            due("hour 7 from 7 on", with[what], rule(items[what] + "7;", what, 2, 7));
            due("hour 998 from 999 on", without[what], rule(items[what] + "999;", what, 2, 998));
            due("hour 999 from 999 on", with[what], rule(items[what] + "999;", what, 2, 999));
        }
    }

    @Says(promise = 10, value = {"vC,N,h", "dC,N,h", "mN,h", "oC,L,v,h"})
    static void promise10_theLeastAndTheGreatestNumber() {
        for (int n = 1; n <= 5; n++) due("v", n, rule("v0," + n + ",0;", 0, 0, 0));
        for (int n = 0; n <= 12; n++) due("d", n, rule("d0,5,0;d0," + n + ",0;", 1, 0, 0));
        for (int n = 2; n <= 5; n++) due("m", n, rule("m" + n + ",0;", 2, 0, 0));
        for (int v = 0; v <= 1; v++) due("o", v, rule("o0,0," + v + ",0;", 3, 0, 0));
    }

    @Says(promise = 10, value = {"in COUNTY C (5: in all)", "(of that COUNTY or all)"})
    static void promise10_oneCountyAndAll() {
        String[] ends = {",2,0;", ",2,0;", "", ",0,0,0;"};
        int[] without = {5, 0, 4, 1};
        int[] with = {2, 2, 2, 0};
        for (int what : new int[] {0, 1, 3}) {
            for (int county = 0; county < 5; county++) {
                for (int c = 0; c <= 5; c++) {
                    String text = "vdmo".charAt(what) + "" + c + ends[what];
                    boolean there = c == 5 || c == county;
                    due(text + " in " + county, there ? with[what] : without[what], rule(text, what, county, 0));
                    due("why " + text + " in " + county, there ? 0 : NONE, why(text, what, county, 0));
                }
            }
        }
        for (int county = 0; county < 5; county++) due("m in all", 2, rule("m2,0;", 2, county, 0));
    }

    @Says(promise = 10, value = "In an HOUR the last ITEM of v, d (of that COUNTY or all), m with h no later holds;")
    static void promise10_theLastItem() {
        String[][] texts = {{"v0,1,5;v5,2,3;", "v5,1,3;v0,2,5;"}, {"d0,1,5;d5,2,3;", "d5,1,3;d0,2,5;"}, {"m3,5;m2,3;", "m3,3;m2,5;"}};
        int[] without = {5, 0, 4};
        int[] first = {1, 1, 3};
        for (int what = 0; what < 3; what++) {
            due("ahead of both", without[what], rule(texts[what][0], what, 0, 2));
            due("the last alone", 2, rule(texts[what][0], what, 0, 3));
            due("the last, though the first is later", 2, rule(texts[what][0], what, 0, 5));
            due("the first alone", first[what], rule(texts[what][1], what, 0, 4));
            due("the last", 2, rule(texts[what][1], what, 0, 5));
        }
        due("v is not d", 5, rule("d0,1,0;m2,0;o0,0,0,0;", 0, 0, 0));
        due("d is not v", 0, rule("v0,1,0;m2,0;o0,0,0,0;", 1, 0, 0));
        due("m is not v", 4, rule("v0,1,0;d0,2,0;o0,0,0,0;", 2, 0, 0));
        due("o is not v", 1, rule("v0,1,0;d0,0,0;m2,0;", 3, 0, 0));
    }

    @Says(promise = 10, value = "of o that of the highest rank, of one rank the latest HOUR, of these the last.")
    static void promise10_ordersByRankHourAndPlace() {
        for (int high = 1; high <= 3; high++) {
            String lower = "o0," + (high - 1) + ",1,9;";
            String higher = "o5," + high + ",0,1;";
            due("rank, behind", 0, rule(lower + higher, 3, 0, 9));
            due("rank, ahead", 0, rule(higher + lower, 3, 0, 9));
            due("the higher is not there yet", 0, rule("o0," + (high - 1) + ",0,0;o0," + high + ",1,9;", 3, 0, 8));
            due("now it is", 1, rule("o0," + (high - 1) + ",0,0;o0," + high + ",1,9;", 3, 0, 9));
        }
        due("the latest hour, ahead", 0, rule("o0,1,0,8;o0,1,1,7;", 3, 0, 8));
        due("the latest hour, behind", 0, rule("o0,1,1,7;o0,1,0,8;", 3, 0, 8));
        due("not there yet", 1, rule("o0,1,0,8;o0,1,1,7;", 3, 0, 7));
        due("of one hour the last", 1, rule("o0,1,0,7;o0,1,1,7;", 3, 0, 7));
        due("of one hour the last", 0, rule("o0,1,1,7;o5,1,0,7;", 3, 0, 7));
        due("another county's does not bind", 1, rule("o0,0,1,7;o1,3,0,8;", 3, 0, 9));
    }

    // why

    @Says(promise = 11, value = {"WHY: its number.", "WHY. NONE; BAD."})
    static void promise11_whatCountyAndHour() {
        edges("what", (x, v) -> x.why(v, 0, 12)).from(0, 0).to(3, 6);
        edges("county", (x, v) -> x.why(3, v, 4)).from(0, 5).to(4, NONE);
        edges("hour", (x, v) -> x.why(2, 0, v)).from(0, NONE).to(999, 2);
    }

    @Says(promise = 11, value = "WHY: its number.")
    static void promise11_theFirstAndTheFortiethItem() {
        due("the first", 0, why("m2,0;", 2, 0, 0));
        due("the first of 40", 0, why("m2,0;" + "m3,9;".repeat(39), 2, 0, 8));
        due("the last of 40", 39, why("m2,0;" + "m3,9;".repeat(39), 2, 0, 9));
        due("the 39th", 38, why("m2,0;" + "m3,8;".repeat(38) + "m3,9;", 2, 0, 8));
        due("the last order", 21, why("o0,0,0,0;".repeat(22), 3, 0, 0));
        due("of a higher rank ahead", 0, why("o0,1,0,0;" + "o0,0,0,0;".repeat(21), 3, 0, 0));
        due("numbers go over all letters", 3, why("m2,0;v0,1,0;o0,0,0,0;d0,1,0;", 1, 0, 0));
    }

    @Says(promise = 11, value = {"NONE; BAD.", "NONE: there is none."})
    static void promise11_none() {
        String[] items = {"v0,2,7;", "d0,2,7;", "m2,7;", "o0,0,0,7;"};
        for (int what = 0; what < 4; what++) {
            int one = what;
            refused("none in a new object", NONE, Boundary::nothing, x -> x.why(one, 0, 999));
            refused("none ahead of its hour", NONE, forced(items[what]), x -> x.why(one, 0, 6));
            due("in its hour", 0, why(items[what], what, 0, 7));
            refused("BAD is ahead of NONE", BAD, Boundary::nothing, x -> x.why(one, 5, 0));
        }
    }

    // clash

    @Says(promise = 12, value = {"CLASH: the first two o ITEMS", "CLASH: 100 times the one and the other.", "NONE."})
    static void promise12_noneAndOne() {
        refused("no item", NONE, Boundary::nothing, HangingCards::clash);
        refused("one order", NONE, forced("o0,0,0,0;"), HangingCards::clash);
        refused("no order", NONE, forced("v0,1,0;v0,2,0;d0,0,0;d0,1,0;m2,0;m3,0;"), HangingCards::clash);
        due("two", 1, clash("o0,0,0,0;o0,0,1,0;"));
        due("the last two that can be", 3637, clash("m2,0;".repeat(36) + "o0,0,0,0;o0,0,1,0;"));
        due("the first and the last", 37, clash("o0,0,0,0;" + "m2,0;".repeat(36) + "o0,0,1,0;"));
        unchanged("a clash", 1, forced("o0,0,0,0;o0,0,1,0;"), HangingCards::clash);
    }

    @Says(promise = 12, value = "of one rank and HOUR, unlike v, with a COUNTY in common.")
    static void promise12_rankHourAndV() {
        for (int rank = 0; rank < 4; rank++) {
            for (int other = 0; other < 4; other++) {
                due("ranks", rank == other ? 1 : NONE, clash("o0," + rank + ",0,0;o0," + other + ",1,0;"));
            }
        }
        for (int hour = 0; hour < 1000; hour += 333) {
            due("one hour", 1, clash("o0,0,0," + hour + ";o0,0,1," + hour + ";"));
            due("the next hour", NONE, clash("o0,0,0," + hour + ";o0,0,1," + (hour == 999 ? 998 : hour + 1) + ";"));
        }
        due("v 0 twice", NONE, clash("o0,0,0,0;o0,0,0,0;"));
        due("v 1 twice", NONE, clash("o0,0,1,0;o0,0,1,0;"));
        due("1, 0", 1, clash("o0,0,1,0;o0,0,0,0;"));
    }

    @Says(promise = 12, value = "with a COUNTY in common.")
    static void promise12_counties() {
        for (int one = 0; one <= 5; one++) {
            for (int other = 0; other <= 5; other++) {
                boolean common = one == other || one == 5 || other == 5;
                due("counties " + one + ", " + other, common ? 1 : NONE, clash("o" + one + ",2,0,9;o" + other + ",2,1,9;"));
            }
        }
    }

    @Says(promise = 12, value = "the first two o ITEMS (by the first, then the other)")
    static void promise12_theFirstThenTheOther() {
        due("the first first", 3, clash("o0,0,1,3;o1,1,1,3;o1,1,0,3;o0,0,0,3;"));
        due("then the other", 2, clash("o0,0,1,3;o0,0,1,3;o0,0,0,3;o0,0,0,3;"));
        due("not the nearest", 102, clash("o0,1,1,3;o0,0,1,3;o0,0,0,3;o0,0,1,3;"));
    }

    @Says(promise = 12, value = {"IN FORCE is a TEXT without FAULT", "CLASH: the first two o ITEMS"})
    static void promise12_ofWhatIsInForce() {
        HangingCards x = made(written("o0,0,0,0;o0,0,1,0;"));
        due("not in force", NONE, x.clash());
        x.force();
        due("in force", 1, x.clash());
        x.wipe();
        due("the text is wiped", 1, x.clash());
        x.force();
        due("an empty one in force", NONE, x.clash());
    }
}
