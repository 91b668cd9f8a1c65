/** The boundaries of promises 28 to 36: boxes, could, hands, soonest, table, left, keep, back, count. */
public final class HoursBoundaryTest extends Boundary {
    public static void main(String[] args) {
        run(HoursBoundaryTest.class);
    }

    /** Heaps of counties 0, 1, 2 .. in turn, one a hand and hour. */
    private static Play heaps(int... many) {
        return x -> {
            for (int county = 0; county < many.length; county++) x.boxes(county, 0, many[county]);
        };
    }

    private static void hands(HangingCards x, int[] span, int[][] due) {
        for (int i = 0; i < due.length; i++) {
            for (int county = 0; county < due[i].length; county++) {
                int hour = span[0] + i;
                due("hands in hour " + hour + " in " + county, due[i][county], x.table(span[0], span[1], span[2], hour, county));
            }
        }
    }

    // boxes

    @Says(promise = 28, value = "BOXES: heaps (what = 0), s (1) of a COUNTY: what it was. BAD.")
    static void promise28_countyAndWhat() {
        edges("county", (x, v) -> x.boxes(v, 0, 7)).from(0, 6).to(4, 1);
        edges("county of s", (x, v) -> x.boxes(v, 1, 7)).from(0, 1).to(4, 1);
        edges("what", (x, v) -> x.boxes(1, v, 5)).from(0, 4).to(1, 2);
    }

    @Says(promise = 28, value = "BOXES: a COUNTY has c heaps (0 to 500; 0 at first);")
    static void promise28_heaps0To500() {
        edges("heaps", (x, v) -> x.boxes(1, 0, v)).from(0, 4).to(500, 4);
        for (int county = 0; county < 5; county++) {
            HangingCards x = new HangingCards();
            due("at first", 0, x.boxes(county, 0, 500));
            due("then", 500, x.boxes(county, 0, 0));
            due("501", BAD, x.boxes(county, 0, 501));
            due("-1", BAD, x.boxes(county, 0, -1));
            due("a refused one is not it", 0, x.boxes(county, 0, 1));
            due("then", 1, x.boxes(county, 0, 0));
            due("s is another", 1, x.boxes(county, 1, 1));
        }
    }

    @Says(promise = 28, value = "a HAND counts s heaps an HOUR (1 to 50; 1 at first) there;")
    static void promise28_s1To50() {
        edges("s", (x, v) -> x.boxes(1, 1, v)).from(1, 2).to(50, 2);
        for (int county = 0; county < 5; county++) {
            HangingCards x = new HangingCards();
            due("at first", 1, x.boxes(county, 1, 50));
            due("then", 50, x.boxes(county, 1, 1));
            due("51", BAD, x.boxes(county, 1, 51));
            due("0", BAD, x.boxes(county, 1, 0));
            due("a refused one is not it", 1, x.boxes(county, 1, 2));
            due("heaps are others", 0, x.boxes(county, 0, 0));
        }
        refused("heaps may be 0, s not", BAD, State::rich, x -> x.boxes(0, 1, 0));
        refused("heaps may be 500, s not", BAD, State::rich, x -> x.boxes(0, 1, 500));
    }

    private static int workOf(int heaps, int s) {
        HangingCards x = new HangingCards();
        x.boxes(2, 0, heaps);
        x.boxes(2, 1, s);
        return x.left(0, 0, 1);
    }

    @Says(promise = 28, value = "WORK: heaps by s, rounded up.")
    static void promise28_roundedUp() {
        due("0 by 1", 0, workOf(0, 1));
        due("0 by 50", 0, workOf(0, 50));
        due("1 by 1", 1, workOf(1, 1));
        due("1 by 50", 1, workOf(1, 50));
        due("49 by 50", 1, workOf(49, 50));
        due("50 by 50", 1, workOf(50, 50));
        due("51 by 50", 2, workOf(51, 50));
        due("500 by 50", 10, workOf(500, 50));
        due("500 by 49", 11, workOf(500, 49));
        due("500 by 1", 500, workOf(500, 1));
        due("499 by 2", 250, workOf(499, 2));
        HangingCards x = new HangingCards();
        for (int county = 0; county < 5; county++) x.boxes(county, 0, 3);
        for (int county = 0; county < 5; county++) x.boxes(county, 1, 2);
        due("each is rounded up", 10, x.left(0, 0, 1));
    }

    // could

    @Says(promise = 29, value = {"COULD with k HANDS (1 to 20) from HOUR g to ahead of HOUR t", "COULD: 1, 0. BAD (g no more than t, t to 1000)."})
    static void promise29_gTAndK() {
        edges("g", (x, v) -> x.could(v, 1000, 1)).from(0, 1).to(999, 0);
        edges("t", (x, v) -> x.could(5, v, 20)).from(5, 0).to(1000, 1);
        edges("t from 999", (x, v) -> x.could(999, v, 20)).from(999, 0).to(1000, 1);
        edges("k", (x, v) -> x.could(6, 10, v)).from(1, 0).to(20, 1);
        refused("g 1000, an hour that is none", BAD, State::rich, x -> x.could(1000, 1000, 1));
        refused("g 1001", BAD, Boundary::nothing, x -> x.could(1001, 1001, 1));
        refused("g is more than t", BAD, Boundary::nothing, x -> x.could(6, 5, 1));
        due("g is t", 1, new HangingCards().could(5, 5, 1));
        due("g is t, with work", 0, made(heaps(1)).could(5, 5, 20));
    }

    @Says(promise = 29, value = "all WORK is done by HANDS that go where one likes each HOUR (any number of them in one COUNTY)")
    static void promise29_justEnough() {
        due("20 in one county and hour", 1, made(heaps(20)).could(0, 1, 20));
        due("21", 0, made(heaps(21)).could(0, 1, 20));
        due("four in each", 1, made(heaps(4, 4, 4, 4, 4)).could(0, 1, 20));
        due("one more", 0, made(heaps(4, 4, 5, 4, 4)).could(0, 1, 20));
        due("all that there can be", 1, made(heaps(500, 500, 500, 500, 500)).could(0, 125, 20));
        due("an hour less", 0, made(heaps(500, 500, 500, 500, 500)).could(0, 124, 20));
        due("three hands, all hours", 1, made(heaps(500, 500, 500, 500, 500)).could(0, 1000, 3));
        due("two", 0, made(heaps(500, 500, 500, 500, 500)).could(0, 1000, 2));
        due("no work", 1, new HangingCards().could(0, 0, 1));
        due("1000 of work", 1, made(heaps(500, 500)).could(0, 1000, 1));
        due("1001", 0, made(heaps(500, 500, 1)).could(0, 1000, 1));
    }

    @Says(promise = 29, value = "in a COUNTY only in HOURS in which counting goes on.")
    static void promise29_onlyWhereCountingGoesOn() {
        Play opens = both(forced("o0,0,0,0;o0,0,1,5;"), heaps(20));
        due("to ahead of the hour", 0, made(opens).could(0, 5, 20));
        due("with the hour", 1, made(opens).could(0, 6, 20));
        due("a hand less", 0, made(opens).could(0, 6, 19));
        Play stops = both(forced("o0,0,0,1;"), heaps(20));
        due("one hour ahead", 1, made(stops).could(0, 1000, 20));
        due("one more heap", 0, made(both(forced("o0,0,0,1;"), heaps(21))).could(0, 1000, 20));
        due("never", 0, made(forced("o5,3,0,0;"), heaps(1)).could(0, 1000, 20));
        due("never, and no work", 1, made(forced("o5,3,0,0;")).could(0, 1000, 1));
        due("the last hour", 1, made(forced("o5,3,0,0;o5,3,1,999;"), heaps(20)).could(0, 1000, 20));
        due("ahead of it", 0, made(forced("o5,3,0,0;o5,3,1,999;"), heaps(20)).could(0, 999, 20));
        due("others go on", 1, made(forced("o0,0,0,0;"), heaps(0, 20)).could(0, 1, 20));
        for (int county = 0; county < 5; county++) {
            int[] heap = new int[5];
            heap[county] = 1;
            due("just there it stops", 0, made(forced("o" + county + ",0,0,7;"), heaps(heap)).could(7, 1000, 20));
            due("an hour sooner it goes on", 1, made(forced("o" + county + ",0,0,7;"), heaps(heap)).could(6, 1000, 20));
            due("in the next county it goes on", 1, made(forced("o" + (county + 1) % 5 + ",0,0,7;"), heaps(heap)).could(7, 8, 1));
            Play alone = forced("o5,0,0,0;o" + county + ",0,1,0;");
            due("there alone it goes on", 1, made(alone, heaps(heap)).could(0, 1, 1));
            heap[county] = 20;
            due("with all hands there", 20, made(alone, heaps(heap)).hands(0, 1));
            heap[county] = 1;
            due("in all it stops", 0, made(forced("o5,0,0,7;"), heaps(heap)).could(7, 1000, 20));
        }
        Play together = both(forced("o0,0,0,1;o1,0,0,1;o2,0,0,0;o2,0,1,1;o2,0,0,2;"), heaps(2, 2, 4));
        due("two share an hour", 1, made(together).could(0, 9, 4));
        due("a hand less", 0, made(together).could(0, 9, 3));
    }

    // hands

    @Says(promise = 30, value = {"LEAST HANDS for g, t;", "LEAST HANDS. NONE: not with 20; BAD."})
    static void promise30_gAndT() {
        edges("g", (x, v) -> x.hands(v, 1000)).from(0, 1).to(999, 9);
        edges("t", (x, v) -> x.hands(5, v)).from(5, NONE).to(1000, 1);
        refused("g 1000, an hour that is none", BAD, State::rich, x -> x.hands(1000, 1000));
        refused("g 1001", BAD, State::rich, x -> x.hands(1001, 1001));
        refused("g is more than t", BAD, Boundary::nothing, x -> x.hands(6, 5));
        refused("BAD is ahead of NONE", BAD, heaps(500), x -> x.hands(-1, 0));
    }

    @Says(promise = 30, value = {"NONE: not with 20; BAD.", "HANDS (1 to 20)"})
    static void promise30_oneAndTwenty() {
        due("nothing to do, in no hour", 1, new HangingCards().hands(0, 0));
        due("nothing to do", 1, new HangingCards().hands(999, 1000));
        due("one", 1, made(heaps(1)).hands(0, 1));
        due("two", 2, made(heaps(2)).hands(0, 1));
        due("19", 19, made(heaps(19)).hands(0, 1));
        due("20", 20, made(heaps(20)).hands(0, 1));
        refused("21", NONE, heaps(21), x -> x.hands(0, 1));
        due("21 in two hours", 11, made(heaps(21)).hands(0, 2));
        refused("in no hour", NONE, heaps(1), x -> x.hands(7, 7));
        due("2500 in 125 hours", 20, made(heaps(500, 500, 500, 500, 500)).hands(875, 1000));
        refused("in 124", NONE, heaps(500, 500, 500, 500, 500), x -> x.hands(876, 1000));
        refused("where nobody counts", NONE, both(forced("o0,0,0,0;"), heaps(1)), x -> x.hands(0, 1000));
    }

    // soonest

    @Says(promise = 31, value = {"LEAST HOUR. NONE; BAD.", "LEAST HOUR t for g and k (to 1000)."})
    static void promise31_gAndK() {
        edges("g", (x, v) -> x.soonest(v, 20)).from(0, 1).to(999, 1000);
        edges("k", (x, v) -> x.soonest(0, v)).from(1, 9).to(20, 1);
        refused("BAD is ahead of NONE", BAD, heaps(500), x -> x.soonest(1000, 1));
        refused("BAD is ahead of NONE", BAD, heaps(500), x -> x.soonest(999, 0));
    }

    @Says(promise = 31, value = {"LEAST HOUR t for g and k (to 1000).", "NONE: there is none."})
    static void promise31_fromGTo1000() {
        due("nothing to do", 0, new HangingCards().soonest(0, 1));
        due("nothing to do in the last hour", 999, new HangingCards().soonest(999, 20));
        due("one hour", 8, made(heaps(1)).soonest(7, 1));
        due("the last hour", 1000, made(heaps(20)).soonest(999, 20));
        refused("one heap more", NONE, heaps(21), x -> x.soonest(999, 20));
        due("500 hours", 1000, made(heaps(500)).soonest(500, 1));
        due("a hour sooner", 999, made(heaps(500)).soonest(499, 1));
        refused("a hour too late", NONE, heaps(500), x -> x.soonest(501, 1));
        due("all hours", 1000, made(heaps(500, 500)).soonest(0, 1));
        refused("one heap too many", NONE, heaps(500, 500, 1), x -> x.soonest(0, 1));
        due("on from 999", 1000, made(forced("o5,0,0,0;o5,0,1,999;"), heaps(20)).soonest(0, 20));
        refused("never", NONE, both(forced("o5,0,0,0;"), heaps(1)), x -> x.soonest(0, 20));
        due("behind a stop", 11, made(forced("o5,0,0,0;o5,0,1,10;"), heaps(20)).soonest(0, 20));
        due("and an hour", 12, made(forced("o5,0,0,0;o5,0,1,10;"), heaps(21)).soonest(0, 20));
    }

    // table

    @Says(promise = 32, value = "THE TABLE: how many HANDS are in a COUNTY in HOUR h (g to ahead of t). BAD.")
    static void promise32_gTKHAndCounty() {
        edges("h", (x, v) -> x.table(3, 6, 2, v, 4)).from(3, 0).to(5, 1);
        edges("h of all", (x, v) -> x.table(0, 1000, 20, v, 0)).from(0, 6).to(999, 0);
        edges("county", (x, v) -> x.table(3, 6, 2, 3, v)).from(0, 2).to(4, 0);
        edges("k", (x, v) -> x.table(3, 6, v, 3, 0)).from(1, 1).to(20, 6);
        edges("g", (x, v) -> x.table(v, 1000, 2, 999, 0)).from(0, 0).to(999, 2);
        edges("t", (x, v) -> x.table(0, v, 2, 0, 0)).from(1, 2).to(1000, 2);
        refused("g is t: no hour is there", BAD, State::rich, x -> x.table(5, 5, 1, 5, 0));
        refused("g is more than t", BAD, State::rich, x -> x.table(6, 5, 1, 5, 0));
        refused("g 1000", BAD, State::rich, x -> x.table(1000, 1000, 1, 1000, 0));
        refused("h 1000", BAD, State::rich, x -> x.table(999, 1000, 1, 1000, 0));
        refused("county 5 is not all here", BAD, Boundary::nothing, x -> x.table(0, 1, 1, 0, 5));
        refused("t 1001", BAD, Boundary::nothing, x -> x.table(0, 1001, 1, 1000, 0));
    }

    @Says(promise = 32, value = "as many HANDS as there are yet, no more than its WORK left.")
    static void promise32_asManyAsThereAreYet() {
        hands(made(heaps(3, 3, 5)), new int[] {0, 3, 4}, new int[][] {{3, 1, 0, 0, 0}, {0, 2, 2, 0, 0}, {0, 0, 3, 0, 0}});
        hands(made(heaps(20)), new int[] {0, 1, 20}, new int[][] {{20, 0, 0, 0, 0}});
        hands(made(heaps(21, 1)), new int[] {0, 2, 20}, new int[][] {{20, 0, 0, 0, 0}, {1, 1, 0, 0, 0}});
        hands(made(heaps(1, 1, 1, 1, 1)), new int[] {0, 2, 5}, new int[][] {{1, 1, 1, 1, 1}, {0, 0, 0, 0, 0}});
        hands(made(heaps(1, 1, 1, 1, 1)), new int[] {0, 2, 4}, new int[][] {{1, 1, 1, 1, 0}, {0, 0, 0, 0, 1}});
        hands(new HangingCards(), new int[] {0, 1, 20}, new int[][] {{0, 0, 0, 0, 0}});
        hands(made(heaps(0, 0, 500)), new int[] {999, 1000, 1}, new int[][] {{0, 0, 1, 0, 0}});
        HangingCards x = made(heaps(3));
        x.boxes(0, 1, 2);
        hands(x, new int[] {0, 2, 20}, new int[][] {{2, 0, 0, 0, 0}, {0, 0, 0, 0, 0}});
    }

    @Says(promise = 32, value = "those first of whose HOURS from that one to ahead of t fewest are such, of several the lowest:")
    static void promise32_theFewestHoursFirst() {
        Play both = heaps(9, 9);
        hands(made(both), new int[] {0, 2, 1}, new int[][] {{1, 0}, {1, 0}});
        Play stopsEarlier = both(both, forced("o1,0,0,1;"));
        hands(made(stopsEarlier), new int[] {0, 2, 1}, new int[][] {{0, 1}, {1, 0}});
        Play stopsAtT = both(both, forced("o1,0,0,2;"));
        hands(made(stopsAtT), new int[] {0, 2, 1}, new int[][] {{1, 0}, {1, 0}});
        hands(made(stopsAtT), new int[] {0, 3, 1}, new int[][] {{0, 1}, {0, 1}, {1, 0}});
        Play closedAheadOnly = both(both, forced("o1,0,0,0;o1,0,1,1;"));
        hands(made(closedAheadOnly), new int[] {0, 3, 1}, new int[][] {{1, 0}, {1, 0}, {1, 0}});
        Play twoOfThree = both(both, forced("o1,0,0,1;o1,0,1,2;"));
        hands(made(twoOfThree), new int[] {0, 3, 1}, new int[][] {{0, 1}, {1, 0}, {1, 0}});
        hands(made(heaps(0, 0, 0, 1, 1)), new int[] {0, 2, 1}, new int[][] {{0, 0, 0, 1, 0}, {0, 0, 0, 0, 1}});
        for (int one = 0; one < 5; one++) {
            for (int other = 0; other < 5; other++) {
                if (one != other) fewestOfTwo(one, other);
            }
        }
    }

    /** Who is first in hours 0 to 3 by one hand, when counting in both stops and goes on as a text says. */
    private static void first(int one, int other, String text, int... due) {
        int[] heap = new int[5];
        heap[one] = 9;
        heap[other] = 9;
        int[][] table = new int[4][5];
        for (int hour = 0; hour < 4; hour++) table[hour][due[hour]] = 1;
        hands(made(heaps(heap), forced(text)), new int[] {0, 4, 1}, table);
    }

    private static void fewestOfTwo(int one, int other) {
        String oneStops = "o" + one + ",0,0,";
        String oneGoesOn = "o" + one + ",0,1,";
        int lowest = Math.min(one, other);
        first(one, other, oneStops + "0;" + oneGoesOn + "2;", other, other, lowest, lowest);
        first(one, other, oneStops + "0;" + oneGoesOn + "2;" + oneStops + "3;", other, other, one, other);
        first(one, other, oneStops + "0;" + oneGoesOn + "1;o" + other + ",0,0,3;", other, other, other, one);
        first(one, other, oneStops + "4;", lowest, lowest, lowest, lowest);
        first(one, other, oneStops + "3;", one, one, one, other);
    }

    @Says(promise = 32, value = "THE TABLE for g, t, k: HOUR by HOUR, in that HOUR by COUNTIES in which counting goes on:")
    static void promise32_whereCountingGoesOn() {
        Play opens = both(heaps(4), forced("o0,0,0,0;o0,0,1,5;o0,0,0,7;"));
        hands(made(opens), new int[] {4, 8, 1}, new int[][] {{0}, {1}, {1}, {0}});
        hands(made(opens), new int[] {5, 6, 20}, new int[][] {{4}});
        Play last = both(heaps(4), forced("o5,0,0,0;o5,0,1,999;"));
        hands(made(last), new int[] {998, 1000, 4}, new int[][] {{0}, {4}});
        hands(made(heaps(4), forced("o5,0,0,0;")), new int[] {0, 2, 4}, new int[][] {{0, 0, 0, 0, 0}, {0, 0, 0, 0, 0}});
    }

    // left

    @Says(promise = 33, value = {"LEFT by THE TABLE. BAD.", "LEFT is what WORK is left of all at t"})
    static void promise33_gTAndK() {
        edges("g", (x, v) -> x.left(v, 1000, 1)).from(0, 0).to(999, 8);
        edges("t", (x, v) -> x.left(5, v, 1)).from(5, 9).to(1000, 0);
        edges("k", (x, v) -> x.left(3, 6, v)).from(1, 6).to(20, 0);
        refused("g 1000, an hour that is none", BAD, State::rich, x -> x.left(1000, 1000, 1));
        refused("g 1001", BAD, State::rich, x -> x.left(1001, 1001, 1));
        refused("g is more than t", BAD, State::rich, x -> x.left(6, 5, 1));
    }

    @Says(promise = 33, value = "LEFT is what WORK is left of all at t")
    static void promise33_nothingAndAll() {
        due("no work", 0, new HangingCards().left(0, 1000, 20));
        due("in no hour", 21, made(heaps(21)).left(7, 7, 20));
        due("in one", 1, made(heaps(21)).left(7, 8, 20));
        due("in two", 0, made(heaps(21)).left(7, 9, 20));
        due("all that there can be", 2500, made(heaps(500, 500, 500, 500, 500)).left(0, 0, 1));
        due("by 20 in 124 hours", 20, made(heaps(500, 500, 500, 500, 500)).left(0, 124, 20));
        due("by 20 in 125", 0, made(heaps(500, 500, 500, 500, 500)).left(0, 125, 20));
        due("where nobody counts", 500, made(heaps(500), forced("o0,0,0,0;")).left(0, 1000, 20));
    }

    @Says(promise = 33, value = "(it may be, though it COULD be done).")
    static void promise33_thoughItCouldBeDone() {
        Play setUp = both(heaps(1, 2), forced("o0,0,0,1;o0,0,1,3;o1,0,0,2;"));
        due("it could", 1, made(setUp).could(0, 4, 1));
        due("but some is left", 1, made(setUp).left(0, 4, 1));
        due("with two it is not", 0, made(setUp).left(0, 4, 2));
    }

    // keep and back

    @Says(promise = 34, value = {"KEPT are CARDS as they are; 2 at most.", "KEPT: how many.", "FULL."})
    static void promise34_twoAtMost() {
        HangingCards x = new HangingCards();
        due("the first", 1, x.keep());
        due("the second", 2, x.keep());
        due("the third", FULL, x.keep());
        due("how many", 2, x.count(6));
        due("room again", 1, x.back());
        due("the second again", 2, x.keep());
        refused("the third", FULL, State::full, HangingCards::keep);
        refused("the third of no cards", FULL, both(HangingCards::keep, HangingCards::keep), HangingCards::keep);
        due("the second of all", 2, made(State::rich).keep());
    }

    @Says(promise = 34, value = "KEPT are CARDS as they are")
    static void promise34_noCardAndFortyCards() {
        HangingCards x = new HangingCards();
        x.keep();
        for (int card = 0; card < 40; card++) x.card(card % 5, 4);
        x.keep();
        for (int card = 0; card < 40; card++) due("opened", 1, x.handle(card, 1));
        for (int card = 0; card < 40; card++) due("gone", 5, x.hole(card, 2, 3));
        due("back to 40", 1, x.back());
        for (int card = 0; card < 40; card++) due("as it was", 4, x.hole(card, 2, 3));
        due("40", 40, x.count(0));
        due("back to none", 0, x.back());
        due("none", 0, x.count(0));
        due("no hole", BAD, x.hole(0, 0, 0));
    }

    @Says(promise = 35, value = {"As KEPT last (CARDS told since go): how many are left.", "NO.", "NO: not as things stand."})
    static void promise35_nothingKept() {
        refused("a new object", NO, Boundary::nothing, HangingCards::back);
        refused("nothing is kept any more", NO, both(State::rich, HangingCards::back), HangingCards::back);
        refused("nor of two", NO, both(both(State::full, HangingCards::back), HangingCards::back), HangingCards::back);
        HangingCards x = made(State::full);
        due("one is left", 1, x.back());
        due("none is left", 0, x.back());
        due("no more", NO, x.back());
        due("keep again", 1, x.keep());
        due("one to go back to", 0, x.back());
    }

    @Says(promise = 35, value = "As KEPT last (CARDS told since go)")
    static void promise35_cardsToldSinceGo() {
        HangingCards x = made(cards(0, "4000 0000 0000"));
        x.keep();
        x.card(1, h("0400 0000 0000"));
        x.keep();
        x.handle(0, 1);
        due("three", 2, x.card(2, h("5000 0000 0000")));
        due("back", 1, x.back());
        due("two", 2, x.count(0));
        due("card 2 is gone", BAD, x.hole(2, 0, 0));
        due("card 1 is not", 4, x.hole(1, 0, 1));
        due("card 0 is as it was", 4, x.hole(0, 0, 0));
        due("another card 2", 2, x.card(4, h("0005 0000 0000")));
        due("its county", 1, x.counted(4, 0, 3, 0, false));
        due("not the old one's", 0, x.counted(2, 0, 0, 0, true));
        due("back", 0, x.back());
        due("one", 1, x.count(0));
        due("card 1 is gone", BAD, x.vote(1, 0, 0, false));
    }

    @Says(promise = 35, value = "KEPT are CARDS as they are")
    static void promise35_onlyCardsGoBack() {
        HangingCards x = new HangingCards();
        x.keep();
        State.full(x);
        due("kept three times is two", 2, x.count(6));
        x.back();
        x.back();
        int[] counts = {0, 0, 200, 40, 8, 12, 0};
        for (int what = 0; what < counts.length; what++) due("count " + what, counts[what], x.count(what));
        due("heaps stay", 496, x.boxes(4, 0, 0));
        due("x stays", 1, x.likeness(9));
    }

    // count

    @Says(promise = 36, value = {"How many: 0 CARDS, 1 HOLES of all that are not whole, 2 bytes of THE TEXT, 3 ITEMS IN FORCE, 4 LISTED, 5 VOTERS, 6 KEPT.", "BAD."})
    static void promise36_what0To6() {
        edges("what", (x, v) -> x.count(v)).from(0, 6).to(6, 1);
        edges("what of a new object", (x, v) -> x.count(v)).on(Boundary::nothing).from(0, 0).to(6, 0);
        int[] rich = {6, 25, 6, 7, 2, 3, 1};
        for (int what = 0; what < rich.length; what++) due("count " + what, rich[what], made(State::rich).count(what));
    }

    @Says(promise = 36, value = {"BAD: a number is none that is told, there is no such thing.", "FULL."})
    static void promise36_emptyAndFull() {
        int[] full = {40, 0, 200, 40, 8, 12, 2};
        for (int what = 0; what < full.length; what++) {
            due("empty " + what, 0, new HangingCards().count(what));
            if (what != 1) due("full " + what, full[what], made(State::full).count(what));
        }
        due("no hole of 40 cards", 0, made(cards(40, 0, "0")).count(1));
        due("one", 1, made(cards(39, 0, "0"), cards(0, "1")).count(1));
        due("all but one", 479, made(cards(39, 0, "5".repeat(12)), cards(0, "111111111110")).count(1));
        due("all", 480, made(cards(40, 0, "1".repeat(12))).count(1));
    }
}
