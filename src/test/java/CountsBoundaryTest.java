/** The boundaries of promises 13 to 21: counted, vote, winner, byRule, mixed, turned, least, meant, otherwise. */
public final class CountsBoundaryTest extends Boundary {
    private static final int BAD_LEAD = -1000;

    /** One card for 0 by all rules, two for 1 by rules 1 to 4, three for 2 by 1 to 3, four for 3 by 1 and 2. */
    private static final String[] STAIRS = {"5000 0000 0000", "0400 0000 0000", "0400 0000 0000", "0030 0000 0000",
        "0030 0000 0000", "0030 0000 0000", "0002 0000 0000", "0002 0000 0000", "0002 0000 0000", "0002 0000 0000"};

    public static void main(String[] args) {
        run(CountsBoundaryTest.class);
    }

    private static void stairs(HangingCards x) {
        for (String card : STAIRS) x.card(0, h(card));
    }

    /** So many cards for each of the four in race 0, all in county 3. */
    private static Play votes(int... many) {
        return x -> {
            String[] holes = {"5000 0000 0000", "0500 0000 0000", "0050 0000 0000", "0005 0000 0000", "0000 0000 0000"};
            for (int one = 0; one < many.length; one++) cards(many[one], 3, holes[one]).on(x);
        };
    }

    // counted

    @Says(promise = 13, value = "COUNTED for HOLE 0 to 3 of a RACE in a COUNTY (5: all) in an HOUR, by hands (machine = false). BAD.")
    static void promise13_countyRaceHoleAndHour() {
        edges("county", (x, v) -> x.counted(v, 0, 0, 0, true)).from(0, 1).to(5, 2);
        edges("race", (x, v) -> x.counted(5, v, 0, 0, false)).from(0, 1).to(2, 2);
        edges("hole", (x, v) -> x.counted(5, 2, v, 0, false)).from(0, 2).to(3, 1);
        edges("hour", (x, v) -> x.counted(5, 0, 3, v, false)).from(0, 0).to(999, 1);
        edges("county by a machine", (x, v) -> x.counted(v, 2, 0, 999, true)).from(0, 0).to(5, 2);
        edges("hour by a machine", (x, v) -> x.counted(5, 0, 3, v, true)).from(0, 0).to(999, 1);
    }

    @Says(promise = 13, value = "A CARD shows in a RACE those HOLES that are read; it counts for one, if it shows just one.")
    static void promise13_showsNoneOneTwo() {
        String[] holes = {"0000", "5000", "5500", "5550", "5555", "0050", "0055"};
        int[] one = {NONE, 0, NONE, NONE, NONE, 2, NONE};
        for (int race = 0; race < 3; race++) {
            for (int i = 0; i < holes.length; i++) {
                HangingCards x = made(cards(0, "0000".repeat(race) + holes[i] + "0000".repeat(2 - race)));
                for (int hole = 0; hole < 4; hole++) {
                    due(holes[i] + " for " + hole, hole == one[i] ? 1 : 0, x.counted(0, race, hole, 0, false));
                }
            }
        }
    }

    @Says(promise = 13, value = "COUNTED in a COUNTY (5: in all) in a RACE: by hands in an HOUR, or by a machine.")
    static void promise13_noCardAndFortyCards() {
        for (int hole = 0; hole < 4; hole++) {
            due("no card", 0, new HangingCards().counted(5, 0, hole, 0, false));
            String holes = "0".repeat(hole) + "5" + "0".repeat(11 - hole);
            HangingCards x = new HangingCards();
            for (int card = 0; card < 40; card++) x.card(card % 4, h(holes));
            due("40 in all", 40, x.counted(5, 0, hole, 0, false));
            due("40 by a machine", 40, x.counted(5, 0, hole, 0, true));
            for (int county = 0; county < 5; county++) due("ten each", county < 4 ? 10 : 0, x.counted(county, 0, hole, 0, false));
            for (int other = 0; other < 4; other++) due("others", other == hole ? 40 : 0, x.counted(5, 0, other, 0, false));
        }
    }

    @Says(promise = 13, value = "a hand reads a HOLE that is N (1 to 5) or more")
    static void promise13_handsReadNOrMore() {
        for (int n = 1; n <= 5; n++) {
            for (int state = 0; state <= 5; state++) {
                HangingCards x = made(forced("m3,0;v2," + n + ",0;"), cards(2, "0" + state + "00 0000 0000"));
                due(state + " by " + n, state >= n ? 1 : 0, x.counted(2, 0, 1, 0, false));
                due(state + " by a machine", state >= 3 ? 1 : 0, x.counted(2, 0, 1, 0, true));
            }
        }
        due("4 without", 0, made(cards(2, "4000 0000 0000")).counted(5, 0, 0, 0, false));
        due("5 without", 1, made(cards(2, "5000 0000 0000")).counted(5, 0, 0, 0, false));
    }

    @Says(promise = 13, value = "a machine reads a HOLE that is N (2 to 5) or more, from h on (4 without)")
    static void promise13_aMachineReadsNOrMore() {
        for (int n = 2; n <= 5; n++) {
            for (int state = 0; state <= 5; state++) {
                HangingCards x = made(forced("m" + n + ",0;d5,1,0;v5,1,0;"), cards(2, "0" + state + "00 0000 0000"));
                due(state + " by " + n, state >= n ? 1 : 0, x.counted(5, 0, 1, 0, true));
            }
        }
        due("3 without", 0, made(cards(2, "3000 0000 0000")).counted(5, 0, 0, 0, true));
        due("4 without", 1, made(cards(2, "4000 0000 0000")).counted(5, 0, 0, 0, true));
    }

    @Says(promise = 13, value = "in COUNTY C (5: in all) counting stops (v 0) or goes on (v 1), from HOUR h on")
    static void promise13_whatIsCountedDoesNotStop() {
        Play stopped = both(forced("o5,3,0,0;v5,4,7;m3,7;"), cards(0, "4000 0000 0000", 1, "3000 0000 0000", 1, "4000 0000 0000"));
        due("a court's order is in force", 0, made(stopped).rule(3, 1, 7));
        due("hands", 2, made(stopped).counted(5, 0, 0, 7, false));
        due("hands in a county", 1, made(stopped).counted(1, 0, 0, 7, false));
        due("hands ahead of hour 7", 0, made(stopped).counted(5, 0, 0, 6, false));
        due("a machine", 3, made(stopped).counted(5, 0, 0, 7, true));
        due("a card", 0, made(stopped).vote(0, 0, 7, false));
        due("a winner", 0, made(stopped).winner(0, 7, false));
        due("least", 0, made(stopped).least(0, 0, 7));
        due("otherwise", 2, made(stopped).otherwise(5, 0, 6, 7));
        due("a run", 2, made(stopped).run(1, 0, 7));
    }

    @Says(promise = 13, value = "there a hand reads a dimpled HOLE (1) too, if N (0 to 12; 0: never) or more HOLES of the CARD are dimpled")
    static void promise13_dimples() {
        String[] dimpled = {"1000 0000 0000", "1000 1000 0000", "1000 1111 1110", "1000 1111 1111"};
        int[] many = {1, 2, 8, 9};
        for (int i = 0; i < many.length; i++) {
            for (int n = 0; n <= 12; n++) {
                HangingCards x = made(forced("d4," + n + ",0;"), cards(4, dimpled[i], 3, dimpled[i]));
                due(many[i] + " by " + n, n > 0 && many[i] >= n ? 1 : 0, x.counted(4, 0, 0, 0, false));
                due("in the next county", 0, x.counted(3, 0, 0, 0, false));
                due("by a machine", 0, x.counted(4, 0, 0, 0, true));
            }
        }
        HangingCards twelve = made(forced("d5,12,0;"), cards(0, "1111 1111 1111", 1, "1111 1111 1110", 2, "5111 1111 1111"));
        due("twelve show four", 0, twelve.counted(0, 0, 0, 0, false));
        due("eleven are not enough", 1, twelve.counted(2, 0, 0, 0, false));
        due("whole holes are not read", 0, made(forced("d5,1,0;"), cards(0, "0111 0000 0000")).counted(5, 0, 0, 0, false));
        due("nor are hanging ones", 1, made(forced("d5,1,0;"), cards(0, "1234 0000 0000")).counted(5, 0, 0, 0, false));
        due("two dimples show two", 0, made(forced("d5,2,0;"), cards(0, "1100 0000 0000")).counted(5, 0, 0, 0, false));
        due("0 of 0 is never", 0, made(forced("d5,0,0;"), cards(0, "0000 0000 0000")).counted(5, 0, 0, 0, false));
        due("never any more", 0, made(forced("d5,1,0;d5,0,9;"), cards(0, "1000 0000 0000")).counted(5, 0, 0, 9, false));
        due("ahead of that", 1, made(forced("d5,1,0;d5,0,9;"), cards(0, "1000 0000 0000")).counted(5, 0, 0, 8, false));
    }

    // vote

    @Says(promise = 14, value = {"For whom a CARD counts in a RACE in an HOUR by hands, a machine.", "NONE: nobody; BAD."})
    static void promise14_cardRaceAndHour() {
        edges("card", (x, v) -> x.vote(v, 0, 0, false)).from(0, 0).to(5, NONE);
        edges("race", (x, v) -> x.vote(2, v, 0, false)).from(0, NONE).to(2, 3);
        edges("hour", (x, v) -> x.vote(3, 0, v, false)).from(0, NONE).to(999, 3);
        edges("card by a machine", (x, v) -> x.vote(v, 2, 0, true)).from(0, NONE).to(5, 0);
        edges("hour by a machine", (x, v) -> x.vote(3, 0, v, true)).from(0, NONE).to(999, 3);
        edges("40 cards", (x, v) -> x.vote(v, 2, 0, true)).on(cards(40, 0, "5")).from(0, 3).to(39, 3);
    }

    @Says(promise = 14, value = "NONE: nobody; BAD.")
    static void promise14_none() {
        refused("none is read", NONE, State::rich, x -> x.vote(5, 0, 0, false));
        refused("two are read", NONE, State::rich, x -> x.vote(4, 2, 0, true));
        refused("BAD is ahead of NONE", BAD, State::rich, x -> x.vote(5, 0, 1000, false));
        refused("no card yet", BAD, Boundary::nothing, x -> x.vote(0, 0, 0, false));
        for (int one = 0; one < 4; one++) {
            int[] many = new int[4];
            many[one] = 1;
            due("for " + one, one, made(votes(many)).vote(0, 0, 0, false));
        }
    }

    // winner

    @Says(promise = 15, value = "WINNER. NONE; BAD.")
    static void promise15_raceAndHour() {
        edges("race", (x, v) -> x.winner(v, 0, false)).from(0, NONE).to(2, 0);
        edges("hour", (x, v) -> x.winner(0, v, false)).from(0, NONE).to(999, 0);
        edges("race by a machine", (x, v) -> x.winner(v, 0, true)).from(0, 0).to(2, 0);
        edges("hour by a machine", (x, v) -> x.winner(0, v, true)).from(0, 0).to(999, 0);
        refused("BAD is ahead of NONE", BAD, Boundary::nothing, x -> x.winner(0, 1000, false));
    }

    @Says(promise = 15, value = "WINNER of a RACE: who has most in all COUNTIES; none, if two have (or nobody any).")
    static void promise15_nobodyAnyOneTwo() {
        refused("no card", NONE, Boundary::nothing, x -> x.winner(0, 0, false));
        refused("nobody any", NONE, votes(0, 0, 0, 0, 40), x -> x.winner(0, 0, true));
        for (int one = 0; one < 4; one++) {
            int[] many = new int[4];
            many[one] = 1;
            due("one card", one, made(votes(many)).winner(0, 0, false));
            many[(one + 1) % 4] = 1;
            due("two level", NONE, made(votes(many)).winner(0, 0, false));
            many[one] = 2;
            due("one more", one, made(votes(many)).winner(0, 0, false));
        }
        refused("two of three have most", NONE, votes(3, 1, 3), x -> x.winner(0, 0, false));
        due("two level below", 2, made(votes(3, 3, 4)).winner(0, 0, false));
        refused("all four level", NONE, votes(10, 10, 10, 10), x -> x.winner(0, 0, false));
        due("by one of 40", 3, made(votes(10, 10, 9, 11)).winner(0, 0, false));
        refused("20 to 20", NONE, votes(20, 0, 0, 20), x -> x.winner(0, 0, false));
        due("all 40", 3, made(votes(0, 0, 0, 40)).winner(0, 0, false));
    }

    @Says(promise = 15, value = "most in all COUNTIES")
    static void promise15_overAllCounties() {
        HangingCards x = made(cards(0, "5000 0000 0000", 4, "0500 0000 0000", 4, "0500 0000 0000", 1, "5000 0000 0000"));
        due("level in all", NONE, x.winner(0, 0, false));
        x.card(2, h("5000 0000 0000"));
        due("in all, not in most of one", 0, x.winner(0, 0, false));
    }

    // byRule

    @Says(promise = 16, value = {"BY RULE N (1 to 5)", "BY EACH: WINNER by rule N. NONE; BAD."})
    static void promise16_raceAndRule() {
        edges("race", (x, v) -> x.byRule(v, 5)).from(0, NONE).to(2, 0);
        edges("rule", (x, v) -> x.byRule(2, v)).from(1, 0).to(5, 0);
        refused("no card", NONE, Boundary::nothing, x -> x.byRule(0, 1));
        refused("BAD is ahead of NONE", BAD, Boundary::nothing, x -> x.byRule(0, 0));
        refused("two level", NONE, votes(20, 20), x -> x.byRule(0, 5));
        due("one more", 1, made(votes(19, 20)).byRule(0, 5));
    }

    @Says(promise = 16, value = "hands read HOLES that are N or more, nothing else.")
    static void promise16_nOrMoreNothingElse() {
        for (int n = 1; n <= 5; n++) {
            for (int state = 0; state <= 5; state++) {
                Play setUp = both(forced("v5,1,0;d5,1,0;m2,0;"), cards(4, "000" + state + " 0000 0000"));
                due(state + " by " + n, state >= n ? 3 : NONE, made(setUp).byRule(0, n));
            }
        }
        due("v does not hinder", 3, made(forced("v5,5,0;"), cards(4, "0001 0000 0000")).byRule(0, 1));
        HangingCards x = made(forced("d5,1,0;"), cards(4, "0001 0000 0000"));
        due("by d", 3, x.winner(0, 0, false));
        due("behind that by rule 2", NONE, x.byRule(0, 2));
        due("by d again", 3, x.vote(0, 0, 0, false));
        due("behind that none in a mixture of rules 2 to 5", 0, x.mixed(0, 30, -1));
        due("by d again", 3, x.vote(0, 0, 0, false));
        due("behind that none to be turned", NO, x.turned(0, 2, 30));
    }

    @Says(promise = 16, value = "BY EACH: WINNERS of a RACE by rules 1 to 5, the same in all COUNTIES.")
    static void promise16_eachRule() {
        int[] by = {3, 3, 2, 1, 0};
        for (int n = 1; n <= 5; n++) due("rule " + n, by[n - 1], made(CountsBoundaryTest::stairs).byRule(0, n));
        HangingCards x = made(cards(0, "3000 0000 0000", 1, "3000 0000 0000", 2, "0300 0000 0000", 3, "0050 0000 0000"));
        due("the same in all", 0, x.byRule(0, 3));
        due("the next one", 2, x.byRule(0, 4));
    }

    // mixed

    @Says(promise = 17, value = {"MIXED among a set of rules (1 to 31): who can WIN as bits (one = -1), the greatest lead of one (0 to 3; it may be below 0).",
        "BAD answers -1000."})
    static void promise17_raceRulesAndOne() {
        edges("race", (x, v) -> x.mixed(v, 31, 0)).refusing(BAD_LEAD).from(0, 1).to(2, 1);
        edges("rules", (x, v) -> x.mixed(0, v, -1)).refusing(BAD_LEAD).from(1, 0).to(31, 1);
        edges("one", (x, v) -> x.mixed(0, 31, v)).refusing(BAD_LEAD).from(-1, 1).to(3, 0);
        refused("all", BAD_LEAD, Boundary::nothing, x -> x.mixed(3, 0, 4));
    }

    @Says(promise = 17, value = "MIXED: each COUNTY by a rule of its own among a set (bits 0 to 4 for rules 1 to 5): who of the four WINS in some mixture (bits);")
    static void promise17_bitsOfRulesAndOfOnes() {
        int[] winners = {8, 8, 4, 2, 1};
        for (int n = 1; n <= 5; n++) due("rule " + n + " alone", winners[n - 1], made(CountsBoundaryTest::stairs).mixed(0, 1 << n - 1, -1));
        due("all four", 15, made(CountsBoundaryTest::stairs).mixed(0, 31, -1));
        due("rules 1 and 2", 8, made(CountsBoundaryTest::stairs).mixed(0, 3, -1));
        due("rules 4 and 5", 3, made(CountsBoundaryTest::stairs).mixed(0, 24, -1));
        due("rules 1 and 5", 9, made(CountsBoundaryTest::stairs).mixed(0, 17, -1));
        due("no card", 0, new HangingCards().mixed(0, 31, -1));
        due("level by each", 0, made(votes(20, 20)).mixed(0, 31, -1));
        due("one more", 2, made(votes(19, 20)).mixed(0, 31, -1));
    }

    @Says(promise = 17, value = "each COUNTY by a rule of its own among a set")
    static void promise17_aRuleOfItsOwn() {
        HangingCards x = made(cards(0, "5000 0000 0000", 1, "0400 0000 0000", 4, "0400 0000 0000", 4, "3040 0000 0000"));
        due("0 by 5, 1 by 4", 3, x.mixed(0, 24, -1));
        due("1 leads by one in one mixture alone", 1, x.mixed(0, 24, 1));
        due("2 is level with 0 at best", 0, x.mixed(0, 24, 2));
        due("0 leads by one", 1, x.mixed(0, 24, 0));
        due("by 5 alone", 1, x.mixed(0, 16, -1));
    }

    @Says(promise = 17, value = {"the greatest lead of one: its votes less the most that another one has, in that mixture in which this is greatest (it may be below 0)."})
    static void promise17_theLeadAboveAndBelow0() {
        for (int one = 0; one < 4; one++) {
            int[] many = new int[4];
            many[one] = 40;
            HangingCards x = made(votes(many));
            for (int other = 0; other < 4; other++) due("all 40", other == one ? 40 : -40, x.mixed(0, 31, other));
            due("no card", 0, new HangingCards().mixed(0, 31, one));
            due("level", 0, made(votes(10, 10, 10, 10)).mixed(0, 31, one));
            due("by one at best", 1, made(CountsBoundaryTest::stairs).mixed(0, 31, one));
        }
        due("one behind", -1, made(votes(19, 20)).mixed(0, 31, 0));
        due("one ahead", 1, made(votes(19, 20)).mixed(0, 31, 1));
        due("the most of another one, not of all others", 0, made(votes(2, 2, 2, 1)).mixed(0, 1, 0));
        due("behind by rule 5", -1, made(CountsBoundaryTest::stairs).mixed(0, 16, 3));
    }

    // turned

    @Says(promise = 18, value = {"TURNED: COUNTIES as bits.", "NONE; BAD; NO."})
    static void promise18_raceRuleAndRules() {
        edges("race", (x, v) -> x.turned(v, 5, 31)).from(0, NO).to(2, NONE);
        edges("rule", (x, v) -> x.turned(0, v, 31)).on(CountsBoundaryTest::stairs).from(1, 1).to(5, 1);
        edges("rules", (x, v) -> x.turned(0, 5, v)).on(CountsBoundaryTest::stairs).from(1, 1).to(31, 1);
    }

    @Says(promise = 18, value = {"(NO: none WINS by N.)", "Of several the first in this order, whatever the order at a call; nothing changes then."})
    static void promise18_noneWinsByN() {
        refused("no card", NO, Boundary::nothing, x -> x.turned(0, 1, 31));
        refused("level by N", NO, votes(20, 20), x -> x.turned(0, 5, 31));
        due("one more", NONE, made(votes(19, 20)).turned(0, 5, 31));
        refused("another rule would help", NO, cards(0, "3000 0000 0000"), x -> x.turned(0, 4, 31));
        refused("NO is ahead of NONE", NO, State::rich, x -> x.turned(0, 5, 16));
        refused("BAD is ahead of NO", BAD, Boundary::nothing, x -> x.turned(0, 5, 0));
        refused("BAD is ahead of NO", BAD, Boundary::nothing, x -> x.turned(0, 0, 31));
        refused("BAD is ahead of NO", BAD, Boundary::nothing, x -> x.turned(3, 5, 31));
    }

    @Says(promise = 18, value = {"by which another one WINS, if each of them has some rule of a set unlike N", "(of several the least bits); none.", "NONE: there is none."})
    static void promise18_none() {
        refused("a set of N alone", NONE, CountsBoundaryTest::stairs, x -> x.turned(0, 5, 16));
        due("and one more", 1, made(CountsBoundaryTest::stairs).turned(0, 5, 24));
        refused("the same one by the other rule", NONE, CountsBoundaryTest::stairs, x -> x.turned(0, 1, 2));
        due("another one", 1, made(CountsBoundaryTest::stairs).turned(0, 2, 4));
        Play level = cards(0, "5000 0000 0000", 1, "0400 0000 0000");
        refused("level is no win", NONE, level, x -> x.turned(0, 5, 31));
        due("one more is", 2, made(level, cards(1, "0400 0000 0000")).turned(0, 5, 31));
        refused("BAD is ahead of NONE", BAD, level, x -> x.turned(0, 5, 32));
    }

    @Says(promise = 18, value = "TURNED: from WINNER by rule N in all COUNTIES: the fewest COUNTIES by which another one WINS")
    static void promise18_oneCountyAndAllFive() {
        Play each = x -> {
            for (int county = 0; county < 5; county++) x.card(county, h("0400 0000 0000"));
        };
        due("one of five", 4, made(cards(2, "5000 0000 0000", 2, "0400 0000 0000", 2, "0400 0000 0000")).turned(0, 5, 8));
        due("all five", 31, made(each, cards(4, 0, "5000 0000 0000")).turned(0, 5, 8));
        refused("five are not enough", NONE, both(each, cards(5, 0, "5000 0000 0000")), x -> x.turned(0, 5, 8));
        due("four", 15, made(each, cards(3, 0, "5000 0000 0000")).turned(0, 5, 8));
        Play fewer = cards(2, "5000 0000 0000", 0, "0400 0000 0000", 1, "0400 0000 0000", 4, "0400 0000 0000", 4, "0400 0000 0000");
        due("fewer ahead of less bits", 16, made(fewer).turned(0, 5, 8));
        Play fewerByAHigherRule = both(cards(3, 3, "0500 0000 0000"),
            cards(0, "4000 0000 0000", 1, "4000 0000 0000", 4, "4000 0000 0000", 4, "4000 0000 0000"));
        due("fewer by a higher rule", 16, made(fewerByAHigherRule).turned(0, 4, 16));
        due("fewer by any rule", 16, made(fewerByAHigherRule).turned(0, 3, 31));
    }

    @Says(promise = 18, value = "(of several the least bits)")
    static void promise18_theLeastBits() {
        Play two = x -> {
            for (int county = 4; county > 0; county--) cards(2, county, "0400 0000 0000").on(x);
        };
        due("one of four", 2, made(two, cards(0, "5000 0000 0000")).turned(0, 5, 8));
        due("two of four", 6, made(two, cards(3, 0, "5000 0000 0000")).turned(0, 5, 8));
        due("three of four", 14, made(two, cards(5, 0, "5000 0000 0000")).turned(0, 5, 8));
        due("four of four", 30, made(two, cards(7, 0, "5000 0000 0000")).turned(0, 5, 8));
        refused("none", NONE, both(two, cards(8, 0, "5000 0000 0000")), x -> x.turned(0, 5, 8));
        Play leave = x -> {
            for (int county = 4; county > 0; county--) cards(2, county, "4000 0000 0000").on(x);
        };
        due("one of four by a higher rule", 2, made(leave, cards(7, 0, "0500 0000 0000")).turned(0, 4, 16));
        due("two of four", 6, made(leave, cards(5, 0, "0500 0000 0000")).turned(0, 4, 16));
        due("three of four", 14, made(leave, cards(3, 0, "0500 0000 0000")).turned(0, 4, 16));
        due("four of four", 30, made(leave, cards(1, 0, "0500 0000 0000")).turned(0, 4, 16));
        refused("none", NONE, leave, x -> x.turned(0, 4, 16));
        HangingCards x = made(two, cards(3, 0, "5000 0000 0000"));
        due("asked of one object", 6, x.turned(0, 5, 8));
        due("none behind it", NONE, x.turned(0, 5, 16));
        due("again", 6, x.turned(0, 5, 9));
    }

    // least

    @Says(promise = 19, value = {"LEAST CARDS for one to WIN in an HOUR.", "NONE: there are too few CARDS; BAD."})
    static void promise19_raceOneAndHour() {
        edges("race", (x, v) -> x.least(v, 0, 0)).from(0, 1).to(2, 0);
        edges("one", (x, v) -> x.least(2, v, 0)).from(0, 0).to(3, 1);
        edges("hour", (x, v) -> x.least(0, 0, v)).from(0, 1).to(999, 0);
    }

    @Says(promise = 19, value = {"NONE: there are too few CARDS; BAD.", "NONE: there is none."})
    static void promise19_tooFewCards() {
        refused("no card", NONE, Boundary::nothing, x -> x.least(0, 3, 0));
        refused("BAD is ahead of NONE", BAD, Boundary::nothing, x -> x.least(0, 4, 0));
        due("one card, for nobody", 1, made(votes(0, 0, 0, 0, 1)).least(0, 3, 0));
        due("one card, for another one", 1, made(votes(1)).least(0, 3, 0));
        due("one card, for the one", 0, made(votes(0, 0, 0, 1)).least(0, 3, 0));
        HangingCards x = made(cards(0, "5000 0000 0000"));
        x.keep();
        x.back();
        due("there is still one", 1, x.least(0, 1, 0));
    }

    @Says(promise = 19, value = "LEAST CARDS for one to WIN: how many CARDS must count otherwise than they do by hands in an HOUR, each for whom one likes: the least number.")
    static void promise19_theLeastNumber() {
        due("level", 1, made(votes(20, 20)).least(0, 0, 0));
        due("one ahead", 0, made(votes(20, 19)).least(0, 0, 0));
        due("one behind", 1, made(votes(19, 20)).least(0, 0, 0));
        due("two behind", 2, made(votes(19, 21)).least(0, 0, 0));
        due("two behind with a card for nobody", 2, made(votes(18, 20, 0, 0, 1)).least(0, 0, 0));
        for (int one = 0; one < 4; one++) {
            int[] many = new int[4];
            many[one] = 40;
            for (int other = 0; other < 4; other++) due("all 40", other == one ? 0 : 21, made(votes(many)).least(0, other, 0));
        }
        due("39", 20, made(votes(39)).least(0, 3, 0));
        due("all 40 for nobody", 1, made(votes(0, 0, 0, 0, 40)).least(0, 2, 0));
        due("three each for two", 3, made(votes(3, 3, 0, 0)).least(0, 2, 0));
        due("ten each for four", 1, made(votes(10, 10, 10, 10)).least(0, 3, 0));
        due("13 each for three", 11, made(votes(13, 13, 13, 0)).least(0, 3, 0));
    }

    @Says(promise = 19, value = "than they do by hands in an HOUR")
    static void promise19_byHandsInTheHour() {
        Play setUp = both(forced("v5,4,7;m2,0;"), cards(0, "4000 0000 0000", 0, "0500 0000 0000"));
        due("ahead of it", 0, made(setUp).least(0, 1, 6));
        due("in it", 1, made(setUp).least(0, 1, 7));
    }

    // meant

    @Says(promise = 20, value = {"MEANT: as bits (what = 0), SURE: who (1; NONE).", "BAD."})
    static void promise20_cardRaceAndWhat() {
        edges("card", (x, v) -> x.meant(v, 0, 0)).from(0, 1).to(5, 4);
        edges("race", (x, v) -> x.meant(0, v, 0)).from(0, 1).to(2, 4);
        edges("what", (x, v) -> x.meant(0, 0, v)).from(0, 1).to(1, 0);
        edges("40 cards", (x, v) -> x.meant(v, 2, 0)).on(cards(40, 0, "5")).from(0, 8).to(39, 8);
        refused("no card yet", BAD, Boundary::nothing, x -> x.meant(0, 0, 0));
        refused("BAD is ahead of NONE", BAD, cards(0, "0"), x -> x.meant(0, 0, 2));
    }

    private static void meant(String holes, int race, int bits, int sure) {
        HangingCards x = made(cards(0, holes));
        due(holes + " in race " + race, bits, x.meant(0, race, 0));
        due(holes + " in race " + race + " sure", sure, x.meant(0, race, 1));
    }

    @Says(promise = 20, value = "MEANT in a RACE by a CARD: those whose HOLES are gone, if there are;")
    static void promise20_gone() {
        meant("5444 0000 0000", 0, 1, 0);
        meant("4444 0000 0000", 0, 15, NONE);
        meant("5544 0000 0000", 0, 3, NONE);
        meant("5555 0000 0000", 0, 15, NONE);
        meant("0005 5000 5000", 0, 8, 3);
    }

    @Says(promise = 20, value = "else those whose HOLES are not whole;")
    static void promise20_notWhole() {
        meant("0001 5000 5000", 0, 8, 3);
        meant("0011 5000 5000", 0, 12, NONE);
        meant("1111 5000 5000", 0, 15, NONE);
        meant("0000 5000 5000", 0, 1, 0);
    }

    @Says(promise = 20, value = "if none is so, that one whose HOLE of the same number is gone alone in both other RACES (all others whole there).")
    static void promise20_inBothOtherRaces() {
        for (int hole = 0; hole < 4; hole++) {
            String gone = "0000".substring(0, hole) + "5" + "0000".substring(hole + 1);
            String hangs = gone.replace('5', '4');
            String dimpled = gone.equals("5000") ? "5001" : "1" + gone.substring(1);
            String twice = gone.equals("5000") ? "5005" : "5" + gone.substring(1);
            String next = gone.equals("5000") ? "0500" : "5000";
            meant("0000" + gone + gone, 0, 1 << hole, hole);
            meant(gone + "0000" + gone, 1, 1 << hole, hole);
            meant(gone + gone + "0000", 2, 1 << hole, hole);
            String[] others = {hangs, dimpled, twice, next, "0000"};
            for (String other : others) {
                meant("0000" + gone + other, 0, 0, NONE);
                meant("0000" + other + gone, 0, 0, NONE);
                meant(gone + "0000" + other, 1, 0, NONE);
                meant(other + gone + "0000", 2, 0, NONE);
            }
            meant("0000" + twice + twice, 0, 0, NONE);
        }
    }

    @Says(promise = 20, value = "SURE: it is just one.")
    static void promise20_sure() {
        meant("0000 0000 0000", 0, 0, NONE);
        meant("0000 0300 0000", 1, 2, 1);
        meant("0000 0301 0000", 1, 10, NONE);
        unchanged("none", NONE, cards(0, "0"), x -> x.meant(0, 0, 1));
        unchanged("nobody", 0, cards(0, "0"), x -> x.meant(0, 0, 0));
    }

    // otherwise

    @Says(promise = 21, value = {"OTHERWISE: how many.", "BAD."})
    static void promise21_countyRaceAndHours() {
        edges("county", (x, v) -> x.otherwise(v, 0, 11, 12)).from(0, 0).to(5, 3);
        edges("race", (x, v) -> x.otherwise(5, v, 11, 12)).from(0, 3).to(2, 0);
        edges("g", (x, v) -> x.otherwise(5, 0, v, 12)).from(0, 3).to(999, 0);
        edges("h", (x, v) -> x.otherwise(5, 0, 12, v)).from(0, 3).to(999, 0);
    }

    @Says(promise = 21, value = "OTHERWISE between HOURS g and h: CARDS of a COUNTY (5: of all) that count for another one (or for nobody) in a RACE by hands in HOUR h than in HOUR g.")
    static void promise21_noCardAndAllCards() {
        due("no card", 0, new HangingCards().otherwise(5, 0, 0, 999));
        Play rule = forced("v5,4,7;");
        due("none", 0, made(rule, cards(40, 2, "3000 0000 0000")).otherwise(5, 0, 6, 7));
        due("one", 1, made(rule, cards(39, 2, "3000 0000 0000"), cards(2, "4000 0000 0000")).otherwise(5, 0, 6, 7));
        due("all 40", 40, made(rule, cards(40, 2, "4000 0000 0000")).otherwise(5, 0, 6, 7));
        due("of their county", 40, made(rule, cards(40, 2, "4000 0000 0000")).otherwise(2, 0, 6, 7));
        due("of the next", 0, made(rule, cards(40, 2, "4000 0000 0000")).otherwise(3, 0, 6, 7));
        due("the same hour", 0, made(rule, cards(40, 2, "4000 0000 0000")).otherwise(5, 0, 7, 7));
        due("h ahead of g", 40, made(rule, cards(40, 2, "4000 0000 0000")).otherwise(5, 0, 7, 6));
        due("both ahead", 0, made(rule, cards(40, 2, "4000 0000 0000")).otherwise(5, 0, 5, 6));
        due("both behind", 0, made(rule, cards(40, 2, "4000 0000 0000")).otherwise(5, 0, 7, 8));
    }

    @Says(promise = 21, value = "that count for another one (or for nobody)")
    static void promise21_forAnotherOneOrForNobody() {
        Play rules = forced("v5,1,1;v5,5,2;d5,1,2;v5,4,3;d5,0,3;");
        HangingCards x = made(rules, cards(0, "4000 0000 0000", 0, "5100 0000 0000", 0, "1400 0000 0000", 0, "0050 0000 0000"));
        due("from nobody to one, from one to nobody", 2, x.otherwise(0, 0, 0, 1));
        due("from one to another one, too", 3, x.otherwise(0, 0, 2, 3));
        due("the one", 0, x.vote(2, 0, 2, false));
        due("another one then", 1, x.vote(2, 0, 3, false));
    }
}
