/** The boundaries of promises 22 to 27: listed, voter, likeness, like, struck, strikes. */
public final class ListsBoundaryTest extends Boundary {
    public static void main(String[] args) {
        run(ListsBoundaryTest.class);
    }

    private static Play listed(String name, int day) {
        return x -> x.listed(n(name), day);
    }

    private static Play voter(String name, int day) {
        return x -> x.voter(n(name), day, 0);
    }

    private static Play likeness(int to) {
        return x -> x.likeness(to);
    }

    /** How one voter is struck by one listed one: as whom, and how. */
    private static void struck(String voter, int day, String listed, int of, int want) {
        HangingCards x = made(voter(voter, day), listed(listed, of));
        String what = voter + " " + day + " by " + listed + " " + of;
        due(what, want == NONE ? NONE : 0, x.struck(0, 0));
        due("how " + what, want, x.struck(0, 1));
    }

    private static void goodName(long name) {
        due("listed " + Long.toHexString(name), 0, new HangingCards().listed(name, 0));
        due("voter " + Long.toHexString(name), 0, new HangingCards().voter(name, 0, 0));
    }

    private static void badName(long name) {
        refused("listed " + Long.toHexString(name), BAD, State::rich, x -> x.listed(name, 0));
        refused("voter " + Long.toHexString(name), BAD, State::rich, x -> x.voter(name, 0, 0));
    }

    // listed

    @Says(promise = 22, value = {"LISTED 0 to 7", "as they come", "A LISTED one: its number.", "FULL: 8."})
    static void promise22_listed0To7() {
        HangingCards x = new HangingCards();
        for (int one = 0; one < 8; one++) {
            due("how many", one, x.count(4));
            due("listed", one, x.listed(n("abc"), one));
        }
        due("how many", 8, x.count(4));
        due("the ninth", FULL, x.listed(n("abc"), 8));
        due("voters are others", 0, x.voter(n("abc"), 8, 0));
        refused("the ninth", FULL, State::full, y -> y.listed(n("zz"), -1));
    }

    @Says(promise = 22, value = {"BAD;", "a DAY of birth (0 to 36500, or -1: not told)"})
    static void promise22_dayFromMinus1To36500() {
        edges("day", (x, v) -> x.listed(n("q"), v)).from(-1, 2).to(36500, 2);
        due("day 0", 2, made(State::rich).listed(n("q"), 0));
        due("day 36499", 2, made(State::rich).listed(n("q"), 36499));
    }

    @Says(promise = 22, value = "a NAME (8 bytes, letters a to z, then 0s)")
    static void promise22_lettersAToZ() {
        for (int place = 0; place < 8; place++) {
            long ahead = n("mmmmmmmm".substring(0, place));
            int shift = 8 * (7 - place);
            goodName(ahead);
            goodName(ahead | (long) 'a' << shift);
            goodName(ahead | (long) 'z' << shift);
            for (int sign : new int[] {1, 'A', 'Z', '`', '{', 'a' + 128, 255, ' ', '0'}) badName(ahead | (long) sign << shift);
        }
        goodName(n("zzzzzzzz"));
        goodName(n("aaaaaaaa"));
    }

    @Says(promise = 22, value = "letters a to z, then 0s")
    static void promise22_thenZeros() {
        for (int place = 0; place < 7; place++) {
            long name = n("abcdefgh") & ~(255L << 8 * (7 - place));
            badName(name);
            badName((long) 'a' << 8 * (6 - place));
        }
        goodName(0);
        goodName(n("abcdefg"));
        badName(Long.MIN_VALUE);
        badName(Long.MAX_VALUE);
        badName(-1);
        badName(1);
    }

    @Says(promise = 22, value = "Of several the first in this order, whatever the order at a call; nothing changes then.")
    static void promise22_badAheadOfFull() {
        refused("name", BAD, State::full, x -> x.listed(1, 0));
        refused("day -2", BAD, State::full, x -> x.listed(0, -2));
        refused("day 36501", BAD, State::full, x -> x.listed(0, 36501));
    }

    // voter

    @Says(promise = 23, value = {"VOTERS 0 to 11 as they come", "A VOTER: its number.", "FULL: 12."})
    static void promise23_voters0To11() {
        HangingCards x = new HangingCards();
        for (int voter = 0; voter < 12; voter++) {
            due("how many", voter, x.count(5));
            due("voter", voter, x.voter(n("abc"), voter, voter % 5));
        }
        due("how many", 12, x.count(5));
        due("the 13th", FULL, x.voter(n("abc"), 12, 0));
        due("listed ones are others", 0, x.listed(n("abc"), 12));
        refused("the 13th", FULL, State::full, y -> y.voter(n("zz"), -1, 4));
    }

    @Says(promise = 23, value = {"BAD;", "a DAY of birth (0 to 36500, or -1: not told), a COUNTY (VOTERS)."})
    static void promise23_dayAndCounty() {
        edges("day", (x, v) -> x.voter(n("q"), v, 0)).from(-1, 3).to(36500, 3);
        edges("county", (x, v) -> x.voter(n("q"), 0, v)).from(0, 3).to(4, 3);
        due("day 0", 3, made(State::rich).voter(n("q"), 0, 0));
    }

    @Says(promise = 23, value = "Of several the first in this order, whatever the order at a call; nothing changes then.")
    static void promise23_badAheadOfFull() {
        refused("name", BAD, State::full, x -> x.voter(-1, 0, 0));
        refused("day -2", BAD, State::full, x -> x.voter(0, -2, 0));
        refused("day 36501", BAD, State::full, x -> x.voter(0, 36501, 0));
        refused("county -1", BAD, State::full, x -> x.voter(0, 0, -1));
        refused("county 5", BAD, State::full, x -> x.voter(0, 0, 5));
    }

    // likeness

    @Says(promise = 24, value = {"x or more (1 to 100; 80 at first)", "x: what it was.", "BAD."})
    static void promise24_1To100() {
        edges("x", (x, v) -> x.likeness(v)).from(1, 60).to(100, 60);
        edges("x at first", (x, v) -> x.likeness(v)).on(Boundary::nothing).from(1, 80).to(100, 80);
        HangingCards x = new HangingCards();
        due("at first", 80, x.likeness(1));
        due("then", 1, x.likeness(100));
        due("0", BAD, x.likeness(0));
        due("101", BAD, x.likeness(101));
        due("a refused one is not it", 100, x.likeness(100));
        due("the same again", 100, x.likeness(80));
    }

    // like

    @Says(promise = 25, value = {"LIKENESS of a VOTER and a LISTED one.", "BAD."})
    static void promise25_voterAndListed() {
        edges("voter", (x, v) -> x.like(v, 0)).from(0, 100).to(2, 0);
        edges("listed", (x, v) -> x.like(0, v)).from(0, 100).to(1, 80);
        edges("the 12th voter", (x, v) -> x.like(v, 3)).on(State::full).from(0, 0).to(11, 100);
        edges("the eighth listed one", (x, v) -> x.like(7, v)).on(State::full).from(0, 0).to(7, 100);
        refused("none yet", BAD, Boundary::nothing, x -> x.like(0, 0));
        refused("no listed one yet", BAD, voter("a", 0), x -> x.like(0, 0));
        refused("no voter yet", BAD, listed("a", 0), x -> x.like(0, 0));
        due("the first of both", 100, made(voter("a", 0), listed("a", 0)).like(0, 0));
    }

    private static String signs(int length, int step) {
        StringBuilder name = new StringBuilder();
        for (int place = 0; place < length; place++) name.append((char) ('a' + step * (place + 1) % 3));
        return name.toString();
    }

    @Says(promise = 25, value = {"LISTED 0 to 7, VOTERS 0 to 11", "places with the same letter, by hundred of the longer one's length, cut."})
    static void promise25_eachVoterAndEachListedOne() {
        String[] voters = new String[12];
        String[] listed = new String[8];
        for (int voter = 0; voter < 12; voter++) voters[voter] = signs(1 + voter % 8, voter);
        for (int one = 0; one < 8; one++) listed[one] = signs(8 - one % 3, 7 - one);
        HangingCards x = new HangingCards();
        for (int turn = 0; turn < 12; turn++) {
            x.voter(n(voters[turn]), 0, 0);
            if (turn < 8) x.listed(n(listed[turn]), 0);
        }
        for (int voter = 0; voter < 12; voter++) {
            for (int one = 0; one < 8; one++) {
                int same = 0;
                int shorter = Math.min(voters[voter].length(), listed[one].length());
                for (int place = 0; place < shorter; place++) {
                    if (voters[voter].charAt(place) == listed[one].charAt(place)) same++;
                }
                int longer = Math.max(voters[voter].length(), listed[one].length());
                due("voter " + voter + ", listed " + one, 100 * same / longer, x.like(voter, one));
            }
        }
    }

    private static void like(String one, String other, int want) {
        due(one + " and " + other, want, made(voter(one, 0), listed(other, 1)).like(0, 0));
        due(other + " and " + one, want, made(listed(one, 0), voter(other, 1)).like(0, 0));
    }

    @Says(promise = 25, value = "LIKENESS of two NAMES: places with the same letter, by hundred of the longer one's length, cut.")
    static void promise25_cut() {
        String eight = "abcdefgh";
        int[] ofEight = {0, 12, 25, 37, 50, 62, 75, 87, 100};
        for (int same = 0; same <= 8; same++) like(eight, eight.substring(0, same) + "zzzzzzzz".substring(same), ofEight[same]);
        like("abc", "azz", 33);
        like("abc", "abz", 66);
        like("abcdef", "abcdez", 83);
        like("abcdefg", "abcdefz", 85);
        like("abcdefg", "azzzzzz", 14);
        like("a", "a", 100);
        like("a", "b", 0);
    }

    @Says(promise = 25, value = "places with the same letter, by hundred of the longer one's length")
    static void promise25_theLongerOne() {
        like("abcdefgh", "a", 12);
        like("abcdefgh", "abcdefg", 87);
        like("abcd", "ab", 50);
        like("abcd", "bcda", 0);
        like("abcd", "cbad", 50);
        like("bcdefgh", "abcdefgh", 0);
        like("h", "abcdefgh", 0);
    }

    @Says(promise = 25, value = "(0, if one NAME is empty.)")
    static void promise25_anEmptyName() {
        like("", "", 0);
        like("", "a", 0);
        like("", "abcdefgh", 0);
        like("a", "ab", 50);
    }

    // struck

    @Says(promise = 26, value = {"As whom a VOTER is STRUCK (what = 0; NONE: it is not), 1: 2 RIGHTLY, 1 MAY BE, 0 as somebody else (NONE likewise).", "BAD."})
    static void promise26_voterAndWhat() {
        edges("voter", (x, v) -> x.struck(v, 0)).from(0, 0).to(2, NONE);
        edges("voter, how", (x, v) -> x.struck(v, 1)).from(0, 2).to(2, NONE);
        edges("what", (x, v) -> x.struck(0, v)).from(0, 0).to(1, 2);
        edges("the 12th voter", (x, v) -> x.struck(v, 1)).on(both(State::full, likeness(100))).from(0, 1).to(11, NONE);
        refused("no voter yet", BAD, Boundary::nothing, x -> x.struck(0, 0));
        refused("BAD is ahead of NONE", BAD, voter("a", 0), x -> x.struck(0, 2));
        refused("nobody is listed", NONE, voter("a", 0), x -> x.struck(0, 0));
        refused("nobody is listed", NONE, voter("a", 0), x -> x.struck(0, 1));
    }

    @Says(promise = 26, value = "STRUCK is a VOTER, if some LISTED one is LIKE by x or more (1 to 100; 80 at first)")
    static void promise26_likeByXOrMore() {
        struck("abcde", 5, "abcdz", 5, 0);
        struck("abcd", 5, "abcz", 5, NONE);
        String[] names = {"abcdefgz", "azzzzzzz", "abcdefgh", "abcdzzzz"};
        int[] likes = {87, 12, 100, 50};
        for (int i = 0; i < names.length; i++) {
            Play both = both(voter("abcdefgh", 5), listed(names[i], 5));
            due("just as LIKE", 0, made(both, likeness(likes[i])).struck(0, 0));
            if (likes[i] == 100) continue;
            refused("one more", NONE, both(both, likeness(likes[i] + 1)), x -> x.struck(0, 0));
            refused("one more, how", NONE, both(both, likeness(likes[i] + 1)), x -> x.struck(0, 1));
        }
        Play unlike = both(both(voter("abc", 5), listed("xyz", 5)), likeness(1));
        refused("not LIKE at all, by 1", NONE, unlike, x -> x.struck(0, 0));
        Play empty = both(both(voter("", 5), listed("", 5)), likeness(1));
        refused("empty names are not LIKE", NONE, empty, x -> x.struck(0, 1));
        HangingCards x = made(voter("abcde", 5), listed("abcdz", 5));
        x.likeness(81);
        due("by 81", NONE, x.struck(0, 0));
        x.likeness(80);
        due("by 80 again", 0, x.struck(0, 0));
    }

    @Says(promise = 26, value = {"and DAYS are not told unlike:", "(0 to 36500, or -1: not told)"})
    static void promise26_daysToldUnlike() {
        struck("abcde", 0, "abcde", 0, 2);
        struck("abcde", 0, "abcde", 1, NONE);
        struck("abcde", 36500, "abcde", 36500, 2);
        struck("abcde", 36500, "abcde", 36499, NONE);
        struck("abcde", 0, "abcde", 36500, NONE);
        struck("abcde", -1, "abcde", 0, 1);
        struck("abcde", 0, "abcde", -1, 1);
        struck("abcde", -1, "abcde", -1, 1);
        Play unlike = both(both(voter("abcde", 5), listed("abcde", 6)), likeness(1));
        refused("told unlike, by 1", NONE, unlike, x -> x.struck(0, 0));
        due("nor PAIRED", 0, made(unlike).strikes(5, 2));
    }

    @Says(promise = 26, value = "RIGHTLY: NAME and DAY of both are alike (DAYS told); MAY BE: else, if one of both DAYS is not told.")
    static void promise26_rightlyMayBeOrAsSomebodyElse() {
        struck("abcdefgh", 5, "abcdefgh", 5, 2);
        struck("abcdefgh", 5, "abcdefgz", 5, 0);
        struck("abcdefgh", 5, "abcdefg", 5, 0);
        struck("abcdefgh", -1, "abcdefgz", 5, 1);
        struck("abcdefgh", 5, "abcdefgz", -1, 1);
        struck("abcdefgh", -1, "abcdefgh", -1, 1);
        struck("a", 0, "a", 0, 2);
    }

    @Says(promise = 26, value = "as the one most LIKE (the lowest of several).")
    static void promise26_theMostLikeAndTheLowest() {
        Play voter = both(voter("abcdefgh", 5), likeness(50));
        due("the first of two", 0, made(voter, listed("abcdefgz", 5), listed("zbcdefgh", 5)).struck(0, 0));
        due("the second is more LIKE", 1, made(voter, listed("abcdefzz", 5), listed("zbcdefgh", 5)).struck(0, 0));
        due("the second is less LIKE", 0, made(voter, listed("abcdefgz", 5), listed("zbcdefgz", 5)).struck(0, 0));
        due("LIKE when cut", 0, made(both(voter("abcdefgh", -1), likeness(50)), listed("abcdefgz", 1), listed("abcdefgz", 2)).struck(0, 0));
        due("the most LIKE is told unlike", 0, made(voter, listed("abcdzzzz", 5), listed("abcdefgh", 6)).struck(0, 0));
        HangingCards all = made(voter);
        for (int one = 0; one < 7; one++) all.listed(n("abcdefzz"), 5);
        due("the first of seven", 0, all.struck(0, 0));
        all.listed(n("abcdefgz"), 5);
        due("the eighth", 7, all.struck(0, 0));
    }

    // strikes

    @Says(promise = 27, value = "How many VOTERS of a COUNTY (5: all) are STRUCK (what = 0), not RIGHTLY nor MAY BE (1); PAIRED of all (2; the COUNTY is not asked). BAD.")
    static void promise27_countyAndWhat() {
        edges("county", (x, v) -> x.strikes(v, 0)).from(0, 1).to(5, 2);
        edges("county, wrongly", (x, v) -> x.strikes(v, 1)).from(0, 0).to(5, 0);
        edges("what", (x, v) -> x.strikes(0, v)).from(0, 1).to(2, 2);
        refused("what 3 of a county that is none", BAD, State::full, x -> x.strikes(6, 3));
    }

    @Says(promise = 27, value = "(2; the COUNTY is not asked)")
    static void promise27_theCountyIsNotAsked() {
        int[] counties = {0, 4, 5, -1, 6, Integer.MIN_VALUE, Integer.MAX_VALUE};
        for (int county : counties) {
            unchanged("county " + county, 2, State::rich, x -> x.strikes(county, 2));
            due("in a new object", 0, new HangingCards().strikes(county, 2));
        }
    }

    @Says(promise = 27, value = "How many VOTERS of a COUNTY (5: all) are STRUCK (what = 0), not RIGHTLY nor MAY BE (1)")
    static void promise27_noVoterAndAllVoters() {
        for (int what = 0; what < 3; what++) due("nobody", 0, new HangingCards().strikes(5, what));
        Play twelve = x -> {
            for (int voter = 0; voter < 12; voter++) x.voter(n("abcde"), 5, voter % 4);
        };
        for (int what = 0; what < 3; what++) due("nobody is listed", 0, made(twelve).strikes(5, what));
        HangingCards rightly = made(twelve, listed("abcde", 5));
        due("all are struck", 12, rightly.strikes(5, 0));
        due("none wrongly", 0, rightly.strikes(5, 1));
        HangingCards mayBe = made(twelve, listed("abcdz", -1));
        due("all may be struck", 12, mayBe.strikes(5, 0));
        due("none wrongly", 0, mayBe.strikes(5, 1));
        HangingCards wrongly = made(twelve, listed("abcdz", 5));
        due("all are struck", 12, wrongly.strikes(5, 0));
        due("all wrongly", 12, wrongly.strikes(5, 1));
        for (int county = 0; county < 5; county++) {
            due("of a county", county < 4 ? 3 : 0, wrongly.strikes(county, 0));
            due("wrongly of a county", county < 4 ? 3 : 0, wrongly.strikes(county, 1));
        }
    }

    @Says(promise = 27, value = "PAIRED: as many STRUCK ones as can be, each with a LISTED one of its own by which it is STRUCK.")
    static void promise27_paired() {
        Play twelve = x -> {
            for (int voter = 0; voter < 12; voter++) x.voter(n("abcde"), 5, voter % 5);
        };
        HangingCards x = made(twelve);
        for (int one = 0; one < 8; one++) {
            due("as many as are listed", one, x.strikes(5, 2));
            x.listed(n("abcde"), 5);
        }
        due("eight of twelve", 8, x.strikes(5, 2));
        HangingCards few = new HangingCards();
        for (int one = 0; one < 8; one++) few.listed(n("abcde"), 5);
        for (int voter = 0; voter < 8; voter++) {
            due("as many as voters", voter, few.strikes(5, 2));
            few.voter(n("abcde"), 5, 0);
        }
        due("eight", 8, few.strikes(5, 2));
        for (int one = 0; one < 8; one++) justOneStrikes(one);
        few.voter(n("abcde"), 5, 0);
        due("no more", 8, few.strikes(5, 2));
    }

    /** Of eight just one strikes three, the last voter among them: one is PAIRED. */
    private static void justOneStrikes(int striker) {
        HangingCards x = new HangingCards();
        for (int one = 0; one < 8; one++) x.listed(n(one == striker ? "abcde" : "vwxyz"), 5);
        for (int voter = 0; voter < 9; voter++) x.voter(n("klmno"), 5, 0);
        due("nobody is struck", 0, x.strikes(5, 2));
        for (int voter = 9; voter < 11; voter++) x.voter(n("klmno"), 5, 0);
        x.voter(n("abcde"), 5, 0);
        due("the 12th is", 1, x.strikes(5, 2));
        HangingCards three = new HangingCards();
        for (int one = 0; one < 8; one++) three.listed(n(one == striker ? "abcde" : "vwxyz"), 5);
        for (int voter = 0; voter < 3; voter++) three.voter(n("abcde"), 5, 0);
        due("one of three", 1, three.strikes(5, 2));
    }

    @Says(promise = 27, value = "each with a LISTED one of its own by which it is STRUCK")
    static void promise27_whoMustMakeRoom() {
        HangingCards x = made(listed("abcde", -1), listed("abcdz", 7));
        x.voter(n("abcde"), 7, 0);
        due("one of two", 1, x.strikes(5, 2));
        x.voter(n("abcdy"), 8, 0);
        due("the first makes room", 2, x.strikes(5, 2));
        x.voter(n("abcdx"), 9, 0);
        due("nobody is left", 2, x.strikes(5, 2));
        x.listed(n("abcdq"), 7);
        due("not by a day told unlike", 2, x.strikes(5, 2));
        x.listed(n("abcdq"), 9);
        due("by one of its own", 3, x.strikes(5, 2));
        x.likeness(81);
        due("by 81", 1, x.strikes(5, 2));
    }
}
