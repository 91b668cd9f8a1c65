/** The boundaries of promises 1 to 5: a new object, card, hole, handle, run. */
public final class CardsBoundaryTest extends Boundary {
    private static final long END = 2176782336L;

    public static void main(String[] args) {
        run(CardsBoundaryTest.class);
    }

    // A new object

    @Says(promise = 1, value = {"As told;", "(empty at first)"})
    static void promise01_nothingAtFirst() {
        for (int what = 0; what <= 6; what++) due("count " + what, 0, new HangingCards().count(what));
        due("hole", BAD, new HangingCards().hole(0, 0, 0));
        due("back", NO, new HangingCards().back());
        due("like", BAD, new HangingCards().like(0, 0));
        due("struck", BAD, new HangingCards().struck(0, 0));
        due("a machine reads", 0, new HangingCards().counted(5, 0, 0, 0, true));
        due("no winner", NONE, new HangingCards().winner(0, 0, false));
        due("nothing to do", 0, new HangingCards().left(0, 0, 1));
    }

    @Says(promise = 1, value = "As told;")
    static void promise01_theFirstOfEach() {
        due("card", 0, new HangingCards().card(0, 0));
        due("listed", 0, new HangingCards().listed(0, 0));
        due("voter", 0, new HangingCards().voter(0, 0, 0));
        due("keep", 1, new HangingCards().keep());
        due("write", 1, new HangingCards().write(1, 0));
    }

    @Says(promise = 1, value = "an empty TEXT is IN FORCE;")
    static void promise01_anEmptyTextIsInForce() {
        int[] without = {5, 0, 4, 1};
        for (int county = 0; county < 5; county++) {
            for (int what = 0; what < 4; what++) {
                for (int hour = 0; hour < 1000; hour += 999) {
                    due("rule", without[what], new HangingCards().rule(what, county, hour));
                    due("why", NONE, new HangingCards().why(what, county, hour));
                }
            }
        }
        due("items", 0, new HangingCards().count(3));
        due("clash", NONE, new HangingCards().clash());
        due("force", 0, new HangingCards().force());
    }

    @Says(promise = 1, value = "THE TEXT is empty.")
    static void promise01_theTextIsEmpty() {
        due("bytes", 0, new HangingCards().count(2));
        due("wipe", 0, new HangingCards().wipe());
        due("fault", NONE, new HangingCards().fault());
        HangingCards x = made(written("m"));
        due("the first byte in it", 1, x.count(2));
        due("is faulty", 0, x.fault());
    }

    @Says(promise = 1, value = "As told;")
    static void promise01_objectsShareNothing() {
        HangingCards before = new HangingCards();
        HangingCards full = made(State::full);
        HangingCards behind = new HangingCards();
        for (int what = 0; what <= 6; what++) {
            due("count " + what + " ahead", 0, before.count(what));
            due("count " + what + " behind", 0, behind.count(what));
        }
        due("rule", 4, behind.rule(2, 0, 0));
        due("likeness", 80, before.likeness(1));
        due("likeness", 80, behind.likeness(1));
        due("the full one stays", 40, full.count(0));
    }

    @Says(promise = 1, value = "An object is used for at most 512 calls after it has been made; what later calls answer is free.")
    static void promise01_512Calls() {
        HangingCards x = new HangingCards();
        for (int call = 1; call <= 40; call++) due("call " + call, call - 1, x.card(0, 5));
        for (int call = 41; call <= 511; call++) due("call " + call, 0, x.table(0, 1000, 20, 999, call % 5));
        due("call 512", 40, x.run(0, 2, 0));
        HangingCards y = new HangingCards();
        int[] kept = {1, 2, FULL, 1, 0, NO};
        for (int call = 1; call <= 512; call++) {
            int turn = (call - 1) % 6;
            due("call " + call, kept[turn], turn < 3 ? y.keep() : y.back());
        }
    }

    // card

    @Says(promise = 2, value = {"CARDS 0 to 39 as they come", "A CARD: its number.", "FULL: 40."})
    static void promise02_cards0To39() {
        HangingCards x = new HangingCards();
        for (int card = 0; card < 40; card++) {
            due("how many", card, x.count(0));
            due("card", card, x.card(card % 5, card));
        }
        due("how many", 40, x.count(0));
        due("the 41st", FULL, x.card(0, 0));
        due("the 39th", 38, made(cards(38, 4, "0")).card(4, 0));
        due("the 40th", 39, made(cards(39, 4, "0")).card(4, END - 1));
        refused("the 41st", FULL, cards(40, 4, "0"), y -> y.card(4, 0));
        refused("the 41st", FULL, State::full, y -> y.card(0, END - 1));
    }

    @Says(promise = 2, value = "FULL: 40.")
    static void promise02_roomAgainBehindBack() {
        HangingCards x = made(cards(39, 0, "0"));
        x.keep();
        due("the 40th", 39, x.card(1, 1));
        due("the 41st", FULL, x.card(2, 2));
        due("back", 0, x.back());
        due("the 40th again", 39, x.card(3, 3));
        due("as told then", 3, x.hole(39, 2, 3));
        due("the 41st again", FULL, x.card(2, 2));
    }

    @Says(promise = 2, value = "BAD (holes 0 to 6 to the 12 less 1);")
    static void promise02_holes0To6ToThe12Less1() {
        HangingCards x = new HangingCards();
        due("0", 0, x.card(0, 0));
        due("all are whole", 0, x.count(1));
        due("6 to the 12 less 1", 1, x.card(0, END - 1));
        due("none is whole", 12, x.count(1));
        for (int place = 0; place < 12; place++) due("gone", 5, x.hole(1, place / 4, place % 4));
        long[] wrong = {-1, END, -END, 1 - END, 2 * END, 1L << 32, -1L << 32, 1L << 62, Long.MIN_VALUE, Long.MAX_VALUE};
        for (long holes : wrong) refused("holes " + holes, BAD, State::rich, y -> y.card(0, holes));
    }

    @Says(promise = 2, value = "BAD (holes 0 to 6 to the 12 less 1);")
    static void promise02_holesBeyondAnInt() {
        long[] good = {Integer.MAX_VALUE, 1L << 31, (1L << 31) + 1, END - 2};
        for (long holes : good) {
            HangingCards x = new HangingCards();
            due("card of " + holes, 0, x.card(0, holes));
            String figures = Long.toString(holes, 6);
            for (int place = 0; place < 12; place++) {
                due("hole " + place + " of " + holes, figures.charAt(place) - '0', x.hole(0, place / 4, place % 4));
            }
        }
    }

    @Says(promise = 2, value = "(told as 12 figures to the base 6, RACE 0, HOLE 0 the highest)")
    static void promise02_theHighestAndTheLowestFigure() {
        long figure = 1;
        for (int place = 11; place >= 0; place--, figure *= 6) {
            HangingCards x = new HangingCards();
            x.card(0, figure - 1);
            x.card(0, figure);
            x.card(0, 5 * figure);
            x.card(0, 6 * figure - 1);
            due("one less leaves it whole", 0, x.hole(0, place / 4, place % 4));
            due("dimpled", 1, x.hole(1, place / 4, place % 4));
            due("gone", 5, x.hole(2, place / 4, place % 4));
            due("with all below it", 5, x.hole(3, place / 4, place % 4));
            due("how many are not whole", 11 - place + 1 + 1 + 12 - place, x.count(1));
        }
    }

    @Says(promise = 2, value = {"COUNTIES are 0 to 4", "a COUNTY, and HOLES"})
    static void promise02_county0To4() {
        edges("county", (x, v) -> x.card(v, 0)).from(0, 6).to(4, 6);
        for (int county = 0; county < 5; county++) {
            HangingCards x = made(cards(county, "5000 0000 0000"));
            for (int other = 0; other < 5; other++) due("county", other == county ? 1 : 0, x.counted(other, 0, 0, 0, false));
        }
    }

    @Says(promise = 2, value = "Of several the first in this order, whatever the order at a call; nothing changes then.")
    static void promise02_badAheadOfFull() {
        refused("county -1", BAD, State::full, x -> x.card(-1, 0));
        refused("county 5", BAD, State::full, x -> x.card(5, 0));
        refused("holes -1", BAD, State::full, x -> x.card(0, -1));
        refused("holes 6 to the 12", BAD, State::full, x -> x.card(4, END));
    }

    // hole

    @Says(promise = 3, value = {"A HOLE of a CARD.", "BAD.", "there is no such thing"})
    static void promise03_card() {
        refused("no card yet", BAD, Boundary::nothing, x -> x.hole(0, 0, 0));
        edges("one card", (x, v) -> x.hole(v, 0, 0)).on(cards(0, "5")).from(0, 0).to(0, 0);
        edges("six cards", (x, v) -> x.hole(v, 2, 2)).from(0, 1).to(5, 0);
        edges("40 cards", (x, v) -> x.hole(v, 2, 3)).on(cards(40, 0, "5")).from(0, 5).to(39, 5);
        edges("cards told since go", (x, v) -> x.hole(v, 0, 0)).on(both(State::rich, HangingCards::back)).from(0, 5).to(4, 4);
    }

    @Says(promise = 3, value = {"RACES 0 to 2 with 4 each", "BAD."})
    static void promise03_raceAndHole() {
        edges("race", (x, v) -> x.hole(0, v, 2)).from(0, 0).to(2, 1);
        edges("hole", (x, v) -> x.hole(2, 2, v)).from(0, 0).to(3, 5);
        edges("hole of race 1", (x, v) -> x.hole(3, 1, v)).from(0, 0).to(3, 0);
    }

    @Says(promise = 3, value = "a HOLE is 0 whole, 1 dimpled, 2, 3, 4 hanging by three, two, one corners, 5 gone")
    static void promise03_states0To5() {
        HangingCards x = made(cards(0, "0123 4554 3210"));
        String figures = "012345543210";
        for (int place = 0; place < 12; place++) due("hole " + place, figures.charAt(place) - '0', x.hole(0, place / 4, place % 4));
    }

    // handle

    @Says(promise = 4, value = "HANDLED with a strength 1 to 4 is a CARD:")
    static void promise04_strength1To4() {
        edges("strength", (x, v) -> x.handle(5, v)).from(1, 0).to(4, 2);
        edges("strength on 40 cards", (x, v) -> x.handle(39, v)).on(cards(40, 0, "444444444441")).from(1, 11).to(4, 12);
    }

    @Says(promise = 4, value = "each HOLE that is 5 less the strength or more, but not gone, 1 at least, opens by 1.")
    static void promise04_whichHolesOpen() {
        for (int strength = 1; strength <= 4; strength++) {
            for (int state = 0; state <= 5; state++) {
                boolean opens = state >= 5 - strength && state != 5 && state >= 1;
                for (int place = 0; place < 12; place++) {
                    HangingCards x = new HangingCards();
                    long holes = state;
                    for (int behind = place; behind < 11; behind++) holes *= 6;
                    x.card(0, holes);
                    due(state + " by " + strength, opens ? 1 : 0, x.handle(0, strength));
                    due(state + " then", opens ? state + 1 : state, x.hole(0, place / 4, place % 4));
                    due("all others stay whole", state > 0 ? 1 : 0, x.count(1));
                }
            }
        }
    }

    @Says(promise = 4, value = "but not gone, 1 at least, opens by 1.")
    static void promise04_fromDimpledToGone() {
        HangingCards x = made(cards(0, "111111111111", 0, "0"));
        for (int state = 1; state < 5; state++) {
            due("all are", state, x.hole(0, 2, 3));
            due("all open", 12, x.handle(0, 4));
        }
        due("all are gone", 5, x.hole(0, 0, 0));
        due("none opens", 0, x.handle(0, 4));
        due("gone for good", 5, x.hole(0, 0, 0));
        due("a whole card", 0, x.handle(1, 4));
        due("stays", 0, x.hole(1, 0, 0));
    }

    @Says(promise = 4, value = {"HANDLED: how many HOLES opened.", "BAD."})
    static void promise04_howManyOpened() {
        due("none", 0, made(cards(0, "555500003333")).handle(0, 1));
        due("one", 1, made(cards(0, "555500003334")).handle(0, 1));
        due("eleven", 11, made(cards(0, "444444444443")).handle(0, 1));
        due("all", 12, made(cards(0, "444444444444")).handle(0, 1));
    }

    @Says(promise = 4, value = "BAD.")
    static void promise04_card() {
        refused("no card yet", BAD, Boundary::nothing, x -> x.handle(0, 1));
        edges("six cards", (x, v) -> x.handle(v, 1)).from(0, 1).to(5, 0);
        edges("40 cards", (x, v) -> x.handle(v, 2)).on(cards(40, 3, "3")).from(0, 1).to(39, 1);
        HangingCards x = made(cards(0, "4", 0, "4", 0, "4"));
        x.handle(1, 1);
        due("the card ahead", 4, x.hole(0, 2, 3));
        due("the card", 5, x.hole(1, 2, 3));
        due("the card behind", 4, x.hole(2, 2, 3));
    }

    // run

    @Says(promise = 5, value = "A RUN of a COUNTY in an HOUR: how many CARDS count for one in a RACE, as read.")
    static void promise05_countyRaceAndHour() {
        edges("county", (x, v) -> x.run(v, 0, 0)).from(0, 1).to(4, 1);
        edges("race", (x, v) -> x.run(2, v, 0)).from(0, 1).to(2, 1);
        edges("hour", (x, v) -> x.run(3, 0, v)).from(0, 0).to(999, 1);
    }

    @Says(promise = 5, value = {"HOURS 0 to 999", "BAD."})
    static void promise05_severalBad() {
        refused("all", BAD, State::rich, x -> x.run(5, 3, 1000));
        refused("all", BAD, State::full, x -> x.run(-1, -1, -1));
        refused("county 5 is not all here", BAD, State::full, x -> x.run(5, 0, 0));
    }

    @Says(promise = 5, value = "A RUN of a COUNTY's CARDS through a machine: what it reads first, then each is HANDLED with strength 1.")
    static void promise05_readsAheadOfHandling() {
        HangingCards x = made(forced("m5,0;"), cards(1, "4000 0000 0000"));
        due("not read yet", 0, x.run(1, 0, 0));
        due("but handled", 5, x.hole(0, 0, 0));
        due("read now", 1, x.run(1, 0, 0));
        due("still gone", 5, x.hole(0, 0, 0));
    }

    @Says(promise = 5, value = "then each is HANDLED with strength 1.")
    static void promise05_strength1() {
        HangingCards x = made(cards(1, "4321 0543 2104", 1, "0000 0000 0004", 2, "4"));
        due("race 0", 1, x.run(1, 0, 0));
        String[] then = {"532105532105", "000000000005", "000000000004"};
        for (int card = 0; card < 3; card++) {
            for (int place = 0; place < 12; place++) {
                due("card " + card, then[card].charAt(place) - '0', x.hole(card, place / 4, place % 4));
            }
        }
    }

    @Says(promise = 5, value = "how many CARDS count for one in a RACE, as read.")
    static void promise05_noCardAndAllCards() {
        due("no card at all", 0, new HangingCards().run(0, 0, 0));
        due("none of the county", 0, made(cards(1, 2, "5000 0000 0000")).run(1, 0, 0));
        due("one", 1, made(cards(1, 2, "5000 0000 0000")).run(2, 0, 0));
        due("40", 40, made(cards(40, 2, "0005 0000 0000")).run(2, 0, 0));
        due("40 that show nothing", 0, made(cards(40, 2, "0003 0000 0000")).run(2, 0, 0));
        due("40 that show two", 0, made(cards(40, 2, "0045 0000 0000")).run(2, 0, 0));
    }

    @Says(promise = 5, value = {"mN,h     a machine reads a HOLE that is N", "A RUN of a COUNTY in an HOUR"})
    static void promise05_byTheMachineOfTheHour() {
        Play twoRules = both(forced("m2,7;"), cards(0, "0200 0000 0000"));
        due("ahead of the hour", 0, made(twoRules).run(0, 0, 6));
        due("in the hour", 1, made(twoRules).run(0, 0, 7));
    }
}
