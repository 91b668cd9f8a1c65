import java.util.ArrayList;
import java.util.List;

/** What calls can see of an object, part by part, in fewer than 300 calls each: some of them change it for good. */
final class State {
    static final String[] PARTS = {"cards 0 to 19", "cards 20 to 39", "counties", "texts", "lists", "hours", "what is kept"};

    private final HangingCards x;
    private final List<Integer> seen = new ArrayList<>();

    private State(HangingCards x) {
        this.x = x;
    }

    static List<Integer> seen(HangingCards x, int part) {
        State state = new State(x);
        switch (part) {
            case 0: state.cards(0, 20); break;
            case 1: state.cards(20, 40); break;
            case 2: state.counties(); break;
            case 3: state.texts(); break;
            case 4: state.lists(); break;
            case 5: state.hours(); break;
            default: state.kept(); break;
        }
        return state.seen;
    }

    /** A bit of everything, so that whatever changes can be seen. The numbers of its cards and names are told in the tests. */
    static void rich(HangingCards x) {
        String[] cards = {"5000 0400 0010", "0500 1111 5000", "0030 5000 0005", "0003 0050 2222", "4000 0005 0505"};
        for (int county = 0; county < 5; county++) x.card(county, Check.holes(cards[county]));
        x.keep();
        x.card(4, Check.holes("0020 0300 5000"));
        x.handle(2, 3);
        Check.force(x, "v5,3,12;d1,2,5;m3,100;o1,2,0,3;o1,2,1,3;o0,0,0,4;o0,0,1,6;");
        x.wipe();
        Check.write(x, "v0,2,7");
        x.listed(Check.name("abcde"), 10);
        x.listed(Check.name("abcdx"), -1);
        x.voter(Check.name("abcde"), 10, 0);
        x.voter(Check.name("abcdz"), 20, 1);
        x.voter(Check.name("zz"), -1, 2);
        x.likeness(60);
        x.boxes(0, 0, 6);
        x.boxes(1, 0, 4);
        x.boxes(1, 1, 2);
        x.boxes(4, 0, 1);
    }

    /** All that can be full, but for the text of 200 bytes, which stands in force too. */
    static void full(HangingCards x) {
        for (int card = 0; card < 40; card++) x.card(card % 5, 54419559L * card);
        x.keep();
        x.handle(7, 4);
        x.keep();
        Check.force(x, "m2,0;m3,0;m4,0;m5,0;".repeat(10));
        for (int one = 0; one < 8; one++) x.listed(Check.name("abcdefgh".substring(one)), one);
        for (int voter = 0; voter < 12; voter++) x.voter(Check.name("abcdefgh".substring(voter % 8)), voter - 1, voter % 5);
        x.likeness(1);
        for (int county = 0; county < 5; county++) x.boxes(county, 0, 500 - county);
    }

    private void see(int answer) {
        seen.add(answer);
    }

    private void cards(int from, int to) {
        see(x.count(0));
        see(x.count(1));
        for (int card = from; card < to; card++) holes(card);
    }

    private void holes(int card) {
        for (int race = 0; race < 3; race++) {
            for (int hole = 0; hole < 4; hole++) see(x.hole(card, race, hole));
        }
    }

    private void counties() {
        for (int county = 0; county < 5; county++) {
            for (int race = 0; race < 3; race++) {
                for (int hole = 0; hole < 4; hole++) {
                    see(x.counted(county, race, hole, 0, false));
                    see(x.counted(county, race, hole, 999, true));
                }
            }
        }
    }

    private void texts() {
        see(x.count(2));
        see(x.fault());
        inForce();
        see(x.force());
        inForce();
        see(x.write(1, ';'));
        see(x.fault());
        see(x.force());
        see(x.count(3));
        see(x.rule(0, 0, 7));
        see(x.wipe());
    }

    private void inForce() {
        int[] hours = {0, 5, 999};
        see(x.count(3));
        see(x.clash());
        for (int what = 0; what < 4; what++) {
            for (int county = 0; county < 5; county++) {
                for (int hour : hours) {
                    see(x.rule(what, county, hour));
                    see(x.why(what, county, hour));
                }
            }
        }
    }

    private void lists() {
        see(x.count(4));
        see(x.count(5));
        struck();
        for (int voter = 0; voter < 12; voter++) {
            for (int one = 0; one < 8; one++) see(x.like(voter, one));
        }
        see(x.likeness(1));
        struck();
        see(x.listed(0, 0));
        see(x.voter(0, 0, 0));
    }

    private void struck() {
        for (int voter = 0; voter < 12; voter++) {
            see(x.struck(voter, 0));
            see(x.struck(voter, 1));
        }
        for (int county = 0; county <= 5; county++) {
            for (int what = 0; what < 3; what++) see(x.strikes(county, what));
        }
    }

    private void hours() {
        see(x.hands(0, 9));
        see(x.hands(3, 500));
        see(x.soonest(0, 1));
        see(x.soonest(0, 20));
        see(x.left(0, 0, 1));
        see(x.left(0, 5, 1));
        for (int h = 0; h < 9; h++) {
            for (int county = 0; county < 5; county++) see(x.table(0, 9, 1, h, county));
        }
        for (int county = 0; county < 5; county++) {
            see(x.boxes(county, 0, 0));
            see(x.boxes(county, 1, 1));
        }
    }

    private void kept() {
        see(x.count(6));
        for (int time = 0; time < 3; time++) {
            see(x.back());
            see(x.count(0));
            see(x.count(1));
            for (int card = 0; card < 7; card++) holes(card);
        }
        see(x.keep());
    }
}
