/** Plays runs of calls, made by a fixed rule, on the class and on the model, and compares each answer. */
public final class ModelTest {
    private static final int RUNS = 400;
    private static final Check check = new Check();
    private static long seed;

    private final HangingCards x = new HangingCards();
    private final Model m = new Model();
    private int calls = 0;
    private final int kind;
    private final int cardLimit;

    private ModelTest(int kind, int cardLimit) {
        this.kind = kind;
        this.cardLimit = cardLimit;
    }

    public static void main(String[] args) {
        for (int run = 0; run < RUNS; run++) {
            seed = run * 7919L + 1;
            new ModelTest(run % 5, run % 4 == 0 ? 40 : 1 + run % 13).play();
        }
        check.end("ModelTest");
    }

    private static int below(int n) {
        seed = seed * 6364136223846793005L + 1442695040888963407L;
        return (int) ((seed >>> 33) % n);
    }

    /** Mostly from low to high, now and then one beside or far off. */
    private static int about(int low, int high) {
        if (high < low) return low;
        switch (below(40)) {
            case 0: return low - 1;
            case 1: return high + 1;
            case 2: return below(3) == 0 ? Integer.MIN_VALUE : below(2) == 0 ? Integer.MAX_VALUE : -below(2000);
            default: return low + below(high - low + 1);
        }
    }

    private static boolean chance(int of) {
        return below(of) == 0;
    }

    private void due(String what, long want, long got) {
        calls++;
        check.due("call " + calls + " " + what, want, got);
    }

    private void play() {
        while (calls < 420) {
            switch (kind == 4 ? below(4) : chance(8) ? below(4) : kind) {
                case 0: cards(); break;
                case 1: counts(); break;
                case 2: lists(); break;
                default: hours(); break;
            }
            if (chance(12)) newText();
            if (chance(10)) count();
        }
    }

    private void count() {
        int what = about(0, 6);
        due("count", m.count(what), x.count(what));
    }

    // texts

    private static int hour() {
        return chance(4) ? about(0, 999) : chance(2) ? below(30) : 5 * below(4);
    }

    private String item() {
        if (kind == 3 && !chance(6)) return order();
        int c = chance(60) ? 6 : below(6);
        int h = chance(60) ? 1000 : Math.floorMod(hour(), 1000);
        switch (below(5)) {
            case 0: return "v" + c + "," + (chance(30) ? about(0, 6) : 1 + below(5)) + "," + h + ";";
            case 1: return "d" + c + "," + (chance(30) ? 13 : below(6)) + "," + h + ";";
            case 2: return "m" + (chance(30) ? about(1, 6) : 2 + below(4)) + "," + h + ";";
            default: return "o" + c + "," + below(chance(40) ? 6 : 4) + "," + below(chance(40) ? 3 : 2) + "," + h + ";";
        }
    }

    /** Courts of two ranks that stop and go on, so that the counties' hours are unlike. */
    private static String order() {
        return "o" + below(chance(5) ? 6 : 5) + "," + (chance(4) ? 1 : 0) + "," + below(2) + "," + below(30) + ";";
    }

    private void newText() {
        if (!chance(4)) due("wipe", m.wipe(), x.wipe());
        StringBuilder text = new StringBuilder();
        int items = kind == 3 ? below(18) : below(9);
        for (int i = 0; i < items; i++) text.append(item());
        if (chance(8) && text.length() > 0) text.setCharAt(below(text.length()), "v,;0a9:/ d".charAt(below(10)));
        if (chance(12) && text.length() > 0) text.deleteCharAt(below(text.length()));
        for (int at = 0; at < text.length(); ) {
            int n = Math.min(text.length() - at, 1 + below(8));
            long v = chance(9) ? -1 : 0;
            for (int i = 0; i < n; i++) v = v << 8 | text.charAt(at++);
            due("write", m.write(n, v), x.write(n, v));
        }
        due("fault", m.fault(), x.fault());
        due("force", m.force(), x.force());
        for (int i = 0; i < 4; i++) {
            int what = about(0, 3);
            int county = about(0, 4);
            int hour = hour();
            due("rule", m.rule(what, county, hour), x.rule(what, county, hour));
            due("why", m.why(what, county, hour), x.why(what, county, hour));
        }
        due("clash", m.clash(), x.clash());
        int n = about(1, 8);
        if (chance(30)) due("write", m.write(n, 7), x.write(n, 7));
    }

    // cards

    private static long holes() {
        long holes = 0;
        int kind = below(4);
        for (int i = 0; i < 12; i++) {
            int state = kind == 0 ? below(6) : kind == 1 ? (chance(3) ? below(6) : 0) : kind == 2 ? (chance(4) ? 1 : 0)
                : (i % 4 == 2 ? 5 : 0);
            holes = holes * 6 + state;
        }
        return chance(60) ? -1 : chance(60) ? 2176782336L : holes;
    }

    private void cards() {
        int county = about(0, 4);
        int card = about(0, Math.max(0, m.count(0) - 1));
        int race = about(0, 2);
        switch (below(9)) {
            case 0: case 1: case 2: addCard(county); break;
            case 3: hole(card, race); break;
            case 4: handle(card); break;
            case 5: run(county, race); break;
            case 6: due("keep", m.keep(), x.keep()); break;
            case 7: if (chance(3)) due("back", m.back(), x.back()); break;
            default: meant(card, race); break;
        }
    }

    private void addCard(int county) {
        if (m.count(0) >= cardLimit && cardLimit < 40) return;
        long holes = holes();
        due("card", m.card(county, holes), x.card(county, holes));
    }

    private void hole(int card, int race) {
        int hole = about(0, 3);
        due("hole", m.hole(card, race, hole), x.hole(card, race, hole));
    }

    private void handle(int card) {
        int strength = about(1, 4);
        due("handle", m.handle(card, strength), x.handle(card, strength));
    }

    private void run(int county, int race) {
        int hour = hour();
        due("run", m.run(county, race, hour), x.run(county, race, hour));
    }

    private void meant(int card, int race) {
        int what = about(0, 1);
        due("meant", m.meant(card, race, what), x.meant(card, race, what));
    }

    // counts

    private void counts() {
        int race = about(0, 2);
        int hour = hour();
        int one = about(0, 3);
        int n = about(1, 5);
        int rules = about(1, 31);
        boolean machine = chance(2);
        if (chance(3)) addCard(about(0, 4));
        switch (below(8)) {
            case 0: counted(race, one, hour, machine); break;
            case 1: vote(race, hour, machine); break;
            case 2: due("winner", m.winner(race, hour, machine), x.winner(race, hour, machine)); break;
            case 3: due("byRule", m.byRule(race, n), x.byRule(race, n)); break;
            case 4: mixed(race, rules); break;
            case 5: due("turned", m.turned(race, n, rules), x.turned(race, n, rules)); break;
            case 6: least(race, one, hour); break;
            default: otherwise(race, hour); break;
        }
    }

    private void counted(int race, int one, int hour, boolean machine) {
        int county = about(0, 5);
        due("counted", m.counted(county, race, one, hour, machine), x.counted(county, race, one, hour, machine));
    }

    private void vote(int race, int hour, boolean machine) {
        int card = about(0, Math.max(0, m.count(0) - 1));
        due("vote", m.vote(card, race, hour, machine), x.vote(card, race, hour, machine));
    }

    private void mixed(int race, int rules) {
        int one = about(-1, 3);
        due("mixed", m.mixed(race, rules, one), x.mixed(race, rules, one));
    }

    private void least(int race, int one, int hour) {
        if (m.count(0) > 14) return;
        due("least", m.least(race, one, hour), x.least(race, one, hour));
    }

    private void otherwise(int race, int hour) {
        int county = about(0, 5);
        int h = hour();
        due("otherwise", m.otherwise(county, race, hour, h), x.otherwise(county, race, hour, h));
    }

    // lists

    private static long name() {
        StringBuilder name = new StringBuilder(new String[] {"abcdefgh", "abcde", "abc", "", "ab", "a"}[below(6)]);
        for (int i = 0; i < 2 && name.length() > 0; i++) {
            if (chance(2)) name.setCharAt(below(name.length()), (char) ('a' + below(4)));
        }
        if (chance(50) && name.length() > 0) name.setCharAt(below(name.length()), "A`{\0".charAt(below(4)));
        return Check.name(name.toString());
    }

    private static int day() {
        return chance(3) ? -1 : chance(20) ? about(-1, 36500) : below(3);
    }

    private void lists() {
        int voter = about(0, Math.max(0, m.count(5) - 1));
        switch (below(8)) {
            case 0: addListed(); break;
            case 1: addVoter(); break;
            case 2: threshold(); break;
            case 3: like(voter); break;
            case 4: case 5: struck(voter); break;
            default: strikes(); break;
        }
    }

    private void addListed() {
        if (m.count(4) >= 6 && !chance(10)) return;
        long name = name();
        int day = day();
        due("listed", m.listed(name, day), x.listed(name, day));
    }

    private void addVoter() {
        long name = name();
        int day = day();
        int county = about(0, 4);
        due("voter", m.voter(name, day, county), x.voter(name, day, county));
    }

    private void threshold() {
        int to = about(1, 100);
        due("likeness", m.likeness(to), x.likeness(to));
    }

    private void like(int voter) {
        int one = about(0, Math.max(0, m.count(4) - 1));
        due("like", m.like(voter, one), x.like(voter, one));
    }

    private void struck(int voter) {
        int what = about(0, 1);
        due("struck", m.struck(voter, what), x.struck(voter, what));
    }

    /** To try all pairs takes long with many people, so that it is left out then, but for a few. */
    private void strikes() {
        int county = about(0, 5);
        int what = about(0, 2);
        boolean pairsToo = m.count(4) <= 4 || m.count(5) <= 6;
        if (what == 2 && !pairsToo) return;
        due("strikes", m.strikes(county, what, pairsToo), x.strikes(county, what));
    }

    // hours

    private void hours() {
        int g = chance(4) ? about(0, 999) : about(0, 20);
        int t = chance(8) ? about(0, 1000) : g > 900 ? 1000 : g + about(0, 25);
        int k = chance(2) ? about(1, 3) : about(1, 20);
        if (t - (long) g > 60 && !chance(30)) return;
        switch (below(10)) {
            case 0: case 1: boxes(); break;
            case 2: case 3: due("could", m.could(g, t, k), x.could(g, t, k)); break;
            case 4: due("hands", m.hands(g, t), x.hands(g, t)); break;
            case 5: if (chance(6)) due("soonest", m.soonest(g, k), x.soonest(g, k)); break;
            case 6: case 7: case 8: table(g, t, k); break;
            default: due("left", m.left(g, t, k), x.left(g, t, k)); break;
        }
    }

    private void boxes() {
        int county = about(0, 4);
        int what = about(0, 1);
        int v = chance(9) ? about(0, what == 1 ? 50 : 500) : about(what == 1 ? 1 : 0, 12);
        due("boxes", m.boxes(county, what, v), x.boxes(county, what, v));
    }

    private void table(int g, int t, int k) {
        int h = t > g && !chance(20) ? g + below(Math.max(1, Math.min(t - g, 1000))) : about(g, t);
        int county = about(0, 4);
        due("table", m.table(g, t, k, h, county), x.table(g, t, k, h, county));
    }
}
