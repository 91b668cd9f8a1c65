import java.util.ArrayList;
import java.util.Arrays;
import java.util.List;
import java.util.regex.Matcher;
import java.util.regex.Pattern;

/** The document told a second time, by trying out; slow, and free to use the library. */
final class Model {
    static final int BAD = -1, NO = -2, FULL = -3, NONE = -4;

    private record Item(char letter, int county, int rank, int value, int hour) { }
    private record Person(String name, int day, int county) { }

    private List<int[]> cards = new ArrayList<>();
    private final List<List<int[]>> kept = new ArrayList<>();
    private final StringBuilder text = new StringBuilder();
    private List<Item> force = new ArrayList<>();
    private final List<Person> listed = new ArrayList<>();
    private final List<Person> voters = new ArrayList<>();
    private int threshold = 80;
    private final int[] heaps = new int[5];
    private final int[] speeds = {1, 1, 1, 1, 1};

    private static boolean in(int x, int low, int high) {
        return low <= x && x <= high;
    }

    // cards: twelve holes, then the county

    int card(int county, long holes) {
        if (!in(county, 0, 4) || holes < 0 || holes > 2176782335L) return BAD;
        if (cards.size() == 40) return FULL;
        String figures = Long.toString(holes, 6);
        figures = "0".repeat(12 - figures.length()) + figures;
        int[] card = new int[13];
        for (int i = 0; i < 12; i++) card[i] = figures.charAt(i) - '0';
        card[12] = county;
        cards.add(card);
        return cards.size() - 1;
    }

    int hole(int card, int race, int hole) {
        if (!in(card, 0, cards.size() - 1) || !in(race, 0, 2) || !in(hole, 0, 3)) return BAD;
        return cards.get(card)[4 * race + hole];
    }

    int handle(int card, int strength) {
        if (!in(card, 0, cards.size() - 1) || !in(strength, 1, 4)) return BAD;
        int opened = 0;
        int[] c = cards.get(card);
        for (int i = 0; i < 12; i++) {
            if (c[i] >= 5 - strength && c[i] != 5 && c[i] >= 1) {
                c[i]++;
                opened++;
            }
        }
        return opened;
    }

    int run(int county, int race, int hour) {
        if (!in(county, 0, 4) || !in(race, 0, 2) || !in(hour, 0, 999)) return BAD;
        int counting = 0;
        for (int card = 0; card < cards.size(); card++) {
            if (cards.get(card)[12] != county) continue;
            if (vote(card, race, hour, true) >= 0) counting++;
            handle(card, 1);
        }
        return counting;
    }

    // texts

    int write(int n, long v) {
        if (!in(n, 1, 8)) return BAD;
        if (text.length() + n > 200) return FULL;
        for (int i = n - 1; i >= 0; i--) text.append((char) (v >> 8 * i & 255));
        return text.length();
    }

    int wipe() {
        int length = text.length();
        text.setLength(0);
        return length;
    }

    private static final Pattern SHAPE = Pattern.compile(
        "v([0-5]),([1-5]),([0-9]+);|d([0-5]),([0-9]+),([0-9]+);|m([2-5]),([0-9]+);|o([0-5]),([0-3]),([01]),([0-9]+);");
    private static final Pattern ITEM = Pattern.compile("([vdmo])([0-9]{1,3}(?:,[0-9]{1,3})*);");

    private static Item item(String written) {
        Matcher m = ITEM.matcher(written);
        if (!m.matches()) return null;
        String[] parts = m.group(2).split(",");
        StringBuilder plain = new StringBuilder(m.group(1));
        int[] n = new int[parts.length];
        for (int i = 0; i < n.length; i++) {
            n[i] = Integer.parseInt(parts[i]);
            plain.append(i == 0 ? "" : ",").append(n[i]);
        }
        char letter = written.charAt(0);
        if (!SHAPE.matcher(plain.append(";")).matches() || letter == 'd' && n[1] > 12) return null;
        if (letter == 'm') return new Item('m', 5, 0, n[0], n[1]);
        if (letter == 'o') return new Item('o', n[0], n[1], n[2], n[3]);
        return new Item(letter, n[0], 0, n[1], n[2]);
    }

    int fault() {
        int at = 0;
        while (at < text.length()) {
            int end = text.indexOf(";", at);
            if (end < 0 || item(text.substring(at, end + 1)) == null) return at;
            at = end + 1;
        }
        return NONE;
    }

    int force() {
        if (fault() != NONE) return NO;
        force = new ArrayList<>();
        for (int at = 0; at < text.length(); at = text.indexOf(";", at) + 1) {
            force.add(item(text.substring(at, text.indexOf(";", at) + 1)));
        }
        return force.size();
    }

    private static boolean binds(Item i, int county, int hour) {
        return (i.county == 5 || i.county == county) && i.hour <= hour;
    }

    int why(int what, int county, int hour) {
        if (!in(what, 0, 3) || !in(county, 0, 4) || !in(hour, 0, 999)) return BAD;
        int best = NONE;
        long bestKey = -1;
        for (int i = 0; i < force.size(); i++) {
            Item it = force.get(i);
            if (it.letter != "vdmo".charAt(what) || !binds(it, county, hour)) continue;
            long key = what < 3 ? i : it.rank * 1000000L + it.hour * 1000L + i;
            if (key > bestKey) {
                bestKey = key;
                best = i;
            }
        }
        return best;
    }

    int rule(int what, int county, int hour) {
        int why = why(what, county, hour);
        if (why == BAD) return BAD;
        return why == NONE ? new int[] {5, 0, 4, 1}[what] : force.get(why).value;
    }

    int clash() {
        for (int i = 0; i < force.size(); i++) {
            for (int j = i + 1; j < force.size(); j++) {
                Item a = force.get(i);
                Item b = force.get(j);
                if (a.letter != 'o' || b.letter != 'o' || a.rank != b.rank || a.hour != b.hour || a.value == b.value) continue;
                for (int c = 0; c < 5; c++) {
                    if (binds(a, c, 999) && binds(b, c, 999)) return 100 * i + j;
                }
            }
        }
        return NONE;
    }

    // counts

    private int choice(int[] card, int race, int from, int dimples) {
        int all = 0;
        for (int i = 0; i < 12; i++) all += card[i] == 1 ? 1 : 0;
        List<Integer> shown = new ArrayList<>();
        for (int hole = 0; hole < 4; hole++) {
            int state = card[4 * race + hole];
            if (state >= from || state == 1 && dimples != 0 && all >= dimples) shown.add(hole);
        }
        return shown.size() == 1 ? shown.get(0) : NONE;
    }

    int vote(int card, int race, int hour, boolean machine) {
        if (!in(card, 0, cards.size() - 1) || !in(race, 0, 2) || !in(hour, 0, 999)) return BAD;
        int[] c = cards.get(card);
        if (machine) return choice(c, race, rule(2, c[12], hour), 0);
        return choice(c, race, rule(0, c[12], hour), rule(1, c[12], hour));
    }

    int counted(int county, int race, int hole, int hour, boolean machine) {
        if (!in(county, 0, 5) || !in(race, 0, 2) || !in(hole, 0, 3) || !in(hour, 0, 999)) return BAD;
        int all = 0;
        for (int card = 0; card < cards.size(); card++) {
            boolean here = county == 5 || cards.get(card)[12] == county;
            if (here && vote(card, race, hour, machine) == hole) all++;
        }
        return all;
    }

    private static int winner(int[] votes) {
        int[] sorted = votes.clone();
        Arrays.sort(sorted);
        int last = sorted.length - 1;
        if (sorted[last] == 0 || sorted[last] == sorted[last - 1]) return NONE;
        for (int one = 0; one < 4; one++) {
            if (votes[one] == sorted[last]) return one;
        }
        return NONE;
    }

    int winner(int race, int hour, boolean machine) {
        if (!in(race, 0, 2) || !in(hour, 0, 999)) return BAD;
        int[] votes = new int[4];
        for (int one = 0; one < 4; one++) votes[one] = counted(5, race, one, hour, machine);
        return winner(votes);
    }

    private int[][][] byRules(int race) {
        int[][][] votes = new int[5][6][4];
        for (int[] card : cards) {
            for (int n = 1; n <= 5; n++) {
                int one = choice(card, race, n, 0);
                if (one != NONE) votes[card[12]][n][one]++;
            }
        }
        return votes;
    }

    private static int[] sum(int[][][] votes, int[] rules) {
        int[] all = new int[4];
        for (int county = 0; county < 5; county++) {
            for (int one = 0; one < 4; one++) all[one] += votes[county][rules[county]][one];
        }
        return all;
    }

    int byRule(int race, int n) {
        if (!in(race, 0, 2) || !in(n, 1, 5)) return BAD;
        return winner(sum(byRules(race), new int[] {n, n, n, n, n}));
    }

    private static int[] mixture(int code) {
        int[] rules = new int[5];
        for (int county = 0; county < 5; county++) {
            rules[county] = code % 5 + 1;
            code /= 5;
        }
        return rules;
    }

    private static boolean allowed(int[] rules, int set) {
        for (int n : rules) {
            if ((set >> n - 1 & 1) == 0) return false;
        }
        return true;
    }

    int mixed(int race, int set, int one) {
        if (!in(race, 0, 2) || !in(set, 1, 31) || !in(one, -1, 3)) return -1000;
        int[][][] votes = byRules(race);
        int winners = 0;
        int lead = -1000;
        for (int code = 0; code < 3125; code++) {
            int[] rules = mixture(code);
            if (!allowed(rules, set)) continue;
            int[] all = sum(votes, rules);
            int winner = winner(all);
            if (winner != NONE) winners |= 1 << winner;
            int most = 0;
            for (int other = 0; other < 4; other++) most = other == one ? most : Math.max(most, all[other]);
            if (one >= 0) lead = Math.max(lead, all[one] - most);
        }
        return one < 0 ? winners : lead;
    }

    int turned(int race, int n, int set) {
        if (!in(race, 0, 2) || !in(n, 1, 5) || !in(set, 1, 31)) return BAD;
        int standing = byRule(race, n);
        if (standing == NONE) return NO;
        int[][][] votes = byRules(race);
        int best = NONE;
        for (int code = 0; code < 3125; code++) {
            int[] rules = mixture(code);
            if (!allowed(rules, set | 1 << n - 1)) continue;
            int winner = winner(sum(votes, rules));
            if (winner == NONE || winner == standing) continue;
            int bits = 0;
            for (int county = 0; county < 5; county++) bits |= rules[county] == n ? 0 : 1 << county;
            int less = best == NONE ? -1 : Integer.bitCount(bits) - Integer.bitCount(best);
            if (less < 0 || less == 0 && bits < best) best = bits;
        }
        return best;
    }

    /** Tries all ways in which the cards could count in the end. */
    int least(int race, int one, int hour) {
        if (!in(race, 0, 2) || !in(one, 0, 3) || !in(hour, 0, 999)) return BAD;
        int all = cards.size();
        int[] now = new int[5];
        for (int who = 0; who < 4; who++) now[who] = counted(5, race, who, hour, false);
        now[4] = all - now[0] - now[1] - now[2] - now[3];
        int best = NONE;
        for (int a = 0; a <= all; a++) {
            for (int b = 0; a + b <= all; b++) {
                for (int c = 0; a + b + c <= all; c++) {
                    for (int d = 0; a + b + c + d <= all; d++) {
                        int[] then = {a, b, c, d, all - a - b - c - d};
                        if (winner(Arrays.copyOf(then, 4)) != one) continue;
                        int changed = 0;
                        for (int i = 0; i < 5; i++) changed += Math.max(0, now[i] - then[i]);
                        if (best == NONE || changed < best) best = changed;
                    }
                }
            }
        }
        return best;
    }

    int meant(int card, int race, int what) {
        if (!in(card, 0, cards.size() - 1) || !in(race, 0, 2) || !in(what, 0, 1)) return BAD;
        List<Integer> gone = new ArrayList<>();
        List<Integer> open = new ArrayList<>();
        List<Integer> elsewhere = new ArrayList<>();
        for (int hole = 0; hole < 4; hole++) {
            if (hole(card, race, hole) == 5) gone.add(hole);
            if (hole(card, race, hole) != 0) open.add(hole);
            boolean told = true;
            for (int other = 0; other < 3; other++) {
                for (int h = 0; h < 4; h++) told &= other == race || hole(card, other, h) == (h == hole ? 5 : 0);
            }
            if (told) elsewhere.add(hole);
        }
        List<Integer> meant = !gone.isEmpty() ? gone : !open.isEmpty() ? open : elsewhere;
        if (what == 1) return meant.size() == 1 ? meant.get(0) : NONE;
        int bits = 0;
        for (int hole : meant) bits += 1 << hole;
        return bits;
    }

    int otherwise(int county, int race, int g, int h) {
        if (!in(county, 0, 5) || !in(race, 0, 2) || !in(g, 0, 999) || !in(h, 0, 999)) return BAD;
        int changed = 0;
        for (int card = 0; card < cards.size(); card++) {
            boolean here = county == 5 || cards.get(card)[12] == county;
            if (here && vote(card, race, g, false) != vote(card, race, h, false)) changed++;
        }
        return changed;
    }

    // lists

    private static String name(long name) {
        StringBuilder letters = new StringBuilder();
        for (int i = 7; i >= 0; i--) letters.append((char) (name >> 8 * i & 255));
        return letters.toString().matches("[a-z]*\0*") ? letters.toString().replace("\0", "") : null;
    }

    int listed(long name, int day) {
        if (name(name) == null || !in(day, -1, 36500)) return BAD;
        if (listed.size() == 8) return FULL;
        listed.add(new Person(name(name), day, 5));
        return listed.size() - 1;
    }

    int voter(long name, int day, int county) {
        if (name(name) == null || !in(day, -1, 36500) || !in(county, 0, 4)) return BAD;
        if (voters.size() == 12) return FULL;
        voters.add(new Person(name(name), day, county));
        return voters.size() - 1;
    }

    int likeness(int x) {
        if (!in(x, 1, 100)) return BAD;
        int before = threshold;
        threshold = x;
        return before;
    }

    int like(int voter, int one) {
        if (!in(voter, 0, voters.size() - 1) || !in(one, 0, listed.size() - 1)) return BAD;
        String a = voters.get(voter).name;
        String b = listed.get(one).name;
        if (a.isEmpty() || b.isEmpty()) return 0;
        int same = 0;
        for (int i = 0; i < Math.min(a.length(), b.length()); i++) same += a.charAt(i) == b.charAt(i) ? 1 : 0;
        return same * 100 / Math.max(a.length(), b.length());
    }

    private boolean strikes(int voter, int one) {
        int a = voters.get(voter).day;
        int b = listed.get(one).day;
        return like(voter, one) >= threshold && (a == -1 || b == -1 || a == b);
    }

    int struck(int voter, int what) {
        if (!in(voter, 0, voters.size() - 1) || !in(what, 0, 1)) return BAD;
        int best = NONE;
        for (int one = listed.size() - 1; one >= 0; one--) {
            if (strikes(voter, one) && (best == NONE || like(voter, one) >= like(voter, best))) best = one;
        }
        if (what == 0 || best == NONE) return best;
        Person a = voters.get(voter);
        Person b = listed.get(best);
        if (a.name.equals(b.name) && a.day == b.day && a.day >= 0) return 2;
        return a.day == -1 || b.day == -1 ? 1 : 0;
    }

    private int paired(int voter, int taken) {
        if (voter == voters.size()) return 0;
        int best = paired(voter + 1, taken);
        for (int one = 0; one < listed.size(); one++) {
            if ((taken >> one & 1) == 0 && strikes(voter, one)) {
                best = Math.max(best, 1 + paired(voter + 1, taken | 1 << one));
            }
        }
        return best;
    }

    int strikes(int county, int what, boolean pairsToo) {
        if (!in(what, 0, 2) || what < 2 && !in(county, 0, 5)) return BAD;
        if (what == 2) return pairsToo ? paired(0, 0) : NONE;
        int all = 0;
        for (int voter = 0; voter < voters.size(); voter++) {
            if (county != 5 && voters.get(voter).county != county) continue;
            int how = struck(voter, 1);
            if (how == 0 || how > 0 && what == 0) all++;
        }
        return all;
    }

    // hours

    int boxes(int county, int what, int v) {
        if (!in(county, 0, 4) || !in(what, 0, 1) || !(what == 0 ? in(v, 0, 500) : in(v, 1, 50))) return BAD;
        int[] row = what == 0 ? heaps : speeds;
        int before = row[county];
        row[county] = v;
        return before;
    }

    private int[] works() {
        int[] works = new int[5];
        for (int county = 0; county < 5; county++) {
            for (int rest = heaps[county]; rest > 0; rest -= speeds[county]) works[county]++;
        }
        return works;
    }

    /** How much work can be done: a flow from counties to hours, made greater by paths until none is left. */
    private int done(int[] works, boolean[][] open, int g, int t, int k) {
        int[][] flow = new int[5][t];
        int[] rest = works.clone();
        int[] free = new int[t];
        Arrays.fill(free, k);
        int done = 0;
        for (boolean grew = true; grew; ) {
            grew = false;
            for (int county = 0; county < 5; county++) {
                while (rest[county] > 0 && push(county, new boolean[5], flow, free, open, g, t)) {
                    rest[county]--;
                    done++;
                    grew = true;
                }
            }
        }
        return done;
    }

    private boolean push(int county, boolean[] seen, int[][] flow, int[] free, boolean[][] open, int g, int t) {
        seen[county] = true;
        for (int hour = g; hour < t; hour++) {
            if (open[county][hour] && free[hour] > 0) {
                free[hour]--;
                flow[county][hour]++;
                return true;
            }
        }
        for (int hour = g; hour < t; hour++) {
            for (int other = 0; open[county][hour] && other < 5; other++) {
                if (seen[other] || flow[other][hour] == 0) continue;
                if (push(other, seen, flow, free, open, g, t)) {
                    flow[other][hour]--;
                    flow[county][hour]++;
                    return true;
                }
            }
        }
        return false;
    }

    private boolean[][] opens() {
        boolean[][] open = new boolean[5][1000];
        for (int county = 0; county < 5; county++) {
            for (int hour = 0; hour < 1000; hour++) open[county][hour] = rule(3, county, hour) == 1;
        }
        return open;
    }

    private static boolean span(int g, int t) {
        return in(g, 0, 999) && g <= t && t <= 1000;
    }

    int could(int g, int t, int k) {
        if (!span(g, t) || !in(k, 1, 20)) return BAD;
        int[] works = works();
        return done(works, opens(), g, t, k) == Arrays.stream(works).sum() ? 1 : 0;
    }

    int hands(int g, int t) {
        if (!span(g, t)) return BAD;
        for (int k = 1; k <= 20; k++) {
            if (could(g, t, k) == 1) return k;
        }
        return NONE;
    }

    int soonest(int g, int k) {
        if (!in(g, 0, 999) || !in(k, 1, 20)) return BAD;
        int[] works = works();
        int all = Arrays.stream(works).sum();
        boolean[][] open = opens();
        for (int t = g; t <= 1000; t++) {
            if (done(works, open, g, t, k) == all) return t;
        }
        return NONE;
    }

    /** The table's hands by hour and county, and behind them what work is left. */
    private int[][] table(int g, int t, int k) {
        boolean[][] open = opens();
        int[] works = works();
        int[][] table = new int[1001][5];
        for (int hour = g; hour < t; hour++) {
            List<int[]> order = new ArrayList<>();
            for (int county = 0; county < 5; county++) {
                if (!open[county][hour]) continue;
                int hours = 0;
                for (int h = hour; h < t; h++) hours += open[county][h] ? 1 : 0;
                order.add(new int[] {hours, county});
            }
            order.sort((a, b) -> a[0] != b[0] ? a[0] - b[0] : a[1] - b[1]);
            int free = k;
            for (int[] next : order) {
                int here = Math.min(free, works[next[1]]);
                table[hour][next[1]] = here;
                works[next[1]] -= here;
                free -= here;
            }
        }
        table[1000] = works;
        return table;
    }

    int table(int g, int t, int k, int h, int county) {
        if (!span(g, t) || !in(k, 1, 20) || h < g || h >= t || !in(county, 0, 4)) return BAD;
        return table(g, t, k)[h][county];
    }

    int left(int g, int t, int k) {
        if (!span(g, t) || !in(k, 1, 20)) return BAD;
        return Arrays.stream(table(g, t, k)[1000]).sum();
    }

    private static List<int[]> copy(List<int[]> cards) {
        List<int[]> copy = new ArrayList<>();
        for (int[] card : cards) copy.add(card.clone());
        return copy;
    }

    int keep() {
        if (kept.size() == 2) return FULL;
        kept.add(copy(cards));
        return kept.size();
    }

    int back() {
        if (kept.isEmpty()) return NO;
        cards = kept.remove(kept.size() - 1);
        return kept.size();
    }

    int count(int what) {
        int open = 0;
        for (int[] card : cards) {
            for (int i = 0; i < 12; i++) open += card[i] == 0 ? 0 : 1;
        }
        int[] counts = {cards.size(), open, text.length(), force.size(), listed.size(), voters.size(), kept.size()};
        return in(what, 0, 6) ? counts[what] : BAD;
    }
}
