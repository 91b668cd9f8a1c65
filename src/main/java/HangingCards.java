/** Cards with holes, the texts that say how they are read, and what follows from both: see README.md. */
public final class HangingCards {
    public static final int BAD = -1, NO = -2, FULL = -3, NONE = -4;

    private static final int COUNTIES = 5;
    private static final int ALL = 5;
    private static final int RACES = 3;
    private static final int HOLES = 4;
    private static final int PLACES = RACES * HOLES;
    private static final int FIGURES = 6;
    private static final long CARD_END = 2176782336L;
    private static final int DIMPLED = 1;
    private static final int GONE = 5;
    private static final int CARDS = 40;
    private static final int HOURS = 1000;
    private static final int BYTES = 200;
    private static final int ITEMS = 40;

    // The kinds of items, by the numbers that rule and why give them
    private static final int HAND = 0;
    private static final int DIMPLES = 1;
    private static final int MACHINE = 2;
    private static final int ORDER = 3;

    private static final int RANKS = 4;
    private static final int RULES = 5;
    private static final int RULE_SETS = 32;
    private static final int BAD_LEAD = -1000;
    private static final int LETTERS = 8;
    private static final int LAST_DAY = 36500;
    private static final int LISTED = 8;
    private static final int VOTERS = 12;
    private static final int COUNTY_SETS = 32;
    private static final int MOST_HANDS = 20;
    private static final int NEVER = 1000000;

    private final Pile pile;
    private final Pile keptFirst;
    private final Pile keptSecond;
    private int kept;
    private final Text text;
    private final Orders orders;
    private final Tally tally;
    private final Mixtures mixtures;
    private final Roll roll;
    private final Shifts shifts;

    public HangingCards() {
        pile = new Pile();
        keptFirst = new Pile();
        keptSecond = new Pile();
        kept = 0;
        text = new Text();
        orders = new Orders();
        tally = new Tally(pile, orders);
        mixtures = new Mixtures();
        roll = new Roll();
        shifts = new Shifts();
    }

    // ---- cards

    public int card(int county, long holes) {
        if (!isCounty(county) || holes < 0 || holes >= CARD_END) return BAD;
        return pile.add(county, holes);
    }

    public int hole(int card, int race, int hole) {
        if (!pile.has(card) || !isRace(race) || !isHole(hole)) return BAD;
        return pile.state(card, race, hole);
    }

    public int handle(int card, int strength) {
        if (!pile.has(card) || strength < 1 || strength > 4) return BAD;
        return pile.open(card, strength);
    }

    public int run(int county, int race, int hour) {
        if (!isCounty(county) || !isRace(race) || !isHour(hour)) return BAD;
        tally.readIn(hour, true);
        int counting = tally.countingCards(county, race);
        for (int card = 0; card < pile.size(); card++) {
            if (pile.countyOf(card) == county) pile.open(card, 1);
        }
        return counting;
    }

    // ---- texts

    public int write(int n, long v) {
        if (n < 1 || n > 8) return BAD;
        return text.append(n, v);
    }

    public int wipe() {
        return text.clear();
    }

    public int fault() {
        return text.firstFault();
    }

    public int force() {
        if (text.firstFault() != NONE) return NO;
        orders.take(text);
        shifts.learn(orders);
        return orders.size();
    }

    public int rule(int what, int county, int hour) {
        if (!isWhat(what, 4) || !isCounty(county) || !isHour(hour)) return BAD;
        return orders.valueIn(what, county, hour);
    }

    public int why(int what, int county, int hour) {
        if (!isWhat(what, 4) || !isCounty(county) || !isHour(hour)) return BAD;
        return orders.holding(what, county, hour);
    }

    public int clash() {
        return orders.firstClash();
    }

    // ---- counts

    public int counted(int county, int race, int hole, int hour, boolean machine) {
        if (!isCountyOrAll(county) || !isRace(race) || !isHole(hole) || !isHour(hour)) return BAD;
        tally.readIn(hour, machine);
        return votesFor(hole, tally.sum(county, race));
    }

    public int vote(int card, int race, int hour, boolean machine) {
        if (!pile.has(card) || !isRace(race) || !isHour(hour)) return BAD;
        tally.readIn(hour, machine);
        return tally.choiceOf(card, race);
    }

    public int winner(int race, int hour, boolean machine) {
        if (!isRace(race) || !isHour(hour)) return BAD;
        tally.readIn(hour, machine);
        return winnerOf(tally.sum(ALL, race));
    }

    public int byRule(int race, int n) {
        if (!isRace(race) || !isRule(n)) return BAD;
        tally.readBy(n);
        return winnerOf(tally.sum(ALL, race));
    }

    public int mixed(int race, int rules, int one) {
        if (!isRace(race) || !isRuleSet(rules) || one < -1 || one >= HOLES) return BAD_LEAD;
        mixtures.learn(tally, race);
        mixtures.tryAll(0, rules, Math.max(0, one));
        return one < 0 ? mixtures.winners() : mixtures.lead();
    }

    public int turned(int race, int n, int rules) {
        if (!isRace(race) || !isRule(n) || !isRuleSet(rules)) return BAD;
        mixtures.learn(tally, race);
        if (mixtures.winnerBy(n) == NONE) return NO;
        mixtures.tryAll(n, rules, 0);
        return mixtures.fewest();
    }

    public int least(int race, int one, int hour) {
        if (!isRace(race) || !isHole(one) || !isHour(hour)) return BAD;
        tally.readIn(hour, false);
        return tally.fewestChanged(one, race);
    }

    public int meant(int card, int race, int what) {
        if (!pile.has(card) || !isRace(race) || !isWhat(what, 2)) return BAD;
        int bits = pile.meantBits(card, race);
        return what == 0 ? bits : onlyBit(bits);
    }

    public int otherwise(int county, int race, int g, int h) {
        if (!isCountyOrAll(county) || !isRace(race) || !isHour(g) || !isHour(h)) return BAD;
        return tally.changedBetween(county, race, g, h);
    }

    // ---- lists

    public int listed(long name, int day) {
        if (!isName(name) || !isDay(day)) return BAD;
        return roll.addListed(name, day);
    }

    public int voter(long name, int day, int county) {
        if (!isName(name) || !isDay(day) || !isCounty(county)) return BAD;
        return roll.addVoter(name, day, county);
    }

    public int likeness(int x) {
        if (x < 1 || x > 100) return BAD;
        return roll.changeThreshold(x);
    }

    public int like(int voter, int listed) {
        if (!roll.hasVoter(voter) || !roll.hasListed(listed)) return BAD;
        return roll.alikeness(voter, listed);
    }

    public int struck(int voter, int what) {
        if (!roll.hasVoter(voter) || !isWhat(what, 2)) return BAD;
        return what == 0 ? roll.struckAs(voter) : roll.rightness(voter);
    }

    public int strikes(int county, int what) {
        if (!isWhat(what, 3)) return BAD;
        if (what == 2) return roll.paired();
        if (!isCountyOrAll(county)) return BAD;
        return roll.struckIn(county, what == 1);
    }

    // ---- hours

    public int boxes(int county, int what, int v) {
        if (!isCounty(county) || !isWhat(what, 2)) return BAD;
        if (what == 0) return v < 0 || v > 500 ? BAD : shifts.changeHeaps(county, v);
        return v < 1 || v > 50 ? BAD : shifts.changeSpeed(county, v);
    }

    public int could(int g, int t, int k) {
        if (!isSpan(g, t) || !isHands(k)) return BAD;
        return shifts.handsNeeded(g, t) <= k ? 1 : 0;
    }

    public int hands(int g, int t) {
        if (!isSpan(g, t)) return BAD;
        int needed = shifts.handsNeeded(g, t);
        return needed > MOST_HANDS ? NONE : needed;
    }

    public int soonest(int g, int k) {
        if (!isHour(g) || !isHands(k)) return BAD;
        return shifts.earliestEnd(g, k);
    }

    public int table(int g, int t, int k, int h, int county) {
        if (!isSpan(g, t) || !isHands(k) || h < g || h >= t || !isCounty(county)) return BAD;
        shifts.work(g, t, k, h + 1);
        return shifts.placedIn(county);
    }

    public int left(int g, int t, int k) {
        if (!isSpan(g, t) || !isHands(k)) return BAD;
        shifts.work(g, t, k, t);
        return shifts.allTodo();
    }

    public int keep() {
        if (kept >= 2) return FULL;
        keptAt(kept).copy(pile);
        kept++;
        return kept;
    }

    public int back() {
        if (kept <= 0) return NO;
        kept--;
        pile.copy(keptAt(kept));
        return kept;
    }

    public int count(int what) {
        switch (what) {
            case 0: return pile.size();
            case 1: return pile.notWhole();
            case 2: return text.length();
            case 3: return orders.size();
            case 4: return roll.listedSize();
            case 5: return roll.votersSize();
            case 6: return kept;
            default: return BAD;
        }
    }

    private Pile keptAt(int place) {
        return place == 0 ? keptFirst : keptSecond;
    }

    private static boolean isCounty(int county) {
        return county >= 0 && county < COUNTIES;
    }

    private static boolean isCountyOrAll(int county) {
        return county == ALL || isCounty(county);
    }

    private static boolean isRace(int race) {
        return race >= 0 && race < RACES;
    }

    private static boolean isHole(int hole) {
        return hole >= 0 && hole < HOLES;
    }

    private static boolean isHour(int hour) {
        return hour >= 0 && hour < HOURS;
    }

    private static boolean isWhat(int what, int end) {
        return what >= 0 && what < end;
    }

    private static boolean isRule(int n) {
        return n >= 1 && n <= RULES;
    }

    private static boolean isRuleSet(int rules) {
        return rules >= 1 && rules < RULE_SETS;
    }

    private static boolean isDay(int day) {
        return day >= -1 && day <= LAST_DAY;
    }

    private static boolean isHands(int k) {
        return k >= 1 && k <= MOST_HANDS;
    }

    /** What ends a span is not worked in, so it may stand behind the last hour; what begins it is an hour itself. */
    private static boolean isSpan(int g, int t) {
        return isHour(g) && g <= t && t <= HOURS;
    }

    private static boolean isName(long name) {
        boolean ended = false;
        for (int place = 0; place < LETTERS; place++) {
            int letter = letterAt(name, place);
            if (letter == 0) ended = true;
            else if (ended || letter < 'a' || letter > 'z') return false;
        }
        return true;
    }

    private static int letterAt(long name, int place) {
        return (int) (name >>> (8 * (LETTERS - 1 - place))) & 255;
    }

    private static boolean hasBit(int bits, int place) {
        return (bits >> place & 1) != 0;
    }

    /** The hole whose bit stands alone. */
    private static int onlyBit(int bits) {
        for (int hole = 0; hole < HOLES; hole++) {
            if (bits == 1 << hole) return hole;
        }
        return NONE;
    }

    // Votes of all four lie in one number, a byte each: so they are added at once, and 40 cards never fill a byte.

    private static int oneVote(int one) {
        return 1 << (8 * one);
    }

    private static int votesFor(int one, int votes) {
        return votes >> (8 * one) & 255;
    }

    private static int leadOf(int one, int votes) {
        int most = 0;
        for (int other = 0; other < HOLES; other++) {
            if (other != one) most = Math.max(most, votesFor(other, votes));
        }
        return votesFor(one, votes) - most;
    }

    private static int winnerOf(int votes) {
        for (int one = 0; one < HOLES; one++) {
            if (leadOf(one, votes) > 0) return one;
        }
        return NONE;
    }

    /** Numbers in a row. Each index is tested here, so that nothing behind can use a wrong one. */
    private static final class Row {
        private final int[] cells;

        Row(int size) {
            cells = new int[size < 0 ? 0 : size];
        }

        int get(int place) {
            return place >= 0 && place < cells.length ? cells[place] : 0;
        }

        void set(int place, int value) {
            if (place >= 0 && place < cells.length) cells[place] = value;
        }

        void add(int place, int value) {
            set(place, get(place) + value);
        }

        void fill(int value) {
            for (int place = 0; place < cells.length; place++) cells[place] = value;
        }

        void copy(Row other) {
            if (other == null) return;
            for (int place = 0; place < cells.length; place++) cells[place] = other.get(place);
        }
    }

    /** Cards as they come: of each its county and the states of its holes. */
    private static final class Pile {
        private final Row counties = new Row(CARDS);
        private final Row states = new Row(CARDS * PLACES);
        private int size = 0;

        int size() {
            return size;
        }

        boolean has(int card) {
            return card >= 0 && card < size;
        }

        int countyOf(int card) {
            return counties.get(card);
        }

        int state(int card, int race, int hole) {
            return states.get(card * PLACES + race * HOLES + hole);
        }

        int add(int county, long figures) {
            if (size >= CARDS) return FULL;
            long rest = figures;
            for (int place = PLACES - 1; place >= 0; place--) {
                states.set(size * PLACES + place, (int) (rest % FIGURES));
                rest = rest / FIGURES;
            }
            counties.set(size, county);
            size++;
            return size - 1;
        }

        int open(int card, int strength) {
            int opened = 0;
            for (int place = card * PLACES; place < (card + 1) * PLACES; place++) {
                int state = states.get(place);
                if (state >= Math.max(1, GONE - strength) && state < GONE) {
                    states.set(place, state + 1);
                    opened++;
                }
            }
            return opened;
        }

        int dimplesOf(int card) {
            int dimples = 0;
            for (int place = card * PLACES; place < (card + 1) * PLACES; place++) {
                if (states.get(place) == DIMPLED) dimples++;
            }
            return dimples;
        }

        int notWhole() {
            int open = 0;
            for (int place = 0; place < size * PLACES; place++) {
                if (states.get(place) > 0) open++;
            }
            return open;
        }

        int meantBits(int card, int race) {
            int gone = bitsFrom(card, race, GONE);
            if (gone != 0) return gone;
            int open = bitsFrom(card, race, DIMPLED);
            return open != 0 ? open : meantElsewhere(card, race);
        }

        /** The holes of a race that are in a state or further open, as bits. */
        private int bitsFrom(int card, int race, int state) {
            int bits = 0;
            for (int hole = 0; hole < HOLES; hole++) {
                if (state(card, race, hole) >= state) bits |= 1 << hole;
            }
            return bits;
        }

        /** What both other races tell, if each of them has the same hole gone and nothing else touched. */
        private int meantElsewhere(int card, int race) {
            int agreed = (1 << HOLES) - 1;
            for (int other = 0; other < RACES; other++) {
                if (other != race) agreed &= goneAlone(card, other);
            }
            return agreed;
        }

        private int goneAlone(int card, int race) {
            int gone = bitsFrom(card, race, GONE);
            boolean alone = Integer.bitCount(gone) == 1 && bitsFrom(card, race, DIMPLED) == gone;
            return alone ? gone : 0;
        }

        void copy(Pile other) {
            if (other == null) return;
            counties.copy(other.counties);
            states.copy(other.states);
            size = other.size;
        }
    }

    /** The text as it is written, and the item in it that was read last. */
    private static final class Text {
        private final Row bytes = new Row(BYTES);
        private int length = 0;
        private final Row numbers = new Row(4);
        private int behind = 0;
        private int kind = 0;
        private int county = 0;
        private int rank = 0;
        private int value = 0;
        private int hour = 0;

        int length() {
            return length;
        }

        int behind() {
            return behind;
        }

        int kind() {
            return kind;
        }

        int county() {
            return county;
        }

        int rank() {
            return rank;
        }

        int value() {
            return value;
        }

        int hour() {
            return hour;
        }

        int append(int n, long v) {
            if (length + n > BYTES) return FULL;
            for (int place = n - 1; place >= 0; place--) {
                bytes.set(length, (int) (v >>> (8 * place)) & 255);
                length++;
            }
            return length;
        }

        int clear() {
            int before = length;
            length = 0;
            return before;
        }

        int firstFault() {
            int at = 0;
            for (int item = 0; item < BYTES && at < length; item++) {
                if (!read(at)) return at;
                at = behind;
            }
            return NONE;
        }

        /** Reads the item that begins at a place; false, if what stands there is none. */
        boolean read(int start) {
            kind = kindOf(byteAt(start));
            int many = numbersOf(kind);
            if (many == 0) return false;
            int at = start + 1;
            for (int number = 0; number < many; number++) {
                int figures = readNumber(at, number);
                at += figures;
                char parting = number + 1 < many ? ',' : ';';
                if (figures == 0 || byteAt(at) != parting) return false;
                at++;
            }
            behind = at;
            tellNumbers();
            return isTold();
        }

        /** Bytes behind the length may be left from a text that was wiped. */
        private int byteAt(int place) {
            return place < length ? bytes.get(place) : -1;
        }

        private static int kindOf(int letter) {
            switch (letter) {
                case 'v': return HAND;
                case 'd': return DIMPLES;
                case 'm': return MACHINE;
                case 'o': return ORDER;
                default: return NONE;
            }
        }

        private static int numbersOf(int kind) {
            switch (kind) {
                case HAND: return 3;
                case DIMPLES: return 3;
                case MACHINE: return 2;
                case ORDER: return 4;
                default: return 0;
            }
        }

        /** Of how many figures, three at most, the number at a place is. */
        private int readNumber(int at, int number) {
            int figures = 0;
            int told = 0;
            while (figures < 3 && isFigure(byteAt(at + figures))) {
                told = told * 10 + byteAt(at + figures) - '0';
                figures++;
            }
            numbers.set(number, told);
            return figures;
        }

        private static boolean isFigure(int sign) {
            return sign >= '0' && sign <= '9';
        }

        /** A machine's item is told as one for all counties, so that all kinds are looked up in one way. */
        private void tellNumbers() {
            boolean machine = kind == MACHINE;
            boolean order = kind == ORDER;
            county = machine ? ALL : numbers.get(0);
            rank = order ? numbers.get(1) : 0;
            value = numbers.get(machine ? 0 : order ? 2 : 1);
            hour = numbers.get(numbersOf(kind) - 1);
        }

        private boolean isTold() {
            return isCountyOrAll(county) && rank < RANKS && isHour(hour)
                && value >= lowest(kind) && value <= highest(kind);
        }

        private static int lowest(int kind) {
            switch (kind) {
                case HAND: return 1;
                case MACHINE: return 2;
                default: return 0;
            }
        }

        private static int highest(int kind) {
            switch (kind) {
                case DIMPLES: return PLACES;
                case ORDER: return 1;
                default: return GONE;
            }
        }
    }

    /** The items in force. */
    private static final class Orders {
        private final Row kinds = new Row(ITEMS);
        private final Row counties = new Row(ITEMS);
        private final Row ranks = new Row(ITEMS);
        private final Row values = new Row(ITEMS);
        private final Row hours = new Row(ITEMS);
        private int size = 0;

        int size() {
            return size;
        }

        /** Takes a text without fault in place of what was in force. */
        void take(Text text) {
            if (text == null) return;
            size = 0;
            int at = 0;
            for (int item = 0; item < ITEMS && at < text.length(); item++) {
                if (!text.read(at)) return;
                add(text);
                at = text.behind();
            }
        }

        private void add(Text item) {
            kinds.set(size, item.kind());
            counties.set(size, item.county());
            ranks.set(size, item.rank());
            values.set(size, item.value());
            hours.set(size, item.hour());
            size++;
        }

        int valueIn(int kind, int county, int hour) {
            int item = holding(kind, county, hour);
            return item == NONE ? without(kind) : values.get(item);
        }

        private static int without(int kind) {
            switch (kind) {
                case HAND: return GONE;
                case DIMPLES: return 0;
                case MACHINE: return 4;
                default: return 1;
            }
        }

        /** The number of the item of a kind that holds in a county in an hour. */
        int holding(int kind, int county, int hour) {
            int found = NONE;
            for (int item = 0; item < size; item++) {
                boolean meets = kinds.get(item) == kind && isFor(item, county) && hours.get(item) <= hour;
                if (meets && (found == NONE || !yields(item, found))) found = item;
            }
            return found;
        }

        private boolean isFor(int item, int county) {
            return counties.get(item) == ALL || counties.get(item) == county;
        }

        /** Only orders give way to an earlier item: to one of a higher rank, or of a later hour in their rank. */
        private boolean yields(int item, int earlier) {
            if (kinds.get(item) != ORDER) return false;
            if (ranks.get(item) != ranks.get(earlier)) return ranks.get(item) < ranks.get(earlier);
            return hours.get(item) < hours.get(earlier);
        }

        int firstClash() {
            for (int one = 0; one < size; one++) {
                for (int other = one + 1; other < size; other++) {
                    if (areUnlike(one, other)) return 100 * one + other;
                }
            }
            return NONE;
        }

        private boolean areUnlike(int one, int other) {
            return kinds.get(one) == ORDER && kinds.get(other) == ORDER
                && ranks.get(one) == ranks.get(other)
                && hours.get(one) == hours.get(other)
                && values.get(one) != values.get(other)
                && (isFor(one, counties.get(other)) || counties.get(other) == ALL);
        }

        /** The counties in which counting stops in an hour, as bits. */
        int closedIn(int hour) {
            int closed = 0;
            for (int county = 0; county < COUNTIES; county++) {
                if (valueIn(ORDER, county, hour) == 0) closed |= 1 << county;
            }
            return closed;
        }

        /** The first hour behind one in which an order begins. */
        int nextOrder(int hour) {
            int next = HOURS;
            for (int item = 0; item < size; item++) {
                boolean later = kinds.get(item) == ORDER && hours.get(item) > hour;
                if (later && hours.get(item) < next) next = hours.get(item);
            }
            return next;
        }
    }

    /** How holes are read in each county: from which state on, and from how many dimples on dimples too. */
    private static final class Reading {
        private final Row states = new Row(COUNTIES);
        private final Row dimples = new Row(COUNTIES);

        void readIn(Orders orders, int hour, boolean machine) {
            if (orders == null) return;
            for (int county = 0; county < COUNTIES; county++) {
                states.set(county, orders.valueIn(machine ? MACHINE : HAND, county, hour));
                dimples.set(county, machine ? 0 : orders.valueIn(DIMPLES, county, hour));
            }
        }

        void readBy(int n) {
            states.fill(n);
            dimples.fill(0);
        }

        /** The one for whom a card counts in a race. */
        int choiceOf(Pile pile, int card, int race) {
            if (pile == null) return NONE;
            int county = pile.countyOf(card);
            int enough = dimples.get(county);
            boolean dimplesToo = enough > 0 && pile.dimplesOf(card) >= enough;
            int shown = 0;
            for (int hole = 0; hole < HOLES; hole++) {
                int state = pile.state(card, race, hole);
                if (state >= states.get(county) || dimplesToo && state == DIMPLED) shown |= 1 << hole;
            }
            return onlyBit(shown);
        }
    }

    /** Counts of the cards by one reading. */
    private static final class Tally {
        private final Pile pile;
        private final Orders orders;
        private final Reading reading = new Reading();
        private final Reading later = new Reading();

        Tally(Pile pile, Orders orders) {
            this.pile = pile;
            this.orders = orders;
        }

        void readIn(int hour, boolean machine) {
            reading.readIn(orders, hour, machine);
        }

        void readBy(int n) {
            reading.readBy(n);
        }

        int choiceOf(int card, int race) {
            return reading.choiceOf(pile, card, race);
        }

        private int cards() {
            return pile == null ? 0 : pile.size();
        }

        private boolean isOf(int card, int county) {
            return county == ALL || pile != null && pile.countyOf(card) == county;
        }

        int sum(int county, int race) {
            int votes = 0;
            for (int card = 0; card < cards(); card++) {
                int choice = isOf(card, county) ? choiceOf(card, race) : NONE;
                if (choice != NONE) votes += oneVote(choice);
            }
            return votes;
        }

        int countingCards(int county, int race) {
            int votes = sum(county, race);
            int all = 0;
            for (int one = 0; one < HOLES; one++) all += votesFor(one, votes);
            return all;
        }

        int fewestChanged(int one, int race) {
            int votes = sum(ALL, race);
            for (int changed = 0; changed <= cards(); changed++) {
                if (winsWith(one, votes, changed)) return changed;
            }
            return NONE;
        }

        /** Changed cards serve best if all of them come to count for the one, from those first who are too near. */
        private boolean winsWith(int one, int votes, int changed) {
            int own = votesFor(one, votes) + changed;
            if (own < 1 || own > cards()) return false;
            int tooMany = 0;
            for (int other = 0; other < HOLES; other++) {
                if (other != one) tooMany += Math.max(0, votesFor(other, votes) - (own - 1));
            }
            return tooMany <= changed;
        }

        int changedBetween(int county, int race, int g, int h) {
            reading.readIn(orders, g, false);
            later.readIn(orders, h, false);
            int changed = 0;
            for (int card = 0; card < cards(); card++) {
                if (isOf(card, county) && isUnlikeLater(card, race)) changed++;
            }
            return changed;
        }

        private boolean isUnlikeLater(int card, int race) {
            return choiceOf(card, race) != later.choiceOf(pile, card, race);
        }
    }

    /** All mixtures of rules, each county by one of its own. */
    private static final class Mixtures {
        private final Row votes = new Row(COUNTIES * RULES);
        private final Row choices = new Row(COUNTIES);
        private int base = 0;
        private int favoured = 0;
        private int standing = NONE;
        private int winners = 0;
        private int lead = 0;
        private int fewest = NONE;

        void learn(Tally tally, int race) {
            if (tally == null) return;
            for (int n = 1; n <= RULES; n++) {
                tally.readBy(n);
                for (int county = 0; county < COUNTIES; county++) {
                    votes.set(place(county, n), tally.sum(county, race));
                }
            }
        }

        private static int place(int county, int n) {
            return county * RULES + n - 1;
        }

        int winners() {
            return winners;
        }

        int lead() {
            return lead;
        }

        int fewest() {
            return fewest;
        }

        int winnerBy(int n) {
            int all = 0;
            for (int county = 0; county < COUNTIES; county++) all += votes.get(place(county, n));
            return winnerOf(all);
        }

        /**
         * Tries each mixture of a set and a base rule (0: none), from whose winner it may turn: who wins, the greatest
         * lead of one, the fewest counties that leave the base.
         */
        void tryAll(int n, int rules, int one) {
            base = n;
            standing = n == 0 ? NONE : winnerBy(n);
            favoured = one;
            winners = 0;
            lead = BAD_LEAD;
            fewest = NONE;
            for (int county = 0; county < COUNTIES; county++) choices.set(county, unlikeChoices(county, rules));
            mix(0, 0, 0);
        }

        /** Rules that count a county alike make the same mixtures, so that one of them is enough: the base, if it can be. */
        private int unlikeChoices(int county, int rules) {
            int chosen = base == 0 ? 0 : 1 << (base - 1);
            for (int n = 1; n <= RULES; n++) {
                if (hasBit(rules, n - 1) && !isCountedAlready(county, n, chosen)) chosen |= 1 << (n - 1);
            }
            return chosen;
        }

        private boolean isCountedAlready(int county, int n, int chosen) {
            for (int other = 1; other <= RULES; other++) {
                boolean alike = votes.get(place(county, n)) == votes.get(place(county, other));
                if (alike && hasBit(chosen, other - 1)) return true;
            }
            return false;
        }

        /** Goes through the choices from one county on, with the votes of the counties ahead of it. */
        private void mix(int county, int bits, int ahead) {
            if (county >= COUNTIES) {
                weigh(bits, ahead);
                return;
            }
            for (int n = 1; n <= RULES; n++) {
                if (hasBit(choices.get(county), n - 1)) {
                    int leaving = n == base ? bits : bits | 1 << county;
                    mix(county + 1, leaving, ahead + votes.get(place(county, n)));
                }
            }
        }

        private void weigh(int bits, int all) {
            lead = Math.max(lead, leadOf(favoured, all));
            int winner = winnerOf(all);
            if (winner == NONE) return;
            winners |= 1 << winner;
            if (winner != standing && isFewer(bits)) fewest = bits;
        }

        private boolean isFewer(int bits) {
            if (fewest == NONE) return true;
            int more = Integer.bitCount(bits) - Integer.bitCount(fewest);
            return more < 0 || more == 0 && bits < fewest;
        }
    }

    /** People as they come: of each a name, a day of birth, a county. */
    private static final class People {
        private final int limit;
        private final Row letters;
        private final Row days;
        private final Row counties;
        private int size = 0;

        People(int limit) {
            this.limit = limit;
            letters = new Row(limit * LETTERS);
            days = new Row(limit);
            counties = new Row(limit);
        }

        int size() {
            return size;
        }

        boolean has(int person) {
            return person >= 0 && person < size;
        }

        int dayOf(int person) {
            return days.get(person);
        }

        boolean isOf(int person, int county) {
            return county == ALL || counties.get(person) == county;
        }

        int add(long name, int day, int county) {
            if (size >= limit) return FULL;
            for (int place = 0; place < LETTERS; place++) letters.set(size * LETTERS + place, letterAt(name, place));
            days.set(size, day);
            counties.set(size, county);
            size++;
            return size - 1;
        }

        int letter(int person, int place) {
            return letters.get(person * LETTERS + place);
        }

        int nameLength(int person) {
            int length = 0;
            for (int place = 0; place < LETTERS; place++) {
                if (letter(person, place) != 0) length++;
            }
            return length;
        }
    }

    /** Those who are listed, and the voters who are struck by them. */
    private static final class Roll {
        private final People listed = new People(LISTED);
        private final People voters = new People(VOTERS);
        private final Row alikenesses = new Row(VOTERS * LISTED);
        private final Row strengths = new Row(VOTERS * LISTED);
        private final Row strikers = new Row(VOTERS);
        private int threshold = 80;

        int addListed(long name, int day) {
            int one = listed.add(name, day, ALL);
            for (int voter = 0; voter < voters.size(); voter++) compare(voter, one);
            return one;
        }

        int addVoter(long name, int day, int county) {
            int voter = voters.add(name, day, county);
            for (int one = 0; one < listed.size(); one++) compare(voter, one);
            return voter;
        }

        /** Names and days never change, so that a pair is compared just once; days told unlike leave no strength. */
        private void compare(int voter, int one) {
            if (!hasVoter(voter) || !hasListed(one)) return;
            int longer = Math.max(voters.nameLength(voter), listed.nameLength(one));
            int alikeness = longer < 1 ? 0 : 100 * sameLetters(voter, one) / longer;
            boolean daysAllow = isDayUntold(voter, one) || voters.dayOf(voter) == listed.dayOf(one);
            alikenesses.set(pair(voter, one), alikeness);
            strengths.set(pair(voter, one), daysAllow ? alikeness : 0);
        }

        private static int pair(int voter, int one) {
            return voter * LISTED + one;
        }

        boolean hasListed(int one) {
            return listed.has(one);
        }

        boolean hasVoter(int voter) {
            return voters.has(voter);
        }

        int listedSize() {
            return listed.size();
        }

        int votersSize() {
            return voters.size();
        }

        int changeThreshold(int x) {
            int before = threshold;
            threshold = x;
            return before;
        }

        int alikeness(int voter, int one) {
            return alikenesses.get(pair(voter, one));
        }

        private int sameLetters(int voter, int one) {
            int same = 0;
            for (int place = 0; place < LETTERS; place++) {
                int letter = voters.letter(voter, place);
                if (letter != 0 && letter == listed.letter(one, place)) same++;
            }
            return same;
        }

        private boolean isDayUntold(int voter, int one) {
            return voters.dayOf(voter) < 0 || listed.dayOf(one) < 0;
        }

        /** A likeness asked for is 1 at least, so that nobody is struck without strength. */
        int struckAs(int voter) {
            int found = NONE;
            int most = threshold - 1;
            for (int one = 0; one < listed.size(); one++) {
                if (strengths.get(pair(voter, one)) > most) {
                    found = one;
                    most = strengths.get(pair(voter, one));
                }
            }
            return found;
        }

        /** 2: rightly, 1: it may be, 0: as somebody else. */
        int rightness(int voter) {
            int one = struckAs(voter);
            if (one == NONE) return NONE;
            if (isDayUntold(voter, one)) return 1;
            return alikeness(voter, one) == 100 ? 2 : 0;
        }

        int struckIn(int county, boolean wronglyOnly) {
            int struck = 0;
            for (int voter = 0; voter < voters.size(); voter++) {
                int right = voters.isOf(voter, county) ? rightness(voter) : NONE;
                if (right == 0 || right != NONE && !wronglyOnly) struck++;
            }
            return struck;
        }

        /** As many pairs can be as people are needed at least to have one of each pair in which one is struck by the other. */
        int paired() {
            for (int voter = 0; voter < voters.size(); voter++) strikers.set(voter, strikersOf(voter));
            int fewest = listed.size();
            for (int cover = 0; cover < 1 << listed.size(); cover++) {
                fewest = Math.min(fewest, Integer.bitCount(cover) + struckBeside(cover));
            }
            return fewest;
        }

        private int strikersOf(int voter) {
            int bits = 0;
            for (int one = 0; one < listed.size(); one++) {
                if (strengths.get(pair(voter, one)) >= threshold) bits |= 1 << one;
            }
            return bits;
        }

        /** How many voters are struck by somebody outside a set of listed ones. */
        private int struckBeside(int cover) {
            int struck = 0;
            for (int voter = 0; voter < voters.size(); voter++) {
                if ((strikers.get(voter) & ~cover) != 0) struck++;
            }
            return struck;
        }
    }

    /** The heaps of each county, the hours in which they may be counted, and who counts them. */
    private static final class Shifts {
        private final Row heaps = new Row(COUNTIES);
        private final Row speeds = new Row(COUNTIES);
        private final Row closed = new Row(HOURS);
        private final Row hoursOpen = new Row(COUNTY_SETS);
        private final Row todo = new Row(COUNTIES);
        private final Row hoursAhead = new Row(COUNTIES);
        private final Row placed = new Row(COUNTIES);

        Shifts() {
            speeds.fill(1);
        }

        /** Orders change a county's hours only where one of them begins. */
        void learn(Orders orders) {
            if (orders == null) return;
            int from = 0;
            for (int change = 0; change <= ITEMS && from < HOURS; change++) {
                int end = orders.nextOrder(from);
                int counties = orders.closedIn(from);
                for (int hour = from; hour < end; hour++) closed.set(hour, counties);
                from = end;
            }
        }

        int changeHeaps(int county, int v) {
            int before = heaps.get(county);
            heaps.set(county, v);
            return before;
        }

        int changeSpeed(int county, int v) {
            int before = speeds.get(county);
            speeds.set(county, v);
            return before;
        }

        private int workOf(int county) {
            return roundedUp(heaps.get(county), speeds.get(county));
        }

        private static int roundedUp(int many, int by) {
            return by < 1 ? NEVER : (many + by - 1) / by;
        }

        /** All can be done if each set of counties finds hands enough in the hours in which one of the set is open. */
        int handsNeeded(int g, int t) {
            sortHours(g, t);
            int needed = 1;
            for (int set = 1; set < COUNTY_SETS; set++) needed = Math.max(needed, handsFor(set));
            return needed;
        }

        private void sortHours(int g, int t) {
            hoursOpen.fill(0);
            for (int hour = g; hour < t; hour++) hoursOpen.add(COUNTY_SETS - 1 - closed.get(hour), 1);
        }

        private int handsFor(int set) {
            int work = 0;
            for (int county = 0; county < COUNTIES; county++) {
                if (hasBit(set, county)) work += workOf(county);
            }
            return work == 0 ? 0 : roundedUp(work, hoursFor(set));
        }

        private int hoursFor(int set) {
            int hours = 0;
            for (int open = 1; open < COUNTY_SETS; open++) {
                if ((open & set) != 0) hours += hoursOpen.get(open);
            }
            return hours;
        }

        /** More hours never hinder, so that the earliest end is found by halves. */
        int earliestEnd(int g, int k) {
            if (handsNeeded(g, HOURS) > k) return NONE;
            int early = g;
            int late = HOURS;
            for (int half = 0; half < HOURS && early < late; half++) {
                int middle = (early + late) / 2;
                if (handsNeeded(g, middle) > k) early = middle + 1;
                else late = middle;
            }
            return late;
        }

        /** Goes through the table from g on, made for all hours to ahead of t, to ahead of an end. */
        void work(int g, int t, int k, int end) {
            for (int county = 0; county < COUNTIES; county++) {
                todo.set(county, workOf(county));
                hoursAhead.set(county, openHours(county, g, t));
            }
            for (int hour = g; hour < end; hour++) placeHands(hour, k);
        }

        private int openHours(int county, int g, int t) {
            int hours = 0;
            for (int hour = g; hour < t; hour++) {
                if (isOpen(county, hour)) hours++;
            }
            return hours;
        }

        private boolean isOpen(int county, int hour) {
            return !hasBit(closed.get(hour), county);
        }

        private void placeHands(int hour, int k) {
            placed.fill(0);
            int free = k;
            for (int turn = 0; turn < COUNTIES && free > 0; turn++) {
                int county = scarcest(hour);
                if (county == NONE) break;
                int many = Math.min(free, todo.get(county));
                placed.set(county, many);
                todo.add(county, -many);
                free -= many;
            }
            for (int county = 0; county < COUNTIES; county++) {
                if (isOpen(county, hour)) hoursAhead.add(county, -1);
            }
        }

        /** Who has had hands in the hour waits no more: either its work is done or no hands are free. */
        private int scarcest(int hour) {
            int found = NONE;
            for (int county = 0; county < COUNTIES; county++) {
                boolean waits = isOpen(county, hour) && todo.get(county) > 0;
                if (waits && (found == NONE || hoursAhead.get(county) < hoursAhead.get(found))) found = county;
            }
            return found;
        }

        int placedIn(int county) {
            return placed.get(county);
        }

        int allTodo() {
            int all = 0;
            for (int county = 0; county < COUNTIES; county++) all += todo.get(county);
            return all;
        }
    }
}
