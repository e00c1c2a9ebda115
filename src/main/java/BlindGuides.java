/** A walled city by night and the blind guides who lead through it; README.md tells how to use it. */
public final class BlindGuides {
    public static final int NONE = -1, UNKNOWN = -1000000001, OUTSIDE = -1000000002, NOT = -1000000003, FULL = -1000000004;

    private static final int MOST_LETTERS = 240;
    private static final int MOST_CROSSINGS = 8;
    private static final int TURNS = 3;
    private static final int SOUNDS = 6;
    private static final int MOST_GUIDES = 6;
    private static final int MOST_CLIENTS = 6;
    private static final int MOST_MOONS = 12;
    private static final int BRIGHT_MOON = 5;
    private static final int MOST_PAID = 999999;
    private static final int MOST_NIGHTS_A_CALL = 60;
    private static final int LAST_NIGHT_TO_CALL = 9000;
    private static final int MOST_STREETS_NOWHERE = 20;
    private static final int MOST_UNDONE = 16;
    private static final int MOST_IMAGES = 2;
    private static final int MOST_ENTRIES = 15;
    private static final int MOST_TURNS_HEARD = 8;
    private static final int MOST_TURNS_FOUND = 9;
    private static final int BILLION = 1000000000;

    private final int[] text;
    private int letters;
    private int faultAt;
    private final Reader reader;
    private City plan;
    private final State now;
    private final Past past;
    private final Images images;
    private final Heard heard;
    private final Book book;
    private final TurnSearch turnSearch;
    private final Matching matching;
    private int drawn;

    public BlindGuides() {
        text = new int[MOST_LETTERS];
        letters = 0;
        faultAt = NONE;
        reader = new Reader();
        plan = new City();
        now = new State();
        past = new Past();
        images = new Images();
        heard = new Heard();
        book = new Book();
        turnSearch = new TurnSearch();
        matching = new Matching();
        drawn = 0;
    }

    // ---- the city

    public int feed(int letter) {
        if (letter < 0 || letter > 255) {
            return OUTSIDE;
        }
        if (letters >= MOST_LETTERS) {
            return FULL;
        }
        put(text, letters, letter);
        letters++;
        return letters;
    }

    public int city() {
        int found = reader.read(text, letters);
        letters = 0;
        faultAt = reader.faultAt;
        if (found != 0) {
            return -10 - found;
        }
        plan = reader.giveFor(plan);
        now.startIn(plan);
        past.clear();
        images.clear();
        heard.clear();
        book.clear();
        return plan.crossings;
    }

    public int fault() {
        return faultAt;
    }

    public int told(int what) {
        switch (what) {
            case 0: return plan.crossings;
            case 1: return plan.guides;
            case 2: return plan.clients;
            case 3: return letters;
            case 4: return now.nights;
            case 5: return plan.moonOf(now.nights);
            case 6: return now.walls;
            case 7: return now.home;
            case 8: return now.paid;
            case 9: return whoMustTalk();
            case 10: return heard.turns;
            case 11: return heard.here();
            case 12: return book.entries;
            case 13: return past.count;
            default: return OUTSIDE;
        }
    }

    public int crossing(int x, int what) {
        if (!plan.hasCrossing(x)) {
            return UNKNOWN;
        }
        switch (what) {
            case 0: return at(plan.sounds, x);
            case 1:
            case 2:
            case 3: return plan.endOf(x, what - 1);
            case 4: return now.walls >> x & 1;
            default: return OUTSIDE;
        }
    }

    public int guide(int g, int what) {
        if (!plan.hasGuide(g)) {
            return UNKNOWN;
        }
        switch (what) {
            case 0: return at(now.stands, g);
            case 1: return at(plan.asks, g);
            case 2: return at(now.knows, g);
            case 3: return at(now.heads, g);
            case 4: return plan.reachFrom(at(now.stands, g), now.openTo(g));
            default: return OUTSIDE;
        }
    }

    public int client(int e, int what) {
        if (!plan.hasClient(e)) {
            return UNKNOWN;
        }
        switch (what) {
            case 0: return at(plan.from, e);
            case 1: return at(plan.to, e);
            case 2: return now.home >> e & 1;
            default: return OUTSIDE;
        }
    }

    /** The fewest guides whose heads have all that any head has: of like ones the least set. */
    private int whoMustTalk() {
        int all = headsOf((1 << plan.guides) - 1);
        int best = (1 << plan.guides) - 1;
        for (int set = best; set >= 0; set--) {
            if (headsOf(set) == all && Integer.bitCount(set) <= Integer.bitCount(best)) {
                best = set;
            }
        }
        return best;
    }

    private int headsOf(int guides) {
        int heads = 0;
        for (int g = 0; g < plan.guides; g++) {
            if ((guides >> g & 1) != 0) {
                heads |= at(now.heads, g);
            }
        }
        return heads;
    }

    // ---- what is done

    public int night(int n) {
        int refusal = refusalOfNights(n);
        if (refusal != 0) {
            return refusal;
        }
        past.keepAhead(now);
        now.passNights(n);
        return now.nights;
    }

    public int hire(int g, int e) {
        if (!plan.hasGuide(g) || !plan.hasClient(e)) {
            return UNKNOWN;
        }
        int streets = streetsFor(g, e);
        if (streets == NONE) {
            return NOT;
        }
        past.keepAhead(now);
        return leadHome(g, e, streets);
    }

    public int nowhere(int g, int n) {
        if (!plan.hasGuide(g)) {
            return UNKNOWN;
        }
        if (n < 1 || n > MOST_STREETS_NOWHERE) {
            return OUTSIDE;
        }
        past.keepAhead(now);
        int x = at(now.stands, g);
        for (int i = 0; i < n; i++) {
            int end = plan.endOf(x, 0);
            if ((now.openTo(g) >> end & 1) == 0) {
                break;
            }
            x = end;
        }
        put(now.stands, g, x);
        return x;
    }

    public int wall(int x, boolean is) {
        if (!plan.hasCrossing(x)) {
            return UNKNOWN;
        }
        past.keepAhead(now);
        int was = now.walls >> x & 1;
        if ((was != 0) != is) {
            now.walls ^= 1 << x;
        }
        return was;
    }

    public int learn(int g, int x) {
        if (!plan.hasGuide(g) || !plan.hasCrossing(x)) {
            return UNKNOWN;
        }
        int known = at(now.knows, g);
        if ((known >> x & 1) != 0) {
            return NOT;
        }
        past.keepAhead(now);
        put(now.knows, g, known | 1 << x);
        return known | 1 << x;
    }

    public int forget(int g) {
        if (!plan.hasGuide(g)) {
            return UNKNOWN;
        }
        past.keepAhead(now);
        int head = at(now.heads, g);
        put(now.heads, g, 0);
        return head;
    }

    public int drift(int n) {
        int refusal = refusalOfNights(n);
        if (refusal != 0) {
            return refusal;
        }
        past.keepAhead(now);
        for (int i = 0; i < n; i++) {
            passNightByDraws();
        }
        return now.paid;
    }

    public int undo() {
        if (past.count == 0) {
            return NOT;
        }
        past.bringBack(now);
        return past.count;
    }

    private int refusalOfNights(int n) {
        if (n < 1 || n > MOST_NIGHTS_A_CALL) {
            return OUTSIDE;
        }
        if (plan.crossings == 0) {
            return NOT;
        }
        return now.nights > LAST_NIGHT_TO_CALL ? FULL : 0;
    }

    /** How many streets the guide would lead the client by; NONE: he cannot, or the client is home. */
    private int streetsFor(int g, int e) {
        if ((now.home >> e & 1) != 0) {
            return NONE;
        }
        return plan.streetsBetween(at(plan.from, e), at(plan.to, e), now.openTo(g));
    }

    private int priceOf(int g, int streets) {
        int price = at(plan.asks, g) * streets;
        return plan.moonOf(now.nights) >= BRIGHT_MOON ? price / 2 : price;
    }

    /** Hires the guide, who can lead the client: his price, whole even where all that is paid cannot rise by as much. */
    private int leadHome(int g, int e, int streets) {
        int price = priceOf(g, streets);
        now.paid = Math.min(now.paid + price, MOST_PAID);
        now.home |= 1 << e;
        put(now.stands, g, at(plan.to, e));
        put(now.heads, g, at(now.heads, g) | 1 << e);
        return price;
    }

    private void passNightByDraws() {
        if (plan.guides > 0 && plan.clients > 0) {
            for (int i = 0; i < 3; i++) {
                int g = draw(plan.guides);
                int e = draw(plan.clients);
                int streets = streetsFor(g, e);
                if (streets != NONE) {
                    leadHome(g, e, streets);
                }
            }
        }
        if (draw(6) == 0) {
            now.walls ^= 1 << draw(plan.crossings);
        }
        now.passNights(1);
    }

    private int draw(int n) {
        drawn = (int) ((drawn * 1103515245L + 12345L) & 0x7fffffffL);
        return drawn / 65536 % Math.max(n, 1);
    }

    // ---- tried

    public int leads(int g, int e, int what) {
        if (!plan.hasGuide(g) || !plan.hasClient(e)) {
            return UNKNOWN;
        }
        if (what < 0 || what > 2) {
            return OUTSIDE;
        }
        int streets = streetsFor(g, e);
        if (streets == NONE || what == 0) {
            return streets;
        }
        if (what == 1) {
            return priceOf(g, streets);
        }
        return plan.firstTurnBetween(at(plan.from, e), at(plan.to, e), now.openTo(g));
    }

    public int way(int g, int a, int b) {
        if (!plan.hasGuide(g) || !plan.hasCrossing(a) || !plan.hasCrossing(b)) {
            return UNKNOWN;
        }
        return plan.streetsBetween(a, b, now.openTo(g));
    }

    public int match(int e) {
        if (e < -3 || e >= plan.clients) {
            return UNKNOWN;
        }
        matching.startWith(plan.guides, plan.clients);
        for (int k = 0; k < plan.clients; k++) {
            for (int g = 0; g < plan.guides; g++) {
                int streets = streetsFor(g, k);
                matching.allow(k, g, streets, streets == NONE ? 0 : priceOf(g, streets));
            }
        }
        matching.solve();
        switch (e) {
            case -1: return matching.most;
            case -2: return matching.longest;
            case -3: return matching.cost;
            default: return matching.guideOf(e);
        }
    }

    public int fromWherever(int set, int x, int what) {
        if (!plan.hasAll(set) || !plan.hasCrossing(x)) {
            return UNKNOWN;
        }
        if (what < 0 || what > 1) {
            return OUTSIDE;
        }
        return turnSearch.find(plan, set, x, what == 1);
    }

    public int meet(int set, int what) {
        if (!plan.hasAll(set)) {
            return UNKNOWN;
        }
        if (what < 0 || what > 1) {
            return OUTSIDE;
        }
        return turnSearch.find(plan, set, NONE, what == 1);
    }

    public int ring(int g) {
        if (!plan.hasGuide(g)) {
            return UNKNOWN;
        }
        return plan.streetsBackTo(at(now.stands, g), now.openTo(g));
    }

    public int allGoBy(int g, int a, int b) {
        if (!plan.hasGuide(g) || !plan.hasCrossing(a) || !plan.hasCrossing(b)) {
            return UNKNOWN;
        }
        int open = now.openTo(g);
        if (plan.streetsBetween(a, b, open) == NONE) {
            return 0;
        }
        int set = 0;
        for (int x = 0; x < plan.crossings; x++) {
            if (x != a && x != b && plan.streetsBetween(a, b, open & ~(1 << x)) == NONE) {
                set |= 1 << x;
            }
        }
        return set;
    }

    public int pose(int g, int set) {
        if (!plan.hasGuide(g) || !plan.hasAll(set)) {
            return UNKNOWN;
        }
        int known = at(now.knows, g);
        int pairs = 0;
        for (int a = 0; a < plan.crossings; a++) {
            for (int b = 0; b < plan.crossings; b++) {
                boolean asked = a != b && (known >> a & 1) != 0 && (known >> b & 1) != 0;
                if (asked && isBetrayed(a, b, now.openTo(g), set & ~now.walls)) {
                    pairs++;
                }
            }
        }
        return pairs;
    }

    public int clouds(int n, int q) {
        if (n < 0 || n > 60 || q < 0 || q > 100) {
            return OUTSIDE;
        }
        long odds = BILLION;
        for (int i = 0; i < n; i++) {
            odds = odds * q / 100;
        }
        return (int) odds;
    }

    /** Whether one to whom only poserOpen is open cannot lead from a to b by as few streets as one to whom open is. */
    private boolean isBetrayed(int a, int b, int open, int poserOpen) {
        int streets = plan.streetsBetween(a, b, open);
        if (streets == NONE) {
            return false;
        }
        int posed = plan.streetsBetween(a, b, poserOpen);
        return posed == NONE || posed > streets;
    }

    // ---- what is heard

    public int begin(int sound) {
        if (sound < 0 || sound >= SOUNDS) {
            return OUTSIDE;
        }
        heard.startWith(plan, sound);
        return heard.here();
    }

    public int hear(int turn, int sound) {
        if (turn < 0 || turn >= TURNS || sound < 0 || sound >= SOUNDS) {
            return OUTSIDE;
        }
        if (heard.turns == NONE) {
            return NOT;
        }
        if (heard.turns >= MOST_TURNS_HEARD) {
            return FULL;
        }
        heard.add(plan, turn, sound);
        return heard.here();
    }

    public int began() {
        return heard.starts;
    }

    public int listen() {
        return heard.bestTurn(plan);
    }

    public int write(int g, int x) {
        if (!plan.hasGuide(g) || !plan.hasCrossing(x)) {
            return UNKNOWN;
        }
        if (book.entries >= MOST_ENTRIES) {
            return FULL;
        }
        book.add(g, x);
        return book.entries;
    }

    public int tear() {
        int entries = book.entries;
        heard.clear();
        book.clear();
        return entries;
    }

    public int judge() {
        return book.firstWrong(now);
    }

    // ---- draws, images

    public int seed(int v) {
        if (v < 0) {
            return OUTSIDE;
        }
        int was = drawn;
        drawn = v;
        return was;
    }

    public int keep(int i) {
        if (i < 0 || i >= MOST_IMAGES) {
            return UNKNOWN;
        }
        images.take(i, now, drawn);
        past.clear();
        return 1;
    }

    public int goBack(int i) {
        if (i < 0 || i >= MOST_IMAGES) {
            return UNKNOWN;
        }
        if (!images.has(i)) {
            return NOT;
        }
        images.bringBack(i, now);
        drawn = images.drawnOf(i);
        past.clear();
        return 1;
    }

    // ---- rows: an index is looked at before it is used

    private static int at(int[] row, int i) {
        return i >= 0 && i < row.length ? row[i] : 0;
    }

    private static void put(int[] row, int i, int v) {
        if (i >= 0 && i < row.length) {
            row[i] = v;
        }
    }

    private static State stateAt(State[] row, int i) {
        return i >= 0 && i < row.length ? row[i] : null;
    }

    private static State[] newStates(int count) {
        State[] states = new State[count < 0 ? 0 : count];
        for (int i = 0; i < states.length; i++) {
            states[i] = new State();
        }
        return states;
    }

    /** What a text tells; two take turns, the one that is so and the reader's. */
    private static final class City {
        private int crossings;
        private int toldCrossings;
        private int guides;
        private int clients;
        private int moons;
        private final int[] sounds = new int[MOST_CROSSINGS];
        private final int[] ends = new int[MOST_CROSSINGS * TURNS];
        /** For each crossing the set of those one street away. */
        private final int[] nexts = new int[MOST_CROSSINGS];
        private final int[] stands = new int[MOST_GUIDES];
        private final int[] asks = new int[MOST_GUIDES];
        private final int[] knows = new int[MOST_GUIDES];
        private final int[] from = new int[MOST_CLIENTS];
        private final int[] to = new int[MOST_CLIENTS];
        private final int[] moonRow = new int[MOST_MOONS];

        private void startWith(int count) {
            crossings = count;
            toldCrossings = 0;
            guides = 0;
            clients = 0;
            moons = 0;
            // of a city without moons every night is the first one's
            put(moonRow, 0, 0);
            for (int x = 0; x < count; x++) {
                setCrossing(x, 0, x, x, x);
            }
        }

        private void addCrossing(int sound, int a, int b, int c) {
            setCrossing(toldCrossings, sound, a, b, c);
            toldCrossings++;
        }

        private void setCrossing(int x, int sound, int a, int b, int c) {
            put(sounds, x, sound);
            put(ends, x * TURNS, a);
            put(ends, x * TURNS + 1, b);
            put(ends, x * TURNS + 2, c);
            put(nexts, x, 1 << a | 1 << b | 1 << c);
        }

        private void addGuide(int x, int price, int known) {
            put(stands, guides, x);
            put(asks, guides, price);
            put(knows, guides, known);
            guides++;
        }

        private void addClient(int a, int b) {
            put(from, clients, a);
            put(to, clients, b);
            clients++;
        }

        private void addMoon(int moon) {
            put(moonRow, moons, moon);
            moons++;
        }

        private boolean hasCrossing(int x) {
            return x >= 0 && x < crossings;
        }

        private boolean hasGuide(int g) {
            return g >= 0 && g < guides;
        }

        private boolean hasClient(int e) {
            return e >= 0 && e < clients;
        }

        private boolean hasAll(int set) {
            return set >>> crossings == 0;
        }

        private int moonOf(int night) {
            return at(moonRow, night % Math.max(moons, 1));
        }

        private int endOf(int x, int turn) {
            return at(ends, x * TURNS + turn);
        }

        private int endsOf(int set, int turn) {
            int reached = 0;
            for (int x = 0; x < crossings; x++) {
                if ((set >> x & 1) != 0) {
                    reached |= 1 << endOf(x, turn);
                }
            }
            return reached;
        }

        /** Where one street from the set can lead; open are the crossings that may be led to. */
        private int ledFrom(int set, int open) {
            int reached = 0;
            for (int x = 0; x < crossings; x++) {
                if ((set >> x & 1) != 0) {
                    reached |= at(nexts, x);
                }
            }
            return reached & open;
        }

        private int reachFrom(int x, int open) {
            int set = 1 << x;
            for (int i = 0; i < crossings; i++) {
                set |= ledFrom(set, open);
            }
            return set;
        }

        /** The fewest streets from a to b; NONE. One stands at a, so that it need not be open. */
        private int streetsBetween(int a, int b, int open) {
            int set = 1 << a;
            for (int streets = 0; streets < crossings; streets++) {
                if ((set >> b & 1) != 0) {
                    return streets;
                }
                set |= ledFrom(set, open);
            }
            return NONE;
        }

        /** The first turn of the first of the shortest ways; NONE: there is no way, or no street in it. */
        private int firstTurnBetween(int a, int b, int open) {
            int streets = streetsBetween(a, b, open);
            if (streets <= 0) {
                return NONE;
            }
            for (int turn = 0; turn < TURNS; turn++) {
                int end = endOf(a, turn);
                if ((open >> end & 1) != 0 && streetsBetween(end, b, open) == streets - 1) {
                    return turn;
                }
            }
            return NONE;
        }

        private int streetsBackTo(int x, int open) {
            int set = ledFrom(1 << x, open);
            for (int streets = 1; streets <= crossings; streets++) {
                if ((set >> x & 1) != 0) {
                    return streets;
                }
                set |= ledFrom(set, open);
            }
            return NONE;
        }
    }

    /** Reads a text into a city, letter by letter, up to its first fault. */
    private static final class Reader {
        private static final int CANNOT_STAND = 1, OUT_OF_BOUNDS = 2, TOO_MANY = 3;
        private static final int END = -1;

        private int[] letters = new int[0];
        private int length;
        private int place;
        private int faultFound;
        private int faultAt = NONE;
        /** Not the one that is so: a text with a fault leaves that alone. There always is one. */
        private City city = new City();

        /** The number of the fault, or 0; where it is stands in faultAt then. */
        private int read(int[] text, int count) {
            letters = text;
            length = count;
            place = 0;
            faultFound = 0;
            faultAt = NONE;
            city.startWith(0);
            skipBlanks();
            for (int i = 0; i < MOST_LETTERS && place < length && faultFound == 0; i++) {
                readClause();
                skipBlanks();
            }
            return faultFound;
        }

        /** The city that was read; the next text is read into the other. */
        private City giveFor(City other) {
            City read = city;
            city = other;
            return read;
        }

        private void readClause() {
            int word = letter();
            if (city.crossings == 0 && word != 'n') {
                fail(CANNOT_STAND, place);
                return;
            }
            switch (word) {
                case 'n':
                    readCount();
                    break;
                case 'c':
                    readCrossing();
                    break;
                case 'g':
                    readGuide();
                    break;
                case 'e':
                    readClient();
                    break;
                case 'm':
                    readMoons();
                    break;
                default:
                    fail(CANNOT_STAND, place);
                    break;
            }
        }

        private void readCount() {
            takeWord(city.crossings == 0);
            int count = number(1, MOST_CROSSINGS);
            takeSign(';');
            if (faultFound == 0) {
                city.startWith(count);
            }
        }

        private void readCrossing() {
            takeWord(city.toldCrossings < city.crossings);
            int sound = number(0, SOUNDS - 1);
            int a = number(0, city.crossings - 1);
            int b = number(0, city.crossings - 1);
            int c = number(0, city.crossings - 1);
            takeSign(';');
            if (faultFound == 0) {
                city.addCrossing(sound, a, b, c);
            }
        }

        private void readGuide() {
            takeWord(city.guides < MOST_GUIDES);
            int x = number(0, city.crossings - 1);
            int price = number(0, 99);
            int known = number(1, (1 << city.crossings) - 1);
            takeSign(';');
            if (faultFound == 0) {
                city.addGuide(x, price, known);
            }
        }

        private void readClient() {
            takeWord(city.clients < MOST_CLIENTS);
            int a = number(0, city.crossings - 1);
            int b = number(0, city.crossings - 1);
            takeSign(';');
            if (faultFound == 0) {
                city.addClient(a, b);
            }
        }

        private void readMoons() {
            takeWord(city.moons == 0);
            boolean more = true;
            for (int i = 0; i < MOST_MOONS && more && faultFound == 0; i++) {
                city.addMoon(number(0, 9));
                skipBlanks();
                more = letter() == ',' && i + 1 < MOST_MOONS;
                if (more) {
                    place++;
                }
            }
            takeSign(';');
        }

        private void takeWord(boolean mayCome) {
            if (!mayCome) {
                fail(TOO_MANY, place);
            }
            place++;
        }

        private void takeSign(int sign) {
            skipBlanks();
            if (letter() != sign) {
                fail(CANNOT_STAND, place);
            }
            place++;
        }

        private int number(int least, int most) {
            skipBlanks();
            int first = place;
            int value = 0;
            for (int i = 0; i < MOST_LETTERS && isFigure(letter()); i++) {
                // a value above all bounds stays there: it need not grow with every figure
                value = Math.min(value * 10 + letter() - '0', 1000);
                place++;
            }
            if (place == first) {
                fail(CANNOT_STAND, first);
            } else if (place - first > 3 || value < least || value > most) {
                fail(OUT_OF_BOUNDS, first);
            }
            return value;
        }

        private static boolean isFigure(int letter) {
            return letter >= '0' && letter <= '9';
        }

        private void skipBlanks() {
            for (int i = 0; i < MOST_LETTERS && letter() == ' '; i++) {
                place++;
            }
        }

        private int letter() {
            return place >= 0 && place < length && place < letters.length ? letters[place] : END;
        }

        /** The text is read from its first letter on, so that the first fault found is the one to tell. */
        private void fail(int number, int where) {
            if (faultFound == 0) {
                faultFound = number;
                faultAt = where;
            }
        }
    }

    /** All that is done in a city: what can be undone, and what images keep. */
    private static final class State {
        private final int[] stands = new int[MOST_GUIDES];
        private final int[] knows = new int[MOST_GUIDES];
        private final int[] heads = new int[MOST_GUIDES];
        private int walls;
        private int home;
        private int nights;
        private int paid;

        private void startIn(City city) {
            for (int g = 0; g < MOST_GUIDES; g++) {
                put(stands, g, at(city.stands, g));
                put(knows, g, at(city.knows, g));
                put(heads, g, 0);
            }
            walls = 0;
            home = 0;
            nights = 0;
            paid = 0;
        }

        private void become(State other) {
            for (int g = 0; g < MOST_GUIDES; g++) {
                put(stands, g, at(other.stands, g));
                put(knows, g, at(other.knows, g));
                put(heads, g, at(other.heads, g));
            }
            walls = other.walls;
            home = other.home;
            nights = other.nights;
            paid = other.paid;
        }

        private void passNights(int n) {
            nights += n;
            home = 0;
        }

        /** The crossings (a set) to which the guide can lead from one street away. */
        private int openTo(int g) {
            return at(knows, g) & ~walls;
        }
    }

    /** What was so ahead of the latest deeds, in a ring: the newest takes the place of the oldest. */
    private static final class Past {
        private final State[] states = newStates(MOST_UNDONE);
        private int next;
        private int count;

        private void clear() {
            count = 0;
        }

        private void keepAhead(State now) {
            State free = stateAt(states, next);
            if (free != null) {
                free.become(now);
            }
            next = (next + 1) % MOST_UNDONE;
            count = Math.min(count + 1, MOST_UNDONE);
        }

        private void bringBack(State now) {
            next = (next + MOST_UNDONE - 1) % MOST_UNDONE;
            count = Math.max(count - 1, 0);
            State latest = stateAt(states, next);
            if (latest != null) {
                now.become(latest);
            }
        }
    }

    /** The images kept, with the seed of each. */
    private static final class Images {
        private final State[] states = newStates(MOST_IMAGES);
        private final int[] seeds = new int[MOST_IMAGES];
        private int kept;

        private void clear() {
            kept = 0;
        }

        private boolean has(int i) {
            return (kept >> i & 1) != 0;
        }

        private void take(int i, State now, int drawn) {
            State image = stateAt(states, i);
            if (image != null) {
                image.become(now);
            }
            put(seeds, i, drawn);
            kept |= 1 << i;
        }

        private void bringBack(int i, State now) {
            State image = stateAt(states, i);
            if (image != null) {
                now.become(image);
            }
        }

        private int drawnOf(int i) {
            return at(seeds, i);
        }
    }

    /** What was heard on the way: for each crossing where one can have begun, where one is by now. */
    private static final class Heard {
        private int turns = NONE;
        private int starts;
        private final int[] places = new int[MOST_CROSSINGS];

        private void clear() {
            turns = NONE;
            starts = 0;
        }

        private void startWith(City city, int sound) {
            turns = 0;
            starts = 0;
            for (int x = 0; x < city.crossings; x++) {
                put(places, x, x);
                if (at(city.sounds, x) == sound) {
                    starts |= 1 << x;
                }
            }
        }

        private void add(City city, int turn, int sound) {
            turns++;
            for (int x = 0; x < city.crossings; x++) {
                int end = city.endOf(at(places, x), turn);
                put(places, x, end);
                if (at(city.sounds, end) != sound) {
                    starts &= ~(1 << x);
                }
            }
        }

        private int here() {
            int set = 0;
            for (int x = 0; x < MOST_CROSSINGS; x++) {
                if ((starts >> x & 1) != 0) {
                    set |= 1 << at(places, x);
                }
            }
            return set;
        }

        private int bestTurn(City city) {
            int set = here();
            int best = NONE;
            int least = Integer.bitCount(set);
            for (int turn = 0; turn < TURNS; turn++) {
                int greatest = greatestPart(city, set, turn);
                if (greatest < least) {
                    least = greatest;
                    best = turn;
                }
            }
            return best;
        }

        /** The most crossings of the set behind which, by the turn, one and the same sound is heard. */
        private static int greatestPart(City city, int set, int turn) {
            int greatest = 0;
            for (int sound = 0; sound < SOUNDS; sound++) {
                int part = 0;
                for (int x = 0; x < city.crossings; x++) {
                    if ((set >> x & 1) != 0 && at(city.sounds, city.endOf(x, turn)) == sound) {
                        part++;
                    }
                }
                greatest = Math.max(greatest, part);
            }
            return greatest;
        }
    }

    /** What was written of where guides stand. */
    private static final class Book {
        private int entries;
        private final int[] guides = new int[MOST_ENTRIES];
        private final int[] crossings = new int[MOST_ENTRIES];

        private void clear() {
            entries = 0;
        }

        private void add(int g, int x) {
            put(guides, entries, g);
            put(crossings, entries, x);
            entries++;
        }

        private int firstWrong(State now) {
            for (int i = 0; i < entries; i++) {
                if (at(now.stands, at(guides, i)) != at(crossings, i)) {
                    return i;
                }
            }
            return NONE;
        }
    }

    /** Looks through the sets that turns make of a set, nearest first, for one of a single crossing. */
    private static final class TurnSearch {
        private static final int SETS = 1 << MOST_CROSSINGS;

        private final int[] queue = new int[SETS];
        private final int[] steps = new int[SETS];
        private final int[] figures = new int[SETS];
        private int waiting;

        /** How many turns, or their figures, lead the set to x (NONE: to any one crossing); NONE: none of the most do. */
        private int find(City city, int set, int x, boolean inFigures) {
            for (int i = 0; i < SETS; i++) {
                put(steps, i, NONE);
            }
            waiting = 0;
            reach(set, 0, 0);
            for (int i = 0; i < SETS && i < waiting; i++) {
                int reached = at(queue, i);
                if (isFound(reached, x)) {
                    return at(inFigures ? figures : steps, reached);
                }
                if (at(steps, reached) < MOST_TURNS_FOUND) {
                    reachFrom(city, reached);
                }
            }
            return NONE;
        }

        /** Sets are reached in the order of their figures, so that the first way to one is its least number. */
        private void reachFrom(City city, int set) {
            for (int turn = 0; turn < TURNS; turn++) {
                int reached = city.endsOf(set, turn);
                if (at(steps, reached) == NONE) {
                    reach(reached, at(steps, set) + 1, at(figures, set) * 10 + turn + 1);
                }
            }
        }

        private void reach(int set, int stepCount, int figureRow) {
            put(steps, set, stepCount);
            put(figures, set, figureRow);
            put(queue, waiting, set);
            waiting++;
        }

        private static boolean isFound(int set, int x) {
            return set == 0 || (x == NONE ? Integer.bitCount(set) == 1 : set == 1 << x);
        }
    }

    /** Who leads whom: the most clients, then the shortest longest way, then the least cost, then the first. */
    private static final class Matching {
        private static final int GUIDE_SETS = 1 << MOST_GUIDES;
        /** Above every cost of a matching: a worth is this for each client led, less the cost. */
        private static final int LED = 10000;

        private int guides;
        private int clients;
        private final int[] streets = new int[MOST_CLIENTS * MOST_GUIDES];
        private final int[] prices = new int[MOST_CLIENTS * MOST_GUIDES];
        /** For each client and set of guides taken: the best worth of this client and those behind. */
        private final int[] worths = new int[(MOST_CLIENTS + 1) * GUIDE_SETS];
        private int limit;
        private int most;
        private int longest;
        private int cost;

        private void startWith(int guideCount, int clientCount) {
            guides = guideCount;
            clients = clientCount;
        }

        private void allow(int e, int g, int streetCount, int price) {
            put(streets, e * MOST_GUIDES + g, streetCount);
            put(prices, e * MOST_GUIDES + g, price);
        }

        private void solve() {
            limit = MOST_CROSSINGS;
            fillWorths();
            most = clientsIn(worthOf(0, 0));
            limit = 0;
            fillWorths();
            for (int i = 0; i < MOST_CROSSINGS && clientsIn(worthOf(0, 0)) < most; i++) {
                limit++;
                fillWorths();
            }
            longest = limit;
            cost = most * LED - worthOf(0, 0);
        }

        private static int clientsIn(int worth) {
            return (worth + LED - 1) / LED;
        }

        private void fillWorths() {
            int sets = 1 << guides;
            for (int set = 0; set < sets; set++) {
                put(worths, clients * GUIDE_SETS + set, 0);
            }
            for (int e = clients - 1; e >= 0; e--) {
                for (int set = 0; set < sets; set++) {
                    int best = worthOf(e + 1, set);
                    for (int g = 0; g < guides; g++) {
                        best = Math.max(best, worthWith(e, set, g));
                    }
                    put(worths, e * GUIDE_SETS + set, best);
                }
            }
        }

        private int worthOf(int e, int taken) {
            return at(worths, e * GUIDE_SETS + taken);
        }

        /** The best worth of the client and those behind, if the guide leads him; NONE: that cannot be. */
        private int worthWith(int e, int taken, int g) {
            int way = at(streets, e * MOST_GUIDES + g);
            if ((taken >> g & 1) != 0 || way == NONE || way > limit) {
                return NONE;
            }
            return LED - at(prices, e * MOST_GUIDES + g) + worthOf(e + 1, taken | 1 << g);
        }

        private int guideOf(int client) {
            int taken = 0;
            int chosen = NONE;
            for (int e = 0; e <= client; e++) {
                chosen = chosenFor(e, taken);
                if (chosen != NONE) {
                    taken |= 1 << chosen;
                }
            }
            return chosen;
        }

        private int chosenFor(int e, int taken) {
            for (int g = 0; g < guides; g++) {
                if (worthWith(e, taken, g) == worthOf(e, taken)) {
                    return g;
                }
            }
            return NONE;
        }
    }
}
