import java.util.Arrays;

/** Lamps of the fewer: a town whose lamps go on or off at each bell as their neighbours do. */
public final class FewerLamps {
    public static final int BAD = -1, STATE = -2, FULL = -3, NONE = -9;
    public static final int NO = -1000000;

    private static final int LAMPS_MOST = 9;
    private static final int STREETS_MOST = 15;
    private static final int STANDS_MOST = 512;
    private static final int TEXT_MOST = 200;
    private static final int NUMBER_MOST = 99;
    private static final int BELLS_MOST = 999;
    private static final int TURNS_MOST = 3;
    private static final int KNOWN_MOST = 10;
    private static final int IMAGES = 2;
    private static final int AFTER_MOST = 600;
    private static final int SEEN_MOST = 60;
    private static final int THIEF_MOST = 99;
    private static final int SET_MOST = 3;
    private static final int KINDS = 6;

    private static final int FEWER = 0, OTHER = 2, NEVER = 3;

    private final Text text = new Text();
    private final Reader reader = new Reader(text);
    private final Town town = new Town();
    private final Present present = new Present();
    private final Present[] images = {new Present(), new Present()};
    private int keptImages;
    private final Bellwork work = new Bellwork(town);
    private final Bellwork trial = new Bellwork(town);
    private final Hands hands = new Hands(town, work);
    private final Kinds kinds = new Kinds(town, present);

    public FewerLamps() {
    }

    // ---- the town

    public int type(int c) {
        if (c < 0 || c > 255) {
            return BAD;
        }
        return text.add(c) ? text.length : FULL;
    }

    public int clear() {
        int had = text.length;
        text.length = 0;
        return had;
    }

    public int town() {
        if (!reader.read()) {
            return -10 - reader.place;
        }
        town.take(reader.draft);
        work.forget();
        trial.forget();
        present.begin(town.told);
        keptImages = 0;
        text.length = 0;
        return town.lamps + town.streets;
    }

    public int lamp(int l, int what) {
        if (!town.isLamp(l)) {
            return BAD;
        }
        switch (what) {
            case 0:
                return town.rules[l];
            case 1:
                return present.stand >> l & 1;
            case 2:
                return Integer.bitCount(town.roads[l]);
            case 3:
                return Integer.bitCount(workNow().near[l] & present.stand);
            case 4:
                return Integer.bitCount(workNow().near[l] & ~present.stand);
            default:
                return BAD;
        }
    }

    public int street(int s, int what) {
        if (!town.isStreet(s)) {
            return BAD;
        }
        switch (what) {
            case 0:
                return town.lesser[s];
            case 1:
                return town.greater[s];
            case 2:
                return present.fog >> s & 1;
            default:
                return BAD;
        }
    }

    // ---- bells

    public int bell() {
        if (present.bells >= BELLS_MOST) {
            return STATE;
        }
        present.remember();
        present.stand = workNow().struck(present.stand);
        present.bells++;
        present.turned = 0;
        return present.stand;
    }

    public int turn(int l) {
        if (!town.isLamp(l)) {
            return BAD;
        }
        if (present.turned >= TURNS_MOST) {
            return STATE;
        }
        present.remember();
        present.stand ^= 1 << l;
        present.turned++;
        return present.stand;
    }

    public int fog(int s, int is) {
        if (!town.isStreet(s) || is < 0 || is > 1) {
            return BAD;
        }
        if ((present.fog >> s & 1) == is) {
            return STATE;
        }
        present.remember();
        present.fog ^= 1 << s;
        return Integer.bitCount(present.fog);
    }

    public int undo() {
        if (present.known == 0) {
            return STATE;
        }
        present.recall();
        return present.known;
    }

    public int now(int what) {
        switch (what) {
            case 0:
                return present.bells;
            case 1:
                return present.stand;
            case 2:
                return Integer.bitCount(present.stand);
            case 3:
                return present.fog;
            case 4:
                return TURNS_MOST - present.turned;
            default:
                return BAD;
        }
    }

    // ---- what comes

    public int after(int n) {
        if (n < 0 || n > AFTER_MOST) {
            return BAD;
        }
        return workNow().struckOften(present.stand, n);
    }

    public int round(int what) {
        if (what < 0 || what > 1) {
            return BAD;
        }
        workNow().findRound(present.stand);
        return what == 0 ? work.lead : work.length;
    }

    public int again() {
        workNow().findRound(present.stand);
        return work.lead == 0 ? work.length : NONE;
    }

    public int ahead(int stand, int what) {
        if (!town.isStand(stand) || what < 0 || what > 1) {
            return BAD;
        }
        workNow();
        int many = 0;
        int least = NONE;
        for (int s = town.stands() - 1; s >= 0; s--) {
            if (work.struck(s) == stand) {
                many++;
                least = s;
            }
        }
        return what == 0 ? many : least;
    }

    public int eden() {
        return workNow().countUnmade();
    }

    // ---- hands

    public int lit(int some, int k, int what) {
        if (!town.isStand(some) || some == 0 || !isSeen(k) || what < 0 || what > 2) {
            return BAD;
        }
        workNow();
        hands.findLit(present.stand, some, k);
        if (hands.many == 0) {
            return NONE;
        }
        switch (what) {
            case 0:
                return hands.size;
            case 1:
                return hands.many;
            default:
                return hands.least;
        }
    }

    public int who(int n, int stand, int what) {
        if (!isSeen(n) || !town.isStand(stand) || what < 0 || what > 1) {
            return BAD;
        }
        workNow();
        hands.findWho(present.stand, n, stand);
        return what == 0 ? hands.many : hands.least;
    }

    public int thief(int from, int to) {
        if (!town.isLamp(from) || !town.isLamp(to)) {
            return BAD;
        }
        workNow();
        return hands.soonest(present.stand, from, to);
    }

    public int still(int what) {
        if (what < 0 || what > 1) {
            return BAD;
        }
        for (int a = 0; a < town.lamps; a++) {
            for (int b = a + 1; b < town.lamps; b++) {
                if (!town.isJoined(a, b) && stillsBy(a, b)) {
                    return what == 0 ? 10 * a + b : trial.lead;
                }
            }
        }
        return NONE;
    }

    public int mist(int stand) {
        if (!town.isStand(stand)) {
            return BAD;
        }
        int bits = 0;
        for (int s = 0; s < town.streets; s++) {
            int cloud = 1 << s;
            if ((present.fog & cloud) == 0 && standsInFog(present.fog | cloud) == stand) {
                bits |= cloud;
            }
        }
        return bits;
    }

    public int flickers(int l, int n) {
        if ((l != -1 && !town.isLamp(l)) || !isSeen(n)) {
            return BAD;
        }
        workNow();
        hands.countFlickers(present.stand, n);
        return l == -1 ? hands.mostFlickering() : hands.flicks[l];
    }

    // ---- kinds, images

    public int mark(int kind, int l) {
        if (kind < 0 || kind >= KINDS || !town.isLamp(l)) {
            return NO;
        }
        return kinds.markAs(kind, l);
    }

    public int keep(int image) {
        if (image < 0 || image >= IMAGES) {
            return BAD;
        }
        images[image].take(present);
        keptImages |= 1 << image;
        return present.bells;
    }

    public int back(int image) {
        if (image < 0 || image >= IMAGES) {
            return BAD;
        }
        if ((keptImages >> image & 1) == 0) {
            return STATE;
        }
        present.take(images[image]);
        return present.bells;
    }

    public int count(int what) {
        switch (what) {
            case 0:
                return town.lamps;
            case 1:
                return town.streets;
            case 2:
                return present.known;
            case 3:
                return text.length;
            default:
                return BAD;
        }
    }

    public long trace() {
        return kinds.trace;
    }

    private static boolean isSeen(int bells) {
        return bells >= 0 && bells <= SEEN_MOST;
    }

    /** All that looks ahead goes through here, so that it never uses another fog than the present one. */
    private Bellwork workNow() {
        work.lay(present.fog);
        return work;
    }

    private boolean stillsBy(int a, int b) {
        trial.lay(present.fog);
        trial.join(a, b);
        trial.findRound(present.stand);
        return trial.length == 1;
    }

    private int standsInFog(int fog) {
        trial.lay(fog);
        return trial.struck(present.stand);
    }

    /** THE TEXT, byte by byte. */
    private static final class Text {
        final int[] bytes = new int[TEXT_MOST];
        int length;

        boolean add(int c) {
            if (length >= TEXT_MOST) {
                return false;
            }
            bytes[length] = c;
            length++;
            return true;
        }

        /** The byte at a place, or -1 behind the last. */
        int at(int place) {
            return place >= 0 && place < length ? bytes[place] : -1;
        }
    }

    /** Lamps and streets, as a text tells them. */
    private static final class Town {
        int lamps;
        int streets;
        int told;
        final int[] rules = new int[LAMPS_MOST];
        final int[] lesser = new int[STREETS_MOST];
        final int[] greater = new int[STREETS_MOST];
        /** Of each lamp the lamps (bits) to which a street leads, in fog or not. */
        final int[] roads = new int[LAMPS_MOST];

        boolean isLamp(int l) {
            return l >= 0 && l < lamps;
        }

        boolean isStreet(int s) {
            return s >= 0 && s < streets;
        }

        boolean isStand(int stand) {
            return stand >= 0 && stand < stands();
        }

        int stands() {
            return 1 << lamps;
        }

        boolean isJoined(int a, int b) {
            return isLamp(a) && (roads[a] >> b & 1) == 1;
        }

        void empty() {
            lamps = 0;
            streets = 0;
            told = 0;
            Arrays.fill(roads, 0);
        }

        void addLamp(int rule, int on) {
            if (lamps < LAMPS_MOST) {
                rules[lamps] = rule;
                told |= on << lamps;
                lamps++;
            }
        }

        void addStreet(int a, int b) {
            if (streets < STREETS_MOST && isLamp(a) && isLamp(b)) {
                lesser[streets] = Math.min(a, b);
                greater[streets] = Math.max(a, b);
                roads[a] |= 1 << b;
                roads[b] |= 1 << a;
                streets++;
            }
        }

        void take(Town from) {
            lamps = from.lamps;
            streets = from.streets;
            told = from.told;
            System.arraycopy(from.rules, 0, rules, 0, LAMPS_MOST);
            System.arraycopy(from.lesser, 0, lesser, 0, STREETS_MOST);
            System.arraycopy(from.greater, 0, greater, 0, STREETS_MOST);
            System.arraycopy(from.roads, 0, roads, 0, LAMPS_MOST);
        }
    }

    /** Reads a text into a draft, so that a faulty text leaves the town as it is. */
    private static final class Reader {
        private static final int END = 0, LETTERS = 1, NUMBER = 2, SEMICOLON = 3, WRONG = 4;

        final Town draft = new Town();
        /** Where the latest token begins: FAULT, if that token can't stand there. */
        int place;
        private final Text text;
        private int reached;
        private int sort;
        private int value;

        Reader(Text text) {
            this.text = text;
        }

        boolean read() {
            reached = 0;
            draft.empty();
            for (int items = 0; items <= TEXT_MOST; items++) {
                nextToken();
                if (sort == END) {
                    return true;
                }
                if (!readItem()) {
                    return false;
                }
            }
            return false;
        }

        private boolean readItem() {
            if (sort != LETTERS) {
                return false;
            }
            if (value == 'l') {
                return draft.lamps < LAMPS_MOST && readLamp();
            }
            return value == 's' && draft.streets < STREETS_MOST && readStreet();
        }

        private boolean readLamp() {
            if (!readNumber(NEVER)) {
                return false;
            }
            int rule = value;
            if (!readNumber(1)) {
                return false;
            }
            int on = value;
            if (!readSemicolon()) {
                return false;
            }
            draft.addLamp(rule, on);
            return true;
        }

        private boolean readStreet() {
            if (!readNumber(draft.lamps - 1)) {
                return false;
            }
            int a = value;
            if (!readNumber(draft.lamps - 1) || value == a || draft.isJoined(a, value)) {
                return false;
            }
            int b = value;
            if (!readSemicolon()) {
                return false;
            }
            draft.addStreet(a, b);
            return true;
        }

        private boolean readNumber(int most) {
            nextToken();
            return sort == NUMBER && value <= most;
        }

        private boolean readSemicolon() {
            nextToken();
            return sort == SEMICOLON;
        }

        private void nextToken() {
            while (reached < text.length && text.at(reached) == ' ') {
                reached++;
            }
            place = reached;
            int c = text.at(reached);
            if (c < 0) {
                sort = END;
            } else if (isLetter(c)) {
                takeLetters();
            } else if (isDigit(c)) {
                takeDigits();
            } else {
                sort = c == ';' ? SEMICOLON : WRONG;
                reached++;
            }
        }

        /** Every word that may stand anywhere is one letter: of a longer one the value is none. */
        private void takeLetters() {
            sort = LETTERS;
            value = text.at(reached);
            reached++;
            while (reached < text.length && isLetter(text.at(reached))) {
                value = -1;
                reached++;
            }
        }

        private void takeDigits() {
            boolean zeroAhead = text.at(reached) == '0' && isDigit(text.at(reached + 1));
            value = 0;
            while (reached < text.length && isDigit(text.at(reached))) {
                // Held low, as 200 digits would wrap round.
                value = Math.min(10 * value + text.at(reached) - '0', NUMBER_MOST + 1);
                reached++;
            }
            sort = zeroAhead || value > NUMBER_MOST ? WRONG : NUMBER;
        }

        private static boolean isLetter(int c) {
            return c >= 'a' && c <= 'z';
        }

        private static boolean isDigit(int c) {
            return c >= '0' && c <= '9';
        }
    }

    /** What is NOW and what may be undone: just what an image keeps. */
    private static final class Present {
        private static final int WIDTH = 4;

        int bells;
        int stand;
        int turned;
        int fog;
        int known;
        /** What was ahead of each known deed, the oldest first, WIDTH numbers each. */
        private final int[] past = new int[KNOWN_MOST * WIDTH];

        void begin(int told) {
            bells = 0;
            stand = told;
            turned = 0;
            fog = 0;
            known = 0;
        }

        void remember() {
            if (known >= KNOWN_MOST) {
                System.arraycopy(past, WIDTH, past, 0, (KNOWN_MOST - 1) * WIDTH);
                known = KNOWN_MOST - 1;
            }
            int at = known * WIDTH;
            past[at] = bells;
            past[at + 1] = stand;
            past[at + 2] = turned;
            past[at + 3] = fog;
            known++;
        }

        void recall() {
            if (known <= 0) {
                return;
            }
            known--;
            int at = known * WIDTH;
            bells = past[at];
            stand = past[at + 1];
            turned = past[at + 2];
            fog = past[at + 3];
        }

        void take(Present from) {
            bells = from.bells;
            stand = from.stand;
            turned = from.turned;
            fog = from.fog;
            known = from.known;
            System.arraycopy(from.past, 0, past, 0, past.length);
        }
    }

    /** What bells make of the stands of a town, as long as fog and streets stay. */
    private static final class Bellwork {
        private static final int UNKNOWN = -1;

        private final Town town;
        /** Of each lamp its neighbours (bits). */
        final int[] near = new int[LAMPS_MOST];
        /** What a bell makes of a stand, or UNKNOWN until it is asked. */
        private final int[] made = new int[STANDS_MOST];
        private final int[] seen = new int[STANDS_MOST];
        private boolean laid;
        private int laidFog;
        int lead;
        int length;

        Bellwork(Town town) {
            this.town = town;
        }

        /** To be called when the town is another one. */
        void forget() {
            laid = false;
        }

        void lay(int fog) {
            if (laid && laidFog == fog) {
                return;
            }
            Arrays.fill(made, UNKNOWN);
            System.arraycopy(town.roads, 0, near, 0, LAMPS_MOST);
            for (int s = 0; s < town.streets; s++) {
                if ((fog >> s & 1) == 1) {
                    near[town.lesser[s]] &= ~(1 << town.greater[s]);
                    near[town.greater[s]] &= ~(1 << town.lesser[s]);
                }
            }
            laid = true;
            laidFog = fog;
        }

        /** One street more, just until the next lay: hence streets count as not laid. */
        void join(int a, int b) {
            if (!town.isLamp(a) || !town.isLamp(b)) {
                return;
            }
            near[a] |= 1 << b;
            near[b] |= 1 << a;
            Arrays.fill(made, UNKNOWN);
            laid = false;
        }

        int struck(int stand) {
            if (stand < 0 || stand >= STANDS_MOST) {
                return 0;
            }
            if (made[stand] == UNKNOWN) {
                made[stand] = strike(stand);
            }
            return made[stand];
        }

        private int strike(int stand) {
            int bits = 0;
            for (int l = 0; l < town.lamps; l++) {
                if (isOnBehind(l, stand)) {
                    bits |= 1 << l;
                }
            }
            return bits;
        }

        private boolean isOnBehind(int l, int stand) {
            boolean wasOn = (stand >> l & 1) == 1;
            int rule = town.rules[l];
            if (rule == OTHER) {
                return !wasOn;
            }
            int on = Integer.bitCount(near[l] & stand);
            int off = Integer.bitCount(near[l] & ~stand);
            if (rule == NEVER || on == off) {
                return wasOn;
            }
            return rule == FEWER ? on < off : on > off;
        }

        int struckOften(int stand, int bells) {
            int at = stand;
            for (int b = 0; b < bells; b++) {
                at = struck(at);
            }
            return at;
        }

        /** Finds lead, the bells behind which stands come round, and length, how many come round. */
        void findRound(int stand) {
            Arrays.fill(seen, UNKNOWN);
            int at = stand;
            for (int b = 0; b <= STANDS_MOST; b++) {
                if (at < 0 || at >= STANDS_MOST) {
                    return;
                }
                if (seen[at] != UNKNOWN) {
                    lead = seen[at];
                    length = b - lead;
                    return;
                }
                seen[at] = b;
                at = struck(at);
            }
        }

        int countUnmade() {
            Arrays.fill(seen, UNKNOWN);
            int unmade = town.stands();
            for (int s = 0; s < town.stands(); s++) {
                int to = struck(s);
                if (to >= 0 && to < STANDS_MOST && seen[to] == UNKNOWN) {
                    seen[to] = s;
                    unmade--;
                }
            }
            return unmade;
        }

        /** Whether some lamps are lit in this stand and in all that come behind it. */
        boolean isLitForEver(int stand, int some) {
            int at = stand;
            int anchor = stand;
            int anchorAgain = 1;
            for (int b = 1; b <= STANDS_MOST; b++) {
                if ((at & some) != some) {
                    return false;
                }
                at = struck(at);
                if (at == anchor) {
                    return true;
                }
                // An anchor set ever later comes to lie in the round: most rounds are short, so 512 bells are seldom needed.
                if (b == anchorAgain) {
                    anchor = at;
                    anchorAgain = 2 * b;
                }
            }
            return true;
        }
    }

    /** Hands that turn lamps, a thief, and eyes that see lamps flicker. */
    private static final class Hands {
        private final Town town;
        private final Bellwork work;
        int size;
        int many;
        int least;
        final int[] flicks = new int[LAMPS_MOST];

        Hands(Town town, Bellwork work) {
            this.town = town;
            this.work = work;
        }

        private void findNone() {
            size = SET_MOST;
            many = 0;
            least = NONE;
        }

        void findLit(int stand, int some, int k) {
            findNone();
            for (int set = 0; set < town.stands(); set++) {
                int turned = Integer.bitCount(set);
                if (turned <= size && work.isLitForEver(work.struckOften(stand ^ set, k), some)) {
                    if (many == 0 || turned < size) {
                        size = turned;
                        many = 0;
                        least = set;
                    }
                    many++;
                }
            }
        }

        void findWho(int stand, int n, int told) {
            findNone();
            for (int set = 0; set < town.stands(); set++) {
                if (Integer.bitCount(set) <= SET_MOST && work.struckOften(stand ^ set, n) == told) {
                    if (many == 0) {
                        least = set;
                    }
                    many++;
                }
            }
        }

        int soonest(int stand, int from, int to) {
            int at = stand;
            int places = (1 << from) & ~at;
            for (int b = 0; b <= THIEF_MOST; b++) {
                if ((places >> to & 1) == 1) {
                    return b;
                }
                at = work.struck(at);
                places = withRoads(places) & ~at;
            }
            return NONE;
        }

        private int withRoads(int places) {
            int all = places;
            for (int l = 0; l < town.lamps; l++) {
                if ((places >> l & 1) == 1) {
                    all |= town.roads[l];
                }
            }
            return all;
        }

        void countFlickers(int stand, int n) {
            Arrays.fill(flicks, 0);
            int at = stand;
            for (int b = 0; b < n; b++) {
                int then = work.struck(at);
                for (int l = 0; l < town.lamps; l++) {
                    flicks[l] += (at ^ then) >> l & 1;
                }
                at = then;
            }
        }

        int mostFlickering() {
            int most = NONE;
            for (int l = 0; l < town.lamps; l++) {
                if (most < 0 || flicks[l] > flicks[most]) {
                    most = l;
                }
            }
            return most;
        }
    }

    /** Lamps by kinds: each kind's body asks that of the kind above it. */
    private static final class Kinds {
        private final Town town;
        private final Present present;
        long trace;

        Kinds(Town town, Present present) {
            this.town = town;
            this.present = present;
        }

        int markAs(int kind, int l) {
            switch (kind) {
                case 1:
                    return asCorner(l);
                case 2:
                    return asBroken(l);
                case 3:
                    return asHarbour(l);
                case 4:
                    return asAlley(l);
                case 5:
                    return asBrides(l);
                default:
                    return asLamp(l);
            }
        }

        private int asLamp(int l) {
            trace += 1;
            return present.stand >> l & 1;
        }

        private int asCorner(int l) {
            trace += 10;
            return asLamp(l) + Integer.bitCount(town.roads[l]);
        }

        private int asBroken(int l) {
            trace += 100;
            return asLamp(l) - town.rules[l];
        }

        private int asHarbour(int l) {
            trace += 1000;
            return asCorner(l) * 2;
        }

        private int asAlley(int l) {
            trace += 10000;
            return asBroken(l) + l;
        }

        private int asBrides(int l) {
            trace += 100000;
            return asLamp(l) + Integer.bitCount(present.stand);
        }
    }
}
