import java.util.Arrays;

/** A lighthouse that lets its light by colours; ../shared/DOC.md tells what each call answers. */
public final class LetByColours {
    public static final int BAD = -1, NO = -2, FULL = -3, NONE = -4;

    private static final int TEXT_ROOM = 200;
    private static final int TENANT_ROOM = 6;
    private static final int SHIP_ROOM = 5;
    private static final int LOOK_ROOM = 8;
    private static final int UNDO_ROOM = 8;
    private static final int KEEP_ROOM = 2;

    private static final int STRIPES = 24;
    private static final int ALL_STRIPES = 0xFFFFFF;
    private static final int WIDEST = 12;
    private static final int COLOURS = 4;
    private static final int DARK = 4;
    private static final int FOGS = 4;
    private static final int THICKEST_FOG = 3;
    private static final int TENTHS = 10;
    private static final int LAST_NIGHT = 999;
    /** As many as there are orders of TENANT_ROOM tenants. */
    private static final int ORDERS = 720;

    private static final int LUNAR = 1;
    private static final int SHARING = 2;
    private static final int PROUD = 3;

    private static final String FIRST_TEXT =
        "t0,0,6,5,0;t1,6,4,3,1;t2,9,5,8,2;t3,16,6,1,0;t1,20,2,2,3;s0,6;s8,4;s15,5;s22,4;f4,3,2;b20;";

    private final Letters text;
    private final Reader reader;
    private Leases laid;
    /** What fault and lay read into; lay swaps it with what was laid. */
    private Leases draft;
    private final State state;
    private final State coming;
    private final Pile undoable;
    private final Pile kept;
    private final Looks looks;
    private final Lamp lamp;
    private final Search search;

    public LetByColours() {
        text = new Letters();
        reader = new Reader();
        laid = new Leases();
        draft = new Leases();
        state = new State();
        coming = new State();
        undoable = new Pile(UNDO_ROOM);
        kept = new Pile(KEEP_ROOM);
        looks = new Looks();
        lamp = new Lamp();
        search = new Search();
        for (int i = 0; i < FIRST_TEXT.length(); i++) {
            text.append(FIRST_TEXT.charAt(i));
        }
        reader.readAll(text, laid);
        text.length = 0;
        state.begin(laid);
    }

    // ---- leases

    public int write(int letter) {
        if (!within(letter, 32, 126)) {
            return BAD;
        }
        return text.append(letter) ? text.length : FULL;
    }

    public int wipe() {
        int length = text.length;
        text.length = 0;
        return length;
    }

    public int fault() {
        return reader.readAll(text, draft);
    }

    public int lay() {
        if (reader.readAll(text, draft) != NONE || draft.tenants == 0) {
            return NO;
        }
        Leases former = laid;
        laid = draft;
        draft = former;
        state.begin(laid);
        looks.size = 0;
        undoable.size = 0;
        kept.size = 0;
        return laid.tenants;
    }

    public int tenant(int i, int what) {
        if (!isTenant(i)) {
            return BAD;
        }
        switch (what) {
            case 0: return laid.colour[i];
            case 1: return state.start[i];
            case 2: return state.width[i];
            case 3: return laid.rent[i];
            case 4: return laid.kind[i];
            case 5: return state.arrears[i];
            case 6: return state.arrears[i] > laid.limit ? 1 : 0;
            default: return BAD;
        }
    }

    public int ship(int k, int what) {
        if (!isShip(k) || !within(what, 0, 1)) {
            return BAD;
        }
        return what == 0 ? laid.shipStart[k] : laid.shipWidth[k];
    }

    public int stripe(int s, int what) {
        if (!isStripe(s) || !within(what, 0, 2)) {
            return BAD;
        }
        if (what == 2) {
            return state.smoked >> s & 1;
        }
        lightAsNow();
        return what == 0 ? lamp.colourAt(s) : lamp.ownerAt(s);
    }

    // ---- acts

    public int pass(int n) {
        if (!within(n, 1, 30)) {
            return BAD;
        }
        if (state.night + n > LAST_NIGHT) {
            return NO;
        }
        undoable.put(state);
        state.goBy(laid, n);
        return state.night;
    }

    public int pay(int i, int r) {
        if (!isTenant(i) || !within(r, 1, 99)) {
            return BAD;
        }
        undoable.put(state);
        state.arrears[i] = Math.max(0, state.arrears[i] - r);
        return state.arrears[i];
    }

    public int change(int i, int j) {
        if (!isTenant(i) || !isTenant(j) || i == j) {
            return BAD;
        }
        undoable.put(state);
        swap(state.start, i, j);
        swap(state.width, i, j);
        return state.start[i];
    }

    public int smoke(int s) {
        if (!isStripe(s)) {
            return BAD;
        }
        undoable.put(state);
        state.smoked ^= 1 << s;
        return state.smoked >> s & 1;
    }

    public int undo() {
        return undoable.takeInto(state) ? undoable.size : NO;
    }

    // ---- ships

    public int seen(int s, int fog) {
        if (!isStripe(s) || !isFog(fog)) {
            return BAD;
        }
        lightAsNow();
        return lamp.colourAt(s) < coloursSeenIn(fog) ? 1 : 0;
    }

    public int sign(int k, int fog) {
        if (!isShip(k) || !isFog(fog)) {
            return BAD;
        }
        lightAsNow();
        return lamp.firstSign(laid.shipSees[k], fog);
    }

    public int fleet(int fog) {
        if (fog != -1 && !isFog(fog)) {
            return BAD;
        }
        lightAsNow();
        return fog == -1 ? lamp.sureInAnyFog(laid) : lamp.sureShips(laid, fog);
    }

    // ---- what would be

    public int order(int i) {
        if (i != -1 && !isTenant(i)) {
            return BAD;
        }
        search.run(laid, state, lamp);
        return i == -1 ? search.bestSure : search.best[i];
    }

    public int needed(int fog) {
        if (!isFog(fog)) {
            return BAD;
        }
        lightAsNow();
        int paying = state.paying(laid);
        int now = Integer.bitCount(lamp.sureShips(laid, fog));
        int found = 0;
        for (int i = 0; i < laid.tenants; i++) {
            if (sureByLightOf(paying & ~(1 << i), fog) < now) {
                found |= 1 << i;
            }
        }
        return found;
    }

    public int least(int fog) {
        if (!isFog(fog)) {
            return BAD;
        }
        lightAsNow();
        int paying = state.paying(laid);
        int now = Integer.bitCount(lamp.sureShips(laid, fog));
        int found = laid.everybody();
        for (int set = 0; set <= laid.everybody(); set++) {
            boolean fewer = Integer.bitCount(set) < Integer.bitCount(found);
            if (fewer && sureByLightOf(paying & set, fog) >= now) {
                found = set;
            }
        }
        return found;
    }

    public int rock(int what) {
        if (!within(what, 0, 1)) {
            return BAD;
        }
        lightAsNow();
        int shining = lamp.owned & ~state.smoked;
        int paying = state.paying(laid);
        int first = NONE;
        int fewest = NONE;
        for (int s = 0; s < STRIPES; s++) {
            if ((shining >> s & 1) == 1) {
                lamp.show(laid, paying, state.smoked | 1 << s);
                int unsure = lamp.unsureInAllFogs(laid);
                if (first == NONE || unsure < fewest) {
                    first = s;
                    fewest = unsure;
                }
            }
        }
        return what == 0 ? first : fewest;
    }

    public int row(int a, int b, int c, int what) {
        if (!isColourOrDark(a) || !isColourOrDark(b) || !isColourOrDark(c) || !within(what, 0, 1)) {
            return BAD;
        }
        lightAsNow();
        int begun = 0;
        int first = NONE;
        for (int s = STRIPES - 1; s >= 0; s--) {
            if (lamp.colourAt(s) == a && lamp.colourAt((s + 1) % STRIPES) == b
                    && lamp.colourAt((s + 2) % STRIPES) == c) {
                begun++;
                first = s;
            }
        }
        return what == 0 ? begun : first;
    }

    // ---- what was looked at

    public int look(int s, int colour) {
        if (!isStripe(s) || !isColourOrDark(colour)) {
            return BAD;
        }
        return looks.append(s, colour) ? looks.size : FULL;
    }

    public int forget() {
        int size = looks.size;
        looks.size = 0;
        return size;
    }

    public int behind(int what) {
        if (!within(what, 0, 1)) {
            return BAD;
        }
        lamp.turn(laid, state);
        int everybody = laid.everybody();
        int fitting = 0;
        int first = NONE;
        for (int set = everybody; set >= 0; set--) {
            lamp.show(laid, everybody & ~set, state.smoked);
            if (looks.fit(lamp)) {
                fitting++;
                first = set;
            }
        }
        return what == 0 ? fitting : first;
    }

    public int panes() {
        lightAsNow();
        return Integer.bitCount(looks.darkStripes() & lamp.owned);
    }

    public int odds(int k, int part) {
        if (!isShip(k) || !within(part, 0, 1)) {
            return BAD;
        }
        lightAsNow();
        return partOfTenths(sureTenths(1 << k), part);
    }

    public int mean(int part) {
        if (!within(part, 0, 1)) {
            return BAD;
        }
        lightAsNow();
        return partOfTenths(sureTenths(laid.allShips()), part);
    }

    public int owed(int what) {
        if (!within(what, 0, 1)) {
            return BAD;
        }
        int sum = 0;
        for (int i = 0; i < laid.tenants; i++) {
            sum += what == 0 ? state.arrears[i] : laid.rent[i];
        }
        return sum;
    }

    public int weeks(int z, int n, int what) {
        if (!within(z, 0, 9999) || !within(n, 1, 60) || !within(what, 0, 1)) {
            return BAD;
        }
        coming.copy(state);
        int allSure = 0;
        int together = 0;
        for (int k = 0; k < n; k++) {
            lightAs(coming);
            int sure = Integer.bitCount(lamp.sureShips(laid, drawnFog(z, k)));
            together += sure;
            if (sure == laid.ships) {
                allSure++;
            }
            coming.goBy(laid, 1);
        }
        return what == 0 ? allSure : together;
    }

    // ---- kept

    public int keep() {
        if (kept.size == KEEP_ROOM) {
            return FULL;
        }
        kept.put(state);
        return kept.size;
    }

    public int back() {
        if (!kept.takeInto(state)) {
            return NO;
        }
        undoable.size = 0;
        return kept.size;
    }

    public int count(int what) {
        switch (what) {
            case 0: return laid.tenants;
            case 1: return laid.ships;
            case 2: return state.night;
            case 3: return Integer.bitCount(state.smoked);
            case 4: return laid.tenants - Integer.bitCount(state.paying(laid));
            case 5: return looks.size;
            case 6: return undoable.size;
            case 7: return kept.size;
            case 8: return text.length;
            default: return BAD;
        }
    }

    private static boolean within(int number, int low, int high) {
        return number >= low && number <= high;
    }

    private static boolean isStripe(int s) {
        return within(s, 0, STRIPES - 1);
    }

    private static boolean isFog(int fog) {
        return within(fog, 0, FOGS - 1);
    }

    private static boolean isColourOrDark(int colour) {
        return within(colour, 0, DARK);
    }

    private boolean isTenant(int i) {
        return within(i, 0, laid.tenants - 1);
    }

    private boolean isShip(int k) {
        return within(k, 0, laid.ships - 1);
    }

    /** Each fog hides the last of the colours that the one ahead of it leaves. */
    private static int coloursSeenIn(int fog) {
        return COLOURS - fog;
    }

    private static void swap(int[] row, int i, int j) {
        int former = row[i];
        row[i] = row[j];
        row[j] = former;
    }

    /** The stripes (bits) of a pattern (bit 0 its first stripe) that begins on one of them. */
    private static int stripesFrom(int start, int pattern) {
        long unbent = (long) pattern << start;
        return (int) ((unbent | unbent >>> STRIPES) & ALL_STRIPES);
    }

    private static int drawnFog(int z, int k) {
        long x = 7919L * z + 6151L * k + 1;
        long draw = x * x % 65521 / 4;
        return (int) (draw % FOGS);
    }

    private static int partOfTenths(int tenths, int part) {
        int shared = 1;
        for (int d = 2; d <= TENTHS; d++) {
            if (tenths % d == 0 && TENTHS % d == 0) {
                shared = d;
            }
        }
        return part == 0 ? tenths / shared : TENTHS / shared;
    }

    private void lightAsNow() {
        lightAs(state);
    }

    private void lightAs(State then) {
        lamp.turn(laid, then);
        lamp.show(laid, then.paying(laid), then.smoked);
    }

    private int sureByLightOf(int tenants, int fog) {
        lamp.show(laid, tenants, state.smoked);
        return Integer.bitCount(lamp.sureShips(laid, fog));
    }

    /** How often, in ten nights, ships out of these (bits) are sure, all of them together. */
    private int sureTenths(int ships) {
        int sum = 0;
        for (int fog = 0; fog < FOGS; fog++) {
            sum += laid.fogTenths[fog] * Integer.bitCount(lamp.sureShips(laid, fog) & ships);
        }
        return sum;
    }

    /** THE TEXT. */
    private static final class Letters {
        private final int[] row = new int[TEXT_ROOM];
        private int length;

        private boolean append(int letter) {
            if (length >= TEXT_ROOM) {
                return false;
            }
            row[length] = letter;
            length++;
            return true;
        }

        /** The letter at a place, or 0, which no letter is, behind the last one. */
        private int at(int place) {
            return within(place, 0, length - 1) ? row[place] : 0;
        }

        private boolean isFigure(int place) {
            return within(at(place), '0', '9');
        }
    }

    /** Reads a text item by item. */
    private static final class Reader {
        private static final int MOST_NUMBERS = 5;
        private final int[] numbers = new int[MOST_NUMBERS];

        /** The place of the first faulty item, or NONE; the leases then hold the whole text. */
        private int readAll(Letters text, Leases into) {
            into.clear();
            int place = 0;
            for (int items = 0; items < TEXT_ROOM && place < text.length; items++) {
                int next = readItem(text, place, into);
                if (next == NONE) {
                    return place;
                }
                place = next;
            }
            return NONE;
        }

        /** The place behind the item, or NONE if it is faulty. */
        private int readItem(Letters text, int place, Leases into) {
            int letter = text.at(place);
            int wanted = numbersBehind(letter);
            if (wanted == 0) {
                return NONE;
            }
            int at = place + 1;
            for (int n = 0; n < wanted; n++) {
                if (!text.isFigure(at)) {
                    return NONE;
                }
                int figures = text.isFigure(at + 1) ? 2 : 1;
                numbers[n] = numberAt(text, at, figures);
                at += figures;
                if (text.at(at) != (n == wanted - 1 ? ';' : ',')) {
                    return NONE;
                }
                at++;
            }
            return into.accept(letter, numbers) ? at : NONE;
        }

        private static int numbersBehind(int letter) {
            switch (letter) {
                case 't': return MOST_NUMBERS;
                case 's': return 2;
                case 'f': return 3;
                case 'b': return 1;
                default: return 0;
            }
        }

        private static int numberAt(Letters text, int place, int figures) {
            int number = 0;
            for (int i = 0; i < figures; i++) {
                number = number * 10 + text.at(place + i) - '0';
            }
            return number;
        }
    }

    /** What a text tells: it stays as it is until the next one is laid. */
    private static final class Leases {
        private int tenants;
        private final int[] colour = new int[TENANT_ROOM];
        private final int[] start = new int[TENANT_ROOM];
        private final int[] width = new int[TENANT_ROOM];
        private final int[] rent = new int[TENANT_ROOM];
        private final int[] kind = new int[TENANT_ROOM];
        private int ships;
        private final int[] shipStart = new int[SHIP_ROOM];
        private final int[] shipWidth = new int[SHIP_ROOM];
        private final int[] shipSees = new int[SHIP_ROOM];
        private final int[] fogTenths = new int[FOGS];
        private int limit;

        private void clear() {
            tenants = 0;
            ships = 0;
            setFog(4, 3, 2);
            limit = 20;
        }

        private int everybody() {
            return (1 << tenants) - 1;
        }

        private int allShips() {
            return (1 << ships) - 1;
        }

        private boolean accept(int letter, int[] numbers) {
            switch (letter) {
                case 't': return addTenant(numbers);
                case 's': return addShip(numbers[0], numbers[1]);
                case 'f': return setFog(numbers[0], numbers[1], numbers[2]);
                case 'b': return setLimit(numbers[0]);
                default: return false;
            }
        }

        private static boolean isPlace(int start, int width) {
            return within(start, 0, STRIPES - 1) && within(width, 1, WIDEST);
        }

        private boolean addTenant(int[] numbers) {
            if (tenants >= TENANT_ROOM || !within(numbers[0], 0, COLOURS - 1)
                    || !isPlace(numbers[1], numbers[2])
                    || !within(numbers[3], 0, 20) || !within(numbers[4], 0, PROUD)) {
                return false;
            }
            colour[tenants] = numbers[0];
            start[tenants] = numbers[1];
            width[tenants] = numbers[2];
            rent[tenants] = numbers[3];
            kind[tenants] = numbers[4];
            tenants++;
            return true;
        }

        private boolean addShip(int from, int many) {
            if (ships >= SHIP_ROOM || !isPlace(from, many)) {
                return false;
            }
            shipStart[ships] = from;
            shipWidth[ships] = many;
            shipSees[ships] = stripesFrom(from, (1 << many) - 1);
            ships++;
            return true;
        }

        private boolean setFog(int p, int q, int r) {
            if (p + q + r > TENTHS) {
                return false;
            }
            fogTenths[0] = p;
            fogTenths[1] = q;
            fogTenths[2] = r;
            fogTenths[3] = TENTHS - p - q - r;
            return true;
        }

        private boolean setLimit(int most) {
            if (most > 60) {
                return false;
            }
            limit = most;
            return true;
        }

        private boolean paysMostOfHisColour(int i) {
            for (int j = 0; j < tenants; j++) {
                if (colour[j] == colour[i] && rent[j] > rent[i]) {
                    return false;
                }
            }
            return true;
        }

        /** Where (bits) a tenant shines by his kind, on a place that may be another's. */
        private int shineOf(int i, int from, int many, int night) {
            boolean even = night % 2 == 0;
            int whole = (1 << many) - 1;
            switch (kind[i]) {
                case LUNAR: return even ? stripesFrom(from, whole) : 0;
                case SHARING: return stripesFrom(from, whole & (even ? 0x555 : 0xAAA));
                case PROUD: return paysMostOfHisColour(i) ? stripesFrom(from, whole) : 0;
                default: return stripesFrom(from, whole);
            }
        }
    }

    /** What acts change: the night, arrears, places and panes. */
    private static final class State {
        private int night;
        private final int[] arrears = new int[TENANT_ROOM];
        private final int[] start = new int[TENANT_ROOM];
        private final int[] width = new int[TENANT_ROOM];
        /** The stripes (bits) whose panes are smoked. */
        private int smoked;

        private void begin(Leases leases) {
            night = 0;
            smoked = 0;
            for (int i = 0; i < TENANT_ROOM; i++) {
                arrears[i] = 0;
                start[i] = leases.start[i];
                width[i] = leases.width[i];
            }
        }

        private void copy(State other) {
            night = other.night;
            smoked = other.smoked;
            for (int i = 0; i < TENANT_ROOM; i++) {
                arrears[i] = other.arrears[i];
                start[i] = other.start[i];
                width[i] = other.width[i];
            }
        }

        private void goBy(Leases leases, int nights) {
            night += nights;
            for (int i = 0; i < leases.tenants; i++) {
                arrears[i] += leases.rent[i] * nights;
            }
        }

        /** The tenants (bits) who are not behind. */
        private int paying(Leases leases) {
            int paying = 0;
            for (int i = 0; i < leases.tenants; i++) {
                if (arrears[i] <= leases.limit) {
                    paying |= 1 << i;
                }
            }
            return paying;
        }
    }

    /** States, the latest on top; when there is no room for one more, the oldest is lost. */
    private static final class Pile {
        private final State[] rows;
        private int bottom;
        private int size;

        private Pile(int room) {
            rows = new State[room];
            for (int i = 0; i < room; i++) {
                rows[i] = new State();
            }
        }

        private int rowAt(int height) {
            int row = bottom + height;
            return row < rows.length ? row : row - rows.length;
        }

        private void put(State state) {
            if (size == rows.length) {
                bottom = rowAt(1);
                size--;
            }
            rows[rowAt(size)].copy(state);
            size++;
        }

        private boolean takeInto(State state) {
            if (size == 0) {
                return false;
            }
            size--;
            state.copy(rows[rowAt(size)]);
            return true;
        }
    }

    /** What was looked at. */
    private static final class Looks {
        private final int[] stripe = new int[LOOK_ROOM];
        private final int[] colour = new int[LOOK_ROOM];
        private int size;

        private boolean append(int s, int ofColour) {
            if (size >= LOOK_ROOM) {
                return false;
            }
            stripe[size] = s;
            colour[size] = ofColour;
            size++;
            return true;
        }

        private boolean fit(Lamp lamp) {
            for (int i = 0; i < size; i++) {
                if (lamp.colourAt(stripe[i]) != colour[i]) {
                    return false;
                }
            }
            return true;
        }

        private int darkStripes() {
            int dark = 0;
            for (int i = 0; i < size; i++) {
                if (colour[i] == DARK) {
                    dark |= 1 << stripe[i];
                }
            }
            return dark;
        }
    }

    /** The light of one night: turned to where tenants shine, then shown for some of them. */
    private static final class Lamp {
        private final int[] shine = new int[TENANT_ROOM];
        /** The stripes (bits) that are each tenant's, of those who were shown. */
        private final int[] own = new int[TENANT_ROOM];
        private final int[] ofColour = new int[COLOURS];
        /** The stripes (bits) that are somebody's, smoked or not. */
        private int owned;

        private void turn(Leases leases, State then) {
            for (int i = 0; i < leases.tenants; i++) {
                shine[i] = leases.shineOf(i, then.start[i], then.width[i], then.night);
            }
        }

        private void show(Leases leases, int lit, int smoked) {
            owned = 0;
            Arrays.fill(own, 0);
            Arrays.fill(ofColour, 0);
            for (int i = 0; i < leases.tenants; i++) {
                if ((lit >> i & 1) == 1) {
                    own[i] = shine[i] & ~owned;
                    owned |= own[i];
                    ofColour[leases.colour[i]] |= own[i] & ~smoked;
                }
            }
        }

        private int colourAt(int s) {
            for (int c = 0; c < COLOURS; c++) {
                if ((ofColour[c] >> s & 1) == 1) {
                    return c;
                }
            }
            return DARK;
        }

        private int ownerAt(int s) {
            for (int i = 0; i < TENANT_ROOM; i++) {
                if ((own[i] >> s & 1) == 1) {
                    return i;
                }
            }
            return NONE;
        }

        private int firstSign(int sees, int fog) {
            for (int c = 0; c < coloursSeenIn(fog); c++) {
                if ((ofColour[c] & sees) != 0 && (ofColour[c] & ~sees) == 0) {
                    return c;
                }
            }
            return NONE;
        }

        private int sureShips(Leases leases, int fog) {
            int sure = 0;
            for (int k = 0; k < leases.ships; k++) {
                if (firstSign(leases.shipSees[k], fog) != NONE) {
                    sure |= 1 << k;
                }
            }
            return sure;
        }

        /** What is a sign in the thickest fog is one in all the others, which hide less. */
        private int sureInAnyFog(Leases leases) {
            return sureShips(leases, THICKEST_FOG);
        }

        private int unsureInAllFogs(Leases leases) {
            int unsure = 0;
            for (int fog = 0; fog < FOGS; fog++) {
                unsure += leases.ships - Integer.bitCount(sureShips(leases, fog));
            }
            return unsure;
        }
    }

    /** Goes through all ways to give tenants their places anew, in their order. */
    private static final class Search {
        /** Where each tenant (first index) would shine on each one's place (second). */
        private final int[][] shineAt = new int[TENANT_ROOM][TENANT_ROOM];
        private final int[] way = new int[TENANT_ROOM];
        private final int[] best = new int[TENANT_ROOM];
        private int bestSure;

        private void run(Leases leases, State now, Lamp lamp) {
            prepare(leases, now);
            int paying = now.paying(leases);
            boolean more = true;
            for (int tried = 0; tried < ORDERS && more; tried++) {
                for (int i = 0; i < leases.tenants; i++) {
                    lamp.shine[i] = shineAt[i][way[i]];
                }
                lamp.show(leases, paying, now.smoked);
                int sure = Integer.bitCount(lamp.sureInAnyFog(leases));
                if (sure > bestSure) {
                    bestSure = sure;
                    System.arraycopy(way, 0, best, 0, TENANT_ROOM);
                }
                more = bestSure < leases.ships && nextWay(leases.tenants);
            }
        }

        private void prepare(Leases leases, State now) {
            bestSure = -1;
            for (int i = 0; i < leases.tenants; i++) {
                way[i] = i;
                for (int j = 0; j < leases.tenants; j++) {
                    shineAt[i][j] = leases.shineOf(i, now.start[j], now.width[j], now.night);
                }
            }
        }

        /** Puts the way that comes next in order; false behind the last one. */
        private boolean nextWay(int size) {
            int rise = size - 2;
            while (rise >= 0 && way[rise] > way[rise + 1]) {
                rise--;
            }
            if (rise < 0) {
                return false;
            }
            int above = size - 1;
            while (above > rise && way[above] < way[rise]) {
                above--;
            }
            swap(way, rise, above);
            for (int low = rise + 1, high = size - 1; low < high; low++, high--) {
                swap(way, low, high);
            }
            return true;
        }
    }
}
