import java.util.ArrayDeque;
import java.util.ArrayList;
import java.util.Arrays;
import java.util.Deque;
import java.util.HashSet;
import java.util.List;
import java.util.Set;
import java.util.TreeSet;
import java.util.regex.Matcher;
import java.util.regex.Pattern;

/** The document once more, word by word and slowly, to be held against the class. */
final class Model {
    static final int BAD = -1, NO = -2, FULL = -3, NONE = -4;
    private static final Pattern ITEM = Pattern.compile("([a-z])([0-9]{1,2}(?:,[0-9]{1,2})*);");
    private static final String FIRST =
        "t0,0,6,5,0;t1,6,4,3,1;t2,9,5,8,2;t3,16,6,1,0;t1,20,2,2,3;s0,6;s8,4;s15,5;s22,4;f4,3,2;b20;";

    private record Tenant(int colour, int a, int n, int rent, int kind) { }
    private record Ship(int a, int n) { }
    private record Look(int s, int colour) { }

    /** All that acts change. */
    private record State(int night, List<Integer> arrears, List<int[]> places, Set<Integer> smoked) {
        State copy() {
            return new State(night, new ArrayList<>(arrears), new ArrayList<>(places), new HashSet<>(smoked));
        }
    }

    private String text = "";
    private List<Tenant> tenants = new ArrayList<>();
    private List<Ship> ships = new ArrayList<>();
    private int[] fog = {4, 3, 2, 1};
    private int limit = 20;
    private State now;
    private final Deque<State> undone = new ArrayDeque<>();
    private final Deque<State> kept = new ArrayDeque<>();
    private final List<Look> looked = new ArrayList<>();

    Model() {
        text = FIRST;
        lay();
        text = "";
    }

    int write(int letter) {
        if (letter < 32 || letter > 126) return BAD;
        if (text.length() == 200) return FULL;
        text += (char) letter;
        return text.length();
    }

    int wipe() {
        int was = text.length();
        text = "";
        return was;
    }

    int fault() {
        Model other = new Model(text);
        return other.faultFound;
    }

    private int faultFound = NONE;

    private Model(String told) {
        Matcher m = ITEM.matcher(told);
        int place = 0;
        while (place < told.length()) {
            m.region(place, told.length());
            if (!m.lookingAt() || !item(m.group(1), m.group(2).split(","))) {
                faultFound = place;
                return;
            }
            place = m.end();
        }
    }

    private boolean item(String letter, String[] figures) {
        int[] v = Arrays.stream(figures).mapToInt(Integer::parseInt).toArray();
        if (letter.equals("t") && v.length == 5) {
            tenants.add(new Tenant(v[0], v[1], v[2], v[3], v[4]));
            return tenants.size() <= 6 && v[0] <= 3 && v[1] <= 23 && v[2] >= 1 && v[2] <= 12 && v[3] <= 20 && v[4] <= 3;
        }
        if (letter.equals("s") && v.length == 2) {
            ships.add(new Ship(v[0], v[1]));
            return ships.size() <= 5 && v[0] <= 23 && v[1] >= 1 && v[1] <= 12;
        }
        if (letter.equals("f") && v.length == 3) {
            fog = new int[] {v[0], v[1], v[2], 10 - v[0] - v[1] - v[2]};
            return fog[3] >= 0;
        }
        if (letter.equals("b") && v.length == 1) {
            limit = v[0];
            return limit <= 60;
        }
        return false;
    }

    int lay() {
        Model other = new Model(text);
        if (other.faultFound != NONE || other.tenants.isEmpty()) return NO;
        tenants = other.tenants;
        ships = other.ships;
        fog = other.fog;
        limit = other.limit;
        List<Integer> none = new ArrayList<>();
        List<int[]> places = new ArrayList<>();
        for (Tenant t : tenants) {
            none.add(0);
            places.add(new int[] {t.a, t.n});
        }
        now = new State(0, none, places, new HashSet<>());
        undone.clear();
        kept.clear();
        looked.clear();
        return tenants.size();
    }

    private boolean isBehind(State s, int i) {
        return s.arrears.get(i) > limit;
    }

    private int behindBits(State s) {
        int bits = 0;
        for (int i = 0; i < tenants.size(); i++) if (isBehind(s, i)) bits |= 1 << i;
        return bits;
    }

    private boolean shines(int i, int nth, int night) {
        Tenant t = tenants.get(i);
        if (t.kind == 0) return true;
        if (t.kind == 1) return night % 2 == 0;
        if (t.kind == 2) return nth % 2 == night % 2;
        for (int j = 0; j < tenants.size(); j++) {
            if (j != i && tenants.get(j).colour == t.colour && tenants.get(j).rent > t.rent) return false;
        }
        return true;
    }

    private int whose(int s, int behind, List<int[]> places, int night) {
        for (int i = 0; i < tenants.size(); i++) {
            if ((behind >> i & 1) == 1) continue;
            for (int nth = 0; nth < places.get(i)[1]; nth++) {
                if ((places.get(i)[0] + nth) % 24 == s && shines(i, nth, night)) return i;
            }
        }
        return NONE;
    }

    private int[] colours(int behind, List<int[]> places, int night, Set<Integer> smoked) {
        int[] row = new int[24];
        for (int s = 0; s < 24; s++) {
            int i = whose(s, behind, places, night);
            row[s] = i == NONE || smoked.contains(s) ? 4 : tenants.get(i).colour;
        }
        return row;
    }

    private int[] colours(State s) {
        return colours(behindBits(s), s.places, s.night, s.smoked);
    }

    private static boolean isSeen(int colour, int inFog) {
        switch (inFog) {
            case 0: return colour <= 3;
            case 1: return colour <= 2;
            case 2: return colour <= 1;
            default: return colour == 0;
        }
    }

    private int firstSign(int[] row, int k, int inFog) {
        Set<Integer> sees = new TreeSet<>();
        for (int d = 0; d < ships.get(k).n; d++) sees.add((ships.get(k).a + d) % 24);
        for (int c = 0; c < 4; c++) {
            if (!isSeen(c, inFog)) continue;
            boolean inside = false;
            boolean outside = false;
            for (int s = 0; s < 24; s++) {
                if (row[s] == c && sees.contains(s)) inside = true;
                if (row[s] == c && !sees.contains(s)) outside = true;
            }
            if (inside && !outside) return c;
        }
        return NONE;
    }

    private int sureBits(int[] row, int inFog) {
        int bits = 0;
        for (int k = 0; k < ships.size(); k++) if (firstSign(row, k, inFog) != NONE) bits |= 1 << k;
        return bits;
    }

    private int anyFog(int[] row) {
        return sureBits(row, 0) & sureBits(row, 1) & sureBits(row, 2) & sureBits(row, 3);
    }

    int tenant(int i, int what) {
        if (i < 0 || i >= tenants.size() || what < 0 || what > 6) return BAD;
        Tenant t = tenants.get(i);
        int[] all = {t.colour, now.places.get(i)[0], now.places.get(i)[1], t.rent, t.kind,
            now.arrears.get(i), isBehind(now, i) ? 1 : 0};
        return all[what];
    }

    int ship(int k, int what) {
        if (k < 0 || k >= ships.size() || what < 0 || what > 1) return BAD;
        return what == 0 ? ships.get(k).a : ships.get(k).n;
    }

    int stripe(int s, int what) {
        if (s < 0 || s > 23 || what < 0 || what > 2) return BAD;
        if (what == 0) return colours(now)[s];
        if (what == 1) return whose(s, behindBits(now), now.places, now.night);
        return now.smoked.contains(s) ? 1 : 0;
    }

    private void act() {
        undone.addLast(now.copy());
        if (undone.size() > 8) undone.removeFirst();
    }

    private State after(State s, int nights) {
        State then = s.copy();
        for (int i = 0; i < tenants.size(); i++) {
            then.arrears.set(i, then.arrears.get(i) + nights * tenants.get(i).rent);
        }
        return new State(s.night + nights, then.arrears, then.places, then.smoked);
    }

    int pass(int n) {
        if (n < 1 || n > 30) return BAD;
        if (now.night + n > 999) return NO;
        act();
        now = after(now, n);
        return now.night;
    }

    int pay(int i, int r) {
        if (i < 0 || i >= tenants.size() || r < 1 || r > 99) return BAD;
        act();
        now.arrears.set(i, Math.max(0, now.arrears.get(i) - r));
        return now.arrears.get(i);
    }

    int change(int i, int j) {
        if (i < 0 || i >= tenants.size() || j < 0 || j >= tenants.size() || i == j) return BAD;
        act();
        int[] first = now.places.get(i);
        now.places.set(i, now.places.get(j));
        now.places.set(j, first);
        return now.places.get(i)[0];
    }

    int smoke(int s) {
        if (s < 0 || s > 23) return BAD;
        act();
        if (now.smoked.remove(s)) return 0;
        now.smoked.add(s);
        return 1;
    }

    int undo() {
        if (undone.isEmpty()) return NO;
        now = undone.removeLast();
        return undone.size();
    }

    int seen(int s, int inFog) {
        if (s < 0 || s > 23 || inFog < 0 || inFog > 3) return BAD;
        return isSeen(colours(now)[s], inFog) ? 1 : 0;
    }

    int sign(int k, int inFog) {
        if (k < 0 || k >= ships.size() || inFog < 0 || inFog > 3) return BAD;
        return firstSign(colours(now), k, inFog);
    }

    int fleet(int inFog) {
        if (inFog < -1 || inFog > 3) return BAD;
        return inFog == -1 ? anyFog(colours(now)) : sureBits(colours(now), inFog);
    }

    int order(int i) {
        if (i < -1 || i >= tenants.size()) return BAD;
        bestCount = -1;
        tryWays(new ArrayList<>());
        return i == -1 ? bestCount : bestWay.get(i);
    }

    private int bestCount;
    private List<Integer> bestWay;

    private void tryWays(List<Integer> way) {
        if (way.size() == tenants.size()) {
            List<int[]> places = new ArrayList<>();
            for (int j : way) places.add(now.places.get(j));
            int many = Integer.bitCount(anyFog(colours(behindBits(now), places, now.night, now.smoked)));
            if (many > bestCount) {
                bestCount = many;
                bestWay = new ArrayList<>(way);
            }
            return;
        }
        for (int j = 0; j < tenants.size(); j++) {
            if (!way.contains(j)) {
                way.add(j);
                tryWays(way);
                way.remove(way.size() - 1);
            }
        }
    }

    private int sureWithout(int away, int inFog) {
        return Integer.bitCount(sureBits(colours(behindBits(now) | away, now.places, now.night, now.smoked), inFog));
    }

    int needed(int inFog) {
        if (inFog < 0 || inFog > 3) return BAD;
        int bits = 0;
        for (int i = 0; i < tenants.size(); i++) {
            if (sureWithout(1 << i, inFog) < sureWithout(0, inFog)) bits |= 1 << i;
        }
        return bits;
    }

    int least(int inFog) {
        if (inFog < 0 || inFog > 3) return BAD;
        int all = (1 << tenants.size()) - 1;
        for (int many = 0; many <= tenants.size(); many++) {
            for (int set = 0; set <= all; set++) {
                if (Integer.bitCount(set) == many && sureWithout(all & ~set, inFog) >= sureWithout(0, inFog)) return set;
            }
        }
        return all;
    }

    int rock(int what) {
        if (what < 0 || what > 1) return BAD;
        int[] row = colours(now);
        int at = NONE;
        int fewest = NONE;
        for (int s = 0; s < 24; s++) {
            if (row[s] == 4) continue;
            int[] other = row.clone();
            other[s] = 4;
            int unsure = 0;
            for (int f = 0; f < 4; f++) {
                for (int k = 0; k < ships.size(); k++) if (firstSign(other, k, f) == NONE) unsure++;
            }
            if (at == NONE || unsure < fewest) {
                at = s;
                fewest = unsure;
            }
        }
        return what == 0 ? at : fewest;
    }

    int row(int a, int b, int c, int what) {
        for (int colour : new int[] {a, b, c}) if (colour < 0 || colour > 4) return BAD;
        if (what < 0 || what > 1) return BAD;
        int[] row = colours(now);
        List<Integer> begins = new ArrayList<>();
        for (int s = 0; s < 24; s++) {
            if (row[s] == a && row[(s + 1) % 24] == b && row[(s + 2) % 24] == c) begins.add(s);
        }
        if (what == 0) return begins.size();
        return begins.isEmpty() ? NONE : begins.get(0);
    }

    int look(int s, int colour) {
        if (s < 0 || s > 23 || colour < 0 || colour > 4) return BAD;
        if (looked.size() == 8) return FULL;
        looked.add(new Look(s, colour));
        return looked.size();
    }

    int forget() {
        int were = looked.size();
        looked.clear();
        return were;
    }

    int behind(int what) {
        if (what < 0 || what > 1) return BAD;
        List<Integer> sets = new ArrayList<>();
        for (int set = 0; set < 1 << tenants.size(); set++) {
            int[] row = colours(set, now.places, now.night, now.smoked);
            if (looked.stream().allMatch(l -> row[l.s] == l.colour)) sets.add(set);
        }
        if (what == 0) return sets.size();
        return sets.isEmpty() ? NONE : sets.get(0);
    }

    int panes() {
        Set<Integer> found = new HashSet<>();
        for (Look l : looked) {
            if (l.colour == 4 && whose(l.s, behindBits(now), now.places, now.night) != NONE) found.add(l.s);
        }
        return found.size();
    }

    private static int gcd(int a, int b) {
        return b == 0 ? a : gcd(b, a % b);
    }

    private static int lowest(int above, int part) {
        return (part == 0 ? above : 10) / gcd(above, 10);
    }

    int odds(int k, int part) {
        if (k < 0 || k >= ships.size() || part < 0 || part > 1) return BAD;
        int above = 0;
        for (int f = 0; f < 4; f++) if (firstSign(colours(now), k, f) != NONE) above += fog[f];
        return lowest(above, part);
    }

    int mean(int part) {
        if (part < 0 || part > 1) return BAD;
        int above = 0;
        for (int f = 0; f < 4; f++) above += fog[f] * Integer.bitCount(sureBits(colours(now), f));
        return lowest(above, part);
    }

    int owed(int what) {
        if (what < 0 || what > 1) return BAD;
        if (what == 0) return now.arrears.stream().mapToInt(x -> x).sum();
        return tenants.stream().mapToInt(Tenant::rent).sum();
    }

    int weeks(int z, int n, int what) {
        if (z < 0 || z > 9999 || n < 1 || n > 60 || what < 0 || what > 1) return BAD;
        int nights = 0;
        int together = 0;
        for (int k = 0; k < n; k++) {
            java.math.BigInteger x = java.math.BigInteger.valueOf(7919L * z + 6151L * k + 1);
            int draw = x.multiply(x).mod(java.math.BigInteger.valueOf(65521)).intValue() / 4;
            int sure = Integer.bitCount(sureBits(colours(after(now, k)), draw % 4));
            together += sure;
            if (sure == ships.size()) nights++;
        }
        return what == 0 ? nights : together;
    }

    int keep() {
        if (kept.size() == 2) return FULL;
        kept.addLast(now.copy());
        return kept.size();
    }

    int back() {
        if (kept.isEmpty()) return NO;
        now = kept.removeLast();
        undone.clear();
        return kept.size();
    }

    int count(int what) {
        if (what < 0 || what > 8) return BAD;
        return new int[] {tenants.size(), ships.size(), now.night, now.smoked.size(),
            Integer.bitCount(behindBits(now)), looked.size(), undone.size(), kept.size(), text.length()}[what];
    }
}
