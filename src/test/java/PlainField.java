import java.util.ArrayList;
import java.util.Comparator;
import java.util.HashMap;
import java.util.HashSet;
import java.util.List;
import java.util.Map;
import java.util.Set;
import java.util.TreeMap;
import java.util.TreeSet;

/**
 * The document once more, written for being read and not for the rules of LANGUAGE.md: what
 * RandomTest holds OpalField's answers against. It shares no code and no way of holding the state.
 */
final class PlainField {
    private static final class Claim {
        int owner, row, column, rows, columns, pegged, touched, shafts;
        final Map<Integer, Integer> partners = new TreeMap<>();
        final Map<Integer, Integer> witnesses = new TreeMap<>();
        final List<Stone> parcel = new ArrayList<>();
    }

    private static final class Stone {
        int number, cell, found, depth, claim, rubs;
        Integer person, buyer;
        final List<int[]> bids = new ArrayList<>();
    }

    private int now = 0;
    private final Map<Integer, int[]> seams = new TreeMap<>();
    private final Set<Integer> open = new TreeSet<>();
    private final Set<Integer> rubble = new TreeSet<>();
    private final Set<Integer> props = new TreeSet<>();
    private final Map<Integer, Integer> traps = new TreeMap<>();
    private final List<Claim> claims = new ArrayList<>();
    private final List<Stone> stones = new ArrayList<>();
    /** The hours at which each PERSON was CAUGHT. */
    private final Map<Integer, List<Integer>> catches = new HashMap<>();

    long call(String name, int[] a) {
        switch (name) {
            case "seam": return seam(a[0], a[1], a[2]);
            case "pass": return pass(a[0]);
            case "peg": return peg(a[0], a[1], a[2], a[3]);
            case "witness": return witness(a[0], a[1], a[2]);
            case "partner": return partner(a[0], a[1], a[2]);
            case "dig": return dig(a[0], a[1], a[2], false);
            case "sink": return dig(a[0], a[1], a[2], true);
            case "prop": return prop(a[0], a[1], a[2]);
            case "trap": return trap(a[0], a[1], a[2]);
            case "rat": return rat(a[0], a[1]);
            case "divide": return divide(a[0]);
            case "rub": return rub(a[0]);
            case "bid": return bid(a[0], a[1], a[2]);
            case "sell": return sell(a[0]);
            case "hour": return now;
            case "bore": return bore(a[0]);
            case "ofCell": return ofCell(a[0], a[1]);
            case "ofClaim": return ofClaim(a[0], a[1]);
            case "share": cl(a[0]); bound(a[1], 8); return shareOf(claims.get(a[0]), a[1]);
            case "verdict": return verdict(a[0], a[1]);
            case "ofPerson": return ofPerson(a[0], a[1]);
            case "ofStone": return ofStone(a[0], a[1]);
            case "purse": bound(a[0], 5); return purseOf(a[0]);
            case "carats": return carats(a[0]);
            default:
                cl(a[0]);
                range(a[1], 0, 3);
                return most(a[0], a[1], open);
        }
    }

    private static void bound(int value, int limit) {
        if (value < 0 || value >= limit) throw new IndexOutOfBoundsException();
    }

    private static void range(int value, int low, int high) {
        if (value < low || value > high) throw new IllegalArgumentException();
    }

    private static void no(boolean wrong) {
        if (wrong) throw new IllegalStateException();
    }

    private Claim cl(int claim) {
        bound(claim, claims.size());
        return claims.get(claim);
    }

    private Stone st(int stone) {
        bound(stone, stones.size());
        return stones.get(stone);
    }

    private int seam(int cell, int carats, int depth) {
        bound(cell, 100);
        range(carats, 1, 999);
        range(depth, 0, 9);
        no(open.contains(cell) || rubble.contains(cell) || seams.containsKey(cell));
        seams.put(cell, new int[] {carats, depth});
        return 0;
    }

    private int pass(int hours) {
        range(hours, 1, 99);
        no(now + hours > 5000);
        return now += hours;
    }

    private int peg(int person, int cell, int rows, int columns) {
        bound(person, 8);
        bound(cell, 100);
        range(rows, 1, 4);
        range(columns, 1, 4);
        range(cell / 10 + rows - 1, 0, 9);
        range(cell % 10 + columns - 1, 0, 9);
        no(claims.size() == 12 || barred(person) > 0);
        Claim c = new Claim();
        c.owner = person;
        c.row = cell / 10;
        c.column = cell % 10;
        c.rows = rows;
        c.columns = columns;
        c.pegged = c.touched = now;
        claims.add(c);
        return claims.indexOf(c);
    }

    private int witness(int claim, int person, int hour) {
        Claim c = cl(claim);
        bound(person, 8);
        range(hour, 0, now);
        no(shareOf(c, person) > 0 || c.witnesses.containsKey(person));
        c.witnesses.put(person, hour);
        return hourOf(c);
    }

    private static int hourOf(Claim c) {
        List<Integer> told = new ArrayList<>(c.witnesses.values());
        if (told.isEmpty()) return c.pegged;
        told.sort(Comparator.naturalOrder());
        while (told.size() > 2) {
            told.remove(told.size() - 1);
            told.remove(0);
        }
        return told.get(0);
    }

    private int partner(int claim, int person, int twelfths) {
        Claim c = cl(claim);
        bound(person, 8);
        range(twelfths, 1, 11);
        no(shareOf(c, person) > 0 || shareOf(c, c.owner) - twelfths < 1);
        c.partners.put(person, twelfths);
        return shareOf(c, c.owner);
    }

    private static int shareOf(Claim c, int person) {
        if (person != c.owner) return c.partners.getOrDefault(person, 0);
        return 12 - c.partners.values().stream().mapToInt(x -> x).sum();
    }

    private boolean live(Claim c) {
        return now - c.touched < 72;
    }

    private static Set<Integer> rectangle(Claim c) {
        Set<Integer> cells = new TreeSet<>();
        for (int i = 0; i < c.rows; i++) for (int j = 0; j < c.columns; j++) cells.add((c.row + i) * 10 + c.column + j);
        return cells;
    }

    private int holder(int cell) {
        return claims.stream().filter(c -> live(c) && rectangle(c).contains(cell))
                .min(Comparator.comparingInt(PlainField::hourOf).thenComparingInt(claims::indexOf))
                .map(claims::indexOf).orElse(-1);
    }

    private static List<Integer> neighbours(int cell) {
        List<Integer> all = new ArrayList<>();
        for (int other = 0; other < 100; other++) {
            int far = Math.abs(other / 10 - cell / 10) + Math.abs(other % 10 - cell % 10);
            if (far == 1) all.add(other);
        }
        return all;
    }

    private static boolean diggable(int cell, Set<Integer> openNow) {
        return !openNow.contains(cell) && neighbours(cell).stream().anyMatch(openNow::contains);
    }

    private int barred(int person) {
        int hours = 0;
        for (int at : catches.getOrDefault(person, List.of())) hours = Math.max(hours, at + 168 - now);
        return hours;
    }

    private Claim hand(int claim, int person, int cell) {
        Claim c = cl(claim);
        bound(person, 8);
        bound(cell, 100);
        no(shareOf(c, person) == 0 || barred(person) > 0 || holder(cell) != claim);
        return c;
    }

    private int dig(int claim, int person, int cell, boolean shaft) {
        Claim c = hand(claim, person, cell);
        no(shaft ? open.contains(cell) || c.shafts == 2 : !diggable(cell, open));
        if (shaft) c.shafts++;
        c.touched = now;
        traps.remove(cell);
        Stone s = uncover(cell);
        if (s == null) return 0;
        s.claim = claim;
        c.parcel.add(s);
        return s.found;
    }

    private Stone uncover(int cell) {
        Stone s = null;
        boolean full = seams.containsKey(cell) && stones.stream().noneMatch(x -> x.cell == cell);
        open.add(cell);
        rubble.remove(cell);
        if (full) {
            s = new Stone();
            s.number = stones.size();
            s.cell = cell;
            s.claim = -1;
            s.found = seams.get(cell)[0];
            s.depth = seams.get(cell)[1];
            stones.add(s);
        }
        Set<Integer> fallen = falling(cell, open);
        open.removeAll(fallen);
        rubble.addAll(fallen);
        return s;
    }

    private Set<Integer> falling(int cell, Set<Integer> openNow) {
        Set<Integer> fallen = new HashSet<>();
        for (boolean row : new boolean[] {true, false}) {
            Set<Integer> side = new HashSet<>(Set.of(cell));
            boolean grew = true;
            while (grew) {
                Set<Integer> more = new HashSet<>(side);
                for (int s : side) for (int n : neighbours(s))
                    if (openNow.contains(n) && !props.contains(n) && (row ? n / 10 == cell / 10 : n % 10 == cell % 10)) more.add(n);
                grew = more.size() > side.size();
                side = more;
            }
            if (side.size() > 3) fallen.addAll(side);
        }
        return fallen;
    }

    private int prop(int claim, int person, int cell) {
        hand(claim, person, cell);
        no(!open.contains(cell) || props.contains(cell));
        props.add(cell);
        return 0;
    }

    private int trap(int claim, int person, int cell) {
        hand(claim, person, cell);
        no(open.contains(cell) || traps.containsKey(cell) || trapsOf(claim) >= 3);
        traps.put(cell, claim);
        return (int) trapsOf(claim);
    }

    private long trapsOf(int claim) {
        return traps.values().stream().filter(x -> x == claim).count();
    }

    private int rat(int person, int cell) {
        bound(person, 8);
        bound(cell, 100);
        no(!Set.of(21, 22, 23, 0, 1, 2, 3, 4).contains(now % 24) || barred(person) > 0);
        no(holder(cell) < 0 || shareOf(claims.get(holder(cell)), person) > 0 || !diggable(cell, open));
        if (traps.remove(cell) != null) {
            catches.computeIfAbsent(person, x -> new ArrayList<>()).add(now);
            return -1;
        }
        Stone s = uncover(cell);
        if (s == null) return 0;
        s.person = person;
        return s.found;
    }

    private int divide(int claim) {
        Claim c = cl(claim);
        no(c.parcel.isEmpty());
        int whole = c.parcel.stream().mapToInt(s -> s.found).sum();
        List<Stone> order = new ArrayList<>(c.parcel);
        order.sort(Comparator.comparingInt((Stone s) -> -s.found).thenComparingInt(s -> s.number));
        for (Stone s : order) {
            Integer best = null;
            long bestWant = 0;
            for (int p = 0; p < 8; p++) {
                int person = p;
                if (shareOf(c, p) == 0) continue;
                int got = c.parcel.stream().filter(x -> x.person != null && x.person == person).mapToInt(x -> x.found).sum();
                long want = (long) shareOf(c, p) * whole - 12L * got;
                if (best == null || want > bestWant) {
                    best = p;
                    bestWant = want;
                }
            }
            s.person = best;
        }
        c.parcel.clear();
        return order.size();
    }

    private static int caratsOf(Stone s) {
        int left = s.found;
        for (int i = 0; i < s.rubs; i++) left -= left / 10;
        return left;
    }

    private static int shineOf(Stone s) {
        return s.rubs < s.depth ? 0 : s.rubs - s.depth > 2 ? 2 : 1;
    }

    private int rub(int stone) {
        Stone s = st(stone);
        no(s.person == null || s.buyer != null || shineOf(s) == 2);
        s.rubs++;
        return caratsOf(s);
    }

    private int bid(int buyer, int stone, int price) {
        bound(buyer, 5);
        Stone s = st(stone);
        range(price, 1, 99999);
        no(s.person == null || s.buyer != null || s.bids.stream().anyMatch(b -> b[0] == buyer));
        s.bids.add(new int[] {buyer, price});
        return s.bids.size();
    }

    private int paid(Stone s) {
        return s.bids.stream().filter(b -> b[0] == s.buyer).findFirst().get()[1];
    }

    private int purseOf(int buyer) {
        return 20000 - stones.stream().filter(s -> s.buyer != null && s.buyer == buyer).mapToInt(this::paid).sum();
    }

    private int sell(int stone) {
        Stone s = st(stone);
        no(s.person == null || s.buyer != null);
        List<int[]> good = new ArrayList<>(s.bids);
        good.removeIf(b -> b[1] > purseOf(b[0]));
        no(good.isEmpty());
        good.sort(Comparator.comparingInt(b -> -b[1]));
        return s.buyer = good.get(0)[0];
    }

    private boolean full(int cell) {
        return seams.containsKey(cell) && stones.stream().noneMatch(s -> s.cell == cell);
    }

    private long bore(int cell) {
        bound(cell, 100);
        return (full(cell) ? 1 : 0) + neighbours(cell).stream().filter(this::full).count();
    }

    private int ofCell(int cell, int what) {
        bound(cell, 100);
        range(what, 0, 3);
        int kind = open.contains(cell) ? 1 : rubble.contains(cell) ? 2 : 0;
        return new int[] {kind, props.contains(cell) ? 1 : 0, traps.containsKey(cell) ? 1 : 0, holder(cell)}[what];
    }

    private long ofClaim(int claim, int what) {
        Claim c = cl(claim);
        range(what, 0, 6);
        long held = rectangle(c).stream().filter(x -> holder(x) == claim).count();
        return new long[] {c.owner, hourOf(c), live(c) ? 1 : 0, held, c.shafts, c.parcel.size(),
            live(c) ? c.touched + 72 - now : 0}[what];
    }

    private int verdict(int first, int second) {
        Claim a = cl(first);
        Claim b = cl(second);
        if (first == second) throw new IllegalArgumentException();
        Set<Integer> common = rectangle(a);
        common.retainAll(rectangle(b));
        if (common.isEmpty() || !live(a) || !live(b)) return -1;
        int by = hourOf(a) - hourOf(b);
        return by < 0 ? first : by > 0 ? second : Math.min(first, second);
    }

    private long ofPerson(int person, int what) {
        bound(person, 8);
        range(what, 0, 3);
        long money = stones.stream().filter(s -> s.buyer != null && s.person == person).mapToInt(this::paid).sum();
        long has = stones.stream().filter(s -> s.buyer == null && s.person != null && s.person == person).count();
        return new long[] {money, barred(person), has, catches.getOrDefault(person, List.of()).size()}[what];
    }

    private int ofStone(int stone, int what) {
        Stone s = st(stone);
        range(what, 0, 7);
        int value = caratsOf(s) * new int[] {2, 10, 0}[shineOf(s)];
        return new int[] {caratsOf(s), shineOf(s), s.person == null ? -1 : s.person, s.claim, value,
            s.buyer == null ? -1 : s.buyer, s.rubs, s.cell}[what];
    }

    private int carats(int what) {
        range(what, 0, 5);
        int[] all = new int[6];
        for (int cell : seams.keySet()) {
            all[0] += seams.get(cell)[0];
            all[1] += full(cell) ? seams.get(cell)[0] : 0;
        }
        for (Stone s : stones) {
            all[s.person == null ? 2 : s.buyer == null ? 3 : 4] += caratsOf(s);
            all[5] += s.found - caratsOf(s);
        }
        return all[what];
    }

    private int most(int claim, int digs, Set<Integer> openNow) {
        int best = 0;
        if (digs == 0 || !live(claims.get(claim))) return 0;
        for (int cell : rectangle(claims.get(claim))) {
            if (!diggable(cell, openNow) || holder(cell) != claim) continue;
            Set<Integer> then = new TreeSet<>(openNow);
            then.add(cell);
            if (!falling(cell, then).isEmpty()) continue;
            best = Math.max(best, (full(cell) ? seams.get(cell)[0] : 0) + most(claim, digs - 1, then));
        }
        return best;
    }
}
