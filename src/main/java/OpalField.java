import java.util.ArrayList;
import java.util.Arrays;

/**
 * An opal field, as ../shared/DOC.md tells of it. Words in capitals here are the words that the
 * document explains under "Terms".
 */
public final class OpalField {
    public static final int NONE = -1;
    public static final int SOLID = 0, OPEN = 1, RUBBLE = 2;
    public static final int RAW = 0, SHINES = 1, DEAD = 2;

    private static final int SIDE = 10, CELLS = SIDE * SIDE;
    private static final int PERSONS = 8, BUYERS = 5;
    private static final int LAST_HOUR = 5000, LONGEST_PASS = 99, DAY = 24;
    private static final int DUSK = 21, LAST_OF_NIGHT = 4;
    private static final int MOST_CARATS = 999, MOST_DEPTH = 9;
    private static final int MOST_CLAIMS = 12, LONGEST_EDGE = 4, TWELFTHS = 12;
    private static final int IDLE_HOURS = 72, BARRED_HOURS = 168;
    private static final int MOST_SHAFTS = 2, MOST_TRAPS = 3, MOST_LOOSE = 3;
    private static final int RUBS_THAT_SHINE = 2;
    private static final int FULL_PURSE = 20000, HIGHEST_PRICE = 99999;
    private static final int MOST_DIGS = 3;

    private final Ground ground;
    private final ArrayList<Claim> claims;
    private final ArrayList<Stone> stones;
    private final int[] money;
    private final int[] barredTo;
    private final int[] caught;
    private final int[] purses;
    /** Rows that divide and plan write anew each time, kept so that no call makes any. */
    private final int[] given;
    private final int[] diggable;
    private int now;

    public OpalField() {
        ground = new Ground();
        claims = new ArrayList<Claim>();
        stones = new ArrayList<Stone>();
        money = new int[PERSONS];
        barredTo = new int[PERSONS];
        caught = new int[PERSONS];
        purses = new int[BUYERS];
        Arrays.fill(purses, FULL_PURSE);
        given = new int[PERSONS];
        diggable = new int[LONGEST_EDGE * LONGEST_EDGE];
    }

    // ---- ground, hours

    public void seam(int cell, int carats, int depth)
            throws IndexOutOfBoundsException, IllegalArgumentException, IllegalStateException {
        needCell(cell);
        needRange(carats, 1, MOST_CARATS);
        needRange(depth, 0, MOST_DEPTH);
        if (ground.state[cell] != SOLID) {
            throw new IllegalStateException("the cell is not solid");
        }
        if (ground.told[cell] > 0) {
            throw new IllegalStateException("the cell was told");
        }
        ground.told[cell] = carats;
        ground.carats[cell] = carats;
        ground.depth[cell] = depth;
    }

    public int pass(int hours) throws IllegalArgumentException, IllegalStateException {
        needRange(hours, 1, LONGEST_PASS);
        if (now + hours > LAST_HOUR) {
            throw new IllegalStateException("there are no more hours");
        }
        now += hours;
        return now;
    }

    // ---- claims

    public int peg(int person, int cell, int rows, int columns)
            throws IndexOutOfBoundsException, IllegalArgumentException, IllegalStateException {
        needPerson(person);
        needCell(cell);
        needRange(rows, 1, LONGEST_EDGE);
        needRange(columns, 1, LONGEST_EDGE);
        if (cell / SIDE + rows > SIDE || cell % SIDE + columns > SIDE) {
            throw new IllegalArgumentException("the rectangle leaves the ground");
        }
        if (claims.size() >= MOST_CLAIMS) {
            throw new IllegalStateException("there are no more claims");
        }
        needFree(person);
        claims.add(new Claim(person, cell, rows, columns, now));
        return claims.size() - 1;
    }

    public int witness(int claim, int person, int hour)
            throws IndexOutOfBoundsException, IllegalArgumentException, IllegalStateException {
        Claim witnessed = claimAt(claim);
        needPerson(person);
        needRange(hour, 0, now);
        if (witnessed.isOfPeople(person)) {
            throw new IllegalStateException("the person is one of the people");
        }
        if (witnessed.hoursTold[person] != NONE) {
            throw new IllegalStateException("the person witnessed it");
        }
        witnessed.hoursTold[person] = hour;
        witnessed.hour = witnessed.middleHourTold();
        return witnessed.hour;
    }

    public int partner(int claim, int person, int twelfths)
            throws IndexOutOfBoundsException, IllegalArgumentException, IllegalStateException {
        Claim joined = claimAt(claim);
        needPerson(person);
        needRange(twelfths, 1, TWELFTHS - 1);
        if (joined.isOfPeople(person)) {
            throw new IllegalStateException("the person is one of the people");
        }
        if (joined.shares[joined.owner] <= twelfths) {
            throw new IllegalStateException("the owner would have nothing");
        }
        joined.shares[joined.owner] -= twelfths;
        joined.shares[person] = twelfths;
        return joined.shares[joined.owner];
    }

    // ---- digging

    public int dig(int claim, int person, int cell) throws IndexOutOfBoundsException, IllegalStateException {
        Claim worked = claimAtHand(claim, person, cell);
        if (!ground.canBeDug(cell)) {
            throw new IllegalStateException("the cell cannot be dug");
        }
        return work(worked, claim, cell);
    }

    public int sink(int claim, int person, int cell) throws IndexOutOfBoundsException, IllegalStateException {
        Claim worked = claimAtHand(claim, person, cell);
        if (ground.isOpen(cell)) {
            throw new IllegalStateException("the cell is open");
        }
        if (worked.shafts >= MOST_SHAFTS) {
            throw new IllegalStateException("the claim has its shafts");
        }
        worked.shafts++;
        return work(worked, claim, cell);
    }

    public void prop(int claim, int person, int cell) throws IndexOutOfBoundsException, IllegalStateException {
        claimAtHand(claim, person, cell);
        if (!ground.isOpen(cell)) {
            throw new IllegalStateException("the cell is not open");
        }
        if (ground.propped[cell]) {
            throw new IllegalStateException("the cell is propped");
        }
        ground.propped[cell] = true;
    }

    public int trap(int claim, int person, int cell) throws IndexOutOfBoundsException, IllegalStateException {
        claimAtHand(claim, person, cell);
        if (ground.isOpen(cell)) {
            throw new IllegalStateException("the cell is open");
        }
        if (ground.trapper[cell] != NONE) {
            throw new IllegalStateException("a trap lies there");
        }
        if (ground.trapsOf(claim) >= MOST_TRAPS) {
            throw new IllegalStateException("the claim has its traps");
        }
        ground.trapper[cell] = claim;
        return ground.trapsOf(claim);
    }

    public int rat(int person, int cell) throws IndexOutOfBoundsException, IllegalStateException {
        needPerson(person);
        needCell(cell);
        if (!isNight()) {
            throw new IllegalStateException("it is day");
        }
        needFree(person);
        int holder = holderOf(cell);
        if (holder == NONE || claimAt(holder).isOfPeople(person) || !ground.canBeDug(cell)) {
            throw new IllegalStateException("the cell cannot be ratted");
        }
        if (ground.trapper[cell] == NONE) {
            return uncover(cell, NONE, person);
        }
        ground.trapper[cell] = NONE;
        barredTo[person] = now + BARRED_HOURS;
        caught[person]++;
        return NONE;
    }

    // ---- stones

    public int divide(int claim) throws IndexOutOfBoundsException, IllegalStateException {
        Claim divided = claimAt(claim);
        int count = stonesInParcel(claim);
        if (count == 0) {
            throw new IllegalStateException("the parcel has no stones");
        }
        int whole = caratsInParcel(claim);
        Arrays.fill(given, 0);
        for (int i = 0; i < count; i++) {
            int stone = heaviestInParcel(claim);
            if (stone != NONE) {
                Stone next = stoneAt(stone);
                next.person = divided.mostWanting(whole, given);
                given[next.person] += next.carats;
            }
        }
        return count;
    }

    public int rub(int stone) throws IndexOutOfBoundsException, IllegalStateException {
        Stone rubbed = stoneAt(stone);
        needOfPerson(rubbed);
        if (rubbed.lustre() == DEAD) {
            throw new IllegalStateException("the stone is dead");
        }
        int loss = rubbed.carats / 10;
        rubbed.carats -= loss;
        rubbed.lost += loss;
        rubbed.rubs++;
        return rubbed.carats;
    }

    public int bid(int buyer, int stone, int price)
            throws IndexOutOfBoundsException, IllegalArgumentException, IllegalStateException {
        needBuyer(buyer);
        Stone wanted = stoneAt(stone);
        needRange(price, 1, HIGHEST_PRICE);
        needOfPerson(wanted);
        if (wanted.prices[buyer] > 0) {
            throw new IllegalStateException("the buyer has bid");
        }
        wanted.prices[buyer] = price;
        wanted.turns[buyer] = wanted.bids;
        wanted.bids++;
        return wanted.bids;
    }

    public int sell(int stone) throws IndexOutOfBoundsException, IllegalStateException {
        Stone sold = stoneAt(stone);
        needOfPerson(sold);
        int buyer = sold.bestBidder(purses);
        if (buyer == NONE) {
            throw new IllegalStateException("no purse has what was bid");
        }
        sold.buyer = buyer;
        purses[buyer] -= sold.prices[buyer];
        money[sold.person] += sold.prices[buyer];
        return buyer;
    }

    // ---- what there is; nothing from here on changes anything

    public int hour() {
        return now;
    }

    public int bore(int cell) throws IndexOutOfBoundsException {
        needCell(cell);
        return ground.caratsAround(cell);
    }

    public int ofCell(int cell, int what) throws IndexOutOfBoundsException, IllegalArgumentException {
        needCell(cell);
        switch (what) {
            case 0:
                return ground.state[cell];
            case 1:
                return oneIf(ground.propped[cell]);
            case 2:
                return oneIf(ground.trapper[cell] != NONE);
            case 3:
                return holderOf(cell);
            default:
                throw new IllegalArgumentException("a cell is told 0 to 3 of");
        }
    }

    public int ofClaim(int claim, int what) throws IndexOutOfBoundsException, IllegalArgumentException {
        Claim told = claimAt(claim);
        switch (what) {
            case 0:
                return told.owner;
            case 1:
                return told.hour;
            case 2:
                return oneIf(told.isLive(now));
            case 3:
                return cellsHeldBy(claim);
            case 4:
                return told.shafts;
            case 5:
                return stonesInParcel(claim);
            case 6:
                return told.hoursToLapse(now);
            default:
                throw new IllegalArgumentException("a claim is told 0 to 6 of");
        }
    }

    public int share(int claim, int person) throws IndexOutOfBoundsException {
        Claim shared = claimAt(claim);
        needPerson(person);
        return shared.shares[person];
    }

    public int verdict(int first, int second) throws IndexOutOfBoundsException, IllegalArgumentException {
        Claim one = claimAt(first);
        Claim other = claimAt(second);
        if (first == second) {
            throw new IllegalArgumentException("both claims are the same");
        }
        if (!one.isLive(now) || !other.isLive(now) || !one.overlaps(other)) {
            return NONE;
        }
        if (one.hour == other.hour) {
            return Math.min(first, second);
        }
        return one.hour < other.hour ? first : second;
    }

    public int ofPerson(int person, int what) throws IndexOutOfBoundsException, IllegalArgumentException {
        needPerson(person);
        switch (what) {
            case 0:
                return money[person];
            case 1:
                return hoursBarred(person);
            case 2:
                return stonesOfPerson(person);
            case 3:
                return caught[person];
            default:
                throw new IllegalArgumentException("a person is told 0 to 3 of");
        }
    }

    public int ofStone(int stone, int what) throws IndexOutOfBoundsException, IllegalArgumentException {
        Stone told = stoneAt(stone);
        switch (what) {
            case 0:
                return told.carats;
            case 1:
                return told.lustre();
            case 2:
                return told.person;
            case 3:
                return told.claim;
            case 4:
                return told.value();
            case 5:
                return told.buyer;
            case 6:
                return told.rubs;
            case 7:
                return told.cell;
            default:
                throw new IllegalArgumentException("a stone is told 0 to 7 of");
        }
    }

    public int purse(int buyer) throws IndexOutOfBoundsException {
        needBuyer(buyer);
        return purses[buyer];
    }

    public int carats(int what) throws IllegalArgumentException {
        switch (what) {
            case 0:
                return sum(ground.told);
            case 1:
                return sum(ground.carats);
            case 2:
                return caratsOfStones(Stone.IN_PARCEL);
            case 3:
                return caratsOfStones(Stone.OF_PERSON);
            case 4:
                return caratsOfStones(Stone.SOLD);
            case 5:
                return caratsLost();
            default:
                throw new IllegalArgumentException("carats are told 0 to 5 of");
        }
    }

    public int plan(int claim, int digs) throws IndexOutOfBoundsException, IllegalArgumentException {
        claimAt(claim);
        needRange(digs, 0, MOST_DIGS);
        int count = listDiggable(claim);
        return mostBySets(ground, diggable, count, digs, 0);
    }

    public int planAnew(int claim, int digs) throws IndexOutOfBoundsException, IllegalArgumentException {
        claimAt(claim);
        needRange(digs, 0, MOST_DIGS);
        int count = listDiggable(claim);
        return mostByRows(ground, diggable, count, digs);
    }

    // ---- what calls need

    private static void needCell(int cell) throws IndexOutOfBoundsException {
        if (!isCell(cell)) {
            throw new IndexOutOfBoundsException("no such cell");
        }
    }

    private static void needPerson(int person) throws IndexOutOfBoundsException {
        if (person < 0 || person >= PERSONS) {
            throw new IndexOutOfBoundsException("no such person");
        }
    }

    private static void needBuyer(int buyer) throws IndexOutOfBoundsException {
        if (buyer < 0 || buyer >= BUYERS) {
            throw new IndexOutOfBoundsException("no such buyer");
        }
    }

    private Claim claimAt(int claim) throws IndexOutOfBoundsException {
        if (claim < 0 || claim >= claims.size()) {
            throw new IndexOutOfBoundsException("no such claim");
        }
        return claims.get(claim);
    }

    private Stone stoneAt(int stone) throws IndexOutOfBoundsException {
        if (stone < 0 || stone >= stones.size()) {
            throw new IndexOutOfBoundsException("no such stone");
        }
        return stones.get(stone);
    }

    private static void needRange(int value, int least, int most) throws IllegalArgumentException {
        if (value < least || value > most) {
            throw new IllegalArgumentException("out of range");
        }
    }

    private void needFree(int person) throws IllegalStateException {
        if (hoursBarred(person) > 0) {
            throw new IllegalStateException("the person is barred");
        }
    }

    /** The CLAIM, if the PERSON may dig, sink, prop or lay a trap there, whatever the CELL is like. */
    private Claim claimAtHand(int claim, int person, int cell)
            throws IndexOutOfBoundsException, IllegalStateException {
        Claim atHand = claimAt(claim);
        needPerson(person);
        needCell(cell);
        if (!atHand.isOfPeople(person)) {
            throw new IllegalStateException("the person is none of the people");
        }
        needFree(person);
        if (holderOf(cell) != claim) {
            throw new IllegalStateException("the claim does not hold the cell");
        }
        return atHand;
    }

    private static void needOfPerson(Stone stone) throws IllegalStateException {
        if (stone.place() != Stone.OF_PERSON) {
            throw new IllegalStateException("the stone is in a parcel, or sold");
        }
    }

    // ---- hours, cells, claims

    private static boolean isCell(int cell) {
        return cell >= 0 && cell < CELLS;
    }

    private static int oneIf(boolean so) {
        return so ? 1 : 0;
    }

    private static int sum(int[] row) {
        int all = 0;
        for (int i = 0; i < row.length; i++) {
            all += row[i];
        }
        return all;
    }

    private boolean isNight() {
        int ofDay = now % DAY;
        return ofDay >= DUSK || ofDay <= LAST_OF_NIGHT;
    }

    private int hoursBarred(int person) {
        return Math.max(0, barredTo[person] - now);
    }

    private int holderOf(int cell) {
        int holder = NONE;
        int least = 0;
        for (int i = 0; i < claims.size(); i++) {
            Claim claim = claims.get(i);
            if (claim.covers(cell) && claim.isLive(now) && (holder == NONE || claim.hour < least)) {
                holder = i;
                least = claim.hour;
            }
        }
        return holder;
    }

    private int cellsHeldBy(int claim) {
        int count = 0;
        for (int cell = 0; cell < CELLS; cell++) {
            count += oneIf(claimAt(claim).covers(cell) && holderOf(cell) == claim);
        }
        return count;
    }

    /** Digging and sinking are the same from here on: both work the CLAIM, and clear a trap away. */
    private int work(Claim worked, int claim, int cell) {
        worked.lastWorked = now;
        ground.trapper[cell] = NONE;
        return uncover(cell, claim, NONE);
    }

    /** Opens a CELL for the PARCEL of a CLAIM, or else for a PERSON, and answers the carats found. */
    private int uncover(int cell, int claim, int person) {
        int found = ground.carats[cell];
        ground.carats[cell] = 0;
        ground.state[cell] = OPEN;
        if (found > 0) {
            stones.add(new Stone(cell, found, ground.depth[cell], claim, person));
        }
        ground.fall(cell);
        return found;
    }

    // ---- stones

    private int stonesInParcel(int claim) {
        int count = 0;
        for (int i = 0; i < stones.size(); i++) {
            count += oneIf(stones.get(i).isInParcelOf(claim));
        }
        return count;
    }

    private int caratsInParcel(int claim) {
        int all = 0;
        for (int i = 0; i < stones.size(); i++) {
            Stone stone = stones.get(i);
            all += stone.isInParcelOf(claim) ? stone.carats : 0;
        }
        return all;
    }

    private int heaviestInParcel(int claim) {
        int heaviest = NONE;
        int most = 0;
        for (int i = 0; i < stones.size(); i++) {
            Stone stone = stones.get(i);
            if (stone.isInParcelOf(claim) && stone.carats > most) {
                heaviest = i;
                most = stone.carats;
            }
        }
        return heaviest;
    }

    private int stonesOfPerson(int person) {
        int count = 0;
        for (int i = 0; i < stones.size(); i++) {
            Stone stone = stones.get(i);
            count += oneIf(stone.place() == Stone.OF_PERSON && stone.person == person);
        }
        return count;
    }

    private int caratsOfStones(int place) {
        int all = 0;
        for (int i = 0; i < stones.size(); i++) {
            Stone stone = stones.get(i);
            all += stone.place() == place ? stone.carats : 0;
        }
        return all;
    }

    private int caratsLost() {
        int all = 0;
        for (int i = 0; i < stones.size(); i++) {
            all += stones.get(i).lost;
        }
        return all;
    }

    // ---- plans

    /** Lists the CELLS that the CLAIM HOLDS and that are not OPEN, and answers how many. */
    private int listDiggable(int claim) {
        int count = 0;
        for (int cell = 0; cell < CELLS && count < diggable.length; cell++) {
            if (claimAt(claim).covers(cell) && !ground.isOpen(cell) && holderOf(cell) == claim) {
                diggable[count] = cell;
                count++;
            }
        }
        return count;
    }

    /**
     * Tries each set of digs once. A set's order does not matter: what can be dug now can be dug
     * first, and whether something falls hangs on all that is OPEN in the end. So a cell that was
     * tried first (a bit of tried) need not be tried again behind a later one.
     */
    private static int mostBySets(Ground ground, int[] cells, int count, int digs, int tried) {
        if (digs <= 0) {
            return 0;
        }
        int most = 0;
        for (int i = 0; i < count && i < cells.length; i++) {
            int cell = cells[i];
            if ((tried >> i & 1) == 0 && ground.canBeDugSafely(cell)) {
                tried |= 1 << i;
                int was = ground.openForNow(cell);
                int found = ground.carats[cell] + mostBySets(ground, cells, count, digs - 1, tried);
                ground.state[cell] = was;
                most = Math.max(most, found);
            }
        }
        return most;
    }

    /** Tries all rows of digs. */
    private static int mostByRows(Ground ground, int[] cells, int count, int digs) {
        if (digs <= 0) {
            return 0;
        }
        int most = 0;
        for (int i = 0; i < count && i < cells.length; i++) {
            int cell = cells[i];
            if (ground.canBeDugSafely(cell)) {
                int was = ground.openForNow(cell);
                int found = ground.carats[cell] + mostByRows(ground, cells, count, digs - 1);
                ground.state[cell] = was;
                most = Math.max(most, found);
            }
        }
        return most;
    }

    /** The CELLS: what they are, what is in them, and what holds them up. */
    private static final class Ground {
        final int[] state = new int[CELLS];
        /** The carats as they were told, 0 if they were not. */
        final int[] told = new int[CELLS];
        final int[] carats = new int[CELLS];
        final int[] depth = new int[CELLS];
        final boolean[] propped = new boolean[CELLS];
        /** The CLAIM whose trap lies there, NONE without. */
        final int[] trapper = new int[CELLS];

        Ground() {
            Arrays.fill(trapper, NONE);
        }

        boolean isOpen(int cell) {
            return isCell(cell) && state[cell] == OPEN;
        }

        /** Whether it is OPEN and not propped, so that it may come down. */
        boolean isLoose(int cell) {
            return cell >= 0 && cell < CELLS && state[cell] == OPEN && !propped[cell];
        }

        boolean canBeDug(int cell) {
            if (isOpen(cell)) {
                return false;
            }
            int column = cell % SIDE;
            return isOpen(cell - SIDE) || isOpen(cell + SIDE)
                    || column > 0 && isOpen(cell - 1)
                    || column < SIDE - 1 && isOpen(cell + 1);
        }

        boolean canBeDugSafely(int cell) {
            return canBeDug(cell) && looseInRow(cell) <= MOST_LOOSE && looseInColumn(cell) <= MOST_LOOSE;
        }

        /** Opens a CELL on trial, and answers what it was, to be put back. */
        int openForNow(int cell) {
            int was = state[cell];
            state[cell] = OPEN;
            return was;
        }

        int caratsAround(int cell) {
            int column = cell % SIDE;
            return oneIf(hasCarats(cell)) + oneIf(hasCarats(cell - SIDE)) + oneIf(hasCarats(cell + SIDE))
                    + oneIf(column > 0 && hasCarats(cell - 1))
                    + oneIf(column < SIDE - 1 && hasCarats(cell + 1));
        }

        boolean hasCarats(int cell) {
            return isCell(cell) && carats[cell] > 0;
        }

        int trapsOf(int claim) {
            int count = 0;
            for (int cell = 0; cell < CELLS; cell++) {
                count += oneIf(trapper[cell] == claim);
            }
            return count;
        }

        /** How many loose CELLS lie side by side in its row, if this one is loose, this one too. */
        int looseInRow(int cell) {
            return looseBeside(cell, -1, cell % SIDE) + 1 + looseBeside(cell, 1, SIDE - 1 - cell % SIDE);
        }

        int looseInColumn(int cell) {
            return looseBeside(cell, -SIDE, cell / SIDE) + 1 + looseBeside(cell, SIDE, SIDE - 1 - cell / SIDE);
        }

        /** How many loose CELLS lie side by side next to this one, on one side, of at most so many. */
        int looseBeside(int cell, int step, int most) {
            int count = 0;
            while (count < most && isLoose(cell + (count + 1) * step)) {
                count++;
            }
            return count;
        }

        /** All is measured ahead of either fall: the column goes by what was OPEN ahead of the row's. */
        void fall(int cell) {
            int inRow = looseInRow(cell);
            int inColumn = looseInColumn(cell);
            int leftmost = cell - looseBeside(cell, -1, cell % SIDE);
            int topmost = cell - looseBeside(cell, -SIDE, cell / SIDE) * SIDE;
            if (inRow > MOST_LOOSE) {
                bury(leftmost, 1, inRow);
            }
            if (inColumn > MOST_LOOSE) {
                bury(topmost, SIDE, inColumn);
            }
        }

        void bury(int first, int step, int count) {
            for (int i = 0; i < count; i++) {
                int cell = first + i * step;
                if (isCell(cell)) {
                    state[cell] = RUBBLE;
                }
            }
        }
    }

    private static final class Claim {
        final int owner;
        final int top;
        final int left;
        final int rows;
        final int columns;
        /** Its HOUR, which has nothing to do with how long it is LIVE. */
        int hour;
        /** When it was worked last, or pegged. */
        int lastWorked;
        int shafts;
        final int[] shares = new int[PERSONS];
        /** What each PERSON witnessed, NONE without. */
        final int[] hoursTold = new int[PERSONS];

        Claim(int owner, int cell, int rows, int columns, int pegged) {
            this.owner = owner;
            this.top = cell / SIDE;
            this.left = cell % SIDE;
            this.rows = rows;
            this.columns = columns;
            this.hour = pegged;
            this.lastWorked = pegged;
            if (owner >= 0 && owner < PERSONS) {
                shares[owner] = TWELFTHS;
            }
            Arrays.fill(hoursTold, NONE);
        }

        boolean isOfPeople(int person) {
            return shares[person] > 0;
        }

        boolean isLive(int now) {
            return hoursToLapse(now) > 0;
        }

        int hoursToLapse(int now) {
            return Math.max(0, IDLE_HOURS - (now - lastWorked));
        }

        boolean covers(int cell) {
            int row = cell / SIDE;
            int column = cell % SIDE;
            return row >= top && row < top + rows && column >= left && column < left + columns;
        }

        boolean overlaps(Claim other) {
            return top < other.top + other.rows && other.top < top + rows
                    && left < other.left + other.columns && other.left < left + columns;
        }

        /** The middle one of the hours told, by size, of two in the middle the lesser. */
        int middleHourTold() {
            int middle = hour;
            for (int person = 0; person < PERSONS; person++) {
                if (hoursTold[person] != NONE && isMiddle(hoursTold[person])) {
                    middle = hoursTold[person];
                }
            }
            return middle;
        }

        boolean isMiddle(int candidate) {
            int all = 0;
            int lesser = 0;
            int notGreater = 0;
            for (int person = 0; person < PERSONS; person++) {
                int told = hoursTold[person];
                if (told != NONE) {
                    all++;
                    lesser += oneIf(told < candidate);
                    notGreater += oneIf(told <= candidate);
                }
            }
            int middle = (all - 1) / 2;
            return lesser <= middle && middle < notGreater;
        }

        /** Who of the PEOPLE is the farthest behind the share of a whole PARCEL. */
        int mostWanting(int whole, int[] given) {
            int chosen = owner;
            int most = wanting(owner, whole, given);
            for (int person = 0; person < PERSONS; person++) {
                int wanting = wanting(person, whole, given);
                if (isOfPeople(person) && (wanting > most || wanting == most && person < chosen)) {
                    chosen = person;
                    most = wanting;
                }
            }
            return chosen;
        }

        int wanting(int person, int whole, int[] given) {
            return shares[person] * whole - TWELFTHS * given[person];
        }
    }

    private static final class Stone {
        /** Where a STONE is. */
        static final int IN_PARCEL = 0, OF_PERSON = 1, SOLD = 2;

        final int cell;
        final int depth;
        /** The CLAIM to whose PARCEL it came, NONE if it was ratted. */
        final int claim;
        int carats;
        int lost;
        int rubs;
        int person;
        int buyer = NONE;
        int bids;
        /** What each BUYER bid, 0 without, and how many had bid ahead of that one. */
        final int[] prices = new int[BUYERS];
        final int[] turns = new int[BUYERS];

        Stone(int cell, int carats, int depth, int claim, int person) {
            this.cell = cell;
            this.carats = carats;
            this.depth = depth;
            this.claim = claim;
            this.person = person;
        }

        int place() {
            if (buyer != NONE) {
                return SOLD;
            }
            return person == NONE ? IN_PARCEL : OF_PERSON;
        }

        boolean isInParcelOf(int ofClaim) {
            return claim == ofClaim && place() == IN_PARCEL;
        }

        int lustre() {
            if (rubs < depth) {
                return RAW;
            }
            return rubs <= depth + RUBS_THAT_SHINE ? SHINES : DEAD;
        }

        int value() {
            switch (lustre()) {
                case RAW:
                    return carats * 2;
                case SHINES:
                    return carats * 10;
                default:
                    return 0;
            }
        }

        int bestBidder(int[] purses) {
            int best = NONE;
            for (int i = 0; i < BUYERS && i < purses.length; i++) {
                if (prices[i] > 0 && prices[i] <= purses[i] && (best == NONE || isAhead(i, best))) {
                    best = i;
                }
            }
            return best;
        }

        boolean isAhead(int one, int other) {
            return prices[one] > prices[other]
                    || prices[one] == prices[other] && turns[one] < turns[other];
        }
    }
}
