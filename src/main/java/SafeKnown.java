import java.util.Arrays;
import java.util.NoSuchElementException;

/** Vaults that are to be safe from whoever knows how. */
public final class SafeKnown {
    public static final int NONE = -1;

    private static final int TOO_MANY = -3;
    private static final int NO_ROW = -999;

    private static final int SIDES = 6;
    private static final int WHEELS = 3;
    private static final int CODES = 216;
    private static final int PER_WHEEL = 36;

    private static final int MOST_VAULTS = 6;
    private static final int MOST_PEOPLE = 6;
    private static final int MOST_CONTRACTS = 12;
    private static final int MOST_TEXTS = 12;

    private static final int WEEK = 7;
    private static final int ALL_WEEK = 127;
    private static final int LAST_DAY = 9999;
    private static final int MOST_DAYS = 60;
    private static final int MOST_TRIAL = 40;
    private static final int SPAN_SEEDS = 6;
    private static final int MOST_TRIES = 20;

    private static final int ROW_DAY = 0;
    private static final int ROW_WHO = 1;
    private static final int ROW_VAULT = 2;
    private static final int ROW_CODE = 3;
    private static final int ROW_SOUND = 4;
    private static final int ROW_OPENED = 5;
    private static final int ROW_CELLS = 6;
    private static final int MOST_ROWS = 80;

    private final Tape tape;
    private final State now;
    private final State kept;
    private final Memory memory;
    private final BankReader bankReader;
    private final LawReader lawReader;
    private final Sieve sieve;
    private final Locksmith locksmith;
    private boolean hasImage;

    public SafeKnown() {
        tape = new Tape();
        now = new State();
        kept = new State();
        memory = new Memory();
        bankReader = new BankReader(tape, now);
        lawReader = new LawReader(tape);
        sieve = new Sieve(now);
        locksmith = new Locksmith();
        hasImage = false;
    }

    // ---- the tape and the two texts ----

    public int feed(int a, int b, int c, int d, int e) {
        if (!tape.hasRoom(20)) {
            return NONE;
        }
        tape.put(a);
        tape.put(b);
        tape.put(c);
        tape.put(d);
        tape.put(e);
        return tape.length;
    }

    public boolean end(int n) {
        if (n < 0 || n > tape.length) {
            return false;
        }
        tape.length = n;
        return true;
    }

    public int bank() throws IllegalArgumentException, UnsupportedOperationException {
        boolean right = bankReader.read();
        tape.length = 0;
        if (!right) {
            throw new IllegalArgumentException("the text is wrong");
        }
        if (now.texts >= MOST_TEXTS) {
            throw new UnsupportedOperationException("there are twelve texts");
        }
        bankReader.settle();
        now.texts++;
        memory.clear();
        return now.texts;
    }

    public int law() throws IllegalArgumentException {
        boolean right = lawReader.read();
        tape.length = 0;
        if (!right) {
            throw new IllegalArgumentException("the text is wrong");
        }
        now.obey(lawReader.clicks, lawReader.lines);
        memory.clear();
        return now.lawLines;
    }

    public int fault() {
        return tape.wrongAt;
    }

    // ---- what there is ----

    public int vault(int vault, int what) throws IndexOutOfBoundsException, NoSuchElementException {
        needVault(vault);
        switch (what) {
            case 0:
                return now.codes[vault];
            case 1:
                return now.guards[vault];
            case 2:
                return now.worths[vault];
            case 3:
                return now.opened >> vault & 1;
            case 4:
                return gaps(now.guards[vault]);
            case 5:
                return soon(now.guards[vault], now.day);
            case 6:
                return longestGap(now.guards[vault]);
            default:
                throw new NoSuchElementException("there is no such thing of a vault");
        }
    }

    public int left(int person, int vault) throws IndexOutOfBoundsException {
        needPerson(person);
        needVault(vault);
        return now.leftOf(person, vault);
    }

    public int code(int person, int vault, int k) throws IndexOutOfBoundsException {
        needPerson(person);
        needVault(vault);
        sieve.load(person, vault);
        return k >= 0 && k < sieve.size ? sieve.list[k] : NONE;
    }

    public int wheel(int person, int vault, int wheel, boolean all) throws IndexOutOfBoundsException {
        needPerson(person);
        needVault(vault);
        needWheel(wheel);
        sieve.load(person, vault);
        int sides = sieve.sidesOf(wheel);
        if (all) {
            return sides;
        }
        return Integer.bitCount(sides) == 1 ? Integer.numberOfTrailingZeros(sides) : NONE;
    }

    public int click(int wheel, int told, int code) throws IndexOutOfBoundsException, IllegalArgumentException {
        needWheel(wheel);
        if (told < 0 || told >= SIDES || code < 0 || code >= SIDES) {
            throw new IllegalArgumentException("a wheel goes from 0 to 5");
        }
        return now.clicks[wheel * PER_WHEEL + told * SIDES + code];
    }

    public int sound(int told, int code) throws IndexOutOfBoundsException {
        needCode(told);
        needCode(code);
        return now.soundOf(told, code);
    }

    // ---- acts ----

    public int turn(int person, int vault, int code) throws IndexOutOfBoundsException, IllegalStateException {
        needPerson(person);
        needVault(vault);
        needCode(code);
        if (now.isGuarded(vault)) {
            throw new IllegalStateException("the vault is guarded today");
        }
        memory.keep(now);
        int truth = now.codes[vault];
        int heard = now.soundOf(code, truth);
        sieve.load(person, vault);
        sieve.hear(code, truth);
        now.know(person, vault, sieve);
        if (code == truth) {
            now.opened |= 1 << vault;
        }
        now.write(person, vault, code, heard);
        return heard;
    }

    public int tell(int person, int other, int vault) throws IndexOutOfBoundsException, IllegalArgumentException {
        needTwo(person, other, vault);
        memory.keep(now);
        now.learnFrom(other, person, vault);
        return now.leftOf(other, vault);
    }

    public int forget(int person, int vault) throws IndexOutOfBoundsException {
        needPerson(person);
        needVault(vault);
        memory.keep(now);
        int before = now.leftOf(person, vault);
        now.knowNothing(person, vault);
        return before;
    }

    public int change(int vault, int code) throws IndexOutOfBoundsException {
        needVault(vault);
        needCode(code);
        memory.keep(now);
        int before = now.codes[vault];
        now.tellAnew(vault, code);
        now.toldAnew++;
        return before;
    }

    public boolean guard(int vault, int weekday, boolean in)
            throws IndexOutOfBoundsException, IllegalArgumentException {
        needVault(vault);
        if (weekday < 0 || weekday >= WEEK) {
            throw new IllegalArgumentException("a weekday is 0 to 6");
        }
        memory.keep(now);
        int before = now.guards[vault];
        int after = in ? before | 1 << weekday : before & ~(1 << weekday);
        now.guards[vault] = after;
        return after != before;
    }

    public int days(int n) throws IllegalArgumentException {
        if (n < 1 || n > MOST_DAYS) {
            throw new IllegalArgumentException("days are 1 to 60");
        }
        memory.keep(now);
        locksmith.work(now, now.seed, n);
        for (int vault = 0; vault < now.vaults; vault++) {
            if (locksmith.hasTold(vault)) {
                now.tellAnew(vault, locksmith.codes[vault]);
            }
        }
        now.toldAnew += locksmith.times;
        now.seed = locksmith.seed;
        now.day = Math.min(LAST_DAY, now.day + n);
        return locksmith.times;
    }

    // ---- turnings that part ----

    public int parts(int person, int vault, int code, boolean most) throws IndexOutOfBoundsException {
        needPerson(person);
        needVault(vault);
        needCode(code);
        sieve.load(person, vault);
        return most ? sieve.greatestPart(code, CODES + 1) : sieve.partsBy(code);
    }

    public int next(int person, int vault) throws IndexOutOfBoundsException {
        needPerson(person);
        needVault(vault);
        sieve.load(person, vault);
        return sieve.bestTurning();
    }

    public int outright(int person, int vault) throws IndexOutOfBoundsException {
        needPerson(person);
        needVault(vault);
        sieve.load(person, vault);
        for (int told = 0; told < CODES; told++) {
            if (sieve.greatestPart(told, 2) < 2) {
                return told;
            }
        }
        return NONE;
    }

    public int worst(int person, int vault) throws IndexOutOfBoundsException {
        needPerson(person);
        needVault(vault);
        sieve.load(person, vault);
        return sieve.turningsNeeded();
    }

    public int quietest(int told) throws IndexOutOfBoundsException {
        needCode(told);
        sieve.loadAllBut(told);
        return sieve.mostShared(told);
    }

    public int loudest() {
        int best = 0;
        int bestRange = now.rangeOf(0);
        for (int told = 1; told < CODES; told++) {
            int range = now.rangeOf(told);
            if (range > bestRange) {
                best = told;
                bestRange = range;
            }
        }
        return best;
    }

    public int deaf() {
        int wheels = 0;
        for (int wheel = 0; wheel < WHEELS; wheel++) {
            boolean same = true;
            for (int told = 0; told < SIDES; told++) {
                same = same && now.wheelRange(wheel, told) == 0;
            }
            if (same) {
                wheels |= 1 << wheel;
            }
        }
        return wheels;
    }

    // ---- who can open ----

    public int alone(int vault) throws IndexOutOfBoundsException {
        needVault(vault);
        int people = 0;
        for (int person = 0; person < now.people; person++) {
            if (now.leftOf(person, vault) == 1) {
                people |= 1 << person;
            }
        }
        return people;
    }

    public boolean together(int people, int vault) throws IndexOutOfBoundsException {
        needVault(vault);
        return now.leftOfAll(people, vault) == 1;
    }

    public int fewest(int vault, boolean silence) throws IndexOutOfBoundsException {
        needVault(vault);
        int all = (1 << now.people) - 1;
        int best = NONE;
        int bestCount = MOST_PEOPLE + 1;
        for (int people = 0; people <= all; people++) {
            int asked = silence ? all & ~people : people;
            if (Integer.bitCount(people) < bestCount && (now.leftOfAll(asked, vault) == 1) != silence) {
                best = people;
                bestCount = Integer.bitCount(people);
            }
        }
        return best;
    }

    public int pair(int vault) throws IndexOutOfBoundsException {
        needVault(vault);
        int best = NONE;
        int bestLeft = CODES + 1;
        for (int one = 0; one < now.people; one++) {
            for (int other = one + 1; other < now.people; other++) {
                int both = now.leftOfAll(1 << one | 1 << other, vault);
                if (both < bestLeft) {
                    best = 10 * one + other;
                    bestLeft = both;
                }
            }
        }
        return best;
    }

    public int gains(int person, int other, int vault) throws IndexOutOfBoundsException, IllegalArgumentException {
        needTwo(person, other, vault);
        return now.leftOf(person, vault) - now.leftOfAll(1 << person | 1 << other, vault);
    }

    // ---- contracts ----

    public int contract(int contract, int what) throws IndexOutOfBoundsException, NoSuchElementException {
        if (contract < 0 || contract >= now.contracts) {
            throw new IndexOutOfBoundsException("there is no such contract");
        }
        switch (what) {
            case 0:
                return now.isOpenContract(contract) ? 1 : 0;
            case 1:
                return now.contractWho[contract];
            case 2:
                return now.contractVault[contract];
            case 3:
                return now.contractDay[contract];
            case 4:
                return now.quarrelsOf(contract);
            default:
                throw new NoSuchElementException("there is no such thing of a contract");
        }
    }

    public int broken() {
        int bits = 0;
        for (int contract = 0; contract < now.contracts; contract++) {
            if (now.isBroken(contract)) {
                bits |= 1 << contract;
            }
        }
        return bits;
    }

    public int breaks() {
        int bits = 0;
        for (int contract = 0; contract < now.contracts; contract++) {
            int others = now.quarrelsOf(contract);
            // All of one person and one vault quarrel across, so one whole side has to go.
            if (others != 0) {
                bits |= fewerOf(others, now.quarrelsOf(Integer.numberOfTrailingZeros(others)));
            }
        }
        return bits;
    }

    // ---- guards and gains ----

    public int rota(int vault, int n) throws IndexOutOfBoundsException, IllegalArgumentException {
        needVault(vault);
        if (n < 0 || n >= WEEK) {
            throw new IllegalArgumentException("a row is 0 to 6 long");
        }
        int guards = now.guards[vault];
        int best = 0;
        int bestCount = WEEK + 1;
        for (int more = 0; more <= ALL_WEEK; more++) {
            if ((more & guards) == 0 && Integer.bitCount(more) < bestCount && longestGap(guards | more) <= n) {
                best = more;
                bestCount = Integer.bitCount(more);
            }
        }
        return best;
    }

    public int richest(int person, boolean easiest) throws IndexOutOfBoundsException {
        needPerson(person);
        int best = NONE;
        int bestValue = 0;
        for (int vault = 0; vault < now.vaults; vault++) {
            if (now.isGuarded(vault)) {
                continue;
            }
            int value = easiest ? -now.leftOf(person, vault) : now.shareOf(person, vault);
            if (best == NONE || value > bestValue) {
                best = vault;
                bestValue = value;
            }
        }
        return best;
    }

    public int first(int vault) throws IndexOutOfBoundsException {
        needVault(vault);
        for (int ago = now.rows - 1; ago >= 0; ago--) {
            if (now.rowCell(ago, ROW_VAULT) == vault && now.rowCell(ago, ROW_OPENED) == 1) {
                return now.rowCell(ago, ROW_WHO);
            }
        }
        return NONE;
    }

    public int turned(int vault, int person) throws IndexOutOfBoundsException {
        needVault(vault);
        if (person != NONE) {
            needPerson(person);
        }
        int times = 0;
        for (int ago = 0; ago < now.rows; ago++) {
            boolean here = now.rowCell(ago, ROW_VAULT) == vault;
            if (here && (person == NONE || now.rowCell(ago, ROW_WHO) == person)) {
                times++;
            }
        }
        return times;
    }

    public int price(int person) throws IndexOutOfBoundsException {
        needPerson(person);
        int sum = 0;
        for (int vault = 0; vault < now.vaults; vault++) {
            sum += now.shareOf(person, vault);
        }
        return sum;
    }

    public int risky() {
        if (now.people == 0) {
            return NONE;
        }
        int best = NONE;
        int bestSum = 0;
        for (int vault = 0; vault < now.vaults; vault++) {
            int sum = 0;
            for (int person = 0; person < now.people; person++) {
                sum += now.leftOf(person, vault);
            }
            if (best == NONE || sum < bestSum) {
                best = vault;
                bestSum = sum;
            }
        }
        return best;
    }

    public int when(int person, int vault) throws IndexOutOfBoundsException {
        needPerson(person);
        needVault(vault);
        int truth = now.codes[vault];
        sieve.load(person, vault);
        for (int tries = 1; tries <= MOST_TRIES; tries++) {
            int told = sieve.bestTurning();
            if (told == truth) {
                return tries;
            }
            sieve.hear(told, truth);
        }
        return NONE;
    }

    // ---- trials ----

    public int trial(int n, boolean left) throws IllegalArgumentException {
        needTrial(n);
        locksmith.work(now, now.seed, n);
        return left ? leftWholeAfterwards() : locksmith.changedFrom(now);
    }

    public int span(int n, boolean most) throws IllegalArgumentException {
        needTrial(n);
        int best = NONE;
        for (int seed = 1; seed <= SPAN_SEEDS; seed++) {
            locksmith.work(now, seed, n);
            int vaults = Integer.bitCount(locksmith.changedFrom(now));
            if (best == NONE || (most ? vaults > best : vaults < best)) {
                best = vaults;
            }
        }
        return best;
    }

    // ---- the log, the seed, what is undone and the image ----

    public int log(int ago, int what) throws NoSuchElementException {
        if (what < 0 || what >= ROW_CELLS) {
            throw new NoSuchElementException("there is no such thing of a row");
        }
        return ago >= 0 && ago < now.rows ? now.rowCell(ago, what) : NO_ROW;
    }

    public int seed(int n) {
        int before = now.seed;
        now.seed = n;
        return before;
    }

    public boolean undo() {
        return memory.giveBack(now);
    }

    public void image() {
        kept.copyFrom(now);
        hasImage = true;
    }

    public boolean back() {
        if (!hasImage) {
            return false;
        }
        now.copyFrom(kept);
        memory.clear();
        return true;
    }

    public int count(int what) {
        switch (what) {
            case 0:
                return now.vaults;
            case 1:
                return now.people;
            case 2:
                return now.contracts;
            case 3:
                return now.texts;
            case 4:
                return now.lawLines;
            case 5:
                return now.day;
            case 6:
                return now.chance;
            case 7:
                return now.opened;
            case 8:
                return now.guardedToday();
            case 9:
                return now.rows;
            case 10:
                return now.toldAnew;
            case 11:
                return now.worthOfAll();
            case 12:
                return memory.size;
            default:
                return NONE;
        }
    }

    // ---- what the calls share ----

    private void needVault(int vault) {
        if (vault < 0 || vault >= now.vaults) {
            throw new IndexOutOfBoundsException("there is no such vault");
        }
    }

    private void needPerson(int person) {
        if (person < 0 || person >= now.people) {
            throw new IndexOutOfBoundsException("there is no such person");
        }
    }

    private static void needCode(int code) {
        if (code < 0 || code >= CODES) {
            throw new IndexOutOfBoundsException("there is no such code");
        }
    }

    private static void needWheel(int wheel) {
        if (wheel < 0 || wheel >= WHEELS) {
            throw new IndexOutOfBoundsException("there is no such wheel");
        }
    }

    private void needTwo(int person, int other, int vault) {
        needPerson(person);
        needPerson(other);
        needVault(vault);
        if (person == other) {
            throw new IllegalArgumentException("both are one");
        }
    }

    private static void needTrial(int n) {
        if (n < 0 || n > MOST_TRIAL) {
            throw new IllegalArgumentException("a trial is of 0 to 40 days");
        }
    }

    /** Of how many people and vaults all codes can be, once the locksmith has worked. */
    private int leftWholeAfterwards() {
        int pairs = 0;
        for (int vault = 0; vault < now.vaults; vault++) {
            for (int person = 0; person < now.people; person++) {
                if (locksmith.hasTold(vault) || now.leftOf(person, vault) == CODES) {
                    pairs++;
                }
            }
        }
        return pairs;
    }

    /** Of two sets the one of fewer; of two as great the least as bits. */
    private static int fewerOf(int one, int other) {
        int more = Integer.bitCount(one) - Integer.bitCount(other);
        return more < 0 || more == 0 && one < other ? one : other;
    }

    private static int gaps(int guards) {
        return ALL_WEEK & ~guards;
    }

    /** Days to come stand still at the last one, as the day itself does. */
    private static int soon(int guards, int day) {
        for (int ahead = 0; ahead < WEEK; ahead++) {
            int weekday = Math.min(LAST_DAY, day + ahead) % WEEK;
            if ((guards >> weekday & 1) == 0) {
                return ahead;
            }
        }
        return NONE;
    }

    private static int longestGap(int guards) {
        if ((guards & ALL_WEEK) == 0) {
            return WEEK;
        }
        int row = 0;
        int longest = 0;
        // Two weeks, so that a row that goes round the week's end is seen whole.
        for (int day = 0; day < 2 * WEEK; day++) {
            row = (guards >> day % WEEK & 1) == 0 ? row + 1 : 0;
            longest = Math.max(longest, row);
        }
        return longest;
    }

    /** All that an act, a text or a way back may change, so that it can be copied whole. */
    private static final class State {
        private static final int SET_WORDS = 4;
        private static final int WORD_BITS = 64;
        private static final long LAST_WORD = (1L << CODES - 3 * WORD_BITS) - 1;

        int vaults;
        int people;
        int contracts;
        int texts;
        int lawLines;
        int day;
        int chance;
        int seed;
        int toldAnew;
        int opened;
        int rows;
        int nextRow;
        final int[] codes;
        final int[] guards;
        final int[] worths;
        final int[] contractWho;
        final int[] contractVault;
        final int[] contractDay;
        final int[] clicks;
        final int[] cells;
        final long[] known;

        State() {
            lawLines = NONE;
            seed = 1;
            codes = new int[MOST_VAULTS];
            guards = new int[MOST_VAULTS];
            worths = new int[MOST_VAULTS];
            contractWho = new int[MOST_CONTRACTS];
            contractVault = new int[MOST_CONTRACTS];
            contractDay = new int[MOST_CONTRACTS];
            clicks = new int[WHEELS * PER_WHEEL];
            cells = new int[MOST_ROWS * ROW_CELLS];
            known = new long[MOST_PEOPLE * MOST_VAULTS * SET_WORDS];
            for (int i = 0; i < clicks.length; i++) {
                clicks[i] = i % PER_WHEEL / SIDES == i % SIDES ? 1 : 0;
            }
            for (int i = 0; i < known.length; i++) {
                known[i] = i % SET_WORDS == SET_WORDS - 1 ? LAST_WORD : -1L;
            }
        }

        void copyFrom(State other) {
            vaults = other.vaults;
            people = other.people;
            contracts = other.contracts;
            texts = other.texts;
            lawLines = other.lawLines;
            day = other.day;
            chance = other.chance;
            seed = other.seed;
            toldAnew = other.toldAnew;
            opened = other.opened;
            rows = other.rows;
            nextRow = other.nextRow;
            System.arraycopy(other.codes, 0, codes, 0, codes.length);
            System.arraycopy(other.guards, 0, guards, 0, guards.length);
            System.arraycopy(other.worths, 0, worths, 0, worths.length);
            System.arraycopy(other.contractWho, 0, contractWho, 0, contractWho.length);
            System.arraycopy(other.contractVault, 0, contractVault, 0, contractVault.length);
            System.arraycopy(other.contractDay, 0, contractDay, 0, contractDay.length);
            System.arraycopy(other.clicks, 0, clicks, 0, clicks.length);
            System.arraycopy(other.cells, 0, cells, 0, cells.length);
            System.arraycopy(other.known, 0, known, 0, known.length);
        }

        // -- sounds --

        void obey(int[] newClicks, int lines) {
            System.arraycopy(newClicks, 0, clicks, 0, clicks.length);
            lawLines = lines;
            for (int person = 0; person < people; person++) {
                for (int vault = 0; vault < vaults; vault++) {
                    knowNothing(person, vault);
                }
            }
        }

        int soundOf(int told, int code) {
            return clicks[told / 36 * SIDES + code / 36]
                    + clicks[PER_WHEEL + told / 6 % 6 * SIDES + code / 6 % 6]
                    + clicks[2 * PER_WHEEL + told % 6 * SIDES + code % 6];
        }

        /** The wheels sound apart from one another, so that their ranges add up. */
        int rangeOf(int told) {
            return wheelRange(0, told / 36) + wheelRange(1, told / 6 % 6) + wheelRange(2, told % 6);
        }

        int wheelRange(int wheel, int told) {
            int from = wheel * PER_WHEEL + told * SIDES;
            int least = clicks[from];
            int greatest = clicks[from];
            for (int i = from + 1; i < from + SIDES; i++) {
                least = Math.min(least, clicks[i]);
                greatest = Math.max(greatest, clicks[i]);
            }
            return greatest - least;
        }

        // -- what people know --

        int leftOf(int person, int vault) {
            int from = wordsOf(person, vault);
            int sum = 0;
            for (int i = from; i < from + SET_WORDS; i++) {
                sum += Long.bitCount(known[i]);
            }
            return sum;
        }

        /** Codes that can be by what all of a set know; bits of nobody count for nothing. */
        int leftOfAll(int set, int vault) {
            int sum = 0;
            for (int word = 0; word < SET_WORDS; word++) {
                long shared = word == SET_WORDS - 1 ? LAST_WORD : -1L;
                for (int person = 0; person < people; person++) {
                    if ((set >> person & 1) == 1) {
                        shared &= known[wordsOf(person, vault) + word];
                    }
                }
                sum += Long.bitCount(shared);
            }
            return sum;
        }

        boolean canBe(int person, int vault, int code) {
            return (known[wordsOf(person, vault) + code / WORD_BITS] >> code % WORD_BITS & 1L) == 1L;
        }

        void know(int person, int vault, Sieve sieve) {
            int from = wordsOf(person, vault);
            for (int i = from; i < from + SET_WORDS; i++) {
                known[i] = 0L;
            }
            for (int i = 0; i < sieve.size; i++) {
                int code = sieve.list[i];
                known[from + code / WORD_BITS] |= 1L << code % WORD_BITS;
            }
        }

        void knowNothing(int person, int vault) {
            int from = wordsOf(person, vault);
            for (int i = from; i < from + SET_WORDS - 1; i++) {
                known[i] = -1L;
            }
            known[from + SET_WORDS - 1] = LAST_WORD;
        }

        void learnFrom(int pupil, int teacher, int vault) {
            int to = wordsOf(pupil, vault);
            int from = wordsOf(teacher, vault);
            for (int i = 0; i < SET_WORDS; i++) {
                known[to + i] &= known[from + i];
            }
        }

        private static int wordsOf(int person, int vault) {
            return (person * MOST_VAULTS + vault) * SET_WORDS;
        }

        // -- vaults --

        void tellAnew(int vault, int code) {
            codes[vault] = code;
            opened &= ~(1 << vault);
            for (int person = 0; person < people; person++) {
                knowNothing(person, vault);
            }
        }

        boolean isGuarded(int vault) {
            return (guards[vault] >> day % WEEK & 1) == 1;
        }

        int guardedToday() {
            int bits = 0;
            for (int vault = 0; vault < vaults; vault++) {
                if (isGuarded(vault)) {
                    bits |= 1 << vault;
                }
            }
            return bits;
        }

        int shareOf(int person, int vault) {
            int left = leftOf(person, vault);
            return left == 0 ? 0 : worths[vault] / left;
        }

        int worthOfAll() {
            int sum = 0;
            for (int vault = 0; vault < vaults; vault++) {
                sum += worths[vault];
            }
            return sum;
        }

        // -- the log --

        void write(int person, int vault, int code, int heard) {
            int at = nextRow * ROW_CELLS;
            cells[at + ROW_DAY] = day;
            cells[at + ROW_WHO] = person;
            cells[at + ROW_VAULT] = vault;
            cells[at + ROW_CODE] = code;
            cells[at + ROW_SOUND] = heard;
            cells[at + ROW_OPENED] = code == codes[vault] ? 1 : 0;
            nextRow = (nextRow + 1) % MOST_ROWS;
            rows = Math.min(MOST_ROWS, rows + 1);
        }

        int rowCell(int ago, int what) {
            return cells[(nextRow + MOST_ROWS - 1 - ago) % MOST_ROWS * ROW_CELLS + what];
        }

        // -- contracts --

        boolean isOpenContract(int contract) {
            return contractDay[contract] != NONE;
        }

        boolean isBroken(int contract) {
            boolean open = isOpenContract(contract);
            if (open && day <= contractDay[contract]) {
                return false;
            }
            for (int ago = 0; ago < rows; ago++) {
                boolean theirs = rowCell(ago, ROW_WHO) == contractWho[contract]
                        && rowCell(ago, ROW_VAULT) == contractVault[contract];
                boolean kept = rowCell(ago, ROW_OPENED) == 1 && rowCell(ago, ROW_DAY) <= contractDay[contract];
                if (theirs && (!open || kept)) {
                    return !open;
                }
            }
            return open;
        }

        int quarrelsOf(int contract) {
            int others = 0;
            for (int other = 0; other < contracts; other++) {
                if (contractWho[other] == contractWho[contract]
                        && contractVault[other] == contractVault[contract]
                        && isOpenContract(other) != isOpenContract(contract)) {
                    others |= 1 << other;
                }
            }
            return others;
        }
    }

    /** How all was ahead of the latest acts. */
    private static final class Memory {
        private static final int MOST = 10;

        final State[] states;
        int size;
        int nextSlot;

        Memory() {
            states = new State[MOST];
            for (int i = 0; i < MOST; i++) {
                states[i] = new State();
            }
        }

        void keep(State state) {
            states[nextSlot].copyFrom(state);
            nextSlot = (nextSlot + 1) % MOST;
            size = Math.min(MOST, size + 1);
        }

        boolean giveBack(State state) {
            if (size == 0) {
                return false;
            }
            nextSlot = (nextSlot + MOST - 1) % MOST;
            size--;
            state.copyFrom(states[nextSlot]);
            return true;
        }

        void clear() {
            size = 0;
        }
    }

    /** The codes that can still be, in a row of their own, and what turnings would do to them. */
    private static final class Sieve {
        private static final int FEW = 6;
        // Twelve lines of 99 on each of three wheels: no sound is farther from 0.
        private static final int MOST_SOUND = 12 * 99 * WHEELS;
        private static final int FLOOR_LIMIT = 1000000000;

        final State state;
        final int[] list;
        final boolean[] can;
        final int[] pairs;
        final int[] tally;
        final int[] alike;
        final int[] needed;
        final int[] leaders;
        int size;
        int third;
        int floor;
        int greatest;
        int greatestParts;
        int best;
        int bestPart;
        boolean bestCan;

        Sieve(State state) {
            this.state = state;
            list = new int[CODES];
            can = new boolean[CODES];
            pairs = new int[SIDES * SIDES];
            tally = new int[2 * MOST_SOUND + 1];
            alike = new int[CODES * FEW];
            needed = new int[1 << FEW];
            leaders = new int[WHEELS * SIDES];
        }

        void load(int person, int vault) {
            size = 0;
            for (int code = 0; code < CODES; code++) {
                can[code] = state.canBe(person, vault, code);
                if (can[code]) {
                    list[size] = code;
                    size++;
                }
            }
        }

        void loadAllBut(int told) {
            size = 0;
            for (int code = 0; code < CODES; code++) {
                can[code] = code != told;
                if (can[code]) {
                    list[size] = code;
                    size++;
                }
            }
        }

        void hear(int told, int truth) {
            face(told);
            int heard = slotOf(truth);
            int stay = 0;
            for (int i = 0; i < size; i++) {
                int code = list[i];
                boolean stays = told == truth ? code == told : code != told && slotOf(code) == heard;
                can[code] = stays;
                if (stays) {
                    list[stay] = code;
                    stay++;
                }
            }
            size = stay;
        }

        int sidesOf(int wheel) {
            int divisor = wheel == 0 ? 36 : wheel == 1 ? 6 : 1;
            int sides = 0;
            for (int i = 0; i < size; i++) {
                sides |= 1 << list[i] / divisor % SIDES;
            }
            return sides;
        }

        /** Sums up the first two wheels of a turning ahead, as all codes are asked behind it. */
        private void face(int told) {
            int[] clicks = state.clicks;
            int one = told / 36 * SIDES;
            int two = PER_WHEEL + told / 6 % 6 * SIDES;
            for (int i = 0; i < SIDES; i++) {
                int first = clicks[one + i] + MOST_SOUND;
                for (int j = 0; j < SIDES; j++) {
                    pairs[i * SIDES + j] = first + clicks[two + j];
                }
            }
            third = 2 * PER_WHEEL + told % 6 * SIDES;
        }

        /** Where in the tally the sound stands that a code would make by the turning faced. */
        private int slotOf(int code) {
            return pairs[code / SIDES] + state.clicks[third + code % SIDES];
        }

        /** What stands in the tally from earlier counts lies at the floor or below: it is 0 now. */
        private void startTally() {
            if (floor >= FLOOR_LIMIT) {
                Arrays.fill(tally, 0);
                floor = 0;
            }
            floor += CODES;
        }

        /** One more of a sound: how many there are now. */
        private int countOne(int slot) {
            tally[slot] = Math.max(tally[slot], floor) + 1;
            return tally[slot] - floor;
        }

        int partsBy(int told) {
            face(told);
            startTally();
            int parts = 0;
            for (int i = 0; i < size; i++) {
                if (list[i] == told || countOne(slotOf(list[i])) == 1) {
                    parts++;
                }
            }
            return parts;
        }

        /** How many codes the greatest part has, or the limit as soon as one part has so many. */
        int greatestPart(int told, int limit) {
            face(told);
            startTally();
            int most = 0;
            for (int i = 0; i < size && most < limit; i++) {
                most = Math.max(most, list[i] == told ? 1 : countOne(slotOf(list[i])));
            }
            return most;
        }

        /**
         * Turnings whose wheels differ by no more than how loud they are part alike, but for the one
         * turned to; so the codes are parted once for all of them, by the least, their leader.
         */
        int bestTurning() {
            if (size == 1 || size == 2) {
                return list[0];
            }
            findLeaders();
            best = 0;
            bestPart = CODES + 1;
            bestCan = false;
            for (int told = 0; told < CODES; told++) {
                if (bestPart == 1 && bestCan && best < told) {
                    return best;
                }
                // The one turned to makes a part less by one at most.
                if (leads(told) && partAll(told, bestPart + 2)) {
                    weighAlike(told / 36, told / 6 % 6, told % 6);
                }
            }
            return best;
        }

        private void findLeaders() {
            for (int wheel = 0; wheel < WHEELS; wheel++) {
                for (int told = 0; told < SIDES; told++) {
                    int least = 0;
                    while (least < told && !soundsAlike(wheel, least, told)) {
                        least++;
                    }
                    leaders[wheel * SIDES + told] = least;
                }
            }
        }

        /** Whether a wheel told one is as much louder than told the other whatever is in the code. */
        private boolean soundsAlike(int wheel, int one, int other) {
            int[] clicks = state.clicks;
            int left = wheel * PER_WHEEL + one * SIDES;
            int right = wheel * PER_WHEEL + other * SIDES;
            for (int i = 1; i < SIDES; i++) {
                if (clicks[left + i] - clicks[left] != clicks[right + i] - clicks[right]) {
                    return false;
                }
            }
            return true;
        }

        private boolean leads(int told) {
            return leaders[told / 36] == told / 36
                    && leaders[SIDES + told / 6 % 6] == told / 6 % 6
                    && leaders[2 * SIDES + told % 6] == told % 6;
        }

        /**
         * Parts all codes by sound alone; false as soon as a part has as many as the limit. It goes
         * over all codes for all turnings, so it counts without calls of its own.
         */
        private boolean partAll(int told, int limit) {
            face(told);
            startTally();
            int[] clicks = state.clicks;
            int most = 0;
            int parts = 0;
            for (int i = 0; i < size && most < limit; i++) {
                int code = list[i];
                int slot = pairs[code / SIDES] + clicks[third + code % SIDES];
                int before = tally[slot];
                int part = before > floor ? before - floor + 1 : 1;
                tally[slot] = floor + part;
                if (part > most) {
                    most = part;
                    parts = 1;
                } else if (part == most) {
                    parts++;
                }
            }
            greatest = most;
            greatestParts = parts;
            return most < limit;
        }

        private void weighAlike(int first, int second, int last) {
            for (int one = first; one < SIDES; one++) {
                for (int two = second; two < SIDES && leaders[one] == first; two++) {
                    for (int three = last; three < SIDES && leaders[SIDES + two] == second; three++) {
                        if (leaders[2 * SIDES + three] == last) {
                            weigh(36 * one + 6 * two + three);
                        }
                    }
                }
            }
        }

        private void weigh(int told) {
            boolean own = can[told];
            int part = greatest;
            if (own && greatestParts == 1 && part > 1 && tally[slotOf(told)] == floor + part) {
                part--;
            }
            boolean firstOfSame = own == bestCan ? told < best : own;
            if (part < bestPart || part == bestPart && firstOfSame) {
                best = told;
                bestPart = part;
                bestCan = own;
            }
        }

        /** Of the row the least code whose sound most of the row share. */
        int mostShared(int told) {
            face(told);
            startTally();
            for (int i = 0; i < size; i++) {
                countOne(slotOf(list[i]));
            }
            int least = NONE;
            int mostSoFar = floor;
            for (int i = 0; i < size; i++) {
                int shared = tally[slotOf(list[i])];
                if (shared > mostSoFar) {
                    least = list[i];
                    mostSoFar = shared;
                }
            }
            return least;
        }

        int turningsNeeded() {
            if (size > FEW) {
                return TOO_MANY;
            }
            for (int told = 0; told < CODES; told++) {
                compare(told);
            }
            int all = (1 << size) - 1;
            needed[0] = 0;
            for (int set = 1; set <= all; set++) {
                // One code behind another opens in the end.
                needed[set] = Integer.bitCount(set);
                // Two codes or more are never opened by a single turning, so 2 cannot be bettered.
                for (int told = 0; told < CODES && needed[set] > 2; told++) {
                    needed[set] = Math.min(needed[set], 1 + neededBehind(told, set));
                }
            }
            return needed[all];
        }

        /** Notes for each code which of the row sound alike; the one turned to is open, and none. */
        private void compare(int told) {
            face(told);
            for (int i = 0; i < size; i++) {
                int same = 0;
                for (int j = 0; j < size && list[i] != told; j++) {
                    if (list[j] != told && slotOf(list[j]) == slotOf(list[i])) {
                        same |= 1 << j;
                    }
                }
                alike[told * FEW + i] = same;
            }
        }

        private int neededBehind(int told, int set) {
            int most = 0;
            for (int i = 0; i < size; i++) {
                if ((set >> i & 1) == 1) {
                    most = Math.max(most, needed[alike[told * FEW + i] & set]);
                }
            }
            return most;
        }
    }

    /** Draws codes for days without changing the state, for days that come and days on trial. */
    private static final class Locksmith {
        final int[] codes;
        int seed;
        int times;
        int told;

        Locksmith() {
            codes = new int[MOST_VAULTS];
        }

        void work(State state, int from, int n) {
            System.arraycopy(state.codes, 0, codes, 0, codes.length);
            seed = from;
            times = 0;
            told = 0;
            for (int day = 0; day < n; day++) {
                for (int vault = 0; vault < state.vaults; vault++) {
                    if (draw() % 100 < state.chance) {
                        codes[vault] = draw() % CODES;
                        told |= 1 << vault;
                        times++;
                    }
                }
            }
        }

        boolean hasTold(int vault) {
            return (told >> vault & 1) == 1;
        }

        int changedFrom(State state) {
            int bits = 0;
            for (int vault = 0; vault < state.vaults; vault++) {
                if (codes[vault] != state.codes[vault]) {
                    bits |= 1 << vault;
                }
            }
            return bits;
        }

        private int draw() {
            seed = 1103515245 * seed + 12345;
            return seed >>> 16 & 0x7fff;
        }
    }

    /** The bytes that were fed, read thing by thing: words, numbers and single signs. */
    private static final class Tape {
        private static final int MOST_BYTES = 400;
        private static final int MOST_DIGITS = 3;
        static final int END = 0;
        static final int WORD = 1;
        static final int NUMBER = 2;
        static final int SIGN = 3;

        final int[] bytes;
        int length;
        int kind;
        int at;
        int behind;
        int wrongAt;

        Tape() {
            bytes = new int[MOST_BYTES];
            wrongAt = NONE;
        }

        boolean hasRoom(int more) {
            return length + more <= MOST_BYTES;
        }

        void put(int four) {
            for (int shift = 24; shift >= 0 && length < MOST_BYTES; shift -= 8) {
                bytes[length] = four >>> shift & 255;
                length++;
            }
        }

        void rewind() {
            wrongAt = NONE;
            behind = 0;
            step();
        }

        /** Goes to the thing behind this one; the end begins at the text's length. */
        void step() {
            at = behind;
            while (at < length && bytes[at] == ' ') {
                at++;
            }
            behind = at;
            if (at >= length) {
                kind = END;
            } else if (bytes[at] >= 'a' && bytes[at] <= 'z') {
                kind = WORD;
                while (behind < length && bytes[behind] >= 'a' && bytes[behind] <= 'z') {
                    behind++;
                }
            } else if (bytes[at] >= '0' && bytes[at] <= '9') {
                kind = NUMBER;
                while (behind < length && bytes[behind] >= '0' && bytes[behind] <= '9') {
                    behind++;
                }
            } else {
                kind = SIGN;
                behind++;
            }
        }

        boolean isWrong() {
            return wrongAt != NONE;
        }

        /** What stands here cannot; what was wrong ahead of it stays the first. */
        boolean refuse() {
            if (wrongAt == NONE) {
                wrongAt = at;
            }
            return false;
        }

        boolean is(String word) {
            if (kind != WORD || behind - at != word.length()) {
                return false;
            }
            for (int i = 0; i < word.length(); i++) {
                if (bytes[at + i] != word.charAt(i)) {
                    return false;
                }
            }
            return true;
        }

        boolean isSign(char sign) {
            return kind == SIGN && bytes[at] == sign;
        }

        boolean pass(String word) {
            if (!is(word)) {
                return refuse();
            }
            step();
            return true;
        }

        boolean passSign(char sign) {
            if (!isSign(sign)) {
                return refuse();
            }
            step();
            return true;
        }

        /** Reads a number from 0 up to one; NONE, and what stands here is wrong, if it is none. */
        int numberUpTo(int most) {
            int number = kind == NUMBER && behind - at <= MOST_DIGITS ? 0 : NONE;
            for (int i = at; i < behind && number != NONE; i++) {
                number = 10 * number + bytes[i] - '0';
            }
            if (number == NONE || number > most) {
                refuse();
                return NONE;
            }
            step();
            return number;
        }

        /** Reads the three figures of a code; NONE, and what stands here is wrong, otherwise. */
        int figures() {
            int code = kind == NUMBER && behind - at == WHEELS ? 0 : NONE;
            for (int i = at; i < behind && code != NONE; i++) {
                int figure = bytes[i] - '0';
                code = figure < SIDES ? SIDES * code + figure : NONE;
            }
            if (code == NONE) {
                refuse();
                return NONE;
            }
            step();
            return code;
        }
    }

    /**
     * Reads a text of the bank. What it reads it lays behind what there is, where nobody looks
     * until it is settled, so that nothing stays of a wrong text.
     */
    private static final class BankReader {
        private static final int MOST_LINES = 14;

        final Tape tape;
        final State state;
        int vaults;
        int people;
        int contracts;
        int chance;

        BankReader(Tape tape, State state) {
            this.tape = tape;
            this.state = state;
        }

        boolean read() {
            vaults = state.vaults;
            people = state.people;
            contracts = state.contracts;
            chance = state.chance;
            tape.rewind();
            if (tape.kind == Tape.END) {
                return true;
            }
            for (int lines = 0; lines < MOST_LINES; lines++) {
                if (!line()) {
                    return false;
                }
                if (tape.kind == Tape.END) {
                    return true;
                }
                if (!tape.passSign(';')) {
                    return false;
                }
            }
            return tape.refuse();
        }

        void settle() {
            state.vaults = vaults;
            state.people = people;
            state.contracts = contracts;
            state.chance = chance;
        }

        private boolean line() {
            if (tape.is("vault")) {
                return vaultLine();
            }
            if (tape.is("person")) {
                return personLine();
            }
            if (tape.is("never")) {
                return contractLine(false);
            }
            if (tape.is("open")) {
                return contractLine(true);
            }
            if (tape.is("change")) {
                tape.step();
                chance = tape.numberUpTo(100);
                return !tape.isWrong();
            }
            return tape.refuse();
        }

        private boolean vaultLine() {
            if (vaults >= MOST_VAULTS) {
                return tape.refuse();
            }
            tape.step();
            int code = tape.figures();
            if (code == NONE || !tape.pass("worth")) {
                return false;
            }
            int worth = tape.numberUpTo(999);
            int guards = worth == NONE ? 0 : guardDays();
            if (tape.isWrong()) {
                return false;
            }
            state.codes[vaults] = code;
            state.worths[vaults] = worth;
            state.guards[vaults] = guards;
            vaults++;
            return true;
        }

        private int guardDays() {
            if (!tape.is("guard")) {
                return 0;
            }
            tape.step();
            int guards = 0;
            // One number at least, and no more than there are bytes.
            for (int i = 0; i < tape.length && (i == 0 || tape.kind == Tape.NUMBER); i++) {
                int weekday = tape.numberUpTo(WEEK - 1);
                if (weekday == NONE) {
                    return 0;
                }
                guards |= 1 << weekday;
            }
            return guards;
        }

        private boolean personLine() {
            if (people >= MOST_PEOPLE) {
                return tape.refuse();
            }
            tape.step();
            people++;
            return true;
        }

        private boolean contractLine(boolean open) {
            if (contracts >= MOST_CONTRACTS) {
                return tape.refuse();
            }
            tape.step();
            int who = tape.numberUpTo(people - 1);
            int where = who == NONE ? NONE : tape.numberUpTo(vaults - 1);
            if (where == NONE) {
                return false;
            }
            int day = NONE;
            if (open) {
                day = tape.pass("by") ? tape.numberUpTo(999) : NONE;
                if (day == NONE) {
                    return false;
                }
            }
            state.contractWho[contracts] = who;
            state.contractVault[contracts] = where;
            state.contractDay[contracts] = day;
            contracts++;
            return true;
        }
    }

    /**
     * Reads the law, once for each wheel. A condition is read for all that the wheel is told and
     * is in the code at once: bit 6 times told and code.
     */
    private static final class LawReader {
        private static final int MOST_LINES = 12;
        private static final int MOST_DEEP = 6;
        private static final long ALWAYS = (1L << PER_WHEEL) - 1;

        final Tape tape;
        final int[] clicks;
        final int[] leftSum;
        final int[] rightSum;
        int wheel;
        int lines;

        LawReader(Tape tape) {
            this.tape = tape;
            clicks = new int[WHEELS * PER_WHEEL];
            leftSum = new int[PER_WHEEL];
            rightSum = new int[PER_WHEEL];
        }

        boolean read() {
            Arrays.fill(clicks, 0);
            for (int each = 0; each < WHEELS; each++) {
                wheel = each;
                tape.rewind();
                lines = 0;
                boolean more = tape.kind != Tape.END;
                while (more && lines < MOST_LINES) {
                    if (!line()) {
                        return false;
                    }
                    lines++;
                    more = tape.kind != Tape.END;
                    if (more && !tape.passSign(';')) {
                        return false;
                    }
                }
                if (more) {
                    return tape.refuse();
                }
            }
            return true;
        }

        private boolean line() {
            boolean mute = tape.is("mute");
            if (!mute && !tape.is("click")) {
                return tape.refuse();
            }
            tape.step();
            int loud = tape.numberUpTo(99);
            long holds = ALWAYS;
            if (!tape.isWrong() && tape.is("if")) {
                tape.step();
                holds = condition(0);
            }
            if (tape.isWrong()) {
                return false;
            }
            for (int i = 0; i < PER_WHEEL; i++) {
                if ((holds >> i & 1L) == 1L) {
                    clicks[wheel * PER_WHEEL + i] += mute ? -loud : loud;
                }
            }
            return true;
        }

        private long condition(int deep) {
            long any = 0L;
            long all = atom(deep);
            // No more than there are bytes.
            for (int i = 0; i < tape.length && !tape.isWrong(); i++) {
                if (tape.is("and")) {
                    tape.step();
                    all &= atom(deep);
                } else if (tape.is("or")) {
                    tape.step();
                    any |= all;
                    all = atom(deep);
                } else {
                    return any | all;
                }
            }
            return any | all;
        }

        private long atom(int deep) {
            boolean not = tape.is("not");
            if (not || tape.isSign('(')) {
                if (deep >= MOST_DEEP) {
                    tape.refuse();
                    return 0L;
                }
                tape.step();
                if (not) {
                    return ALWAYS & ~atom(deep + 1);
                }
                long inner = condition(deep + 1);
                if (!tape.isWrong()) {
                    tape.passSign(')');
                }
                return inner;
            }
            if (tape.is("same") || tape.is("next")) {
                int wanted = tape.is("same") ? 0 : 1;
                tape.step();
                return whereApart(wanted);
            }
            sum(leftSum);
            boolean below = tape.isSign('<');
            if (tape.isWrong() || !below && !tape.isSign('>')) {
                tape.refuse();
                return 0L;
            }
            tape.step();
            sum(rightSum);
            return below ? whereLess(leftSum, rightSum) : whereLess(rightSum, leftSum);
        }

        private static long whereApart(int wanted) {
            long bits = 0L;
            for (int i = 0; i < PER_WHEEL; i++) {
                if (apart(i) == wanted) {
                    bits |= 1L << i;
                }
            }
            return bits;
        }

        private static long whereLess(int[] less, int[] more) {
            long bits = 0L;
            for (int i = 0; i < PER_WHEEL; i++) {
                if (less[i] < more[i]) {
                    bits |= 1L << i;
                }
            }
            return bits;
        }

        private void sum(int[] row) {
            Arrays.fill(row, 0);
            // No more parts than there are bytes.
            for (int parts = 0; parts <= tape.length; parts++) {
                boolean told = tape.is("told");
                boolean code = tape.is("code");
                boolean apart = tape.is("apart");
                int number = wheel;
                if (told || code || apart || tape.is("wheel")) {
                    tape.step();
                } else {
                    number = tape.numberUpTo(999);
                }
                for (int i = 0; i < PER_WHEEL; i++) {
                    row[i] += told ? i / SIDES : code ? i % SIDES : apart ? apart(i) : number;
                }
                if (tape.isWrong() || !tape.isSign('+')) {
                    return;
                }
                tape.step();
            }
        }

        /** The shorter way round from what is told to what is in the code. */
        private static int apart(int both) {
            int way = Math.abs(both / SIDES - both % SIDES);
            return Math.min(way, SIDES - way);
        }
    }
}
