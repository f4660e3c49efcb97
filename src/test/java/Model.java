import java.util.ArrayList;
import java.util.HashMap;
import java.util.List;
import java.util.Map;
import java.util.NoSuchElementException;
import java.util.TreeSet;

/**
 * The document once more, as plainly as it can be written and without a thought of speed: sets
 * are sets, the law is a tree that is asked each time, what is remembered is copied whole. The
 * random runs hold SafeKnown against it.
 */
final class Model {
    private interface Condition {
        boolean holds(int wheel, int told, int code);
    }

    private interface Sum {
        int of(int wheel, int told, int code);
    }

    private record Line(int loud, Condition condition) {
    }

    private record Row(int day, int who, int vault, int code, int sound, boolean opened) {
    }

    private record Contract(boolean open, int who, int vault, int day) {
    }

    private static final class Vault {
        int code;
        int worth;
        boolean opened;
        TreeSet<Integer> guards = new TreeSet<>();

        Vault copy() {
            Vault v = new Vault();
            v.code = code;
            v.worth = worth;
            v.opened = opened;
            v.guards = new TreeSet<>(guards);
            return v;
        }
    }

    private static final class World {
        List<Vault> vaults = new ArrayList<>();
        int people = 0;
        List<Contract> contracts = new ArrayList<>();
        int texts = 0;
        List<Line> law = null;
        int day = 0;
        int change = 0;
        int seed = 1;
        int told = 0;
        List<Row> log = new ArrayList<>();
        Map<Integer, TreeSet<Integer>> known = new HashMap<>();

        World copy() {
            World w = new World();
            for (Vault v : vaults) {
                w.vaults.add(v.copy());
            }
            w.people = people;
            w.contracts = new ArrayList<>(contracts);
            w.texts = texts;
            w.law = law;
            w.day = day;
            w.change = change;
            w.seed = seed;
            w.told = told;
            w.log = new ArrayList<>(log);
            for (Map.Entry<Integer, TreeSet<Integer>> e : known.entrySet()) {
                w.known.put(e.getKey(), new TreeSet<>(e.getValue()));
            }
            return w;
        }

        TreeSet<Integer> knows(int person, int vault) {
            TreeSet<Integer> codes = known.get(person * 100 + vault);
            return codes == null ? all() : codes;
        }

        int draw() {
            seed = seed * 1103515245 + 12345;
            return (int) ((seed & 0xffffffffL) / 65536 % 32768);
        }

        void anew(int vault, int code) {
            Vault v = vaults.get(vault);
            v.code = code;
            v.opened = false;
            for (int p = 0; p < people; p++) {
                known.remove(p * 100 + vault);
            }
            told++;
        }

        int pass(int n) {
            int before = told;
            for (int i = 0; i < n; i++) {
                for (int v = 0; v < vaults.size(); v++) {
                    if (draw() % 100 < change) {
                        anew(v, draw() % 216);
                    }
                }
                if (day < 9999) {
                    day++;
                }
            }
            return told - before;
        }
    }

    private static final class Wrong extends RuntimeException {
        private static final long serialVersionUID = 1L;
        final int at;

        Wrong(int at) {
            this.at = at;
        }
    }

    private String tape = "";
    private int fault = -1;
    private World w = new World();
    private World image = null;
    private final List<World> past = new ArrayList<>();
    /** Sounds that were asked before, by the law they were asked of. */
    private final Map<Integer, Integer> sounds = new HashMap<>();
    private List<Line> soundsLaw = null;

    private static TreeSet<Integer> all() {
        TreeSet<Integer> set = new TreeSet<>();
        for (int i = 0; i < 216; i++) {
            set.add(i);
        }
        return set;
    }

    // ---- texts ----

    private record Token(int at, String text) {
    }

    private List<Token> tokens;
    private int token;

    private static boolean letter(char c) {
        return c >= 'a' && c <= 'z';
    }

    private static boolean digit(char c) {
        return c >= '0' && c <= '9';
    }

    private void split(String text) {
        tokens = new ArrayList<>();
        token = 0;
        int i = 0;
        while (i < text.length()) {
            int j = i + 1;
            char c = text.charAt(i);
            if (letter(c)) {
                while (j < text.length() && letter(text.charAt(j))) {
                    j++;
                }
            } else if (digit(c)) {
                while (j < text.length() && digit(text.charAt(j))) {
                    j++;
                }
            }
            if (c != ' ') {
                tokens.add(new Token(i, text.substring(i, j)));
            }
            i = j;
        }
        tokens.add(new Token(text.length(), ""));
    }

    private String here() {
        return tokens.get(token).text;
    }

    private Wrong wrong() {
        return new Wrong(tokens.get(token).at);
    }

    private boolean ended() {
        return here().isEmpty();
    }

    private boolean take(String what) {
        if (here().equals(what)) {
            token++;
            return true;
        }
        return false;
    }

    private void must(String what) {
        if (!take(what)) {
            throw wrong();
        }
    }

    private int number(int most) {
        if (!here().matches("[0-9]{1,3}") || Integer.parseInt(here()) > most) {
            throw wrong();
        }
        int n = Integer.parseInt(here());
        token++;
        return n;
    }

    int feed(int a, int b, int c, int d, int e) {
        if (tape.length() + 20 > 400) {
            return -1;
        }
        StringBuilder more = new StringBuilder();
        for (int n : new int[] {a, b, c, d, e}) {
            for (int k = 3; k >= 0; k--) {
                more.append((char) (n >> 8 * k & 255));
            }
        }
        tape += more;
        return tape.length();
    }

    boolean end(int n) {
        if (n < 0 || n > tape.length()) {
            return false;
        }
        tape = tape.substring(0, n);
        return true;
    }

    int bank() {
        split(tape);
        tape = "";
        World next = w.copy();
        try {
            for (int lines = 0; !(lines == 0 && ended()); lines++) {
                if (lines == 14) {
                    throw wrong();
                }
                bankLine(next);
                if (ended()) {
                    break;
                }
                must(";");
            }
            fault = -1;
        } catch (Wrong e) {
            fault = e.at;
            throw new IllegalArgumentException();
        }
        if (w.texts == 12) {
            throw new UnsupportedOperationException();
        }
        w = next;
        w.texts++;
        past.clear();
        return w.texts;
    }

    private void bankLine(World to) {
        switch (here()) {
            case "vault" -> {
                if (to.vaults.size() == 6) {
                    throw wrong();
                }
                token++;
                Vault v = new Vault();
                if (!here().matches("[0-5]{3}")) {
                    throw wrong();
                }
                v.code = Integer.parseInt(here(), 6);
                token++;
                must("worth");
                v.worth = number(999);
                if (take("guard")) {
                    do {
                        v.guards.add(number(6));
                    } while (!ended() && digit(here().charAt(0)));
                }
                to.vaults.add(v);
            }
            case "person" -> {
                if (to.people == 6) {
                    throw wrong();
                }
                token++;
                to.people++;
            }
            case "never", "open" -> {
                if (to.contracts.size() == 12) {
                    throw wrong();
                }
                boolean open = here().equals("open");
                token++;
                int who = number(to.people - 1);
                int vault = number(to.vaults.size() - 1);
                int day = -1;
                if (open) {
                    must("by");
                    day = number(999);
                }
                to.contracts.add(new Contract(open, who, vault, day));
            }
            case "change" -> {
                token++;
                to.change = number(100);
            }
            default -> throw wrong();
        }
    }

    int law() {
        split(tape);
        tape = "";
        List<Line> law = new ArrayList<>();
        try {
            while (!(law.isEmpty() && ended())) {
                if (law.size() == 12) {
                    throw wrong();
                }
                law.add(lawLine());
                if (ended()) {
                    break;
                }
                must(";");
            }
            fault = -1;
        } catch (Wrong e) {
            fault = e.at;
            throw new IllegalArgumentException();
        }
        w.law = law;
        w.known.clear();
        past.clear();
        return law.size();
    }

    private Line lawLine() {
        int sign = 1;
        if (!take("click")) {
            must("mute");
            sign = -1;
        }
        int n = sign * number(99);
        Condition condition = (wheel, told, code) -> true;
        if (take("if")) {
            condition = any(0);
        }
        return new Line(n, condition);
    }

    private Condition any(int deep) {
        Condition first = every(deep);
        if (take("or")) {
            Condition rest = any(deep);
            return (wheel, told, code) -> first.holds(wheel, told, code) || rest.holds(wheel, told, code);
        }
        return first;
    }

    private Condition every(int deep) {
        Condition first = atom(deep);
        if (take("and")) {
            Condition rest = every(deep);
            return (wheel, told, code) -> first.holds(wheel, told, code) && rest.holds(wheel, told, code);
        }
        return first;
    }

    private Condition atom(int deep) {
        if ((here().equals("not") || here().equals("(")) && deep == 6) {
            throw wrong();
        }
        if (take("not")) {
            Condition inner = atom(deep + 1);
            return (wheel, told, code) -> !inner.holds(wheel, told, code);
        }
        if (take("(")) {
            Condition inner = any(deep + 1);
            must(")");
            return inner;
        }
        if (take("same")) {
            return (wheel, told, code) -> told == code;
        }
        if (take("next")) {
            return (wheel, told, code) -> (told + 1) % 6 == code || (code + 1) % 6 == told;
        }
        Sum one = sum();
        if (take("<")) {
            Sum other = sum();
            return (wheel, told, code) -> one.of(wheel, told, code) < other.of(wheel, told, code);
        }
        must(">");
        Sum other = sum();
        return (wheel, told, code) -> one.of(wheel, told, code) > other.of(wheel, told, code);
    }

    private Sum sum() {
        Sum first = part();
        if (take("+")) {
            Sum rest = sum();
            return (wheel, told, code) -> first.of(wheel, told, code) + rest.of(wheel, told, code);
        }
        return first;
    }

    private Sum part() {
        if (take("wheel")) {
            return (wheel, told, code) -> wheel;
        }
        if (take("told")) {
            return (wheel, told, code) -> told;
        }
        if (take("code")) {
            return (wheel, told, code) -> code;
        }
        if (take("apart")) {
            return (wheel, told, code) -> {
                int steps = 0;
                while ((told + steps) % 6 != code && (code + steps) % 6 != told) {
                    steps++;
                }
                return steps;
            };
        }
        int n = number(999);
        return (wheel, told, code) -> n;
    }

    int fault() {
        return fault;
    }

    // ---- tests of arguments ----

    private void vaultIs(int vault) {
        if (vault < 0 || vault >= w.vaults.size()) {
            throw new IndexOutOfBoundsException();
        }
    }

    private void personIs(int person) {
        if (person < 0 || person >= w.people) {
            throw new IndexOutOfBoundsException();
        }
    }

    private void below(int n, int end) {
        if (n < 0 || n >= end) {
            throw new IndexOutOfBoundsException();
        }
    }

    private void number(int n, int least, int most) {
        if (n < least || n > most) {
            throw new IllegalArgumentException();
        }
    }

    private void two(int one, int other) {
        if (one == other) {
            throw new IllegalArgumentException();
        }
    }

    // ---- what there is ----

    private boolean guarded(Vault v, int day) {
        return v.guards.contains(day % 7);
    }

    private static int bits(Iterable<Integer> set) {
        int bits = 0;
        for (int i : set) {
            bits |= 1 << i;
        }
        return bits;
    }

    private static int longest(TreeSet<Integer> guards) {
        if (guards.isEmpty()) {
            return 7;
        }
        int best = 0;
        for (int from = 0; from < 7; from++) {
            int n = 0;
            while (!guards.contains((from + n) % 7)) {
                n++;
            }
            best = Math.max(best, n);
        }
        return best;
    }

    int vault(int vault, int what) {
        vaultIs(vault);
        Vault v = w.vaults.get(vault);
        return switch (what) {
            case 0 -> v.code;
            case 1 -> bits(v.guards);
            case 2 -> v.worth;
            case 3 -> v.opened ? 1 : 0;
            case 4 -> 127 - bits(v.guards);
            case 5 -> {
                int n = 0;
                while (n < 7 && guarded(v, Math.min(9999, w.day + n))) {
                    n++;
                }
                yield n == 7 ? -1 : n;
            }
            case 6 -> longest(v.guards);
            default -> throw new NoSuchElementException();
        };
    }

    int left(int person, int vault) {
        personIs(person);
        vaultIs(vault);
        return w.knows(person, vault).size();
    }

    int code(int person, int vault, int k) {
        personIs(person);
        vaultIs(vault);
        List<Integer> codes = new ArrayList<>(w.knows(person, vault));
        return k < 0 || k >= codes.size() ? -1 : codes.get(k);
    }

    private static int side(int code, int wheel) {
        return new int[] {code / 36, code / 6 % 6, code % 6}[wheel];
    }

    int wheel(int person, int vault, int wheel, boolean all) {
        personIs(person);
        vaultIs(vault);
        below(wheel, 3);
        TreeSet<Integer> sides = new TreeSet<>();
        for (int code : w.knows(person, vault)) {
            sides.add(side(code, wheel));
        }
        if (all) {
            return bits(sides);
        }
        return sides.size() == 1 ? sides.first() : -1;
    }

    int click(int wheel, int told, int code) {
        below(wheel, 3);
        number(told, 0, 5);
        number(code, 0, 5);
        if (w.law == null) {
            return told == code ? 1 : 0;
        }
        int sum = 0;
        for (Line line : w.law) {
            if (line.condition.holds(wheel, told, code)) {
                sum += line.loud;
            }
        }
        return sum;
    }

    int sound(int told, int code) {
        below(told, 216);
        below(code, 216);
        if (soundsLaw != w.law) {
            soundsLaw = w.law;
            sounds.clear();
        }
        return sounds.computeIfAbsent(told * 216 + code, k -> {
            int sum = 0;
            for (int wheel = 0; wheel < 3; wheel++) {
                sum += click(wheel, side(told, wheel), side(code, wheel));
            }
            return sum;
        });
    }

    // ---- acts ----

    private void remember() {
        past.add(w.copy());
        if (past.size() > 10) {
            past.remove(0);
        }
    }

    private TreeSet<Integer> heard(TreeSet<Integer> before, int told, int truth) {
        TreeSet<Integer> stay = new TreeSet<>();
        for (int code : before) {
            if (told == truth ? code == told : code != told && sound(told, code) == sound(told, truth)) {
                stay.add(code);
            }
        }
        return stay;
    }

    int turn(int person, int vault, int code) {
        personIs(person);
        vaultIs(vault);
        below(code, 216);
        Vault v = w.vaults.get(vault);
        if (guarded(v, w.day)) {
            throw new IllegalStateException();
        }
        remember();
        boolean opens = v.code == code;
        if (opens) {
            v.opened = true;
        }
        w.known.put(person * 100 + vault, heard(w.knows(person, vault), code, v.code));
        w.log.add(new Row(w.day, person, vault, code, sound(code, v.code), opens));
        if (w.log.size() > 80) {
            w.log.remove(0);
        }
        return sound(code, v.code);
    }

    int tell(int person, int other, int vault) {
        personIs(person);
        personIs(other);
        vaultIs(vault);
        two(person, other);
        remember();
        TreeSet<Integer> both = new TreeSet<>(w.knows(other, vault));
        both.retainAll(w.knows(person, vault));
        w.known.put(other * 100 + vault, both);
        return both.size();
    }

    int forget(int person, int vault) {
        int had = left(person, vault);
        remember();
        w.known.remove(person * 100 + vault);
        return had;
    }

    int change(int vault, int code) {
        vaultIs(vault);
        below(code, 216);
        remember();
        int was = w.vaults.get(vault).code;
        w.anew(vault, code);
        return was;
    }

    boolean guard(int vault, int weekday, boolean in) {
        vaultIs(vault);
        number(weekday, 0, 6);
        remember();
        TreeSet<Integer> guards = w.vaults.get(vault).guards;
        return in ? guards.add(weekday) : guards.remove(weekday);
    }

    int days(int n) {
        number(n, 1, 60);
        remember();
        return w.pass(n);
    }

    // ---- turnings that part ----

    private Map<Integer, TreeSet<Integer>> parted(Iterable<Integer> codes, int told) {
        Map<Integer, TreeSet<Integer>> parts = new HashMap<>();
        for (int code : codes) {
            int key = code == told ? Integer.MAX_VALUE : sound(told, code);
            parts.computeIfAbsent(key, k -> new TreeSet<>()).add(code);
        }
        return parts;
    }

    private int greatest(Iterable<Integer> codes, int told) {
        Map<Integer, Integer> sizes = new HashMap<>();
        int most = 0;
        for (int code : codes) {
            int key = code == told ? Integer.MAX_VALUE : sound(told, code);
            most = Math.max(most, sizes.merge(key, 1, Integer::sum));
        }
        return most;
    }

    int parts(int person, int vault, int code, boolean most) {
        personIs(person);
        vaultIs(vault);
        below(code, 216);
        TreeSet<Integer> codes = w.knows(person, vault);
        return most ? greatest(codes, code) : parted(codes, code).size();
    }

    private int nextOf(TreeSet<Integer> codes) {
        int[] greatest = new int[216];
        int least = 1000;
        for (int told = 0; told < 216; told++) {
            greatest[told] = greatest(codes, told);
            least = Math.min(least, greatest[told]);
        }
        for (int told : codes) {
            if (greatest[told] == least) {
                return told;
            }
        }
        int told = 0;
        while (greatest[told] != least) {
            told++;
        }
        return told;
    }

    int next(int person, int vault) {
        personIs(person);
        vaultIs(vault);
        return nextOf(w.knows(person, vault));
    }

    int outright(int person, int vault) {
        personIs(person);
        vaultIs(vault);
        for (int told = 0; told < 216; told++) {
            if (greatest(w.knows(person, vault), told) <= 1) {
                return told;
            }
        }
        return -1;
    }

    private int worstOf(TreeSet<Integer> codes, Map<TreeSet<Integer>, Integer> seen) {
        if (seen.containsKey(codes)) {
            return seen.get(codes);
        }
        int best = 1000;
        for (int told = 0; told < 216; told++) {
            Map<Integer, TreeSet<Integer>> parts = parted(codes, told);
            if (parts.size() == 1 && !codes.contains(told)) {
                continue;
            }
            int most = 1;
            for (TreeSet<Integer> part : parts.values()) {
                if (!part.contains(told)) {
                    most = Math.max(most, 1 + worstOf(part, seen));
                }
            }
            best = Math.min(best, most);
        }
        seen.put(codes, best);
        return best;
    }

    int worst(int person, int vault) {
        personIs(person);
        vaultIs(vault);
        TreeSet<Integer> codes = w.knows(person, vault);
        return codes.size() > 6 ? -3 : worstOf(codes, new HashMap<>());
    }

    int quietest(int told) {
        below(told, 216);
        TreeSet<Integer> others = all();
        others.remove(told);
        Map<Integer, TreeSet<Integer>> parts = parted(others, told);
        int most = greatest(others, told);
        for (int code : others) {
            if (parts.get(sound(told, code)).size() == most) {
                return code;
            }
        }
        return -1;
    }

    int loudest() {
        int best = -1;
        int bestWay = -1;
        for (int told = 0; told < 216; told++) {
            TreeSet<Integer> sounds = new TreeSet<>();
            for (int code = 0; code < 216; code++) {
                sounds.add(sound(told, code));
            }
            if (sounds.last() - sounds.first() > bestWay) {
                best = told;
                bestWay = sounds.last() - sounds.first();
            }
        }
        return best;
    }

    int deaf() {
        TreeSet<Integer> wheels = new TreeSet<>();
        for (int wheel = 0; wheel < 3; wheel++) {
            boolean deaf = true;
            for (int told = 0; told < 6; told++) {
                for (int code = 0; code < 6; code++) {
                    deaf &= click(wheel, told, code) == click(wheel, told, 0);
                }
            }
            if (deaf) {
                wheels.add(wheel);
            }
        }
        return bits(wheels);
    }

    // ---- who can open ----

    private int shared(int people, int vault) {
        TreeSet<Integer> codes = all();
        for (int p = 0; p < w.people; p++) {
            if ((people & 1 << p) != 0) {
                codes.retainAll(w.knows(p, vault));
            }
        }
        return codes.size();
    }

    int alone(int vault) {
        vaultIs(vault);
        TreeSet<Integer> people = new TreeSet<>();
        for (int p = 0; p < w.people; p++) {
            if (left(p, vault) == 1) {
                people.add(p);
            }
        }
        return bits(people);
    }

    boolean together(int people, int vault) {
        vaultIs(vault);
        return shared(people, vault) == 1;
    }

    int fewest(int vault, boolean silence) {
        vaultIs(vault);
        int all = (1 << w.people) - 1;
        for (int n = 0; n <= w.people; n++) {
            for (int set = 0; set <= all; set++) {
                boolean can = shared(silence ? all - set : set, vault) == 1;
                if (Integer.bitCount(set) == n && can != silence) {
                    return set;
                }
            }
        }
        return -1;
    }

    int pair(int vault) {
        vaultIs(vault);
        int best = -1;
        for (int i = 0; i < w.people; i++) {
            for (int j = i + 1; j < w.people; j++) {
                if (best < 0 || shared(1 << i | 1 << j, vault) < shared(1 << best / 10 | 1 << best % 10, vault)) {
                    best = 10 * i + j;
                }
            }
        }
        return best;
    }

    int gains(int person, int other, int vault) {
        personIs(person);
        personIs(other);
        vaultIs(vault);
        two(person, other);
        return left(person, vault) - shared(1 << person | 1 << other, vault);
    }

    // ---- contracts ----

    private boolean quarrel(Contract a, Contract b) {
        return a.who == b.who && a.vault == b.vault && a.open != b.open;
    }

    int contract(int contract, int what) {
        below(contract, w.contracts.size());
        Contract c = w.contracts.get(contract);
        return switch (what) {
            case 0 -> c.open ? 1 : 0;
            case 1 -> c.who;
            case 2 -> c.vault;
            case 3 -> c.day;
            case 4 -> {
                int others = 0;
                for (int i = 0; i < w.contracts.size(); i++) {
                    if (quarrel(c, w.contracts.get(i))) {
                        others |= 1 << i;
                    }
                }
                yield others;
            }
            default -> throw new NoSuchElementException();
        };
    }

    int broken() {
        int bits = 0;
        for (int i = 0; i < w.contracts.size(); i++) {
            Contract c = w.contracts.get(i);
            boolean turned = false;
            boolean kept = false;
            for (Row row : w.log) {
                boolean theirs = row.who == c.who && row.vault == c.vault;
                turned |= theirs;
                kept |= theirs && row.opened && row.day <= c.day;
            }
            if (c.open ? w.day > c.day && !kept : turned) {
                bits |= 1 << i;
            }
        }
        return bits;
    }

    int breaks() {
        int n = w.contracts.size();
        for (int count = 0; count <= n; count++) {
            for (int out = 0; out < 1 << n; out++) {
                boolean peace = Integer.bitCount(out) == count;
                for (int i = 0; i < n && peace; i++) {
                    for (int j = 0; j < n; j++) {
                        boolean both = (out & (1 << i | 1 << j)) == 0;
                        peace &= !(both && quarrel(w.contracts.get(i), w.contracts.get(j)));
                    }
                }
                if (peace) {
                    return out;
                }
            }
        }
        return -1;
    }

    // ---- guards, gains ----

    int rota(int vault, int n) {
        vaultIs(vault);
        number(n, 0, 6);
        TreeSet<Integer> guards = w.vaults.get(vault).guards;
        for (int count = 0; count <= 7; count++) {
            for (int set = 0; set < 128; set++) {
                TreeSet<Integer> with = new TreeSet<>(guards);
                for (int d = 0; d < 7; d++) {
                    if ((set & 1 << d) != 0) {
                        with.add(d);
                    }
                }
                boolean fresh = with.size() == guards.size() + Integer.bitCount(set);
                if (fresh && Integer.bitCount(set) == count && longest(with) <= n) {
                    return set;
                }
            }
        }
        return -1;
    }

    int richest(int person, boolean easiest) {
        personIs(person);
        int best = -1;
        for (int v = w.vaults.size() - 1; v >= 0; v--) {
            if (guarded(w.vaults.get(v), w.day)) {
                continue;
            }
            if (best < 0) {
                best = v;
            } else if (easiest ? left(person, v) <= left(person, best)
                    : w.vaults.get(v).worth / left(person, v) >= w.vaults.get(best).worth / left(person, best)) {
                best = v;
            }
        }
        return best;
    }

    int first(int vault) {
        vaultIs(vault);
        for (Row row : w.log) {
            if (row.vault == vault && row.opened) {
                return row.who;
            }
        }
        return -1;
    }

    int turned(int vault, int person) {
        vaultIs(vault);
        if (person != -1) {
            personIs(person);
        }
        int n = 0;
        for (Row row : w.log) {
            if (row.vault == vault && (person == -1 || row.who == person)) {
                n++;
            }
        }
        return n;
    }

    int price(int person) {
        personIs(person);
        int sum = 0;
        for (int v = 0; v < w.vaults.size(); v++) {
            sum += w.vaults.get(v).worth / left(person, v);
        }
        return sum;
    }

    int risky() {
        int best = -1;
        int least = Integer.MAX_VALUE;
        for (int v = 0; v < w.vaults.size() && w.people > 0; v++) {
            int sum = 0;
            for (int p = 0; p < w.people; p++) {
                sum += left(p, v);
            }
            if (sum < least) {
                least = sum;
                best = v;
            }
        }
        return best;
    }

    int when(int person, int vault) {
        personIs(person);
        vaultIs(vault);
        TreeSet<Integer> codes = w.knows(person, vault);
        int truth = w.vaults.get(vault).code;
        for (int n = 1; n <= 20; n++) {
            int told = nextOf(codes);
            if (told == truth) {
                return n;
            }
            codes = heard(codes, told, truth);
        }
        return -1;
    }

    // ---- trials ----

    private int changed(World then) {
        int bits = 0;
        for (int v = 0; v < w.vaults.size(); v++) {
            if (then.vaults.get(v).code != w.vaults.get(v).code) {
                bits |= 1 << v;
            }
        }
        return bits;
    }

    int trial(int n, boolean left) {
        number(n, 0, 40);
        World then = w.copy();
        then.pass(n);
        if (!left) {
            return changed(then);
        }
        int pairs = 0;
        for (int p = 0; p < w.people; p++) {
            for (int v = 0; v < w.vaults.size(); v++) {
                if (then.knows(p, v).size() == 216) {
                    pairs++;
                }
            }
        }
        return pairs;
    }

    int span(int n, boolean most) {
        number(n, 0, 40);
        TreeSet<Integer> counts = new TreeSet<>();
        for (int seed = 1; seed <= 6; seed++) {
            World then = w.copy();
            then.seed = seed;
            then.pass(n);
            counts.add(Integer.bitCount(changed(then)));
        }
        return most ? counts.last() : counts.first();
    }

    // ---- the rest ----

    int log(int ago, int what) {
        if (what < 0 || what > 5) {
            throw new NoSuchElementException();
        }
        if (ago < 0 || ago >= w.log.size()) {
            return -999;
        }
        Row row = w.log.get(w.log.size() - 1 - ago);
        return new int[] {row.day, row.who, row.vault, row.code, row.sound, row.opened ? 1 : 0}[what];
    }

    int seed(int n) {
        int was = w.seed;
        w.seed = n;
        return was;
    }

    boolean undo() {
        if (past.isEmpty()) {
            return false;
        }
        w = past.remove(past.size() - 1);
        return true;
    }

    void image() {
        image = w.copy();
    }

    boolean back() {
        if (image == null) {
            return false;
        }
        w = image.copy();
        past.clear();
        return true;
    }

    int count(int what) {
        int opened = 0;
        int guarded = 0;
        int worth = 0;
        for (int v = 0; v < w.vaults.size(); v++) {
            opened |= w.vaults.get(v).opened ? 1 << v : 0;
            guarded |= guarded(w.vaults.get(v), w.day) ? 1 << v : 0;
            worth += w.vaults.get(v).worth;
        }
        int[] counts = {w.vaults.size(), w.people, w.contracts.size(), w.texts, w.law == null ? -1 : w.law.size(),
            w.day, w.change, opened, guarded, w.log.size(), w.told, worth, past.size()};
        return what < 0 || what >= counts.length ? -1 : counts[what];
    }
}
