import java.lang.reflect.InvocationTargetException;
import java.lang.reflect.Method;
import java.util.ArrayList;
import java.util.HashMap;
import java.util.List;
import java.util.Map;
import java.util.Random;

/** Runs of calls, drawn from fixed seeds, on SafeKnown and on the model: each answer must be the same. */
public final class RandomRunsTest {
    private static final int RUNS = 260;
    private static final int CALLS = 512;

    /** Each method with its arguments, a sign each, and how often it comes by itself. */
    private static final String[] SPECS = {
        "feed:iiiii:1", "end:n:1", "fault::2", "vault:va:6", "left:pv:6", "code:pvk:5", "wheel:pvwb:5",
        "click:wss:4", "sound:cc:4", "turn:pvc:16", "tell:ppv:5", "forget:pv:1", "change:vc:2", "guard:vdb:4",
        "days:D:4", "parts:pvcb:5", "next:pv:2", "outright:pv:3", "worst:pv:7", "quietest:c:1", "loudest::1",
        "deaf::2", "alone:v:3", "together:gv:5", "fewest:vb:5", "pair:v:4", "gains:ppv:4", "contract:xq:6",
        "broken::5", "breaks::2", "rota:vr:3", "richest:pb:5", "first:v:3", "turned:vP:4", "price:p:4",
        "risky::4", "when:pv:2", "trial:tb:4", "span:tb:3", "log:lo:6", "seed:e:2", "undo::4", "image::1",
        "back::1", "count:z:10"};

    private static final Map<String, Method> REAL = new HashMap<>();
    private static final Map<String, Method> PLAIN = new HashMap<>();

    private final Random random;
    private final SafeKnown real = new SafeKnown();
    private final Model plain = new Model();
    private final List<String> told = new ArrayList<>();
    private int calls = 0;

    private RandomRunsTest(long seed) {
        random = new Random(seed);
    }

    public static void main(String[] args) throws Exception {
        for (Method m : SafeKnown.class.getDeclaredMethods()) {
            if (java.lang.reflect.Modifier.isPublic(m.getModifiers())) {
                REAL.put(m.getName(), m);
                Method twin = Model.class.getDeclaredMethod(m.getName(), m.getParameterTypes());
                twin.setAccessible(true);
                PLAIN.put(m.getName(), twin);
            }
        }
        Check.due("public methods", REAL.size(), SPECS.length + 2);
        int runs = args.length > 0 ? Integer.parseInt(args[0]) : RUNS;
        for (int run = 0; run < runs && !Check.hasWrong(); run++) {
            new RandomRunsTest(run).go(run % 13);
        }
        Check.finish("RandomRunsTest");
    }

    private void go(int kind) throws Exception {
        int texts = 2 + random.nextInt(2);
        for (int i = 0; i < texts; i++) {
            text("bank", bankText(i == 0));
        }
        if (kind != 0) {
            text("law", lawText());
        }
        while (calls < CALLS && !Check.hasWrong()) {
            if (kind == 1 && random.nextInt(3) > 0) {
                both("days", 60);
            } else if (kind == 2 && random.nextInt(2) > 0) {
                clever();
            } else if (kind == 3 && random.nextInt(3) > 0) {
                text(random.nextBoolean() ? "bank" : "law", random.nextBoolean() ? bankText(false) : lawText());
            } else {
                any();
            }
        }
    }

    private void any() throws Exception {
        int what = random.nextInt(100);
        if (what < 3) {
            text("bank", bankText(false));
        } else if (what < 4) {
            text("law", lawText());
        } else if (what < 14) {
            clever();
        } else {
            drawn();
        }
    }

    /** A turning that tells much, so that few codes are left. */
    private void clever() throws Exception {
        int p = random.nextInt(Math.max(1, plain.count(1)));
        int v = random.nextInt(Math.max(1, plain.count(0)));
        if (p >= plain.count(1) || v >= plain.count(0)) {
            drawn();
            return;
        }
        int left = plain.left(p, v);
        int code = random.nextInt(8) == 0 ? plain.vault(v, 0) : plain.code(p, v, random.nextInt(left));
        both("turn", p, v, code);
        both("left", p, v);
        if (left < 30) {
            both("worst", p, v);
            both("outright", p, v);
        }
    }

    private void drawn() throws Exception {
        int sum = 0;
        for (String spec : SPECS) {
            sum += Integer.parseInt(spec.substring(spec.lastIndexOf(':') + 1));
        }
        int at = random.nextInt(sum);
        for (String spec : SPECS) {
            String[] parts = spec.split(":");
            at -= Integer.parseInt(parts[2]);
            if (at < 0) {
                Object[] args = new Object[parts[1].length()];
                for (int i = 0; i < args.length; i++) {
                    args[i] = argument(parts[1].charAt(i));
                }
                both(parts[0], args);
                return;
            }
        }
    }

    private Object argument(char kind) {
        if (kind == 'b') {
            return random.nextBoolean();
        }
        int wild = random.nextInt(120);
        if (wild == 0) {
            return random.nextInt();
        }
        if (wild == 1) {
            return new int[] {-1, Integer.MIN_VALUE, Integer.MAX_VALUE, 216, 6, 12, 7}[random.nextInt(7)];
        }
        return switch (kind) {
            case 'i', 'e' -> random.nextInt();
            case 'n' -> random.nextInt(410) - 2;
            case 'v' -> random.nextInt(plain.count(0) + (wild < 10 ? 2 : 0) + (plain.count(0) == 0 ? 1 : 0));
            case 'p' -> random.nextInt(plain.count(1) + (wild < 10 ? 2 : 0) + (plain.count(1) == 0 ? 1 : 0));
            case 'P' -> random.nextInt(plain.count(1) + 1) - 1;
            case 'a' -> random.nextInt(7);
            case 'k' -> random.nextInt(random.nextBoolean() ? 6 : 218) - 1;
            case 'w' -> random.nextInt(3);
            case 's' -> random.nextInt(6);
            case 'c' -> random.nextInt(216);
            case 'd' -> random.nextInt(7);
            case 'D' -> random.nextInt(4) == 0 ? random.nextInt(63) : 1 + random.nextInt(4);
            case 'g' -> random.nextInt(random.nextBoolean() ? 64 : 1024);
            case 'x' -> random.nextInt(Math.max(1, plain.count(2)));
            case 'q' -> random.nextInt(5);
            case 'r' -> random.nextInt(7);
            case 't' -> random.nextInt(random.nextBoolean() ? 4 : 42);
            case 'l' -> random.nextInt(random.nextBoolean() ? 4 : 83) - 1;
            case 'o' -> random.nextInt(6);
            case 'z' -> random.nextInt(14);
            default -> throw new IllegalStateException("no such kind " + kind);
        };
    }

    // ---- texts ----

    private String pick(String... of) {
        return of[random.nextInt(of.length)];
    }

    private String number(int most) {
        int n = random.nextInt(60) == 0 ? random.nextInt(1200) : random.nextInt(Math.max(1, most + 1));
        String s = String.valueOf(n);
        return random.nextInt(20) == 0 ? "0" + s : s;
    }

    private String spoil(String text) {
        StringBuilder out = new StringBuilder(text);
        int times = random.nextInt(6) == 0 ? 1 + random.nextInt(2) : 0;
        for (int i = 0; i < times && out.length() > 0; i++) {
            int at = random.nextInt(out.length());
            switch (random.nextInt(4)) {
                case 0 -> out.deleteCharAt(at);
                case 1 -> out.insert(at, pick(" ", ";", "0", "7", "x", "(", ")", "not ", "+", "<", "\u00ff", "\t", "A"));
                case 2 -> out.setLength(at);
                default -> out.setCharAt(at, "a;0 9(<".charAt(random.nextInt(7)));
            }
        }
        String s = out.toString();
        return s.length() > 400 ? s.substring(0, 400) : s;
    }

    private String gap() {
        return random.nextInt(12) == 0 ? "  " : "";
    }

    private String bankText(boolean much) {
        StringBuilder s = new StringBuilder();
        int lines = much ? 6 + random.nextInt(9) : random.nextInt(random.nextInt(8) == 0 ? 16 : 4);
        for (int i = 0; i < lines; i++) {
            if (i > 0) {
                s.append(';');
            }
            s.append(gap());
            int what = random.nextInt(10);
            if (much && i < 2) {
                what = i == 0 ? 0 : 4;
            }
            if (what < 3) {
                s.append("vault ").append(random.nextInt(6)).append(random.nextInt(6)).append(random.nextInt(6));
                s.append(pick(" ", "")).append("worth").append(pick(" ", "")).append(number(999));
                if (random.nextInt(2) == 0) {
                    s.append(" guard");
                    for (int n = random.nextInt(5); n >= 0; n--) {
                        s.append(' ').append(number(6));
                    }
                }
            } else if (what < 6) {
                s.append("person");
            } else if (what < 8) {
                s.append("never ").append(number(1)).append(' ').append(number(1));
            } else if (what < 9) {
                s.append("open ").append(number(1)).append(' ').append(number(1));
                s.append(pick(" ", "")).append("by ").append(number(random.nextBoolean() ? 9 : 999));
            } else {
                s.append("change ").append(number(random.nextBoolean() ? 20 : 100));
            }
            s.append(gap());
        }
        return spoil(s.toString());
    }

    private String lawText() {
        StringBuilder s = new StringBuilder();
        int lines = random.nextInt(random.nextInt(6) == 0 ? 14 : 5);
        for (int i = 0; i < lines; i++) {
            s.append(i > 0 ? ";" : "").append(gap());
            s.append(pick("click ", "click ", "mute ", "click")).append(number(random.nextBoolean() ? 5 : 99));
            if (random.nextInt(4) > 0) {
                s.append(" if ").append(condition(0));
            }
        }
        return spoil(s.toString());
    }

    private String condition(int deep) {
        StringBuilder s = new StringBuilder(atom(deep));
        while (random.nextInt(3) == 0) {
            s.append(pick(" and ", " or ")).append(atom(deep));
        }
        return s.toString();
    }

    private String atom(int deep) {
        int what = random.nextInt(deep > 6 ? 6 : 10);
        if (what == 0) {
            return "same";
        }
        if (what == 1) {
            return "next";
        }
        if (what < 6) {
            return sum() + gap() + pick("<", ">", " < ", " > ") + sum();
        }
        return what < 8 ? "not " + atom(deep + 1) : pick("(", "( ") + condition(deep + 1) + pick(")", " )");
    }

    private String sum() {
        StringBuilder s = new StringBuilder(part());
        while (random.nextInt(3) == 0) {
            s.append(pick("+", " + ")).append(part());
        }
        return s.toString();
    }

    private String part() {
        return pick(number(6), "wheel", "told", "code", "apart", number(2));
    }

    private void text(String reader, String text) throws Exception {
        if (calls + 25 > CALLS) {
            drawn();
            return;
        }
        both("end", 0);
        for (int from = 0; from < text.length(); from += 20) {
            Object[] five = new Object[5];
            for (int i = 0; i < 5; i++) {
                int n = 0;
                for (int j = from + 4 * i; j < from + 4 * i + 4; j++) {
                    n = n << 8 | (j < text.length() ? text.charAt(j) : 0);
                }
                five[i] = n;
            }
            both("feed", five);
        }
        both("end", text.length());
        told.add("  (the text: \"" + text + "\")");
        both(reader);
        both("fault");
        both("count", 4);
    }

    // ---- both at once ----

    private static String answer(Method method, Object on, Object[] args) throws Exception {
        try {
            return String.valueOf(method.invoke(on, args));
        } catch (InvocationTargetException e) {
            return "throws." + e.getCause().getClass().getName();
        }
    }

    private void both(String name, Object... args) throws Exception {
        if (calls >= CALLS || Check.hasWrong()) {
            return;
        }
        calls++;
        String got = answer(REAL.get(name), real, args);
        String want = answer(PLAIN.get(name), plain, args);
        told.add(name + java.util.Arrays.toString(args) + " " + got);
        if (got.equals(want)) {
            Check.due(name, 0, 0);
            return;
        }
        for (String line : told) {
            System.out.println(line);
        }
        Check.fail("the last call answered " + got + ", due is " + want);
    }
}
