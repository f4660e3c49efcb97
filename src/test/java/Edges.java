import java.lang.reflect.InvocationTargetException;
import java.lang.reflect.Method;
import java.lang.reflect.Modifier;
import java.util.ArrayList;
import java.util.List;
import java.util.NoSuchElementException;
import java.util.Set;
import java.util.TreeMap;
import java.util.TreeSet;

/**
 * What the tests of edges share. Each such test is a method named after its promise (p01.. to
 * p48..) that stands on one edge; a name that is none fails, and so does a promise without a test.
 */
class Edges {
    static final Class<IndexOutOfBoundsException> INDEX = IndexOutOfBoundsException.class;
    static final Class<IllegalArgumentException> ARGUMENT = IllegalArgumentException.class;
    static final Class<IllegalStateException> STATE = IllegalStateException.class;
    static final Class<NoSuchElementException> ELEMENT = NoSuchElementException.class;
    static final Class<UnsupportedOperationException> UNSUPPORTED = UnsupportedOperationException.class;

    static final int NONE = -1;
    static final int LEAST = Integer.MIN_VALUE;
    static final int MOST = Integer.MAX_VALUE;

    /** Turned to anything, 3 is heard by the codes 0 to 11 alone; more is never told of them. */
    static final String DOZEN = "click 1 if wheel<1 and code<1;click 2 if wheel>0 and wheel<2 and code<2";

    /** Turned to anything, 3 is heard by the codes 0 to 5 alone; more is never told of them. */
    static final String HALF_DOZEN = "click 1 if wheel<1 and code<1;click 2 if wheel>0 and wheel<2 and code<1";

    /** By a turning to 000 each of the 216 codes has a sound of its own, 0 to 215. */
    static final String BABBLER = "click 1 if apart>0;click 1 if apart>1;click 1 if apart>2;click 2 if code>2;"
            + "click 5 if wheel<2 and apart>0;click 5 if wheel<2 and apart>1;click 5 if wheel<2 and apart>2;"
            + "click 10 if wheel<2 and code>2;click 30 if wheel<1 and apart>0;click 30 if wheel<1 and apart>1;"
            + "click 30 if wheel<1 and apart>2;click 60 if wheel<1 and code>2";

    /** Calls that busy() makes, and some to spare. */
    private static final int BUSY_CALLS = 40;
    private static final int MOST_CALLS = 512;

    /** One call on an object; a boolean counts 1 or 0. */
    interface On {
        long go(SafeKnown x);
    }

    static void run(Class<?> tests, int from, int to) {
        TreeMap<String, Method> named = new TreeMap<>();
        Set<Integer> promises = new TreeSet<>();
        for (Method m : tests.getDeclaredMethods()) {
            if (Modifier.isPrivate(m.getModifiers()) || m.isSynthetic() || m.getName().equals("main")) {
                continue;
            }
            boolean right = m.getName().matches("p\\d\\d[A-Z]\\w*");
            Check.due(m.getName() + " is named after a promise", right, true);
            if (right) {
                named.put(m.getName(), m);
                promises.add(Integer.parseInt(m.getName().substring(1, 3)));
            }
        }
        for (int promise = from; promise <= to; promise++) {
            Check.due("promise " + promise + " has a test", promises.remove(promise), true);
        }
        Check.due("promises of another class " + promises, promises.size(), 0);
        for (Method m : named.values()) {
            runOne(m);
        }
        Check.finish(tests.getSimpleName() + ", " + named.size() + " edges");
    }

    private static void runOne(Method test) {
        Check.begin(test.getName());
        try {
            test.invoke(null);
        } catch (InvocationTargetException thrown) {
            Check.fail("threw " + thrown.getCause());
        } catch (IllegalAccessException thrown) {
            Check.fail("cannot be run: " + thrown);
        }
        Check.begin("");
    }

    static void due(String what, long got, long want) {
        Check.due(what, got, want);
    }

    static void due(String what, boolean got, boolean want) {
        Check.due(what, got, want);
    }

    static void refuses(String what, Class<? extends RuntimeException> want, Check.Call call) {
        Check.refuses(what, want, call);
    }

    /** The draws of the document by long arithmetic: what comes out, and the seed behind it. */
    static final class Draws {
        private long seed;

        Draws(int seed) {
            this.seed = seed & 0xffffffffL;
        }

        int next() {
            seed = (seed * 1103515245L + 12345L) % 4294967296L;
            return (int) (seed / 65536 % 32768);
        }

        int seed() {
            return (int) seed;
        }
    }

    // ---- objects to stand on ----

    static SafeKnown made(String bank) {
        SafeKnown x = new SafeKnown();
        due("bank() of " + bank, Check.bank(x, bank), 1);
        return x;
    }

    static SafeKnown made(String bank, String law) {
        SafeKnown x = made(bank);
        Check.law(x, law);
        return x;
    }

    static String repeated(String line, int times) {
        StringBuilder s = new StringBuilder(line);
        for (int i = 1; i < times; i++) {
            s.append(';').append(line);
        }
        return s.toString();
    }

    static String figures(int code) {
        return "" + code / 36 + code / 6 % 6 + code % 6;
    }

    /** One vault of a code from 0 to 11, and so many people who know that it is one of these twelve. */
    static SafeKnown dozen(int code, int people) {
        SafeKnown x = made("vault " + figures(code) + " worth 100;" + repeated("person", people), DOZEN);
        for (int person = 0; person < people; person++) {
            due("turn to 555", x.turn(person, 0, 215), 3);
            due("left", x.left(person, 0), 12);
        }
        return x;
    }

    /** From whatever day it is on to a later one. */
    static void goToDay(SafeKnown x, int day) {
        for (int more = day - x.count(5); more > 0; more -= 60) {
            x.days(Math.min(60, more));
        }
        due("day", x.count(5), day);
    }

    /**
     * Two vaults, two people, three contracts, a law, an image and acts to undo; vault 0 is
     * guarded today; "person" lies on the tape.
     */
    static SafeKnown busy() {
        SafeKnown x = made("vault 012 worth 100 guard 1 3;vault 543 worth 999;person;person;never 0 0;"
                + "open 0 1 by 5;open 1 1 by 0;change 30", "click 5 if same;click 2 if next");
        x.seed(7);
        x.turn(0, 1, 0);
        x.image();
        x.turn(1, 1, 100);
        x.tell(0, 1, 1);
        x.days(1);
        x.turn(0, 1, 5);
        x.guard(1, 4, true);
        x.undo();
        x.forget(1, 0);
        Check.lay(x, "person");
        return x;
    }

    // ---- that nothing has changed ----

    /** A call that throws: behind it all answers are as if there had been no call. */
    static void refusedAndNothing(String what, Class<? extends RuntimeException> want, On call) {
        SafeKnown x = busy();
        Check.refuses(what, want, () -> call.go(x));
        due("fault() behind " + what, x.fault(), NONE);
        same(what, shows(x), shows(busy()));
    }

    /** Calls that name one that is none: there are two vaults, two people and three contracts. */
    static void needs(String name, On... calls) {
        SafeKnown x = busy();
        for (int i = 0; i < calls.length; i++) {
            On call = calls[i];
            Check.refuses(name + ", call " + i, INDEX, () -> call.go(x));
        }
        same("refused calls of " + name, shows(x), shows(busy()));
    }

    /** A call that answers and leaves all as it is. */
    static void answersAndNothing(String what, long want, On call) {
        SafeKnown x = busy();
        due(what, call.go(x), want);
        due("fault() behind " + what, x.fault(), NONE);
        same(what, shows(x), shows(busy()));
    }

    /** A wrong text: but for fault() and the tape all is as it was. */
    static void wrongBankAndNothing(String text, int at) {
        SafeKnown x = busy();
        x.end(0);
        Check.wrongBank(x, text, at);
        SafeKnown y = busy();
        y.end(0);
        same("bank() of " + text, shows(x), shows(y));
    }

    static void wrongLawAndNothing(String text, int at) {
        SafeKnown x = busy();
        x.end(0);
        Check.wrongLaw(x, text, at);
        SafeKnown y = busy();
        y.end(0);
        same("law() of " + text, shows(x), shows(y));
    }

    private static void same(String what, List<Long> got, List<Long> want) {
        due("as many answers behind " + what, got.size(), want.size());
        due("calls of one object", got.size() + BUSY_CALLS <= MOST_CALLS, true);
        for (int i = 0; i < Math.min(got.size(), want.size()); i++) {
            due("answer " + i + " behind " + what, got.get(i), want.get(i));
        }
    }

    /** What an object like busy() answers from now on: as it is, undone, on later days, gone back. */
    private static List<Long> shows(SafeKnown x) {
        List<Long> answers = new ArrayList<>();
        look(x, answers);
        for (int i = 0; i < 11; i++) {
            answers.add(x.undo() ? 1L : 0L);
            answers.add((long) x.left(0, 1));
            answers.add((long) x.count(9));
        }
        answers.add((long) x.days(9));
        look(x, answers);
        answers.add(x.back() ? 1L : 0L);
        look(x, answers);
        answers.add((long) x.seed(3));
        answers.add((long) x.feed(0x20202020, 0x20202020, 0x20202020, 0x20202020, 0x20202020));
        answers.add((long) x.bank());
        answers.add((long) x.count(1));
        return answers;
    }

    private static void look(SafeKnown x, List<Long> answers) {
        for (int what = 0; what <= 12; what++) {
            answers.add((long) x.count(what));
        }
        for (int vault = 0; vault < 2; vault++) {
            for (int what = 0; what <= 6; what++) {
                answers.add((long) x.vault(vault, what));
            }
            for (int person = 0; person < 2; person++) {
                answers.add((long) x.left(person, vault));
                answers.add((long) x.code(person, vault, 0));
                answers.add((long) x.wheel(person, vault, 1, true));
            }
        }
        for (int contract = 0; contract < 3; contract++) {
            for (int what = 0; what <= 4; what++) {
                answers.add((long) x.contract(contract, what));
            }
        }
        for (int ago = 0; ago <= 3; ago++) {
            for (int what = 0; what <= 5; what++) {
                answers.add((long) x.log(ago, what));
            }
        }
        answers.add((long) x.sound(7, 49));
        answers.add((long) x.broken());
        answers.add((long) x.price(0));
        answers.add((long) x.risky());
    }
}
