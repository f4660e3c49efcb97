import java.util.NoSuchElementException;

/** Each promise of the document by hand: ordinary calls, its edges and its wrong inputs. */
public final class PromisesTest {
    private static final Class<IndexOutOfBoundsException> INDEX = IndexOutOfBoundsException.class;
    private static final Class<IllegalArgumentException> ARGUMENT = IllegalArgumentException.class;
    private static final Class<IllegalStateException> STATE = IllegalStateException.class;
    private static final Class<NoSuchElementException> ELEMENT = NoSuchElementException.class;
    private static final Class<UnsupportedOperationException> UNSUPPORTED = UnsupportedOperationException.class;

    private PromisesTest() {
    }

    public static void main(String[] args) {
        newObject();
        tape();
        bankTexts();
        bankFaults();
        bankLimits();
        lawTexts();
        lawFaults();
        lawSounds();
        vaults();
        knowing();
        turning();
        telling();
        forgettingAndChanging();
        guarding();
        days();
        lastDay();
        parting();
        needing();
        listening();
        opening();
        contracts();
        breaking();
        rotas();
        prices();
        firsts();
        whens();
        trials();
        logs();
        undoing();
        images();
        counts();
        whichExceptionFirst();
        Check.finish("PromisesTest");
    }

    private static SafeKnown made(String bank) {
        SafeKnown x = new SafeKnown();
        Check.due("bank() of " + bank, Check.bank(x, bank), 1);
        return x;
    }

    private static void due(String what, long got, long want) {
        Check.due(what, got, want);
    }

    private static void due(String what, boolean got, boolean want) {
        Check.due(what, got, want);
    }

    /** Three codes are left to person 0 at vault 0: 000, 055 and 505. */
    private static SafeKnown threeLeft() {
        SafeKnown x = made("vault 000 worth 100;vault 123 worth 50;person;person");
        for (int code : new int[] {43, 86, 129, 172}) {
            due("turn to " + code, x.turn(0, 0, code), 0);
        }
        due("turn to 005", x.turn(0, 0, 5), 2);
        due("left", x.left(0, 0), 3);
        return x;
    }

    // ---- promise 1 ----

    private static void newObject() {
        SafeKnown x = new SafeKnown();
        int[] counts = {0, 0, 0, 0, -1, 0, 0, 0, 0, 0, 0, 0, 0, -1};
        for (int i = 0; i < counts.length; i++) {
            due("new count(" + i + ")", x.count(i), counts[i]);
        }
        due("new fault", x.fault(), -1);
        due("new undo", x.undo(), false);
        due("new back", x.back(), false);
        due("new seed", x.seed(1), 1);
        due("new loudest", x.loudest(), 0);
        due("new deaf", x.deaf(), 0);
        due("new broken", x.broken(), 0);
        due("new breaks", x.breaks(), 0);
        due("new risky", x.risky(), -1);
        due("new log", x.log(0, 0), -999);
        due("new trial", x.trial(40, false), 0);
        due("new trial left", x.trial(40, true), 0);
        due("new span", x.span(40, true), 0);
        due("new sound", x.sound(0, 0), 3);
        due("new days", x.days(3), 0);
        due("day", x.count(5), 3);
        due("NONE", SafeKnown.NONE, -1);
    }

    // ---- promises 2 and 3 ----

    private static void tape() {
        SafeKnown x = new SafeKnown();
        due("end(0)", x.end(0), true);
        due("end(1)", x.end(1), false);
        due("end(-1)", x.end(-1), false);
        for (int i = 1; i <= 20; i++) {
            due("feed " + i, x.feed(0x20202020, 0x20202020, 0x20202020, 0x20202020, 0x20202020), 20 * i);
        }
        due("feed too much", x.feed(0, 0, 0, 0, 0), -1);
        due("end(401)", x.end(401), false);
        due("end(381)", x.end(381), true);
        due("feed to 401", x.feed(0, 0, 0, 0, 0), -1);
        due("end(380)", x.end(380), true);
        due("feed to 400", x.feed(0x20202020, 0x20202020, 0x20202020, 0x20202020, 0x2020207a), 400);
        Check.refuses("bank() with a z at last", ARGUMENT, x::bank);
        due("fault", x.fault(), 399);
        due("tape is used up", x.end(1), false);
        due("feed", x.feed(0x70657273, 0x6f6e3b70, 0x6572736f, 0x6effffff, -1), 20);
        due("end(13)", x.end(13), true);
        due("end(14) behind it", x.end(14), false);
        due("bank", x.bank(), 1);
        due("people", x.count(1), 2);
        due("feed", x.feed(0x20202020, 0x20202020, 0x20202020, 0x20202020, 0x20202070), 20);
        due("feed goes on", x.feed(0x6572736f, 0x6e202020, 0x20202020, 0x20202020, 0x20202020), 40);
        due("bank", x.bank(), 2);
        due("people", x.count(1), 3);
        due("feed 255", x.feed(-1, 0, 0, 0, 0), 20);
        Check.refuses("bank() of 255", ARGUMENT, x::bank);
        due("fault of 255", x.fault(), 0);
        Check.lay(x, "change 12; person   ");
        due("cut in a number", x.end(8), true);
        due("bank", x.bank(), 3);
        due("the digits that are left", x.count(6), 1);
        Check.lay(x, "change 12;     person");
        due("cut ahead of blanks", x.end(10), true);
        Check.refuses("more must come", ARGUMENT, x::bank);
        due("at the length, not behind the blanks cut", x.fault(), 10);
        Check.lay(x, "click 5 if samenext");
        due("cut in a word", x.end(15), true);
        due("the word that is left", x.law(), 1);
    }

    // ---- promise 4 and 6 ----

    private static void bankTexts() {
        SafeKnown x = made("  vault 543 worth 007 guard 0 6 06 6 ; person;never 0 0;open 00 000 by 999;change 100  ");
        due("vaults", x.count(0), 1);
        due("people", x.count(1), 1);
        due("contracts", x.count(2), 2);
        due("change", x.count(6), 100);
        due("code", x.vault(0, 0), 5 * 36 + 4 * 6 + 3);
        due("guards", x.vault(0, 1), 65);
        due("worth", x.vault(0, 2), 7);
        due("not opened", x.vault(0, 3), 0);
        due("without blanks", Check.bank(x, "vault000worth0guard3;vault111worth999;change0;never0 2"), 2);
        due("vaults", x.count(0), 3);
        due("guard 3", x.vault(1, 1), 8);
        due("change", x.count(6), 0);
        due("contract", x.contract(2, 2), 2);
        due("empty text", Check.bank(x, ""), 3);
        due("blanks alone", Check.bank(x, "      "), 4);
        due("texts", x.count(3), 4);
        due("vaults", x.count(0), 3);
        due("turn", x.turn(0, 2, 0), 0);
        due("left", x.left(0, 2), 125);
        due("people more", Check.bank(x, "person;vault 000 worth 1"), 5);
        due("what was known stays", x.left(0, 2), 125);
        due("new person", x.left(1, 2), 216);
        due("new vault", x.left(0, 3), 216);
        due("same change twice", Check.bank(x, "change 5;change 7"), 6);
        due("the last change", x.count(6), 7);
    }

    private static void bankFaults() {
        SafeKnown x = made("person;vault 000 worth 1;never 0 0");
        x.turn(0, 0, 1);
        Object[][] wrong = {
            {";", 0}, {" ;", 1}, {"person;", 7}, {"person;  ", 9}, {"person;;person", 7}, {"persons", 0}, {"personz", 0}, {"z", 0}, {"aperson", 0},
            {"person person", 7}, {"person 1", 7}, {"Person", 0}, {"\tperson", 0}, {"person\n", 6}, {"5", 0},
            {"vault", 5}, {"vault ", 6}, {"vault 00", 6}, {"vault 0000", 6}, {"vault 006", 6}, {"vault 00 0", 6},
            {"vault x", 6}, {"vault 000", 9}, {"vault 000 x", 10}, {"vault 000 worth", 15},
            {"vault 000 worth 1000", 16}, {"vault 000 worth 0999", 16}, {"vault 000 worth x", 16},
            {"vault 000 worth 1 2", 18}, {"vault 000 worth 1 guard", 23}, {"vault 000 worth 1 guard x", 24},
            {"vault 000 worth 1 guard ;", 24}, {"vault 000 worth 1 guard 1 7", 26},
            {"vault 000 worth 1 guard 1 x", 26}, {"vault 000 worth 1 guard 1 guard 2", 26},
            {"vault 000 worth 1 guard 0001", 24}, {"vault 000 worth 1 guards 1", 18}, {"vault 000, worth 1", 9},
            {"never", 5}, {"never 1 0", 6}, {"never 0 1", 8}, {"never 0", 7}, {"never 0 0 0", 10},
            {"never 0;", 7}, {"never x", 6}, {"open 0 0", 8}, {"open 0 0 by", 11}, {"open 0 0 by 1000", 12},
            {"open 0 0 at 5", 9}, {"open 0 0 5", 9}, {"open 0 0 by x", 12}, {"open 1 0 by 5", 5},
            {"never 1 0;person", 6}, {"person;never 1 1;vault 000 worth 1", 15}, {"change", 6}, {"change 101", 7},
            {"change -1", 7}, {"change 1000", 7}, {"changed 1", 0}, {"click 1", 0}, {"person.", 6},
            {"person;vault 111 worth 5;change 50;x", 35}};
        for (Object[] one : wrong) {
            Check.wrongBank(x, (String) one[0], (Integer) one[1]);
        }
        due("nothing stays of vaults", x.count(0), 1);
        due("nor of people", x.count(1), 1);
        due("nor of contracts", x.count(2), 1);
        due("nor of texts", x.count(3), 1);
        due("nor of change", x.count(6), 0);
        due("acts are still remembered", x.count(12), 1);
        due("next text right", Check.bank(x, "person;never 1 0"), 2);
        due("fault is gone", x.fault(), -1);
        due("none are remembered", x.count(12), 0);
    }

    private static String repeated(String line, int times) {
        StringBuilder s = new StringBuilder(line);
        for (int i = 1; i < times; i++) {
            s.append(';').append(line);
        }
        return s.toString();
    }

    private static void bankLimits() {
        SafeKnown x = made(repeated("change 1", 14));
        Check.wrongBank(x, repeated("change 1", 15), 126);
        Check.wrongBank(x, repeated("change 1", 14) + ";", 126);
        Check.wrongBank(x, repeated("change 1", 14) + " ; x", 128);
        due("six people", Check.bank(x, repeated("person", 6)), 2);
        Check.wrongBank(x, "change 5;person", 9);
        due("change as before", x.count(6), 1);
        due("six vaults", Check.bank(x, repeated("vault 012 worth 999", 6)), 3);
        Check.wrongBank(x, " vault x", 1);
        due("eleven contracts", Check.bank(x, repeated("never 5 5", 11)), 4);
        Check.wrongBank(x, "open 5 5 by 1;never 0 0", 14);
        due("twelve contracts", Check.bank(x, "open 5 5 by 1"), 5);
        Check.wrongBank(x, "open x", 0);
        for (int i = 6; i <= 12; i++) {
            due("text " + i, Check.bank(x, ""), i);
        }
        x.turn(0, 0, 0);
        Check.lay(x, "change 9");
        Check.refuses("a thirteenth text", UNSUPPORTED, x::bank);
        due("the tape is used up", x.end(1), false);
        due("it was right", x.fault(), -1);
        due("change as before", x.count(6), 1);
        due("texts", x.count(3), 12);
        due("still remembered", x.count(12), 1);
        Check.wrongBank(x, "change x", 7);
        Check.lay(x, "change 9");
        Check.refuses("a thirteenth text", UNSUPPORTED, x::bank);
        due("it was read and right", x.fault(), -1);
        due("a law may still come", Check.law(x, "click 1"), 1);
    }

    // ---- promises 5, 6, 11 and 12 ----

    private static void lawTexts() {
        SafeKnown x = made("vault 000 worth 1;person;person");
        x.turn(0, 0, 43);
        x.turn(1, 0, 0);
        due("left", x.left(1, 0), 1);
        due("a law", Check.law(x, " click 5 if same ; mute 099 if(told>code)and not next or apart<2+wheel "), 2);
        due("lines", x.count(4), 2);
        due("all forget", x.left(0, 0) + x.left(1, 0), 432);
        due("it is still opened", x.count(7), 1);
        due("the log stays", x.count(9), 2);
        due("none are remembered", x.count(12), 0);
        due("another in its place", Check.law(x, "click 1"), 1);
        due("sound", x.sound(0, 215), 3);
        x.turn(0, 0, 43);
        due("left", x.left(0, 0), 215);
        Check.wrongLaw(x, "click 2;x", 8);
        due("the law stays", x.sound(0, 0), 3);
        due("what is known stays", x.left(0, 0), 215);
        due("acts stay", x.count(12), 1);
        due("no line", Check.law(x, "  "), 0);
        due("lines", x.count(4), 0);
        due("silence", x.sound(7, 7), 0);
        due("all deaf", x.deaf(), 7);
        due("twelve lines", Check.law(x, repeated("click 99", 12)), 12);
        due("loud", x.sound(0, 0), 3564);
        due("twelve lines", Check.law(x, repeated("mute 99", 12)), 12);
        due("quiet", x.sound(0, 0), -3564);
        due("parts", x.parts(0, 0, 0, false), 2);
        due("greatest", x.parts(0, 0, 0, true), 215);
    }

    private static void lawFaults() {
        SafeKnown x = new SafeKnown();
        Object[][] wrong = {
            {"click", 5}, {"click ", 6}, {"click x", 6}, {"click 100", 6}, {"click 0001", 6}, {"clack 1", 0},
            {"click 1;", 8}, {"click 1; ;", 9}, {"click 1 mute 2", 8}, {"click 1 2", 8}, {"vault 000 worth 1", 0},
            {"mute 1 if", 9}, {"mute 1 if ;", 10}, {"mute 1 if x", 10}, {"mute 1 if and", 10}, {"mute 1 if )", 10},
            {"mute 1 if same same", 15}, {"mute 1 if same +", 15}, {"mute 1 if same and", 18},
            {"mute 1 if same or", 17}, {"mute 1 if same or and", 18}, {"mute 1 if not", 13}, {"mute 1 if not ;", 14},
            {"mute 1 if (same", 15}, {"mute 1 if (same;", 15}, {"mute 1 if (same))", 16}, {"mute 1 if same)", 14},
            {"mute 1 if ()", 11}, {"mute 1 if told", 14}, {"mute 1 if told;", 14}, {"mute 1 if told +", 16},
            {"mute 1 if told + < 3", 17}, {"mute 1 if told code", 15}, {"mute 1 if told = 1", 15},
            {"mute 1 if told <", 16}, {"mute 1 if told < ;", 17}, {"mute 1 if told < same", 17},
            {"mute 1 if told < 1 < 2", 19}, {"mute 1 if told < 1000", 17}, {"mute 1 if 1000 < told", 10},
            {"mute 1 if (told) < 1", 15}, {"mute 1 if told < (1)", 17}, {"mute 1 if 1", 11}, {"mute 1 if 1 1", 12},
            {"mute 1 if told < 1 +", 20}, {"mute 1 if told<1 if same", 17}, {"mute 1 if samenext", 10},
            {"mute 1 if not not not not not not not same", 34}, {"mute 1 if (((((((same)))))))", 16},
            {"mute 1 if not(not(not(not same", 22}, {"mute 1 if same or (not(not(not(not", 30}};
        for (Object[] one : wrong) {
            Check.wrongLaw(x, (String) one[0], (Integer) one[1]);
        }
        Check.wrongLaw(x, repeated("click 1", 13), 96);
        Check.wrongLaw(x, repeated("click 1", 12) + " ;", 97);
        due("no law", x.count(4), -1);
        due("six deep", Check.law(x, "mute 1 if not not not not not not same"), 1);
        due("six deep", Check.law(x, "mute 1 if ((((((same))))))and((((((next))))))"), 1);
        due("six deep", Check.law(x, "mute 1 if not(not(not(same)))or not not not not not(next)"), 1);
        due("no blanks", Check.law(x, "click1if told<1+2and same"), 1);
        due("999", Check.law(x, "click 0 if 999+999>code"), 1);
    }

    private static void lawSounds() {
        SafeKnown x = new SafeKnown();
        due("without a text, same", x.click(2, 5, 5), 1);
        due("without a text, not same", x.click(2, 5, 0), 0);
        due("000 and 000", x.sound(0, 0), 3);
        due("012 and 112", x.sound(8, 44), 2);
        due("012 and 122", x.sound(8, 50), 1);
        Check.law(x, "click 10 if same;click 4 if next;mute 3 if apart > 2");
        due("same", x.click(0, 4, 4), 10);
        due("next", x.click(0, 4, 5), 4);
        due("next round", x.click(0, 0, 5), 4);
        due("two apart round", x.click(0, 5, 1), 0);
        due("three apart", x.click(0, 1, 4), -3);
        due("all together", x.sound(0 * 36 + 1 * 6 + 2, 0 * 36 + 2 * 6 + 5), 10 + 4 - 3);
        Check.law(x, "click 1 if wheel<1;click 2 if told>code;click 4 if told+wheel<code+1;click 8 if 5<apart+apart");
        due("wheel 0", x.click(0, 3, 3), 1 + 4);
        due("wheel 1", x.click(1, 3, 3), 0);
        due("told above code", x.click(1, 3, 2), 2);
        due("told far below", x.click(2, 0, 3), 4 + 8);
        Check.law(x, "click 1 if same or next and told<1");
        due("and binds more", x.click(0, 3, 3), 1);
        due("next, told 0", x.click(0, 0, 5), 1);
        due("next, told 1", x.click(0, 1, 0), 0);
        Check.law(x, "click 1 if (same or next) and told<1");
        due("in brackets", x.click(0, 3, 3), 0);
        Check.law(x, "click 1 if not same and told<1");
        due("not binds most", x.click(0, 3, 4), 0);
        due("not same, told 0", x.click(0, 0, 4), 1);
        Check.law(x, "click 1 if not(same and told<1)");
        due("not of brackets", x.click(0, 3, 3), 1);
        due("not of brackets that hold", x.click(0, 0, 0), 0);
        Check.law(x, "click 1 if same and told<1 or next and code>4");
        due("first all", x.click(1, 0, 0), 1);
        due("second all", x.click(1, 0, 5), 1);
        due("neither", x.click(1, 5, 4), 0);
        Check.law(x, "click 1 if same or next or told>4");
        due("the first of three", x.click(1, 0, 0), 1);
        due("the second of three", x.click(1, 0, 1), 1);
        due("the third of three", x.click(1, 5, 2), 1);
        due("none of three", x.click(1, 0, 2), 0);
        Check.refuses("click(-1, 0, 0)", INDEX, () -> x.click(-1, 0, 0));
        Check.refuses("click(3, 0, 0)", INDEX, () -> x.click(3, 0, 0));
        Check.refuses("click(3, 9, 9)", INDEX, () -> x.click(3, 9, 9));
        Check.refuses("click(0, 6, 0)", ARGUMENT, () -> x.click(0, 6, 0));
        Check.refuses("click(0, 0, 6)", ARGUMENT, () -> x.click(0, 0, 6));
        Check.refuses("click(0, -1, 0)", ARGUMENT, () -> x.click(0, -1, 0));
        Check.refuses("sound(216, 0)", INDEX, () -> x.sound(216, 0));
        Check.refuses("sound(0, 216)", INDEX, () -> x.sound(0, 216));
        Check.refuses("sound(-1, 0)", INDEX, () -> x.sound(-1, 0));
    }

    // ---- promise 7 ----

    private static void vaults() {
        SafeKnown x = made("vault 543 worth 70 guard 0 1 5;vault 000 worth 0 guard 0 1 2 3 4 5 6;"
                + "vault 001 worth 999;vault 001 worth 1 guard 3;person");
        due("code", x.vault(0, 0), 207);
        due("guards", x.vault(0, 1), 35);
        due("worth", x.vault(0, 2), 70);
        due("gaps", x.vault(0, 4), 92);
        due("soon", x.vault(0, 5), 2);
        due("long", x.vault(0, 6), 3);
        due("always guarded: gaps", x.vault(1, 4), 0);
        due("always guarded: soon", x.vault(1, 5), -1);
        due("always guarded: long", x.vault(1, 6), 0);
        due("never guarded: gaps", x.vault(2, 4), 127);
        due("never guarded: soon", x.vault(2, 5), 0);
        due("never guarded: long", x.vault(2, 6), 7);
        due("a row round the week", x.vault(3, 6), 6);
        x.turn(0, 2, 1);
        due("opened", x.vault(2, 3), 1);
        x.days(5);
        due("soon on day 5", x.vault(0, 5), 1);
        Check.refuses("vault(4, 0)", INDEX, () -> x.vault(4, 0));
        Check.refuses("vault(-1, 0)", INDEX, () -> x.vault(-1, 0));
        Check.refuses("vault(4, 9)", INDEX, () -> x.vault(4, 9));
        Check.refuses("vault(0, 7)", ELEMENT, () -> x.vault(0, 7));
        Check.refuses("vault(0, -1)", ELEMENT, () -> x.vault(0, -1));
    }

    // ---- promises 8 to 10 ----

    private static void knowing() {
        SafeKnown x = threeLeft();
        due("0th", x.code(0, 0, 0), 0);
        due("1st", x.code(0, 0, 1), 35);
        due("2nd", x.code(0, 0, 2), 185);
        due("3rd", x.code(0, 0, 3), -1);
        due("-1st", x.code(0, 0, -1), -1);
        due("another person", x.left(1, 0), 216);
        due("another vault", x.left(0, 1), 216);
        due("100th of all", x.code(1, 0, 100), 100);
        due("wheel 0", x.wheel(0, 0, 0, true), 33);
        due("wheel 0 is not sure", x.wheel(0, 0, 0, false), -1);
        x.turn(0, 0, 6);
        due("one is left", x.left(0, 0), 1);
        due("wheel 2 is sure", x.wheel(0, 0, 2, false), 0);
        due("wheel 2", x.wheel(0, 0, 2, true), 1);
        due("all sides", x.wheel(1, 1, 1, true), 63);
        x.turn(0, 1, 51);
        due("wheels of 123", x.wheel(0, 1, 0, false), 1);
        due("wheels of 123", x.wheel(0, 1, 1, false), 2);
        due("wheels of 123", x.wheel(0, 1, 2, false), 3);
        Check.law(x, "click 1 if wheel<1 and told+1>code;click 9 if wheel>1 and told+1>code");
        due("turn to 101", x.turn(0, 1, 37), 1);
        due("first wheel 0 or 1", x.wheel(0, 1, 0, true), 3);
        due("second wheel any", x.wheel(0, 1, 1, true), 63);
        due("third wheel above 1", x.wheel(0, 1, 2, true), 60);
        Check.refuses("left(2, 0)", INDEX, () -> x.left(2, 0));
        Check.refuses("left(0, 2)", INDEX, () -> x.left(0, 2));
        Check.refuses("left(-1, 0)", INDEX, () -> x.left(-1, 0));
        Check.refuses("code(2, 0, 0)", INDEX, () -> x.code(2, 0, 0));
        Check.refuses("code(0, -1, 0)", INDEX, () -> x.code(0, -1, 0));
        Check.refuses("wheel(0, 0, 3, true)", INDEX, () -> x.wheel(0, 0, 3, true));
        Check.refuses("wheel(0, 0, -1, false)", INDEX, () -> x.wheel(0, 0, -1, false));
        Check.refuses("wheel(2, 0, 0, false)", INDEX, () -> x.wheel(2, 0, 0, false));
        Check.refuses("wheel(0, 2, 0, false)", INDEX, () -> x.wheel(0, 2, 0, false));
    }

    // ---- promise 13 ----

    private static void turning() {
        SafeKnown x = made("vault 012 worth 5 guard 1;person;person");
        due("one same", x.turn(0, 0, 0), 1);
        due("left", x.left(0, 0), 75);
        due("not opened", x.count(7), 0);
        due("the same again", x.turn(0, 0, 0), 1);
        due("tells nothing", x.left(0, 0), 75);
        due("opens", x.turn(1, 0, 8), 3);
        due("opened", x.vault(0, 3), 1);
        due("one left", x.left(1, 0), 1);
        due("it is that one", x.code(1, 0, 0), 8);
        due("another hears nothing of it", x.left(0, 0), 75);
        due("turned away", x.turn(1, 0, 9), 2);
        due("it stays opened", x.vault(0, 3), 1);
        due("and known", x.left(1, 0), 1);
        Check.law(x, "");
        due("no sound", x.turn(0, 0, 3), 0);
        due("but the one turned to", x.left(0, 0), 215);
        due("opens without a sound", x.turn(0, 0, 8), 0);
        due("and is known alone", x.left(0, 0), 1);
        x.days(1);
        Check.refuses("guarded", STATE, () -> x.turn(0, 0, 8));
        due("no row more", x.count(9), 6);
        due("no act more", x.count(12), 3);
        Check.refuses("turn(2, 0, 0)", INDEX, () -> x.turn(2, 0, 0));
        Check.refuses("turn(0, 1, 0)", INDEX, () -> x.turn(0, 1, 0));
        Check.refuses("turn(0, 0, 216)", INDEX, () -> x.turn(0, 0, 216));
        Check.refuses("turn(0, 0, -1)", INDEX, () -> x.turn(0, 0, -1));
        x.days(7);
        Check.refuses("guarded a week behind", STATE, () -> x.turn(0, 0, 8));
        x.days(1);
        due("not guarded", x.turn(0, 0, 8), 0);
    }

    // ---- promises 14 and 30 ----

    private static void telling() {
        SafeKnown x = threeLeft();
        due("gains of 1 by 0", x.gains(1, 0, 0), 213);
        due("gains of 0 by 1", x.gains(0, 1, 0), 0);
        due("gains changes nothing", x.left(1, 0), 216);
        x.turn(1, 0, 35);
        due("sound 1: one same", x.log(0, 4), 1);
        due("left of 1", x.left(1, 0), 75);
        due("gains of 0: 000 and 505 stay", x.gains(0, 1, 0), 1);
        due("1 tells 0", x.tell(1, 0, 0), 2);
        due("the one who tells knows as before", x.left(1, 0), 75);
        due("left of 0", x.left(0, 0), 2);
        due("another vault", x.left(0, 1), 216);
        due("0 tells 1", x.tell(0, 1, 0), 2);
        due("nothing new", x.tell(0, 1, 0), 2);
        Check.refuses("tell(0, 0, 0)", ARGUMENT, () -> x.tell(0, 0, 0));
        Check.refuses("tell(0, 2, 0)", INDEX, () -> x.tell(0, 2, 0));
        Check.refuses("tell(2, 0, 0)", INDEX, () -> x.tell(2, 0, 0));
        Check.refuses("tell(0, 0, 2)", INDEX, () -> x.tell(0, 0, 2));
        Check.refuses("gains(1, 1, 0)", ARGUMENT, () -> x.gains(1, 1, 0));
        Check.refuses("gains(1, 1, 2)", INDEX, () -> x.gains(1, 1, 2));
        Check.refuses("gains(-1, 1, 0)", INDEX, () -> x.gains(-1, 1, 0));
        Check.refuses("gains(1, -1, 0)", INDEX, () -> x.gains(1, -1, 0));
    }

    // ---- promises 15 and 16 ----

    private static void forgettingAndChanging() {
        SafeKnown x = threeLeft();
        x.turn(1, 0, 0);
        x.turn(0, 1, 0);
        due("forget", x.forget(0, 0), 3);
        due("all can be", x.left(0, 0), 216);
        due("the other one does not", x.left(1, 0), 1);
        due("nor of another vault", x.left(0, 1), 125);
        due("it stays opened", x.vault(0, 3), 1);
        due("forget again", x.forget(0, 0), 216);
        x.turn(0, 0, 0);
        due("change", x.change(0, 215), 0);
        due("code", x.vault(0, 0), 215);
        due("not opened", x.vault(0, 3), 0);
        due("all forget", x.left(0, 0) + x.left(1, 0), 432);
        due("another vault not", x.left(0, 1), 125);
        due("told anew", x.count(10), 1);
        x.turn(0, 0, 215);
        due("to the same", x.change(0, 215), 215);
        due("is told anew all the same", x.count(10), 2);
        due("not opened", x.count(7), 0);
        due("forgotten", x.left(0, 0), 216);
        due("the log stays", x.log(0, 5), 1);
        Check.refuses("forget(2, 0)", INDEX, () -> x.forget(2, 0));
        Check.refuses("forget(0, 2)", INDEX, () -> x.forget(0, 2));
        Check.refuses("change(2, 0)", INDEX, () -> x.change(2, 0));
        Check.refuses("change(0, 216)", INDEX, () -> x.change(0, 216));
        Check.refuses("change(0, -1)", INDEX, () -> x.change(0, -1));
        due("nothing told", x.count(10), 2);
    }

    // ---- promise 17 ----

    private static void guarding() {
        SafeKnown x = made("vault 000 worth 1 guard 2;person");
        due("put in", x.guard(0, 0, true), true);
        due("put in again", x.guard(0, 0, true), false);
        due("guards", x.vault(0, 1), 5);
        due("guarded today", x.count(8), 1);
        due("taken out", x.guard(0, 2, false), true);
        due("taken out again", x.guard(0, 2, false), false);
        due("guards", x.vault(0, 1), 1);
        due("all are acts", x.count(12), 4);
        Check.refuses("guard(1, 0, true)", INDEX, () -> x.guard(1, 0, true) ? 1 : 0);
        Check.refuses("guard(1, 7, true)", INDEX, () -> x.guard(1, 7, true) ? 1 : 0);
        Check.refuses("guard(0, 7, true)", ARGUMENT, () -> x.guard(0, 7, true) ? 1 : 0);
        Check.refuses("guard(0, -1, false)", ARGUMENT, () -> x.guard(0, -1, false) ? 1 : 0);
        due("no acts more", x.count(12), 4);
    }

    // ---- promises 18 and 44 ----

    private static void days() {
        SafeKnown x = made("vault 000 worth 1;person;change 39");
        x.turn(0, 0, 0);
        due("day 1: 16838, 5758", x.days(1), 1);
        due("code", x.vault(0, 0), 142);
        due("not opened", x.count(7), 0);
        due("forgotten", x.left(0, 0), 216);
        x.turn(0, 0, 0);
        due("day 2: 10113, 17515", x.days(1), 1);
        due("code", x.vault(0, 0), 19);
        x.turn(0, 0, 19);
        due("day 3: 31051", x.days(1), 0);
        due("known", x.left(0, 0), 1);
        due("opened", x.count(7), 1);
        due("told anew", x.count(10), 2);
        due("day", x.count(5), 3);
        due("seed", x.seed(1), (int) 4182499122L);
        due("three days at once", x.days(3), 2);
        due("code", x.vault(0, 0), 19);
        due("seed", x.seed(77), (int) 4182499122L);
        SafeKnown y = made("vault 000 worth 1;vault 000 worth 1;change 38");
        due("below 38 is not 38", y.days(1), 0);
        y.seed(1);
        due("change 50", Check.bank(y, "change 50"), 2);
        due("three days of two vaults", y.days(3), 4);
        due("first", y.vault(0, 0), 12);
        due("second", y.vault(1, 0), 114);
        due("day", y.count(5), 4);
        Check.bank(y, "change 0");
        due("no change, but draws", y.days(1), 0);
        due("two draws", y.seed(0), draws((int) 267834847L, 2));
        Check.bank(y, "change 100");
        due("all days", y.days(60), 120);
        Check.refuses("days(0)", ARGUMENT, () -> y.days(0));
        Check.refuses("days(61)", ARGUMENT, () -> y.days(61));
        Check.refuses("days(-1)", ARGUMENT, () -> y.days(-1));
        due("day", y.count(5), 65);
    }

    private static int draws(int seed, int times) {
        for (int i = 0; i < times; i++) {
            seed = seed * 1103515245 + 12345;
        }
        return seed;
    }

    private static void lastDay() {
        SafeKnown x = made("vault 000 worth 1 guard 3;vault 000 worth 1 guard 2;person;open 0 0 by 999;change 100");
        for (int i = 0; i < 166; i++) {
            x.days(60);
        }
        due("day", x.count(5), 9960);
        due("broken", x.broken(), 1);
        x.days(37);
        due("day", x.count(5), 9997);
        due("weekday 1: soon", x.vault(0, 5), 0);
        x.days(1);
        due("day", x.count(5), 9998);
        due("guarded at 2, not at 3", x.vault(1, 5), 1);
        due("days beyond the last", x.days(60), 120);
        due("day", x.count(5), 9999);
        due("guarded today", x.count(8), 1);
        due("days to come stay the last", x.vault(0, 5), -1);
        due("the other one", x.vault(1, 5), 0);
        due("still told anew", x.days(2), 4);
        due("day", x.count(5), 9999);
        due("undo", x.undo(), true);
        due("undo", x.undo(), true);
        due("day", x.count(5), 9998);
    }

    // ---- promises 19 to 21 ----

    private static void parting() {
        due("outright at once", threeLeft().outright(0, 0), 6);
        SafeKnown x = threeLeft();
        due("000: itself and two", x.parts(0, 0, 0, false), 2);
        due("000: greatest", x.parts(0, 0, 0, true), 2);
        due("005 parts nothing", x.parts(0, 0, 5, false), 1);
        due("005: greatest", x.parts(0, 0, 5, true), 3);
        due("010 parts all", x.parts(0, 0, 6, false), 3);
        due("010: greatest", x.parts(0, 0, 6, true), 1);
        due("of all codes", x.parts(1, 0, 6, false), 4);
        due("of all codes: greatest", x.parts(1, 0, 6, true), 125);
        due("next", x.next(0, 0), 6);
        due("outright", x.outright(0, 0), 6);
        due("next of all", x.next(1, 0), 0);
        due("outright of all", x.outright(1, 0), -1);
        x.turn(0, 0, 185);
        due("two left", x.left(0, 0), 2);
        due("next: one that can be", x.next(0, 0), 0);
        due("outright: the least", x.outright(0, 0), 0);
        x.turn(0, 0, 35);
        due("next of one", x.next(0, 0), 0);
        due("outright of one", x.outright(0, 0), 0);
        x.forget(0, 0);
        Check.law(x, "");
        due("without sounds next is the least that can be", x.next(0, 0), 0);
        x.turn(0, 0, 43);
        x.turn(1, 1, 0);
        due("000 cannot be any more", x.next(1, 1), 1);
        Check.refuses("parts(2, 0, 0, true)", INDEX, () -> x.parts(2, 0, 0, true));
        Check.refuses("parts(0, 2, 0, true)", INDEX, () -> x.parts(0, 2, 0, true));
        Check.refuses("parts(0, 0, 216, true)", INDEX, () -> x.parts(0, 0, 216, true));
        Check.refuses("parts(0, 0, -1, false)", INDEX, () -> x.parts(0, 0, -1, false));
        Check.refuses("next(2, 0)", INDEX, () -> x.next(2, 0));
        Check.refuses("next(0, 2)", INDEX, () -> x.next(0, 2));
        Check.refuses("outright(2, 0)", INDEX, () -> x.outright(2, 0));
        Check.refuses("outright(0, -1)", INDEX, () -> x.outright(0, -1));
    }

    // ---- promise 22 ----

    private static void needing() {
        SafeKnown x = threeLeft();
        due("all", x.worst(1, 0), -3);
        due("three by one that cannot be", x.worst(0, 0), 2);
        x.turn(0, 0, 185);
        due("two", x.worst(0, 0), 2);
        x.turn(0, 0, 35);
        due("one", x.worst(0, 0), 1);
        due("worst changes nothing", x.count(9), 7);
        // Only the third wheel sounds, and only whether it is told above the code.
        Check.law(x, "click 1 if wheel>1 and told>code;click 7 if wheel<1 and same;click 40 if wheel>0 and wheel<2 and same");
        due("left", x.left(0, 0), 216);
        x.turn(0, 0, 0);
        due("opened", x.left(0, 0), 1);
        x.change(0, 2);
        due("00x: 7 + 40 + 0", x.turn(0, 0, 0), 47);
        due("left 001 to 005", x.left(0, 0), 5);
        due("five by halves", x.worst(0, 0), 3);
        x.forget(0, 0);
        Check.law(x, "click 9 if wheel<2 and same");
        due("no sound of the third", x.turn(0, 0, 0), 18);
        due("left", x.left(0, 0), 5);
        due("one by one", x.worst(0, 0), 5);
        x.forget(0, 0);
        due("turn to 010", x.turn(0, 0, 6), 9);
        due("one of two wheels", x.left(0, 0), 60);
        due("too many", x.worst(0, 0), -3);
        Check.law(x, "click 9 if wheel<2 and same;mute 1 if wheel>1 and code<0");
        x.turn(0, 0, 6 * 6);
        x.turn(0, 0, 6 * 6 + 6);
        x.turn(0, 0, 12);
        x.turn(0, 0, 18);
        x.turn(0, 0, 24);
        x.turn(0, 0, 30);
        due("six are left", x.left(0, 0), 6);
        due("one by one", x.worst(0, 0), 6);
        Check.refuses("worst(2, 0)", INDEX, () -> x.worst(2, 0));
        Check.refuses("worst(0, 2)", INDEX, () -> x.worst(0, 2));
    }

    // ---- promises 23 to 25 ----

    private static void listening() {
        SafeKnown x = new SafeKnown();
        due("quietest of 000", x.quietest(0), 43);
        due("quietest of 111", x.quietest(43), 0);
        due("loudest without a text", x.loudest(), 0);
        due("deaf without a text", x.deaf(), 0);
        Check.law(x, "click 5 if wheel<1 and told>3 and same");
        due("loudest", x.loudest(), 144);
        due("deaf", x.deaf(), 6);
        due("quietest of 500: not 5 at first", x.quietest(180), 0);
        due("quietest of 000: all share", x.quietest(0), 1);
        Check.law(x, "click 3 if told>2;mute 2 if wheel>1 and apart<1");
        due("told alone is deaf", x.deaf(), 3);
        due("loudest", x.loudest(), 0);
        Check.law(x, "mute 9 if wheel<2 and told<4 and 2<told and code<1;click 9 if wheel<2 and told<5 and 3<told and code<1;"
                + "click 1 if wheel>1 and told>4 and code>4");
        due("of both the least", x.loudest(), 3 * 36 + 3 * 6 + 5);
        due("none is deaf", x.deaf(), 0);
        Check.law(x, "click 1 if told<1 and code<1");
        due("they hear when told 0", x.deaf(), 0);
        Check.law(x, "click 1 if wheel>1 and told>0 and told<2 and code<1");
        due("loudest is 001", x.loudest(), 1);
        Check.law(x, "click 1 if wheel<1 and told<1 and code>4;click 1 if wheel>1 and code>3 and told>4");
        due("loudest is 005", x.loudest(), 5);
        Check.law(x, "");
        due("quietest of silence", x.quietest(0), 1);
        due("quietest of silence", x.quietest(1), 0);
        due("loudest of silence", x.loudest(), 0);
        Check.refuses("quietest(216)", INDEX, () -> x.quietest(216));
        Check.refuses("quietest(-1)", INDEX, () -> x.quietest(-1));
    }

    // ---- promises 26 to 29 ----

    private static void opening() {
        SafeKnown x = made("vault 000 worth 1;vault 555 worth 1");
        due("nobody alone", x.alone(0), 0);
        due("nobody together", x.together(-1, 0), false);
        due("nobody can", x.fewest(0, false), -1);
        due("nobody to silence", x.fewest(0, true), 0);
        due("no pair", x.pair(0), -1);
        Check.bank(x, "person");
        due("no pair of one", x.pair(0), -1);
        Check.bank(x, "person;person;person");
        due("pair", x.pair(0), 1);
        // 0 hears that no 1 and no 2 is there, 1 no 3 and no 4, 2 no 5, 3 nothing.
        x.turn(0, 0, 43);
        x.turn(0, 0, 86);
        x.turn(1, 0, 129);
        x.turn(1, 0, 172);
        x.turn(2, 0, 215);
        due("pair", x.pair(0), 1);
        due("nobody alone", x.alone(0), 0);
        due("two not", x.together(3, 0), false);
        due("three", x.together(7, 0), true);
        due("bits of none count for nothing", x.together(7 | 1 << 20 | 1 << 31, 0), true);
        due("none at all", x.together(0, 0), false);
        due("none that there are", x.together(-16, 0), false);
        due("fewest", x.fewest(0, false), 7);
        due("silence one", x.fewest(0, true), 1);
        due("another vault", x.fewest(1, false), -1);
        due("another vault", x.fewest(1, true), 0);
        x.turn(3, 0, 0);
        due("alone", x.alone(0), 8);
        due("fewest", x.fewest(0, false), 8);
        due("silence", x.fewest(0, true), 9);
        due("pair: the least first", x.pair(0), 3);
        x.turn(0, 1, 215);
        due("alone at 1", x.alone(1), 1);
        due("fewest at 1", x.fewest(1, false), 1);
        due("both opened", x.count(7), 3);
        x.tell(3, 2, 0);
        due("alone", x.alone(0), 12);
        due("fewest", x.fewest(0, false), 4);
        due("silence: no more than two can", x.fewest(0, true), 12);
        due("pair", x.pair(0), 2);
        Check.refuses("alone(2)", INDEX, () -> x.alone(2));
        Check.refuses("together(0, 2)", INDEX, () -> x.together(0, 2) ? 1 : 0);
        Check.refuses("together(0, -1)", INDEX, () -> x.together(0, -1) ? 1 : 0);
        Check.refuses("fewest(2, true)", INDEX, () -> x.fewest(2, true));
        Check.refuses("pair(-1)", INDEX, () -> x.pair(-1));
    }

    // ---- promises 31 and 32 ----

    private static void contracts() {
        SafeKnown x = made("vault 000 worth 1;vault 000 worth 1;person;person;never 1 0;open 1 0 by 2;open 1 1 by 0;"
                + "never 1 1;never 0 0;open 1 0 by 0");
        due("never", x.contract(0, 0), 0);
        due("open", x.contract(1, 0), 1);
        due("who", x.contract(1, 1), 1);
        due("vault", x.contract(2, 2), 1);
        due("day", x.contract(1, 3), 2);
        due("day 0", x.contract(2, 3), 0);
        due("day of never", x.contract(0, 3), -1);
        due("quarrels of 0", x.contract(0, 4), 2 + 32);
        due("quarrels of 1", x.contract(1, 4), 1);
        due("quarrels of 2", x.contract(2, 4), 8);
        due("quarrels of 4", x.contract(4, 4), 0);
        due("none broken", x.broken(), 0);
        x.turn(0, 1, 0);
        due("another vault", x.broken(), 0);
        x.turn(0, 0, 5);
        due("never 0 0", x.broken(), 16);
        x.days(1);
        due("by 0 is over", x.broken(), 16 + 4 + 32);
        x.turn(1, 1, 0);
        due("too late, and never", x.broken(), 16 + 4 + 32 + 8);
        x.days(1);
        x.turn(1, 0, 0);
        x.days(1);
        due("by 2 was kept on day 2", x.broken(), 16 + 4 + 32 + 8 + 1);
        x.undo();
        x.undo();
        due("by 2 is not over on day 2", x.broken(), 16 + 4 + 32 + 8);
        x.turn(1, 0, 1);
        x.days(1);
        due("turned, but not opened", x.broken(), 16 + 4 + 32 + 8 + 1 + 2);
        x.turn(1, 0, 0);
        due("opened too late", x.broken(), 16 + 4 + 32 + 8 + 1 + 2);
        for (int i = 0; i < 80; i++) {
            x.turn(1, 1, 0);
        }
        due("the log forgets", x.broken(), 4 + 32 + 8 + 2);
        Check.refuses("contract(6, 0)", INDEX, () -> x.contract(6, 0));
        Check.refuses("contract(-1, 0)", INDEX, () -> x.contract(-1, 0));
        Check.refuses("contract(6, 9)", INDEX, () -> x.contract(6, 9));
        Check.refuses("contract(0, 5)", ELEMENT, () -> x.contract(0, 5));
        Check.refuses("contract(0, -1)", ELEMENT, () -> x.contract(0, -1));
    }

    // ---- promise 33 ----

    private static void breaking() {
        SafeKnown x = made("vault 000 worth 1;vault 000 worth 1;person;person;open 0 0 by 1;open 0 0 by 2;never 0 0");
        due("the one never", x.breaks(), 4);
        Check.bank(x, "never 0 0");
        due("of two and two the least", x.breaks(), 3);
        Check.bank(x, "never 1 1;open 1 1 by 3;open 1 0 by 3;never 0 1");
        due("and the least of others", x.breaks(), 3 + 16);
        Check.bank(x, "open 1 1 by 7;open 0 1 by 8;open 0 0 by 9;never 1 0");
        due("all twelve", x.breaks(), 4 + 8 + 16 + 64 + 128);
        due("no contract", new SafeKnown().breaks(), 0);
        due("without quarrel", made("vault 000 worth 1;person;never 0 0;never 0 0").breaks(), 0);
    }

    // ---- promise 34 ----

    private static void rotas() {
        SafeKnown x = made("vault 000 worth 1 guard 1 3;vault 000 worth 1;vault 000 worth 1 guard 0 1 2 3 4 5 6");
        int[] first = {117, 33, 32, 1, 0, 0, 0};
        int[] second = {127, 43, 19, 9, 5, 3, 1};
        for (int n = 0; n < 7; n++) {
            due("rota(0, " + n + ")", x.rota(0, n), first[n]);
            due("rota(1, " + n + ")", x.rota(1, n), second[n]);
            due("rota(2, " + n + ")", x.rota(2, n), 0);
        }
        Check.refuses("rota(3, 0)", INDEX, () -> x.rota(3, 0));
        Check.refuses("rota(3, 7)", INDEX, () -> x.rota(3, 7));
        Check.refuses("rota(0, 7)", ARGUMENT, () -> x.rota(0, 7));
        Check.refuses("rota(0, -1)", ARGUMENT, () -> x.rota(0, -1));
    }

    // ---- promises 35, 38 and 39 ----

    private static void prices() {
        SafeKnown x = made("vault 000 worth 100 guard 1;vault 000 worth 431;vault 000 worth 432 guard 0;"
                + "vault 000 worth 430");
        due("nobody at risk", x.risky(), -1);
        Check.bank(x, "person;person");
        due("richest: 1 of 431 by 216", x.richest(0, false), 1);
        due("easiest: the least", x.richest(0, true), 0);
        due("price: 0 + 1 + 2 + 1", x.price(0), 4);
        due("risky: the least", x.risky(), 0);
        x.turn(0, 3, 0);
        due("price", x.price(0), 0 + 1 + 2 + 430);
        due("richest", x.richest(0, false), 3);
        due("easiest", x.richest(0, true), 3);
        due("the other one", x.richest(1, true), 0);
        due("risky", x.risky(), 3);
        x.turn(0, 0, 43);
        x.turn(1, 0, 43);
        due("250 by both at vault 0, 217 at 3", x.risky(), 3);
        x.turn(1, 0, 86);
        x.turn(1, 0, 129);
        due("125 + 27 are less than 217", x.risky(), 0);
        due("price of 1: 100 by 27", x.price(1), 3 + 1 + 2 + 1);
        x.days(1);
        due("vault 0 guarded: richest is 2", x.richest(1, false), 2);
        due("vault 0 guarded: easiest is 1", x.richest(1, true), 1);
        for (int v = 0; v < 4; v++) {
            x.guard(v, 1, true);
        }
        due("all guarded", x.richest(0, false), -1);
        due("all guarded", x.richest(0, true), -1);
        SafeKnown y = made("person");
        due("no vault", y.richest(0, false), -1);
        due("no vault", y.price(0), 0);
        due("no vault", y.risky(), -1);
        Check.refuses("richest(2, false)", INDEX, () -> x.richest(2, false));
        Check.refuses("richest(-1, true)", INDEX, () -> x.richest(-1, true));
        Check.refuses("price(2)", INDEX, () -> x.price(2));
        Check.refuses("price(-1)", INDEX, () -> x.price(-1));
    }

    // ---- promises 36 and 37 ----

    private static void firsts() {
        SafeKnown x = made("vault 000 worth 1;vault 111 worth 1;person;person");
        due("nobody", x.first(0), -1);
        due("never", x.turned(0, -1), 0);
        x.turn(0, 0, 5);
        x.turn(1, 0, 0);
        x.turn(0, 0, 0);
        x.turn(0, 1, 43);
        due("first at 0", x.first(0), 1);
        due("first at 1", x.first(1), 0);
        due("turned by all", x.turned(0, -1), 3);
        due("turned by 0", x.turned(0, 0), 2);
        due("turned by 1", x.turned(0, 1), 1);
        due("turned by 1 at 1", x.turned(1, 1), 0);
        x.change(0, 7);
        due("first by the log, whatever the code", x.first(0), 1);
        for (int i = 0; i < 78; i++) {
            x.turn(1, 1, 0);
        }
        due("80 rows", x.count(9), 80);
        due("the second one is first now", x.first(0), 0);
        due("turned in 80 rows", x.turned(0, -1), 1);
        x.turn(1, 1, 0);
        due("nobody any more", x.first(0), -1);
        due("turned", x.turned(1, -1), 80);
        Check.refuses("first(2)", INDEX, () -> x.first(2));
        Check.refuses("turned(2, -1)", INDEX, () -> x.turned(2, -1));
        Check.refuses("turned(0, 2)", INDEX, () -> x.turned(0, 2));
        Check.refuses("turned(0, -2)", INDEX, () -> x.turned(0, -2));
    }

    // ---- promise 40 ----

    private static void whens() {
        SafeKnown x = threeLeft();
        x.guard(0, 0, true);
        due("010, then 000, guarded or not", x.when(0, 0), 2);
        due("nothing stays", x.left(0, 0), 3);
        due("no row", x.count(9), 5);
        due("at once", x.when(1, 0), 1);
        Check.law(x, "");
        due("at once", x.when(0, 0), 1);
        x.change(0, 19);
        due("the twentieth", x.when(0, 0), 20);
        x.change(0, 20);
        due("not by twenty", x.when(0, 0), -1);
        Check.refuses("when(2, 0)", INDEX, () -> x.when(2, 0));
        Check.refuses("when(0, 2)", INDEX, () -> x.when(0, 2));
    }

    // ---- promises 41 and 42 ----

    private static void trials() {
        SafeKnown x = made("vault 000 worth 1;vault 000 worth 1;person;person;change 39");
        x.turn(0, 0, 1);
        x.turn(1, 0, 1);
        x.turn(1, 1, 1);
        due("no day", x.trial(0, false), 0);
        due("no day", x.trial(0, true), 1);
        due("one day: 142 and 19", x.trial(1, false), 3);
        due("one day: all forgotten", x.trial(1, true), 4);
        due("nothing stays", x.vault(0, 0), 0);
        due("nor of the draws", x.seed(2), 1);
        due("one day by 2: 137 and none", x.trial(1, false), 1);
        due("one day by 2", x.trial(1, true), 3);
        due("seed", x.seed(1), 2);
        due("fewest", x.span(1, false), 0);
        due("most", x.span(1, true), 2);
        due("fewest of none", x.span(0, false), 0);
        due("most of none", x.span(0, true), 0);
        due("nor of spans", x.seed(1), 1);
        due("no act", x.count(12), 3);
        x.change(0, 142);
        x.turn(0, 0, 1);
        due("told anew, but the same", x.trial(1, false), 2);
        due("it is forgotten all the same", x.trial(1, true), 4);
        Check.bank(x, "change 100");
        due("all", x.span(40, false), 2);
        due("forty", x.trial(40, true), 4);
        SafeKnown y = made(repeated("vault 000 worth 1", 6) + ";change 25");
        due("most by the sixth seed", y.span(4, true), 5);
        due("fewest by the sixth seed", y.span(1, false), 1);
        SafeKnown z = made(repeated("vault 000 worth 1", 5) + ";change 35");
        due("a seventh seed would have more", z.span(1, true), 2);
        Check.refuses("trial(41, true)", ARGUMENT, () -> x.trial(41, true));
        Check.refuses("trial(-1, false)", ARGUMENT, () -> x.trial(-1, false));
        Check.refuses("span(41, true)", ARGUMENT, () -> x.span(41, true));
        Check.refuses("span(-1, false)", ARGUMENT, () -> x.span(-1, false));
    }

    // ---- promise 43 ----

    private static void logs() {
        SafeKnown x = made("vault 000 worth 1;vault 111 worth 1;person;person");
        x.days(3);
        x.turn(1, 0, 5);
        x.days(1);
        x.turn(0, 1, 43);
        int[] latest = {4, 0, 1, 43, 3, 1};
        int[] earlier = {3, 1, 0, 5, 2, 0};
        for (int what = 0; what < 6; what++) {
            due("latest " + what, x.log(0, what), latest[what]);
            due("earlier " + what, x.log(1, what), earlier[what]);
            due("none " + what, x.log(2, what), -999);
            due("below " + what, x.log(-1, what), -999);
        }
        for (int i = 0; i < 90; i++) {
            x.turn(0, 0, 100 + i);
        }
        due("rows", x.count(9), 80);
        due("latest", x.log(0, 3), 189);
        due("last one", x.log(79, 3), 110);
        due("beyond", x.log(80, 3), -999);
        Check.law(x, "mute 9");
        x.turn(0, 0, 1);
        due("a sound below 0", x.log(0, 4), -27);
        due("a law does not change rows", x.log(1, 3), 189);
        Check.refuses("log(0, 6)", ELEMENT, () -> x.log(0, 6));
        Check.refuses("log(0, -1)", ELEMENT, () -> x.log(0, -1));
        Check.refuses("log(99, 6)", ELEMENT, () -> x.log(99, 6));
    }

    // ---- promise 45 ----

    private static void undoing() {
        SafeKnown x = made("vault 000 worth 1;person;person;change 100");
        x.turn(0, 0, 0);
        x.tell(0, 1, 0);
        x.forget(0, 0);
        x.change(0, 9);
        x.guard(0, 5, true);
        x.days(4);
        due("acts", x.count(12), 6);
        due("days undone", x.undo(), true);
        due("day", x.count(5), 0);
        due("code", x.vault(0, 0), 9);
        due("seed", x.seed(5), 1);
        due("told anew", x.count(10), 1);
        due("guard undone", x.undo(), true);
        due("guards", x.vault(0, 1), 0);
        due("the seed was set behind it", x.seed(1), 1);
        due("change undone", x.undo(), true);
        due("code", x.vault(0, 0), 0);
        due("opened", x.vault(0, 3), 1);
        due("told anew", x.count(10), 0);
        due("known", x.left(1, 0), 1);
        due("forgotten", x.left(0, 0), 216);
        due("forget undone", x.undo(), true);
        due("known", x.left(0, 0), 1);
        due("tell undone", x.undo(), true);
        due("not told", x.left(1, 0), 216);
        due("turn undone", x.undo(), true);
        due("not opened", x.count(7), 0);
        due("no row", x.count(9), 0);
        due("none left", x.undo(), false);
        due("acts", x.count(12), 0);
        for (int i = 0; i < 11; i++) {
            x.turn(0, 0, 100 + i);
        }
        due("ten are remembered", x.count(12), 10);
        for (int i = 0; i < 10; i++) {
            due("undo", x.undo(), true);
        }
        due("no more", x.undo(), false);
        due("one row", x.count(9), 1);
        x.turn(0, 0, 1);
        Check.wrongBank(x, "x", 0);
        Check.lay(x, "    ");
        due("undo", x.undo(), true);
        due("fault stays", x.fault(), 0);
        due("tape stays", x.end(4), true);
        x.turn(0, 0, 1);
        due("right text", x.bank(), 2);
        due("none remembered", x.undo(), false);
        x.turn(0, 0, 1);
        due("law", x.law(), 0);
        due("none remembered", x.undo(), false);
        for (int i = 0; i < 85; i++) {
            x.turn(0, 0, i);
        }
        x.undo();
        due("80 rows", x.count(9), 80);
        due("latest", x.log(0, 3), 83);
        due("eldest is back", x.log(79, 3), 4);
    }

    // ---- promises 46 and 47 ----

    private static void images() {
        SafeKnown x = made("vault 000 worth 1 guard 4;person;never 0 0;change 3");
        due("no image", x.back(), false);
        x.turn(0, 0, 1);
        due("still remembered", x.count(12), 1);
        x.seed(99);
        x.image();
        due("an image is no act", x.count(12), 1);
        x.turn(0, 0, 2);
        Check.bank(x, "person;vault 111 worth 9;open 0 0 by 5;change 77");
        Check.law(x, "click 50");
        x.change(0, 8);
        x.guard(0, 1, true);
        x.days(9);
        x.seed(5);
        Check.wrongLaw(x, "click 1 x", 8);
        Check.lay(x, "person");
        due("back", x.back(), true);
        int[] counts = {1, 1, 1, 1, -1, 0, 3, 0, 0, 1, 0, 1, 0};
        for (int i = 0; i < counts.length; i++) {
            due("count(" + i + ") gone back", x.count(i), counts[i]);
        }
        due("seed", x.seed(99), 99);
        due("guards", x.vault(0, 1), 16);
        due("code", x.vault(0, 0), 0);
        due("known", x.left(0, 0), 15);
        due("the law", x.sound(0, 0), 3);
        due("fault stays", x.fault(), 8);
        due("none to undo", x.undo(), false);
        due("the tape stays", x.bank(), 2);
        due("people", x.count(1), 2);
        due("back again", x.back(), true);
        due("people", x.count(1), 1);
        x.turn(0, 0, 0);
        x.image();
        x.undo();
        due("not opened", x.count(7), 0);
        due("the later image", x.back(), true);
        due("opened", x.count(7), 1);
    }

    // ---- promise 48 ----

    private static void counts() {
        SafeKnown x = made("vault 000 worth 100 guard 0;vault 111 worth 999;vault 222 worth 1 guard 0 1;person;"
                + "never 0 0;change 42");
        Check.law(x, "click 1;mute 2");
        x.turn(0, 1, 43);
        x.change(0, 1);
        int[] counts = {3, 1, 1, 1, 2, 0, 42, 2, 5, 1, 1, 1100, 2, -1};
        for (int i = 0; i < counts.length; i++) {
            due("count(" + i + ")", x.count(i), counts[i]);
        }
        due("count(-1)", x.count(-1), -1);
        due("count of the least", x.count(Integer.MIN_VALUE), -1);
        due("count of the most", x.count(Integer.MAX_VALUE), -1);
        Check.bank(x, "change 0");
        x.days(1);
        due("guarded on day 1", x.count(8), 4);
        due("texts", x.count(3), 2);
    }

    private static void whichExceptionFirst() {
        SafeKnown x = made("vault 000 worth 1 guard 0;person");
        Check.refuses("no such code ahead of the guard", INDEX, () -> x.turn(0, 0, 300));
        Check.refuses("guarded", STATE, () -> x.turn(0, 0, 0));
        Check.refuses("no such person ahead of both being one", INDEX, () -> x.tell(1, 1, 0));
        Check.refuses("no such vault ahead of both being one", INDEX, () -> x.gains(0, 0, 1));
        Check.refuses("both are one", ARGUMENT, () -> x.gains(0, 0, 0));
        due("nothing was an act", x.count(12), 0);
    }
}
