/** The edges of promises 1 to 6: a new object, the tape, the texts of the bank and of the law. */
public final class Edges01To06Test extends Edges {
    private static final int BLANKS = 0x20202020;
    private static final int ZS = 0x5a5a5a5a;
    private static final String VAULT = "vault 000 worth 1";
    private static final int FIRST_ATOM = "click 1 if ".length();

    private Edges01To06Test() {
    }

    public static void main(String[] args) {
        run(Edges01To06Test.class, 1, 6);
    }

    private static int feedBlanks(SafeKnown x) {
        return x.feed(BLANKS, BLANKS, BLANKS, BLANKS, BLANKS);
    }

    private static int feedZs(SafeKnown x) {
        return x.feed(ZS, ZS, ZS, ZS, ZS);
    }

    /** Twenty blanks but for one byte. */
    private static int feedOne(SafeKnown x, int place, int sign) {
        int[] five = {BLANKS, BLANKS, BLANKS, BLANKS, BLANKS};
        int shift = 24 - place % 4 * 8;
        five[place / 4] = BLANKS & ~(255 << shift) | sign << shift;
        return x.feed(five[0], five[1], five[2], five[3], five[4]);
    }

    private static SafeKnown fullOfBlanks() {
        SafeKnown x = new SafeKnown();
        for (int i = 1; i <= 20; i++) {
            due("feed " + i, feedBlanks(x), 20 * i);
        }
        return x;
    }

    private static String blanks(int n) {
        return " ".repeat(n);
    }

    // ---- promise 1 ----

    static void p01NewCountsNothing() {
        int[] counts = {0, 0, 0, 0, NONE, 0, 0, 0, 0, 0, 0, 0, 0};
        SafeKnown x = new SafeKnown();
        for (int what = 0; what < counts.length; what++) {
            due("count(" + what + ")", x.count(what), counts[what]);
        }
    }

    static void p01NewHasNoVault() {
        SafeKnown x = new SafeKnown();
        refuses("vault(0, 0)", INDEX, () -> x.vault(0, 0));
        refuses("change(0, 0)", INDEX, () -> x.change(0, 0));
        refuses("guard(0, 0, true)", INDEX, () -> x.guard(0, 0, true) ? 1 : 0);
        refuses("alone(0)", INDEX, () -> x.alone(0));
        refuses("together(0, 0)", INDEX, () -> x.together(0, 0) ? 1 : 0);
        refuses("fewest(0, false)", INDEX, () -> x.fewest(0, false));
        refuses("fewest(0, true)", INDEX, () -> x.fewest(0, true));
        refuses("pair(0)", INDEX, () -> x.pair(0));
        refuses("rota(0, 0)", INDEX, () -> x.rota(0, 0));
        refuses("first(0)", INDEX, () -> x.first(0));
        refuses("turned(0, -1)", INDEX, () -> x.turned(0, NONE));
    }

    static void p01NewHasNobody() {
        SafeKnown x = new SafeKnown();
        refuses("left(0, 0)", INDEX, () -> x.left(0, 0));
        refuses("code(0, 0, 0)", INDEX, () -> x.code(0, 0, 0));
        refuses("wheel(0, 0, 0, true)", INDEX, () -> x.wheel(0, 0, 0, true));
        refuses("turn(0, 0, 0)", INDEX, () -> x.turn(0, 0, 0));
        refuses("tell(0, 1, 0)", INDEX, () -> x.tell(0, 1, 0));
        refuses("forget(0, 0)", INDEX, () -> x.forget(0, 0));
        refuses("parts(0, 0, 0, true)", INDEX, () -> x.parts(0, 0, 0, true));
        refuses("next(0, 0)", INDEX, () -> x.next(0, 0));
        refuses("outright(0, 0)", INDEX, () -> x.outright(0, 0));
        refuses("worst(0, 0)", INDEX, () -> x.worst(0, 0));
        refuses("gains(0, 1, 0)", INDEX, () -> x.gains(0, 1, 0));
        refuses("richest(0, true)", INDEX, () -> x.richest(0, true));
        refuses("price(0)", INDEX, () -> x.price(0));
        refuses("when(0, 0)", INDEX, () -> x.when(0, 0));
        refuses("contract(0, 0)", INDEX, () -> x.contract(0, 0));
    }

    static void p01NewAnswersWithNoneThere() {
        SafeKnown x = new SafeKnown();
        due("fault", x.fault(), NONE);
        due("broken", x.broken(), 0);
        due("breaks", x.breaks(), 0);
        due("risky", x.risky(), NONE);
        due("loudest", x.loudest(), 0);
        due("deaf", x.deaf(), 0);
        due("quietest", x.quietest(0), 43);
        due("sound", x.sound(0, 0), 3);
        due("log", x.log(0, 0), -999);
        due("trial", x.trial(40, false), 0);
        due("trial left", x.trial(40, true), 0);
        due("span", x.span(40, false), 0);
        due("span most", x.span(40, true), 0);
        due("undo", x.undo(), false);
        due("back", x.back(), false);
        due("days", x.days(60), 0);
        due("seed: no vault, no draw", x.seed(0), 1);
    }

    static void p01NewHasAnEmptyTape() {
        SafeKnown x = new SafeKnown();
        due("end(1)", x.end(1), false);
        due("end(0)", x.end(0), true);
        due("feed", feedBlanks(x), 20);
    }

    static void p01EachObjectIsItsOwn() {
        SafeKnown x = busy();
        SafeKnown y = new SafeKnown();
        due("vaults", y.count(0), 0);
        due("law", y.count(4), NONE);
        due("sound", y.sound(0, 0), 3);
        due("tape", y.end(1), false);
        due("image", y.back(), false);
        due("undo", y.undo(), false);
        due("seed", y.seed(1), 1);
        due("the other one has its vaults", x.count(0), 2);
    }

    // ---- promise 2 ----

    static void p02FeedTakesTwentyBytesUpTo400() {
        SafeKnown x = fullOfBlanks();
        due("the 21st", feedBlanks(x), NONE);
        due("the 22nd", feedBlanks(x), NONE);
    }

    static void p02FeedAt380IsTaken() {
        SafeKnown x = fullOfBlanks();
        due("end(380)", x.end(380), true);
        due("feed", feedBlanks(x), 400);
    }

    static void p02FeedAt381IsRefused() {
        SafeKnown x = fullOfBlanks();
        due("end(381)", x.end(381), true);
        due("feed", feedBlanks(x), NONE);
    }

    static void p02FeedRefusedPutsNoneBehind() {
        SafeKnown x = fullOfBlanks();
        x.end(381);
        due("feed", feedZs(x), NONE);
        due("none came", x.end(382), false);
        due("as many as before", x.end(381), true);
        due("blanks alone", x.bank(), 1);
    }

    static void p02FeedRefusedBy400ChangesNoByte() {
        SafeKnown x = fullOfBlanks();
        due("feed", feedZs(x), NONE);
        due("as many as before", x.end(400), true);
        due("blanks alone", x.bank(), 1);
    }

    static void p02FeedRefusedIsTakenOnceThereIsRoom() {
        SafeKnown x = fullOfBlanks();
        due("feed", feedZs(x), NONE);
        x.end(360);
        due("feed", feedZs(x), 380);
        refuses("bank", ARGUMENT, x::bank);
        due("the first z", x.fault(), 360);
    }

    static void p02FeedHighestByteFirst() {
        SafeKnown x = new SafeKnown();
        for (int place = 0; place < 20; place++) {
            due("feed", feedOne(x, place, 'Z'), 20);
            refuses("bank with byte " + place, ARGUMENT, x::bank);
            due("byte " + place, x.fault(), place);
        }
    }

    static void p02FeedBytesFrom128UpAreThemselves() {
        SafeKnown x = new SafeKnown();
        for (int sign : new int[] {128, 160, 255, 127, 0, 31, 33}) {
            feedOne(x, 16, sign);
            refuses("bank with sign " + sign, ARGUMENT, x::bank);
            due("sign " + sign, x.fault(), 16);
            feedOne(x, 19, sign);
            refuses("bank with sign " + sign + " at last", ARGUMENT, x::bank);
            due("sign " + sign + " at last", x.fault(), 19);
        }
    }

    static void p02FeedComesBehindTheTape() {
        SafeKnown x = new SafeKnown();
        due("feed", feedBlanks(x), 20);
        due("feed", feedOne(x, 0, 'Z'), 40);
        refuses("bank", ARGUMENT, x::bank);
        due("the first byte of the second", x.fault(), 20);
    }

    static void p02FeedComesBehindACut() {
        SafeKnown x = new SafeKnown();
        feedBlanks(x);
        x.end(7);
        due("feed", feedOne(x, 0, 'Z'), 27);
        refuses("bank", ARGUMENT, x::bank);
        due("the byte behind the cut", x.fault(), 7);
    }

    static void p02FeedBeginsAnewOnceTheTapeIsUsedUp() {
        SafeKnown x = new SafeKnown();
        feedBlanks(x);
        due("bank", x.bank(), 1);
        due("behind a right text", feedZs(x), 20);
        refuses("bank", ARGUMENT, x::bank);
        due("behind a wrong text", feedBlanks(x), 20);
        due("law", x.law(), 0);
        due("behind a law", feedZs(x), 20);
        refuses("law", ARGUMENT, x::law);
        due("behind a wrong law", feedBlanks(x), 20);
    }

    // ---- promise 3 ----

    static void p03EndOfAnEmptyTape() {
        SafeKnown x = new SafeKnown();
        due("end(0)", x.end(0), true);
        due("end(1)", x.end(1), false);
        due("end(-1)", x.end(-1), false);
        due("end(0) again", x.end(0), true);
    }

    static void p03EndAtItsLengthKeepsAll() {
        SafeKnown x = new SafeKnown();
        feedOne(x, 19, 'Z');
        due("end(20)", x.end(20), true);
        refuses("bank", ARGUMENT, x::bank);
        due("the last byte is there", x.fault(), 19);
    }

    static void p03EndOneFewerCutsTheLast() {
        SafeKnown x = new SafeKnown();
        feedOne(x, 19, 'Z');
        due("end(19)", x.end(19), true);
        due("it has no 20", x.end(20), false);
        due("bank", x.bank(), 1);
    }

    static void p03EndOneBeyondChangesNothing() {
        SafeKnown x = new SafeKnown();
        feedOne(x, 19, 'Z');
        due("end(21)", x.end(21), false);
        due("end(20)", x.end(20), true);
        refuses("bank", ARGUMENT, x::bank);
        due("the last byte is there", x.fault(), 19);
    }

    static void p03EndBelow0ChangesNothing() {
        SafeKnown x = new SafeKnown();
        feedOne(x, 19, 'Z');
        due("end(-1)", x.end(-1), false);
        due("end of the least", x.end(LEAST), false);
        due("end of the most", x.end(MOST), false);
        refuses("bank", ARGUMENT, x::bank);
        due("the last byte is there", x.fault(), 19);
    }

    static void p03EndOf400And401() {
        SafeKnown x = fullOfBlanks();
        due("end(401)", x.end(401), false);
        due("end(400)", x.end(400), true);
        due("end(399)", x.end(399), true);
        due("end(400) behind it", x.end(400), false);
    }

    static void p03EndAt0LeavesAnEmptyText() {
        SafeKnown x = new SafeKnown();
        feedZs(x);
        due("end(0)", x.end(0), true);
        due("end(1)", x.end(1), false);
        due("bank", x.bank(), 1);
    }

    static void p03EndCutsForGood() {
        SafeKnown x = new SafeKnown();
        feedZs(x);
        x.end(0);
        due("feed", feedBlanks(x), 20);
        due("no z comes back", x.bank(), 1);
    }

    static void p03EndCutsWithinANumberAndAWord() {
        SafeKnown x = new SafeKnown();
        Check.lay(x, "change 12");
        due("end(8)", x.end(8), true);
        due("bank", x.bank(), 1);
        due("the digit that is left", x.count(6), 1);
        Check.lay(x, "personperson");
        due("end(6)", x.end(6), true);
        due("bank", x.bank(), 2);
        due("the word that is left", x.count(1), 1);
    }

    static void p03EndIsNoActAndLeavesAll() {
        answersAndNothing("end(7)", 0, x -> x.end(7) ? 1 : 0);
        answersAndNothing("end(-1)", 0, x -> x.end(-1) ? 1 : 0);
        answersAndNothing("end(6)", 1, x -> x.end(6) ? 1 : 0);
    }

    // ---- promise 4: how many ----

    static void p04BankOfAnEmptyTextHasNoLine() {
        SafeKnown x = new SafeKnown();
        due("nothing was fed", x.bank(), 1);
        due("texts", x.count(3), 1);
        due("vaults", x.count(0), 0);
        due("fault", x.fault(), NONE);
    }

    static void p04BankOfBlanksAloneHasNoLine() {
        SafeKnown x = fullOfBlanks();
        due("400 blanks", x.bank(), 1);
        due("one blank", Check.bank(x, " "), 2);
        due("vaults", x.count(0), 0);
    }

    static void p04BankTakesFourteenLines() {
        SafeKnown x = made(repeated("change 7", 13) + ";change 9");
        due("the fourteenth holds", x.count(6), 9);
        due("fourteen more in the next text", Check.bank(x, repeated("change 7", 14)), 2);
    }

    static void p04BankFifteenthLineIsWrongAtItsFirstWord() {
        SafeKnown x = new SafeKnown();
        Check.wrongBank(x, repeated("change 7", 15), 126);
        Check.wrongBank(x, repeated("change 7", 14) + "  ;   person", 131);
        Check.wrongBank(x, repeated("change 7", 14) + ";x", 126);
        due("nothing stays", x.count(6), 0);
    }

    static void p04BankFifteenthLineThatDoesNotCome() {
        SafeKnown x = new SafeKnown();
        Check.wrongBank(x, repeated("change 7", 14) + ";", 126);
        Check.wrongBank(x, repeated("change 7", 14) + ";  ", 128);
    }

    static void p04BankTakesTwelveTexts() {
        SafeKnown x = new SafeKnown();
        for (int i = 1; i <= 11; i++) {
            due("text " + i, x.bank(), i);
        }
        due("the twelfth", Check.bank(x, "person"), 12);
        due("it holds", x.count(1), 1);
    }

    private static SafeKnown twelveTexts() {
        SafeKnown x = made(VAULT + ";person;change 5");
        for (int i = 2; i <= 12; i++) {
            due("text " + i, x.bank(), i);
        }
        return x;
    }

    static void p04BankThirteenthTextIsRefused() {
        SafeKnown x = twelveTexts();
        Check.lay(x, "person");
        refuses("bank", UNSUPPORTED, x::bank);
        due("people", x.count(1), 1);
        due("texts", x.count(3), 12);
        refuses("an empty one", UNSUPPORTED, x::bank);
    }

    static void p04BankThirteenthTextUsesTheTapeUp() {
        SafeKnown x = twelveTexts();
        Check.lay(x, "person");
        refuses("bank", UNSUPPORTED, x::bank);
        due("the tape", x.end(1), false);
    }

    static void p04BankThirteenthTextLeavesActs() {
        SafeKnown x = twelveTexts();
        x.turn(0, 0, 1);
        int left = x.left(0, 0);
        Check.lay(x, "vault 111 worth 5;person;never 0 0;change 99");
        refuses("bank", UNSUPPORTED, x::bank);
        due("vaults", x.count(0), 1);
        due("people", x.count(1), 1);
        due("contracts", x.count(2), 0);
        due("change", x.count(6), 5);
        due("left", x.left(0, 0), left);
        due("acts", x.count(12), 1);
        due("undo", x.undo(), true);
        due("rows", x.count(9), 0);
    }

    static void p04BankThirteenthTextThatIsWrongIsWrong() {
        SafeKnown x = twelveTexts();
        Check.wrongBank(x, "person;x", 7);
        due("texts", x.count(3), 12);
    }

    static void p04BankWrongTextsAreNotCounted() {
        SafeKnown x = new SafeKnown();
        for (int i = 1; i <= 12; i++) {
            Check.wrongBank(x, "x", 0);
            due("text " + i, x.bank(), i);
        }
        Check.wrongBank(x, "x", 0);
        refuses("a thirteenth", UNSUPPORTED, x::bank);
    }

    static void p04BankGoneBackHasRoomForTexts() {
        SafeKnown x = made("person");
        x.image();
        for (int i = 2; i <= 12; i++) {
            due("text " + i, x.bank(), i);
        }
        x.back();
        due("texts", x.count(3), 1);
        due("a text again", Check.bank(x, "person"), 2);
    }

    static void p04BankTakesSixVaults() {
        SafeKnown x = made(repeated("vault 123 worth 999", 6));
        due("vaults", x.count(0), 6);
        due("the sixth", x.vault(5, 0), 51);
        due("worth", x.count(11), 5994);
    }

    static void p04BankSeventhVaultIsWrongAtItsFirstWord() {
        SafeKnown x = new SafeKnown();
        Check.wrongBank(x, repeated(VAULT, 7), 108);
        due("nothing stays", x.count(0), 0);
        Check.bank(x, repeated(VAULT, 6));
        Check.wrongBank(x, "  vault 000 worth 1", 2);
        Check.wrongBank(x, "vault", 0);
        due("six", x.count(0), 6);
    }

    static void p04BankTakesSixPeople() {
        SafeKnown x = made(repeated("person", 6) + ";" + VAULT);
        due("people", x.count(1), 6);
        due("the sixth", x.left(5, 0), 216);
    }

    static void p04BankSeventhPersonIsWrongAtItsFirstWord() {
        SafeKnown x = new SafeKnown();
        Check.wrongBank(x, repeated("person", 7), 42);
        due("nobody stays", x.count(1), 0);
        Check.bank(x, repeated("person", 6));
        Check.wrongBank(x, " person", 1);
        due("six", x.count(1), 6);
    }

    static void p04BankTakesTwelveContracts() {
        SafeKnown x = made("person;" + VAULT + ";" + repeated("never 0 0", 11) + ";open 0 0 by 7");
        due("contracts", x.count(2), 12);
        due("the twelfth", x.contract(11, 3), 7);
    }

    static void p04BankThirteenthContractIsWrongAtItsFirstWord() {
        SafeKnown x = made("person;" + VAULT);
        Check.wrongBank(x, repeated("never 0 0", 13), 120);
        due("none stays", x.count(2), 0);
        Check.bank(x, repeated("never 0 0", 12));
        Check.wrongBank(x, "change 5; never 0 0", 10);
        Check.wrongBank(x, "change 5; open 0 0 by 1", 10);
        due("twelve", x.count(2), 12);
        due("change", x.count(6), 0);
    }

    // ---- promise 4: numbers ----

    static void p04BankFirstAndLastFigures() {
        SafeKnown x = made("vault 000 worth 1;vault 555 worth 1;vault 005 worth 1;vault 050 worth 1;vault 500 worth 1");
        int[] codes = {0, 215, 5, 30, 180};
        for (int vault = 0; vault < codes.length; vault++) {
            due("code of " + vault, x.vault(vault, 0), codes[vault]);
        }
    }

    static void p04BankFiguresThatAreNone() {
        SafeKnown x = new SafeKnown();
        for (String wrong : new String[] {"006", "060", "600", "00", "0", "0000", "999", "0 0 0", "00 0", "abc", "00a",
            "-00", ""}) {
            Check.wrongBank(x, "vault " + wrong + " worth 1", wrong.isEmpty() ? 7 : 6);
        }
        Check.wrongBank(x, "vault", 5);
        Check.wrongBank(x, "vault   ", 8);
    }

    static void p04BankWorth0And999() {
        SafeKnown x = made("vault 000 worth 0;vault 000 worth 999;vault 000 worth 000;vault 000 worth 09");
        int[] worths = {0, 999, 0, 9};
        for (int vault = 0; vault < worths.length; vault++) {
            due("worth of " + vault, x.vault(vault, 2), worths[vault]);
        }
    }

    static void p04BankWorthThatIsNone() {
        SafeKnown x = new SafeKnown();
        for (String wrong : new String[] {"1000", "0999", "0000", "99999999999999999999", "-1", "x", ";", "guard 1"}) {
            Check.wrongBank(x, "vault 000 worth " + wrong, 16);
        }
        Check.wrongBank(x, "vault 000 worth", 15);
        Check.wrongBank(x, "vault 000", 9);
    }

    static void p04BankGuardWeekdays0To6() {
        SafeKnown x = made("vault 000 worth 1 guard 0;vault 000 worth 1 guard 6;vault 000 worth 1 guard 6 5 4 3 2 1 0;"
                + "vault 000 worth 1;vault 000 worth 1 guard 3 3 003");
        int[] guards = {1, 64, 127, 0, 8};
        for (int vault = 0; vault < guards.length; vault++) {
            due("guards of " + vault, x.vault(vault, 1), guards[vault]);
        }
    }

    static void p04BankGuardWeekdaysThatAreNone() {
        SafeKnown x = new SafeKnown();
        Check.wrongBank(x, VAULT + " guard 7", 24);
        Check.wrongBank(x, VAULT + " guard 10", 24);
        Check.wrongBank(x, VAULT + " guard 6 7", 26);
        Check.wrongBank(x, VAULT + " guard 6 0006", 26);
        Check.wrongBank(x, VAULT + " guard 0 1 2 3 4 5 6 7", 38);
        due("none stays", x.count(0), 0);
    }

    static void p04BankGuardWithoutAWeekday() {
        SafeKnown x = new SafeKnown();
        Check.wrongBank(x, VAULT + " guard", 23);
        Check.wrongBank(x, VAULT + " guard ", 24);
        Check.wrongBank(x, VAULT + " guard;person", 23);
    }

    static void p04BankPersonThatThereIsByThen() {
        SafeKnown x = new SafeKnown();
        Check.wrongBank(x, VAULT + ";never 0 0", 24);
        Check.wrongBank(x, VAULT + ";never 0 0;person", 24);
        due("in the line ahead", Check.bank(x, VAULT + ";person;never 0 0"), 1);
        Check.wrongBank(x, "never 1 0", 6);
        Check.wrongBank(x, "open 1 0 by 0", 5);
        Check.wrongBank(x, "person;never 2 0", 13);
        due("the last one", Check.bank(x, "person;never 1 0"), 2);
        due("contracts", x.count(2), 2);
    }

    static void p04BankVaultThatThereIsByThen() {
        SafeKnown x = new SafeKnown();
        Check.wrongBank(x, "person;never 0 0", 15);
        Check.wrongBank(x, "person;never 0 0;" + VAULT, 15);
        due("in the line ahead", Check.bank(x, VAULT + ";person;never 0 0"), 1);
        Check.wrongBank(x, "never 0 1", 8);
        Check.wrongBank(x, "open 0 1 by 0", 7);
        Check.wrongBank(x, VAULT + ";open 0 2 by 0", 25);
        due("the last one", Check.bank(x, VAULT + ";open 0 1 by 0"), 2);
        due("contracts", x.count(2), 2);
    }

    static void p04BankPersonOfAWrongTextIsNone() {
        SafeKnown x = made(VAULT);
        Check.wrongBank(x, "person;x", 7);
        Check.wrongBank(x, "never 0 0", 6);
    }

    static void p04BankSixthPersonAndVaultInContracts() {
        SafeKnown x = made(repeated("person", 6) + ";" + repeated(VAULT, 6) + ";never 5 5;open 005 05 by 1");
        due("person", x.contract(0, 1), 5);
        due("vault", x.contract(1, 2), 5);
        Check.wrongBank(x, "never 6 5", 6);
        Check.wrongBank(x, "never 5 6", 8);
        Check.wrongBank(x, "never 0005 5", 6);
    }

    static void p04BankContractDay0And999() {
        SafeKnown x = made("person;" + VAULT + ";open 0 0 by 0;open 0 0 by 999");
        due("the least", x.contract(0, 3), 0);
        due("the most", x.contract(1, 3), 999);
        Check.wrongBank(x, "open 0 0 by 1000", 12);
        Check.wrongBank(x, "open 0 0 by 0999", 12);
        Check.wrongBank(x, "open 0 0 by", 11);
        Check.wrongBank(x, "open 0 0", 8);
    }

    static void p04BankChange0And100() {
        SafeKnown x = made("change 100");
        due("the most", x.count(6), 100);
        Check.wrongBank(x, "change 101", 7);
        Check.wrongBank(x, "change 999", 7);
        Check.wrongBank(x, "change 0100", 7);
        Check.wrongBank(x, "change", 6);
        due("as it was", x.count(6), 100);
        due("a text without one", Check.bank(x, "person"), 2);
        due("as it was", x.count(6), 100);
        Check.bank(x, "change 0");
        due("the least", x.count(6), 0);
    }

    static void p04BankNumbersOf1To3Digits() {
        SafeKnown x = made("change 7");
        due("one", x.count(6), 7);
        Check.bank(x, "change 08");
        due("two", x.count(6), 8);
        Check.bank(x, "change 009");
        due("three", x.count(6), 9);
        Check.wrongBank(x, "change 0010", 7);
        Check.wrongBank(x, "change 4294967300", 7);
        Check.wrongBank(x, "change 18446744073709551617", 7);
        due("as it was", x.count(6), 9);
    }

    // ---- promise 4: signs ----

    static void p04BankBlanksBetweenAll() {
        SafeKnown x = made("  vault   012   worth   5   guard   1   2  ;  person  ;  never  0  0 ; open 0 0  by  3 ;  change  4  ");
        due("vaults", x.count(0), 1);
        due("guards", x.vault(0, 1), 6);
        due("contracts", x.count(2), 2);
        due("change", x.count(6), 4);
    }

    static void p04BankNoBlanksWhereNoneAreNeeded() {
        SafeKnown x = made("vault012worth5guard1 2;person;never0 0;open0 0by3;change4");
        due("code", x.vault(0, 0), 8);
        due("guards", x.vault(0, 1), 6);
        due("contracts", x.count(2), 2);
        due("change", x.count(6), 4);
    }

    static void p04BankWordsAreAsLongAsLettersGoOn() {
        SafeKnown x = new SafeKnown();
        Check.wrongBank(x, "persons", 0);
        Check.wrongBank(x, "perso", 0);
        Check.wrongBank(x, "personperson", 0);
        Check.wrongBank(x, "per son", 0);
        Check.wrongBank(x, "personz", 0);
        Check.wrongBank(x, "zperson", 0);
        Check.wrongBank(x, "xerson", 0);
        Check.wrongBank(x, "z", 0);
        Check.wrongBank(x, "personA", 6);
        Check.wrongBank(x, "Person", 0);
        Check.wrongBank(x, "vault 000 worths 1", 10);
        Check.wrongBank(x, VAULT + " guards 1", 18);
        Check.wrongBank(x, "person`", 6);
        Check.wrongBank(x, "person{", 6);
        Check.wrongBank(x, "change 5/", 8);
        Check.wrongBank(x, "change 5:", 8);
    }

    static void p04BankOtherSignsAreNoBlanks() {
        SafeKnown x = new SafeKnown();
        for (int sign : new int[] {0, 9, 10, 13, 31, 33, 127, 128, 160, 255}) {
            Check.wrongBank(x, "person" + (char) sign, 6);
            Check.wrongBank(x, (char) sign + "person", 0);
        }
        Check.wrongBank(x, "" + (char) 0, 0);
    }

    static void p04BankLinesThatAreEmpty() {
        SafeKnown x = new SafeKnown();
        Check.wrongBank(x, ";", 0);
        Check.wrongBank(x, " ;", 1);
        Check.wrongBank(x, ";person", 0);
        Check.wrongBank(x, "person;", 7);
        Check.wrongBank(x, "person; ", 8);
        Check.wrongBank(x, "person;;person", 7);
        Check.wrongBank(x, "person ; ; person", 9);
    }

    static void p04BankMoreMustCome() {
        SafeKnown x = made(VAULT + ";person");
        for (String ahead : new String[] {"vault", "vault 000", "vault 000 worth", VAULT + " guard", "never", "never 0",
            "open", "open 0", "open 0 0", "open 0 0 by", "change", "person;", VAULT + ";"}) {
            Check.wrongBank(x, ahead, ahead.length());
            Check.wrongBank(x, ahead + "  ", ahead.length() + 2);
        }
        due("vaults", x.count(0), 1);
        due("contracts", x.count(2), 0);
        due("texts", x.count(3), 1);
    }

    static void p04BankThingsThatCannotStandThere() {
        for (String ahead : new String[] {"", "vault ", "vault 000 ", "vault 000 worth ", VAULT + " ", VAULT + " guard ",
            VAULT + " guard 1 ", "never ", "never 0 ", "never 0 0 ", "open ", "open 0 ", "open 0 0 ", "open 0 0 by ",
            "open 0 0 by 1 ", "change ", "change 1 ", "person ", "person;"}) {
            SafeKnown x = made(VAULT + ";person");
            for (String wrong : new String[] {"x", "&", "persons", "bye", "Guard", "=", "click", "-1", "1000"}) {
                Check.wrongBank(x, ahead + wrong, ahead.length());
            }
            due("vaults", x.count(0), 1);
            due("people", x.count(1), 1);
            due("contracts", x.count(2), 0);
        }
    }

    static void p04BankOf400Bytes() {
        SafeKnown x = made("change 9;" + blanks(385) + "person");
        due("the last six bytes hold", x.count(1), 1);
        Check.bank(x, blanks(391) + "change 77");
        due("the last two digits hold", x.count(6), 77);
        Check.wrongBank(x, blanks(399) + "x", 399);
        Check.wrongBank(x, "person;" + blanks(393), 400);
        Check.wrongBank(x, blanks(394) + "change", 400);
    }

    // ---- promise 4: what stays ----

    static void p04BankWrongTextChangesNothing() {
        wrongBankAndNothing("person;vault 111 worth 5 guard 2;never 0 1;open 2 2 by 3;change 99;x", 67);
        wrongBankAndNothing("vault 111 worth 5 guard 7", 24);
        wrongBankAndNothing("vault 111 worth 5;change", 24);
        wrongBankAndNothing("open 0 0 by 1000", 12);
        wrongBankAndNothing("person;", 7);
    }

    static void p04BankUsesTheTapeUp() {
        SafeKnown x = made("person");
        due("behind a right text", x.end(1), false);
        Check.wrongBank(x, "person;x", 7);
        due("behind a wrong text", x.end(1), false);
    }

    static void p04BankNewOnesKnowNothingAndOthersAllTheyKnew() {
        SafeKnown x = made("vault 000 worth 1;person");
        x.turn(0, 0, 0);
        due("text", Check.bank(x, "person;vault 000 worth 1"), 2);
        due("the old one of the old one", x.left(0, 0), 1);
        due("the old one of the new one", x.left(0, 1), 216);
        due("the new one of the old one", x.left(1, 0), 216);
        due("opened", x.count(7), 1);
        due("the new one is not", x.vault(1, 3), 0);
    }

    static void p04BankNewOnesBehindGoingBackKnowNothing() {
        SafeKnown x = made("vault 000 worth 1;person");
        x.image();
        Check.bank(x, "vault 111 worth 7 guard 1;person;open 1 1 by 4");
        x.turn(1, 1, 43);
        due("opened", x.count(7), 2);
        x.back();
        Check.bank(x, "vault 222 worth 8;person;never 1 1");
        due("left", x.left(1, 1), 216);
        due("opened", x.count(7), 0);
        due("guards", x.vault(1, 1), 0);
        due("contract day", x.contract(0, 3), NONE);
        due("contract is a never one", x.contract(0, 0), 0);
    }

    static void p04BankEvenAnEmptyTextLetsNoneBeRemembered() {
        SafeKnown x = made("vault 000 worth 1;person");
        x.turn(0, 0, 1);
        due("acts", x.count(12), 1);
        due("text", x.bank(), 2);
        due("acts", x.count(12), 0);
        due("undo", x.undo(), false);
        due("the row stays", x.count(9), 1);
    }

    // ---- promise 5: how many ----

    static void p05LawOfAnEmptyTextIsSilent() {
        SafeKnown x = new SafeKnown();
        due("without a text: lines", x.count(4), NONE);
        due("without a text: same", x.click(0, 3, 3), 1);
        due("without a text: not same", x.click(0, 3, 4), 0);
        due("nothing was fed", x.law(), 0);
        due("lines", x.count(4), 0);
        due("same", x.click(0, 3, 3), 0);
        due("fault", x.fault(), NONE);
    }

    static void p05LawOfBlanksAloneIsSilent() {
        SafeKnown x = fullOfBlanks();
        due("400 blanks", x.law(), 0);
        due("sound", x.sound(0, 0), 0);
    }

    static void p05LawTakesTwelveLines() {
        SafeKnown x = new SafeKnown();
        due("twelve", Check.law(x, repeated("click 1", 11) + ";click 50"), 12);
        due("lines", x.count(4), 12);
        due("the twelfth holds", x.click(0, 0, 0), 61);
    }

    static void p05LawThirteenthLineIsWrongAtItsFirstWord() {
        SafeKnown x = new SafeKnown();
        Check.wrongLaw(x, repeated("click 1", 13), 96);
        Check.wrongLaw(x, repeated("click 1", 12) + " ;  mute 1", 99);
        Check.wrongLaw(x, repeated("click 1", 12) + ";x", 96);
        Check.wrongLaw(x, repeated("click 1", 12) + ";", 96);
        Check.wrongLaw(x, repeated("click 1", 12) + ";  ", 98);
        due("no law", x.count(4), NONE);
    }

    // ---- promise 5: numbers ----

    static void p05LawClick0And99() {
        SafeKnown x = new SafeKnown();
        Check.law(x, "click 99");
        due("the most", x.click(0, 0, 0), 99);
        Check.law(x, "mute 099");
        due("the most mute", x.click(0, 0, 0), -99);
        Check.law(x, "click 0;mute 000");
        due("the least", x.click(0, 0, 0), 0);
        for (String wrong : new String[] {"100", "999", "0099", "1000", "-1", "x", ";", "if same"}) {
            Check.wrongLaw(x, "click " + wrong, 6);
            Check.wrongLaw(x, "mute " + wrong, 5);
        }
        Check.wrongLaw(x, "click", 5);
        Check.wrongLaw(x, "mute ", 5);
        due("lines as before", x.count(4), 2);
    }

    static void p05LawSumNumbers0And999() {
        SafeKnown x = new SafeKnown();
        Check.law(x, "click 1 if 999>998;click 2 if 0<001;click 4 if 000>0");
        due("999 and 0", x.click(0, 0, 0), 3);
        Check.wrongLaw(x, "click 1 if 1000>0", FIRST_ATOM);
        Check.wrongLaw(x, "click 1 if 0>1000", FIRST_ATOM + 2);
        Check.wrongLaw(x, "click 1 if 0>0000", FIRST_ATOM + 2);
        Check.wrongLaw(x, "click 1 if 0+1000>0", FIRST_ATOM + 2);
    }

    static void p05LawSumsOfAsManyPartsAsGo() {
        SafeKnown x = new SafeKnown();
        String great = "999" + "+999".repeat(46);
        Check.law(x, "click 1 if " + great + "<" + great + "+0");
        due("as much is not less", x.click(0, 0, 0), 0);
        Check.law(x, "click 1 if " + great + "<" + great + "+1");
        due("by one less", x.click(0, 0, 0), 1);
    }

    static void p05LawLessAndMoreNotTheSame() {
        SafeKnown x = new SafeKnown();
        Check.law(x, "click 1 if told<code;click 10 if told>code");
        due("one less", x.click(0, 2, 3), 1);
        due("the same", x.click(0, 3, 3), 0);
        due("one more", x.click(0, 4, 3), 10);
    }

    // ---- promise 5: depth ----

    static void p05LawSixDeep() {
        SafeKnown x = new SafeKnown();
        Check.law(x, "click 1 if ((((((same))))))");
        due("brackets", x.click(0, 3, 3), 1);
        due("brackets, not same", x.click(0, 3, 4), 0);
        Check.law(x, "click 1 if not not not not not not same");
        due("six not", x.click(0, 3, 3), 1);
        due("six not, not same", x.click(0, 3, 4), 0);
        Check.law(x, "click 1 if not not not not not same");
        due("five not", x.click(0, 3, 3), 0);
        Check.law(x, "click 1 if not(not(not(same)))");
        due("by turns", x.click(0, 3, 3), 0);
        Check.law(x, "click 1 if (((((not same)))))");
        due("a not within five", x.click(0, 3, 3), 0);
    }

    static void p05LawSeventhDeepIsWrongWhereItBegins() {
        SafeKnown x = new SafeKnown();
        Check.wrongLaw(x, "click 1 if (((((((same)))))))", FIRST_ATOM + 6);
        Check.wrongLaw(x, "click 1 if not not not not not not not same", FIRST_ATOM + 24);
        Check.wrongLaw(x, "click 1 if not not not not not not (same)", FIRST_ATOM + 24);
        Check.wrongLaw(x, "click 1 if ((((((not same))))))", FIRST_ATOM + 6);
        Check.wrongLaw(x, "click 1 if not(not(not(not same)))", FIRST_ATOM + 12);
        Check.wrongLaw(x, "click 1 if not(not(not( (same))))", FIRST_ATOM + 13);
        Check.wrongLaw(x, "click 1 if ((((((same and not next))))))", FIRST_ATOM + 15);
        Check.wrongLaw(x, "click 1 if ((((((same or (next)))))))", FIRST_ATOM + 14);
        due("no law", x.count(4), NONE);
    }

    static void p05LawDepthIsOfThoseWithinOneAnotherAlone() {
        SafeKnown x = new SafeKnown();
        due("side by side", Check.law(x, "click 1 if ((((((same))))))or((((((next))))))and((((((told<5))))))"), 1);
        due("not beside not", Check.law(x, "click 1 if not not not not not not same and not not not not not not next"), 1);
        due("in the next line", Check.law(x, "click 1 if ((((((same))))));click 1 if ((((((next))))))"), 2);
        due("behind a bracket", Check.law(x, "click 1 if (((((same)and(same))and(same))and(same))and(same))and((((((same))))))"),
                1);
    }

    // ---- promise 5: the wheel goes round ----

    static void p05LawNextGoesRound() {
        SafeKnown x = new SafeKnown();
        Check.law(x, "click 1 if next");
        for (int told = 0; told < 6; told++) {
            for (int code = 0; code < 6; code++) {
                boolean next = Math.abs(told - code) == 1 || told == 0 && code == 5 || told == 5 && code == 0;
                due("told " + told + ", code " + code, x.click(1, told, code), next ? 1 : 0);
            }
        }
    }

    static void p05LawApartIsTheShorterWayRound() {
        SafeKnown x = new SafeKnown();
        Check.law(x, "click 1 if apart>0;click 1 if apart>1;click 1 if 2<apart;click 50 if apart>3;click 50 if apart<0");
        int[] from0 = {0, 1, 2, 3, 2, 1};
        for (int told = 0; told < 6; told++) {
            for (int code = 0; code < 6; code++) {
                due("told " + told + ", code " + code, x.click(2, told, code), from0[(code - told + 6) % 6]);
            }
        }
    }

    static void p05LawWheelIsItsNumber() {
        SafeKnown x = new SafeKnown();
        Check.law(x, "click 1 if wheel<1;click 2 if wheel>0 and wheel<2;click 4 if wheel>1;click 50 if wheel>2");
        due("wheel 0", x.click(0, 0, 0), 1);
        due("wheel 1", x.click(1, 0, 0), 2);
        due("wheel 2", x.click(2, 0, 0), 4);
        due("all together", x.sound(0, 0), 7);
    }

    static void p05LawAndBindsMoreThanOr() {
        SafeKnown x = new SafeKnown();
        Check.law(x, "click 1 if same or next and told<1");
        due("same", x.click(0, 3, 3), 1);
        due("next, told 0", x.click(0, 0, 1), 1);
        due("next, told 1", x.click(0, 1, 2), 0);
        Check.law(x, "click 1 if next and told<1 or same");
        due("the last of two", x.click(0, 3, 3), 1);
        due("the first of two", x.click(0, 0, 5), 1);
        Check.law(x, "click 1 if same or next or told>4");
        due("the first of three", x.click(0, 2, 2), 1);
        due("the second of three", x.click(0, 2, 3), 1);
        due("the third of three", x.click(0, 5, 2), 1);
        due("none of three", x.click(0, 2, 5), 0);
        Check.law(x, "click 1 if same and told<4 and 2<told");
        due("all of three", x.click(0, 3, 3), 1);
        due("not the second", x.click(0, 4, 4), 0);
        due("not the third", x.click(0, 2, 2), 0);
        Check.law(x, "click 1 if (same or next) and told<1");
        due("in brackets", x.click(0, 3, 3), 0);
    }

    static void p05LawNotIsOfTheNextAtomAlone() {
        SafeKnown x = new SafeKnown();
        Check.law(x, "click 1 if not same and told<1");
        due("not same, told 0", x.click(0, 0, 1), 1);
        due("not same, told 1", x.click(0, 1, 2), 0);
        due("same, told 1", x.click(0, 1, 1), 0);
        Check.law(x, "click 1 if not same or told<1");
        due("same, told 0", x.click(0, 0, 0), 1);
        due("same, told 1", x.click(0, 1, 1), 0);
        Check.law(x, "click 1 if not told<1+1");
        due("not of a sum: 1", x.click(0, 1, 0), 0);
        due("not of a sum: 2", x.click(0, 2, 0), 1);
    }

    static void p05LawSoundMayBeBelow0() {
        SafeKnown x = made("vault 000 worth 1;person", repeated("mute 99", 12));
        due("a wheel", x.click(2, 5, 5), -1188);
        due("all together", x.sound(215, 215), -3564);
        due("turn", x.turn(0, 0, 7), -3564);
        due("left", x.left(0, 0), 215);
        due("in the log", x.log(0, 4), -3564);
        due("parts", x.parts(0, 0, 0, false), 2);
        Check.law(x, repeated("click 99", 12));
        due("the loudest of all", x.turn(0, 0, 7), 3564);
        due("parts", x.parts(0, 0, 0, false), 2);
        due("next", x.next(0, 0), 0);
        due("quietest", x.quietest(0), 1);
        Check.law(x, repeated("mute 99 if wheel<1 and code<1;click 99 if wheel<1 and code>0", 6));
        due("from the one to the other", x.sound(0, 36) - x.sound(0, 0), 1188);
        due("parts", x.parts(0, 0, 1, true), 180);
    }

    // ---- promise 5: what more must come ----

    static void p05LawMoreMustCome() {
        SafeKnown x = new SafeKnown();
        for (String ahead : new String[] {"click", "click 1 if", "click 1 if not", "click 1 if (", "click 1 if (same",
            "click 1 if same and", "click 1 if same or", "click 1 if told", "click 1 if told<", "click 1 if told>1+",
            "click 1 if told+", "click 1;", "click 1 if same;", "click 1 if 5"}) {
            Check.wrongLaw(x, ahead, ahead.length());
            Check.wrongLaw(x, ahead + "  ", ahead.length() + 2);
        }
    }

    static void p05LawThingsThatCannotStandThere() {
        SafeKnown x = new SafeKnown();
        for (String ahead : new String[] {"", "click ", "click 1 ", "click 1 if ", "click 1 if not ", "click 1 if (",
            "click 1 if (same ", "click 1 if same ", "click 1 if same and ", "click 1 if same or ", "click 1 if told ",
            "click 1 if told<", "click 1 if told>1+", "click 1 if told+", "click 1;", "click 1 if 5 "}) {
            for (String wrong : new String[] {"x", "&", "clicks", "iff", "Same", "=", "vault", "-1"}) {
                Check.wrongLaw(x, ahead + wrong, ahead.length());
            }
            x = new SafeKnown();
        }
    }

    static void p05LawBracketsAreOfConditionsAlone() {
        SafeKnown x = new SafeKnown();
        Check.wrongLaw(x, "click 1 if (told)<1", FIRST_ATOM + 5);
        Check.wrongLaw(x, "click 1 if told<(1)", FIRST_ATOM + 5);
        Check.wrongLaw(x, "click 1 if ()", FIRST_ATOM + 1);
        Check.wrongLaw(x, "click 1 if (same))", FIRST_ATOM + 6);
        Check.wrongLaw(x, "click 1 if )", FIRST_ATOM);
        Check.wrongLaw(x, "click 1 (same)", 8);
    }

    static void p05LawWordsOfSumsAreNoConditions() {
        SafeKnown x = new SafeKnown();
        Check.wrongLaw(x, "click 1 if told", FIRST_ATOM + 4);
        Check.wrongLaw(x, "click 1 if told and same", FIRST_ATOM + 5);
        Check.wrongLaw(x, "click 1 if same<1", FIRST_ATOM + 4);
        Check.wrongLaw(x, "click 1 if 1<next", FIRST_ATOM + 2);
        Check.wrongLaw(x, "click 1 if 1<2<3", FIRST_ATOM + 3);
        Check.wrongLaw(x, "click 1 if 1<2+", FIRST_ATOM + 4);
    }

    static void p05LawOf400Bytes() {
        SafeKnown x = new SafeKnown();
        due("law", Check.law(x, "click 1 if same or " + blanks(377) + "next"), 1);
        due("the last four bytes hold", x.click(0, 0, 1), 1);
        Check.wrongLaw(x, "click 1 if same" + blanks(384) + "x", 399);
        Check.wrongLaw(x, "click 1 if same or" + blanks(382), 400);
    }

    // ---- promise 5: what stays ----

    static void p05LawWrongTextChangesNothing() {
        wrongLawAndNothing("click 9;mute 3 if same;x", 23);
        wrongLawAndNothing("click 9;mute 100", 13);
        wrongLawAndNothing("click 9;", 8);
        wrongLawAndNothing("person", 0);
    }

    static void p05LawComesInPlaceOfTheOneBefore() {
        SafeKnown x = new SafeKnown();
        Check.law(x, repeated("click 7", 12));
        due("one line", Check.law(x, "click 1"), 1);
        due("lines", x.count(4), 1);
        due("of the one before nothing sounds", x.click(0, 0, 0), 1);
    }

    static void p05LawAllPeopleForgetAllVaults() {
        SafeKnown x = made(repeated(VAULT, 6) + ";" + repeated("person", 6));
        for (int i = 0; i < 6; i++) {
            x.turn(i, i, 0);
            x.turn(i, 5 - i, 1);
        }
        due("law", Check.law(x, "click 1 if same"), 1);
        for (int person = 0; person < 6; person++) {
            for (int vault = 0; vault < 6; vault++) {
                due("left of " + person + " and " + vault, x.left(person, vault), 216);
            }
        }
        due("opened ones stay so", x.count(7), 63);
        due("rows stay", x.count(9), 12);
        due("none are remembered", x.count(12), 0);
        due("nothing was told anew", x.count(10), 0);
    }

    static void p05LawThatIsTheSameForgetsTheSame() {
        SafeKnown x = made(VAULT + ";person", "click 1 if same");
        x.turn(0, 0, 0);
        Check.law(x, "click 1 if same");
        due("left", x.left(0, 0), 216);
    }

    static void p05LawUsesTheTapeUp() {
        SafeKnown x = new SafeKnown();
        Check.law(x, "click 1");
        due("behind a right text", x.end(1), false);
        Check.wrongLaw(x, "click", 5);
        due("behind a wrong text", x.end(1), false);
    }

    static void p05LawIsNoTextOfTheBank() {
        SafeKnown x = twelveTexts();
        due("behind twelve texts", Check.law(x, "click 1"), 1);
        due("texts", x.count(3), 12);
    }

    // ---- promise 6 ----

    static void p06FaultIsNoneAheadOfAnyText() {
        SafeKnown x = new SafeKnown();
        due("new", x.fault(), NONE);
        feedZs(x);
        due("fed, but not read", x.fault(), NONE);
    }

    static void p06FaultAtTheFirstByteAndAtTheLength() {
        SafeKnown x = new SafeKnown();
        Check.wrongBank(x, "x", 0);
        Check.wrongBank(x, "change", 6);
        Check.wrongLaw(x, "x", 0);
        Check.wrongLaw(x, "click", 5);
        Check.wrongBank(x, "person;" + blanks(393), 400);
    }

    static void p06FaultIsTheFirstOfSeveral() {
        SafeKnown x = new SafeKnown();
        Check.wrongBank(x, "change 101;vault 666 worth 1000;x", 7);
        Check.wrongLaw(x, "click 100;x", 6);
    }

    static void p06FaultIsNoneBehindARightText() {
        SafeKnown x = new SafeKnown();
        Check.wrongBank(x, "x", 0);
        due("an empty text", x.bank(), 1);
        due("fault", x.fault(), NONE);
        Check.wrongBank(x, " x", 1);
        due("an empty law", x.law(), 0);
        due("fault", x.fault(), NONE);
    }

    static void p06FaultIsOfTheLatestOfBothKinds() {
        SafeKnown x = new SafeKnown();
        Check.wrongBank(x, "  x", 2);
        Check.wrongLaw(x, " x", 1);
        Check.wrongBank(x, "   x", 3);
    }

    static void p06FaultIsNoneByARightThirteenthText() {
        SafeKnown x = twelveTexts();
        Check.wrongBank(x, "  x", 2);
        Check.lay(x, "person");
        refuses("bank", UNSUPPORTED, x::bank);
        due("that text was read and right", x.fault(), NONE);
    }

    static void p06FaultStaysWhateverElseIsCalled() {
        SafeKnown x = made(VAULT + ";person;person");
        x.image();
        x.turn(0, 0, 1);
        Check.wrongBank(x, "   x", 3);
        x.turn(0, 0, 2);
        x.undo();
        x.undo();
        due("behind undo", x.fault(), 3);
        x.image();
        x.back();
        due("behind going back", x.fault(), 3);
        feedBlanks(x);
        x.end(0);
        x.days(1);
        x.seed(4);
        x.tell(0, 1, 0);
        refuses("turn(9, 9, 9)", INDEX, () -> x.turn(9, 9, 9));
        due("behind others", x.fault(), 3);
    }
}
