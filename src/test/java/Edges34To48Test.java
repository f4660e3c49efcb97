import java.util.function.ToIntFunction;

/** The edges of promises 34 to 48: guards and gains, trials, the log, undoing, the image, counts. */
public final class Edges34To48Test extends Edges {
    private static final int[] NO_DAYS = {-1, 41, LEAST, MOST};

    private Edges34To48Test() {
    }

    public static void main(String[] args) {
        run(Edges34To48Test.class, 34, 48);
    }

    private static SafeKnown oneOfEach() {
        return made("vault 000 worth 1;person");
    }

    // ---- promise 34 ----

    private static String week(int guards) {
        StringBuilder s = new StringBuilder();
        for (int day = 0; day < 7; day++) {
            s.append((guards >> day & 1) == 1 ? 'G' : '.');
        }
        return s.toString();
    }

    /** Whether a row of more than n days without a guard stands in a week that goes round. */
    private static boolean hasRowAbove(int n, int guards) {
        String week = week(guards);
        return (week + week).contains(".".repeat(n + 1));
    }

    private static int fewestMore(int guards, int n) {
        for (int many = 0; many <= 7; many++) {
            for (int more = 0; more < 128; more++) {
                if (Integer.bitCount(more) == many && (more & guards) == 0 && !hasRowAbove(n, guards | more)) {
                    return more;
                }
            }
        }
        return NONE;
    }

    static void p34RotaOfAllWeeks() {
        for (int guards = 0; guards < 128; guards++) {
            SafeKnown x = oneOfEach();
            for (int day = 0; day < 7; day++) {
                x.guard(0, day, (guards >> day & 1) == 1);
            }
            for (int n = 0; n <= 6; n++) {
                due("rota of " + week(guards) + " by " + n, x.rota(0, n), fewestMore(guards, n));
            }
        }
    }

    static void p34RotaBy0And6() {
        SafeKnown x = made("vault 000 worth 1;vault 000 worth 1 guard 3;vault 000 worth 1 guard 0 1 2 3 4 5 6");
        due("no guard by 0", x.rota(0, 0), 127);
        due("no guard by 6", x.rota(0, 6), 1);
        due("one guard by 0", x.rota(1, 0), 119);
        due("one guard by 6", x.rota(1, 6), 0);
        due("one guard by 5", x.rota(1, 5), 1);
        due("all by 0", x.rota(2, 0), 0);
        due("all by 6", x.rota(2, 6), 0);
    }

    static void p34RotaByNone() {
        SafeKnown x = oneOfEach();
        for (int none : new int[] {-1, 7, LEAST, MOST}) {
            refuses("by " + none, ARGUMENT, () -> x.rota(0, none));
        }
        refuses("no vault ahead of it", INDEX, () -> x.rota(1, 7));
        needs("rota", y -> y.rota(-1, 0), y -> y.rota(2, 0));
    }

    static void p34RotaChangesNothing() {
        answersAndNothing("rota(0, 0)", 117, x -> x.rota(0, 0));
        refusedAndNothing("rota(0, 7)", ARGUMENT, x -> x.rota(0, 7));
        refusedAndNothing("rota(2, 0)", INDEX, x -> x.rota(2, 0));
    }

    // ---- promise 35 ----

    static void p35RichestWithoutVaults() {
        SafeKnown x = made("person");
        due("richest", x.richest(0, false), NONE);
        due("easiest", x.richest(0, true), NONE);
    }

    static void p35RichestWithAllGuarded() {
        SafeKnown x = made("vault 000 worth 9 guard 0;vault 000 worth 9 guard 0 1;person");
        due("richest", x.richest(0, false), NONE);
        due("easiest", x.richest(0, true), NONE);
        x.days(1);
        due("one is not any more", x.richest(0, false), 0);
        x.days(6);
        due("a week later", x.richest(0, false), NONE);
    }

    static void p35RichestOfNoWorth() {
        SafeKnown x = made("vault 000 worth 9 guard 0;vault 000 worth 0;person");
        due("richest", x.richest(0, false), 1);
        due("easiest", x.richest(0, true), 1);
    }

    static void p35RichestRoundedDownOfSeveralTheLeast() {
        due("0 and 0", made("vault 000 worth 0;vault 000 worth 215;person").richest(0, false), 0);
        due("0 and 1", made("vault 000 worth 215;vault 000 worth 216;person").richest(0, false), 1);
        due("1 and 1", made("vault 000 worth 216;vault 000 worth 431;person").richest(0, false), 0);
        due("1 and 2", made("vault 000 worth 431;vault 000 worth 432;person").richest(0, false), 1);
        due("six alike", made(repeated("vault 000 worth 9", 6) + ";person").richest(0, false), 0);
    }

    static void p35RichestEasiestTheLastOfSix() {
        SafeKnown x = made(repeated("vault 000 worth 9", 6) + ";person");
        due("alike", x.richest(0, true), 0);
        x.turn(0, 5, 1);
        due("the last", x.richest(0, true), 5);
        x.turn(0, 4, 1);
        due("the lesser of two alike", x.richest(0, true), 4);
        x.guard(4, 0, true);
        due("guarded today", x.richest(0, true), 5);
    }

    static void p35RichestOfNobody() {
        needs("richest", x -> x.richest(-1, false), x -> x.richest(2, false), x -> x.richest(-1, true),
                x -> x.richest(2, true), x -> x.richest(LEAST, true), x -> x.richest(MOST, false));
    }

    // ---- promises 36 and 37 ----

    static void p36FirstNobodyYet() {
        SafeKnown x = oneOfEach();
        due("no row", x.first(0), NONE);
        x.turn(0, 0, 1);
        due("not opened", x.first(0), NONE);
        x.turn(0, 0, 0);
        due("opened", x.first(0), 0);
        needs("first", y -> y.first(-1), y -> y.first(2));
    }

    static void p36FirstUpToTheEightiethRow() {
        SafeKnown x = made("vault 000 worth 1;vault 000 worth 1;person;person");
        x.turn(1, 0, 0);
        x.turn(0, 0, 0);
        for (int i = 0; i < 78; i++) {
            x.turn(0, 1, 1);
        }
        due("the eightieth row", x.first(0), 1);
        x.turn(0, 1, 1);
        due("the next one, as it has fallen out", x.first(0), 0);
        x.turn(0, 1, 1);
        due("nobody", x.first(0), NONE);
        due("though it is opened", x.vault(0, 3), 1);
    }

    static void p36FirstIsOfTheLogWhateverWasToldSince() {
        SafeKnown x = made("vault 000 worth 1;person;person");
        x.turn(1, 0, 0);
        x.change(0, 9);
        x.turn(0, 0, 9);
        due("the first row", x.first(0), 1);
    }

    static void p37TurnedByAllByOneByNobody() {
        SafeKnown x = made("vault 000 worth 1;vault 000 worth 1;" + repeated("person", 6));
        due("none yet", x.turned(0, NONE), 0);
        x.turn(0, 0, 1);
        x.turn(5, 0, 1);
        x.turn(5, 1, 1);
        due("by all", x.turned(0, NONE), 2);
        due("by the first", x.turned(0, 0), 1);
        due("by the last", x.turned(0, 5), 1);
        due("by one who did not", x.turned(0, 1), 0);
        refuses("by a seventh", INDEX, () -> x.turned(0, 6));
        refuses("by -2", INDEX, () -> x.turned(0, -2));
        refuses("by the least", INDEX, () -> x.turned(0, LEAST));
        refuses("at a third", INDEX, () -> x.turned(2, NONE));
        refuses("at -1", INDEX, () -> x.turned(-1, NONE));
        needs("turned", y -> y.turned(2, NONE), y -> y.turned(-1, 0), y -> y.turned(0, 2), y -> y.turned(0, -2));
    }

    static void p37TurnedByAllWithNobodyThere() {
        SafeKnown x = made("vault 000 worth 1");
        due("by all", x.turned(0, NONE), 0);
        refuses("by the first", INDEX, () -> x.turned(0, 0));
    }

    static void p37TurnedInEightyRowsAtMost() {
        SafeKnown x = oneOfEach();
        for (int i = 1; i <= 82; i++) {
            x.turn(0, 0, 1);
            due("turning " + i, x.turned(0, 0), Math.min(80, i));
        }
    }

    static void p37TurnedNotIfRefused() {
        SafeKnown x = made("vault 000 worth 1 guard 0;person");
        refuses("guarded", STATE, () -> x.turn(0, 0, 0));
        due("turned", x.turned(0, NONE), 0);
    }

    // ---- promises 38 and 39 ----

    static void p38PriceWithoutVaults() {
        SafeKnown x = made("person");
        due("price", x.price(0), 0);
        needs("price", y -> y.price(-1), y -> y.price(2));
    }

    static void p38PriceRoundedDownForEachVault() {
        due("215 by 216", made("vault 000 worth 215;person").price(0), 0);
        due("216 by 216", made("vault 000 worth 216;person").price(0), 1);
        due("431 by 216", made("vault 000 worth 431;person").price(0), 1);
        due("432 by 216", made("vault 000 worth 432;person").price(0), 2);
        due("six of 215", made(repeated("vault 000 worth 215", 6) + ";person").price(0), 0);
    }

    static void p38PriceOfAllThatCanBeOpened() {
        SafeKnown x = made(repeated("vault 000 worth 999", 6) + ";person;person");
        due("four for each", x.price(0), 24);
        for (int vault = 0; vault < 6; vault++) {
            x.turn(0, vault, 0);
        }
        due("all", x.price(0), 5994);
        due("of the other one", x.price(1), 24);
    }

    static void p38PriceOfGuardedOnesToo() {
        due("price", made("vault 000 worth 216 guard 0;person").price(0), 1);
    }

    static void p39RiskyWithoutVaultsOrPeople() {
        due("nothing", new SafeKnown().risky(), NONE);
        due("no vault", made("person").risky(), NONE);
        due("nobody", made("vault 000 worth 1").risky(), NONE);
        due("one of each", oneOfEach().risky(), 0);
    }

    static void p39RiskyOfSeveralTheLeast() {
        SafeKnown x = made(repeated("vault 000 worth 1", 6) + ";" + repeated("person", 6));
        due("alike", x.risky(), 0);
        x.turn(5, 5, 43);
        due("the last", x.risky(), 5);
        x.turn(0, 4, 43);
        due("the lesser of two alike", x.risky(), 4);
        x.turn(1, 5, 43);
        due("of all together", x.risky(), 5);
    }

    // ---- promise 40 ----

    static void p40WhenAtOnce() {
        due("next is the code", made("vault 000 worth 1;person", "").when(0, 0), 1);
        SafeKnown x = made("vault 345 worth 1;person");
        x.turn(0, 0, 137);
        due("it is known", x.when(0, 0), 1);
    }

    static void p40WhenTwentyButNotTwentyOne() {
        due("the 20th", made("vault 031 worth 1;person", "").when(0, 0), 20);
        due("the 21st", made("vault 032 worth 1;person", "").when(0, 0), NONE);
        due("the last of all", made("vault 555 worth 1;person", "").when(0, 0), NONE);
        SafeKnown x = made("vault 032 worth 1;person", "");
        x.turn(0, 0, 0);
        due("one is known not to be", x.when(0, 0), 20);
    }

    static void p40WhenGuardedAndOpened() {
        SafeKnown x = made("vault 031 worth 1 guard 0 1 2 3 4 5 6;person", "");
        due("guards are not looked at", x.when(0, 0), 20);
        SafeKnown y = made("vault 031 worth 1;person;person", "");
        y.turn(0, 0, 19);
        due("the one who opened it", y.when(0, 0), 1);
        due("the other one", y.when(1, 0), 20);
    }

    static void p40WhenNothingStays() {
        answersAndNothing("when", busy().when(0, 1), x -> x.when(0, 1));
        answersAndNothing("when at a guarded one", busy().when(1, 0), x -> x.when(1, 0));
        needs("when", x -> x.when(-1, 0), x -> x.when(2, 0), x -> x.when(0, -1), x -> x.when(0, 2));
    }

    // ---- promises 41 and 42 ----

    /** Vaults of code 0 that have another one, from one seed on, once so many days are over. */
    private static int changed(int seed, int vaults, int change, int days) {
        Draws draws = new Draws(seed);
        int bits = 0;
        for (int i = 0; i < days * vaults; i++) {
            if (draws.next() % 100 < change) {
                int vault = i % vaults;
                bits = draws.next() % 216 == 0 ? bits & ~(1 << vault) : bits | 1 << vault;
            }
        }
        return bits;
    }

    private static SafeKnown toChange(int vaults, int change) {
        return made(repeated("vault 000 worth 1", vaults) + ";person;change " + change);
    }

    static void p41TrialOfNoDay() {
        SafeKnown x = toChange(2, 100);
        x.turn(0, 1, 1);
        due("no vault", x.trial(0, false), 0);
        due("left is 216 of one", x.trial(0, true), 1);
    }

    static void p41TrialOfFortyDaysButNotOfMore() {
        SafeKnown x = toChange(6, 1);
        due("forty", x.trial(40, false), changed(1, 6, 1, 40));
        for (int none : NO_DAYS) {
            refuses(none + " days", ARGUMENT, () -> x.trial(none, false));
            refuses(none + " days of left", ARGUMENT, () -> x.trial(none, true));
        }
    }

    static void p41TrialOfEachNumberOfDays() {
        SafeKnown x = toChange(6, 3);
        for (int seed : new int[] {1, 9, -1, LEAST, MOST}) {
            x.seed(seed);
            for (int days = 0; days <= 40; days++) {
                due(days + " days from " + seed, x.trial(days, false), changed(seed, 6, 3, days));
            }
        }
    }

    static void p41TrialChange0And100() {
        SafeKnown x = toChange(3, 0);
        x.turn(0, 0, 1);
        due("never", x.trial(40, false), 0);
        due("left", x.trial(40, true), 2);
        Check.bank(x, "change 100");
        due("always", x.trial(1, true), 3);
    }

    static void p41TrialTheSameCodeIsNoOther() {
        Draws draws = new Draws(1);
        draws.next();
        int code = draws.next() % 216;
        SafeKnown x = made("vault " + figures(code) + " worth 1;person;change 100");
        x.turn(0, 0, code);
        due("it is the same", x.trial(1, false), 0);
        due("told anew, though", x.trial(1, true), 1);
        due("it was known today", x.left(0, 0), 1);
    }

    static void p41TrialThatTellsNothingBehindDaysThatDid() {
        SafeKnown x = toChange(2, 100);
        x.days(1);
        x.turn(0, 0, x.vault(0, 0));
        x.turn(0, 1, x.vault(1, 0));
        due("a day more", x.trial(1, true), 2);
        due("no day", x.trial(0, true), 0);
        due("no day: vaults", x.trial(0, false), 0);
        Check.bank(x, "change 0");
        due("nobody changes a code", x.trial(40, true), 0);
    }

    static void p41TrialWithNoneThere() {
        due("nothing", new SafeKnown().trial(40, true), 0);
        due("nobody", made("vault 000 worth 1;change 100").trial(40, true), 0);
        due("no vault", made("person;change 100").trial(40, true), 0);
    }

    static void p41TrialNothingStays() {
        answersAndNothing("trial(40, true)", busy().trial(40, true), x -> x.trial(40, true));
        answersAndNothing("trial(40, false)", busy().trial(40, false), x -> x.trial(40, false));
        refusedAndNothing("trial(41, true)", ARGUMENT, x -> x.trial(41, true));
        refusedAndNothing("trial(-1, false)", ARGUMENT, x -> x.trial(-1, false));
    }

    static void p41TrialIsAsTheDaysThemselves() {
        SafeKnown x = toChange(6, 20);
        for (int vault = 0; vault < 6; vault++) {
            x.turn(0, vault, 1);
        }
        int vaults = x.trial(7, false);
        int left = x.trial(7, true);
        x.days(7);
        int other = 0;
        int whole = 0;
        for (int vault = 0; vault < 6; vault++) {
            other |= x.vault(vault, 0) != 0 ? 1 << vault : 0;
            whole += x.left(0, vault) == 216 ? 1 : 0;
        }
        due("vaults", vaults, other);
        due("left", left, whole);
    }

    static void p41TrialOnTheLastDay() {
        SafeKnown x = made("vault 000 worth 1 guard 3");
        goToDay(x, 9999);
        x.seed(1);
        Check.bank(x, "change 100");
        due("days are drawn all the same", x.trial(1, false), 1);
        due("day", x.count(5), 9999);
    }

    private static int spanned(int vaults, int change, int days, boolean most) {
        int best = Integer.bitCount(changed(1, vaults, change, days));
        for (int seed = 2; seed <= 6; seed++) {
            int many = Integer.bitCount(changed(seed, vaults, change, days));
            best = most ? Math.max(best, many) : Math.min(best, many);
        }
        return best;
    }

    static void p42SpanOfEachNumberOfDays() {
        for (int change : new int[] {0, 2, 10, 30, 50, 100}) {
            SafeKnown x = toChange(6, change);
            x.seed(12345);
            for (int days = 0; days <= 40; days++) {
                due(days + " days, fewest by " + change, x.span(days, false), spanned(6, change, days, false));
                due(days + " days, most by " + change, x.span(days, true), spanned(6, change, days, true));
            }
        }
    }

    static void p42SpanOfNoDayAndOfTooMany() {
        SafeKnown x = toChange(6, 100);
        due("fewest", x.span(0, false), 0);
        due("most", x.span(0, true), 0);
        for (int none : NO_DAYS) {
            refuses(none + " days, fewest", ARGUMENT, () -> x.span(none, false));
            refuses(none + " days, most", ARGUMENT, () -> x.span(none, true));
        }
    }

    static void p42SpanWithoutVaults() {
        SafeKnown x = made("person;change 100");
        due("fewest", x.span(40, false), 0);
        due("most", x.span(40, true), 0);
    }

    static void p42SpanFromItsOwnSeedsAlone() {
        SafeKnown x = toChange(6, 10);
        int fewest = x.span(3, false);
        int most = x.span(3, true);
        x.seed(4711);
        due("fewest", x.span(3, false), fewest);
        due("most", x.span(3, true), most);
        due("the seed stays", x.seed(1), 4711);
    }

    static void p42SpanNothingStays() {
        answersAndNothing("span(40, true)", busy().span(40, true), x -> x.span(40, true));
        refusedAndNothing("span(41, true)", ARGUMENT, x -> x.span(41, true));
        refusedAndNothing("span(-1, false)", ARGUMENT, x -> x.span(-1, false));
    }

    // ---- promise 43 ----

    static void p43LogWithoutARow() {
        SafeKnown x = oneOfEach();
        for (int what = 0; what <= 5; what++) {
            due("no row: what " + what, x.log(0, what), -999);
        }
        x.turn(0, 0, 1);
        due("the latest", x.log(0, 3), 1);
        for (int ago : new int[] {1, -1, 80, LEAST, MOST}) {
            due(ago + " ago", x.log(ago, 3), -999);
        }
    }

    static void p43LogAnotherWhat() {
        SafeKnown x = oneOfEach();
        for (int none : new int[] {-1, 6, LEAST, MOST}) {
            refuses("what " + none + " without a row", ELEMENT, () -> x.log(0, none));
        }
        x.turn(0, 0, 0);
        due("what 0", x.log(0, 0), 0);
        due("what 5", x.log(0, 5), 1);
        refuses("what 6", ELEMENT, () -> x.log(0, 6));
        refuses("what -1", ELEMENT, () -> x.log(0, -1));
        refusedAndNothing("log(0, 6)", ELEMENT, y -> y.log(0, 6));
    }

    static void p43LogOfEightyRowsAndOneMore() {
        SafeKnown x = oneOfEach();
        for (int i = 0; i < 80; i++) {
            x.turn(0, 0, 100 + i);
        }
        due("rows", x.count(9), 80);
        due("the latest", x.log(0, 3), 179);
        due("the first", x.log(79, 3), 100);
        due("none behind it", x.log(80, 3), -999);
        x.turn(0, 0, 7);
        due("rows", x.count(9), 80);
        due("the latest", x.log(0, 3), 7);
        due("the one before", x.log(1, 3), 179);
        due("the second is the last now", x.log(79, 3), 101);
        due("none behind it", x.log(80, 3), -999);
    }

    static void p43LogTwiceRound() {
        SafeKnown x = oneOfEach();
        for (int i = 0; i < 161; i++) {
            x.turn(0, 0, i);
        }
        for (int ago = 0; ago < 80; ago++) {
            due(ago + " ago", x.log(ago, 3), 160 - ago);
        }
    }

    static void p43LogRowsUndone() {
        SafeKnown x = oneOfEach();
        for (int i = 0; i < 81; i++) {
            x.turn(0, 0, 100 + i);
        }
        x.undo();
        due("rows", x.count(9), 80);
        due("the latest", x.log(0, 3), 179);
        due("the first is there again", x.log(79, 3), 100);
        x.undo();
        due("rows", x.count(9), 79);
        due("none behind them", x.log(79, 3), -999);
    }

    static void p43LogOfTurningsAlone() {
        SafeKnown x = made("vault 000 worth 1;person;person;change 100");
        x.tell(0, 1, 0);
        x.forget(0, 0);
        x.change(0, 5);
        x.guard(0, 3, true);
        x.days(1);
        x.when(0, 0);
        refuses("turn to none", INDEX, () -> x.turn(0, 0, 216));
        due("rows", x.count(9), 0);
    }

    // ---- promise 44 ----

    static void p44SeedAnyNumber() {
        SafeKnown x = oneOfEach();
        due("at first", x.seed(0), 1);
        due("0", x.seed(LEAST), 0);
        due("the least", x.seed(MOST), LEAST);
        due("the most", x.seed(-1), MOST);
        due("-1", x.seed(1), -1);
    }

    static void p44SeedGoesRound() {
        for (int seed : new int[] {0, 1, -1, LEAST, MOST, 1 << 30, 123456789}) {
            Draws draws = new Draws(seed);
            SafeKnown x = toChange(6, 100);
            x.seed(seed);
            due("six told", x.days(1), 6);
            for (int vault = 0; vault < 6; vault++) {
                draws.next();
                due("code of " + vault + " from " + seed, x.vault(vault, 0), draws.next() % 216);
            }
            due("seed behind it", x.seed(0), draws.seed());
        }
    }

    static void p44SeedIsNoAct() {
        SafeKnown x = oneOfEach();
        x.turn(0, 0, 1);
        x.seed(5);
        due("acts", x.count(12), 1);
        due("undo", x.undo(), true);
        due("as ahead of the turning", x.seed(1), 1);
        due("rows", x.count(9), 0);
    }

    // ---- promise 45 ----

    static void p45UndoWithNothingToUndo() {
        SafeKnown x = oneOfEach();
        due("undo", x.undo(), false);
        x.turn(0, 0, 1);
        due("one", x.undo(), true);
        due("no second", x.undo(), false);
        due("rows", x.count(9), 0);
    }

    static void p45UndoTenButNotEleven() {
        SafeKnown x = oneOfEach();
        for (int i = 1; i <= 10; i++) {
            x.turn(0, 0, i);
            due("acts", x.count(12), i);
        }
        x.turn(0, 0, 11);
        due("ten are remembered", x.count(12), 10);
        for (int i = 10; i >= 1; i--) {
            due("undo", x.undo(), true);
            due("the latest row", x.log(0, 3), i);
            due("acts", x.count(12), i - 1);
        }
        due("no eleventh", x.undo(), false);
        due("the first act stays", x.count(9), 1);
    }

    static void p45UndoTenOfTenLeaveNone() {
        SafeKnown x = oneOfEach();
        for (int i = 1; i <= 10; i++) {
            x.turn(0, 0, i);
        }
        for (int i = 1; i <= 10; i++) {
            due("undo", x.undo(), true);
        }
        due("no row", x.count(9), 0);
        due("no eleventh", x.undo(), false);
    }

    static void p45UndoPlacesAreUsedAgain() {
        SafeKnown x = oneOfEach();
        for (int i = 0; i < 37; i++) {
            x.turn(0, 0, i + 1);
            if (i % 3 == 2) {
                due("undo", x.undo(), true);
            }
        }
        due("rows", x.count(9), 25);
        due("acts", x.count(12), 10);
        for (int i = 24; i >= 15; i--) {
            due("undo", x.undo(), true);
            due("rows", x.count(9), i);
        }
        due("no more", x.undo(), false);
        for (int i = 0; i < 11; i++) {
            x.turn(0, 0, 100 + i);
        }
        for (int i = 0; i < 10; i++) {
            due("undo", x.undo(), true);
        }
        due("the first of the eleven stays", x.log(0, 3), 100);
    }

    static void p45UndoEachKindOfAct() {
        SafeKnown x = made("vault 012 worth 1;person;person;change 100");
        undone("turn", x, () -> x.turn(0, 0, 8), y -> y.left(0, 0));
        undone("turn opens", x, () -> x.turn(0, 0, 8), y -> y.count(7));
        x.turn(0, 0, 8);
        undone("tell", x, () -> x.tell(0, 1, 0), y -> y.left(1, 0));
        undone("forget", x, () -> x.forget(0, 0), y -> y.left(0, 0));
        undone("change", x, () -> x.change(0, 9), y -> y.vault(0, 0));
        undone("change closes", x, () -> x.change(0, 9), y -> y.count(7));
        undone("change is told anew", x, () -> x.change(0, 9), y -> y.count(10));
        undone("guard", x, () -> x.guard(0, 5, true) ? 1 : 0, y -> y.vault(0, 1));
        undone("days", x, () -> x.days(60), y -> y.count(5));
        undone("days are told anew", x, () -> x.days(60), y -> y.count(10));
        undone("days forget", x, () -> x.days(1), y -> y.left(0, 0));
        x.days(7);
        due("days of one call are one", x.count(12), 2);
        x.undo();
        due("seed", x.seed(1), 1);
    }

    private static void undone(String what, SafeKnown x, Check.Call act, ToIntFunction<SafeKnown> shows) {
        int before = shows.applyAsInt(x);
        act.go();
        due(what + " changes something", shows.applyAsInt(x) != before, true);
        due(what + " is undone", x.undo(), true);
        due(what + ": all as ahead of it", shows.applyAsInt(x), before);
    }

    static void p45UndoNotWhatWasRefused() {
        SafeKnown x = made("vault 000 worth 1 guard 0;person;person");
        refuses("turn", STATE, () -> x.turn(0, 0, 0));
        refuses("tell", ARGUMENT, () -> x.tell(0, 0, 0));
        refuses("forget", INDEX, () -> x.forget(0, 1));
        refuses("change", INDEX, () -> x.change(0, 216));
        refuses("guard", ARGUMENT, () -> x.guard(0, 7, true) ? 1 : 0);
        refuses("days", ARGUMENT, () -> x.days(0));
        due("acts", x.count(12), 0);
        due("undo", x.undo(), false);
    }

    static void p45UndoNothingBehindATextOrGoingBack() {
        SafeKnown x = oneOfEach();
        x.turn(0, 0, 1);
        x.bank();
        due("behind a text", x.undo(), false);
        x.turn(0, 0, 2);
        x.law();
        due("behind a law", x.undo(), false);
        x.turn(0, 0, 3);
        x.image();
        due("behind an image there is", x.count(12), 1);
        x.back();
        due("behind going back", x.undo(), false);
        due("acts", x.count(12), 0);
    }

    static void p45UndoStillBehindAWrongTextAndNoImage() {
        SafeKnown x = oneOfEach();
        x.turn(0, 0, 1);
        Check.wrongBank(x, "x", 0);
        Check.wrongLaw(x, "x", 0);
        due("no image", x.back(), false);
        due("acts", x.count(12), 1);
        due("undo", x.undo(), true);
        due("rows", x.count(9), 0);
    }

    static void p45UndoNotTheTapeNorFaultNorTheImage() {
        SafeKnown x = oneOfEach();
        x.turn(0, 0, 1);
        Check.wrongBank(x, " x", 1);
        x.image();
        Check.lay(x, "person");
        due("undo", x.undo(), true);
        due("fault", x.fault(), 1);
        due("the tape", x.bank(), 2);
        due("people", x.count(1), 2);
        due("the image", x.back(), true);
        due("rows of the image", x.count(9), 1);
    }

    static void p45UndoWithNothingToUndoChangesNothing() {
        SafeKnown x = oneOfEach();
        x.seed(77);
        due("undo", x.undo(), false);
        due("seed", x.seed(1), 77);
        due("vaults", x.count(0), 1);
    }

    // ---- promises 46 and 47 ----

    static void p46ImageOfANewObject() {
        SafeKnown x = new SafeKnown();
        x.image();
        Check.bank(x, repeated("vault 000 worth 1", 6) + ";" + repeated("person", 6) + ";never 5 5;change 100");
        Check.law(x, "click 5");
        x.turn(0, 0, 0);
        x.days(60);
        due("back", x.back(), true);
        int[] counts = {0, 0, 0, 0, NONE, 0, 0, 0, 0, 0, 0, 0, 0};
        for (int what = 0; what < counts.length; what++) {
            due("count(" + what + ")", x.count(what), counts[what]);
        }
        due("without a law", x.sound(0, 0), 3);
        due("seed", x.seed(1), 1);
        refuses("no vault", INDEX, () -> x.vault(0, 0));
        refuses("nobody", INDEX, () -> x.price(0));
    }

    static void p46ImageOneAlone() {
        SafeKnown x = oneOfEach();
        x.image();
        x.turn(0, 0, 1);
        x.image();
        x.turn(0, 0, 2);
        due("back", x.back(), true);
        due("the later one", x.count(9), 1);
        due("back again", x.back(), true);
        due("the later one", x.count(9), 1);
    }

    static void p46ImageChangesNothing() {
        SafeKnown x = oneOfEach();
        x.turn(0, 0, 1);
        x.image();
        due("acts", x.count(12), 1);
        due("undo", x.undo(), true);
        due("rows", x.count(9), 0);
    }

    static void p46ImageIsNotWhatComesBehindIt() {
        SafeKnown x = made("vault 000 worth 1;person;person");
        x.turn(0, 0, 1);
        int left = x.left(0, 0);
        x.image();
        x.turn(0, 0, 0);
        x.guard(0, 1, true);
        x.back();
        due("left", x.left(0, 0), left);
        x.turn(0, 0, 0);
        x.tell(0, 1, 0);
        due("left", x.left(1, 0), 1);
        x.back();
        due("left, the second time", x.left(0, 0), left);
        due("of the other one", x.left(1, 0), 216);
        due("guards", x.vault(0, 1), 0);
        due("opened", x.count(7), 0);
    }

    static void p47BackWithoutAnImage() {
        SafeKnown x = oneOfEach();
        x.turn(0, 0, 1);
        due("back", x.back(), false);
        due("acts", x.count(12), 1);
        due("rows", x.count(9), 1);
        due("undo", x.undo(), true);
        due("rows", x.count(9), 0);
    }

    static void p47BackBringsAllButTapeAndFault() {
        SafeKnown x = oneOfEach();
        Check.law(x, "click 1 if same;click 1");
        x.seed(55);
        x.image();
        Check.law(x, "");
        Check.bank(x, "change 44");
        x.seed(66);
        Check.wrongLaw(x, "  x", 2);
        Check.lay(x, "person");
        due("back", x.back(), true);
        due("law", x.count(4), 2);
        due("sound", x.sound(0, 0), 6);
        due("texts", x.count(3), 1);
        due("change", x.count(6), 0);
        due("seed", x.seed(55), 55);
        due("fault", x.fault(), 2);
        due("the tape", x.bank(), 2);
        due("people", x.count(1), 2);
    }

    static void p47BackFromTheLastDay() {
        SafeKnown x = oneOfEach();
        x.image();
        goToDay(x, 9999);
        due("back", x.back(), true);
        due("day", x.count(5), 0);
        x.days(1);
        due("day", x.count(5), 1);
    }

    static void p47BackToAFullLog() {
        SafeKnown x = oneOfEach();
        for (int i = 0; i < 85; i++) {
            x.turn(0, 0, i + 1);
        }
        x.image();
        for (int i = 0; i < 50; i++) {
            x.turn(0, 0, 200);
        }
        x.back();
        for (int ago = 0; ago < 80; ago++) {
            due(ago + " ago", x.log(ago, 3), 85 - ago);
        }
        due("none behind them", x.log(80, 3), -999);
    }

    // ---- promise 48 ----

    static void p48CountAnotherWhat() {
        SafeKnown x = oneOfEach();
        for (int none : new int[] {-1, 13, LEAST, MOST}) {
            due("count(" + none + ")", x.count(none), NONE);
        }
    }

    static void p48CountTheMostOfEach() {
        SafeKnown x = made(repeated("vault 000 worth 999 guard 0", 6) + ";" + repeated("person", 6) + ";change 100");
        Check.bank(x, repeated("never 0 0", 12));
        for (int i = 3; i <= 12; i++) {
            x.bank();
        }
        Check.law(x, repeated("click 1", 12));
        due("guarded today", x.count(8), 63);
        x.days(1);
        due("not guarded today", x.count(8), 0);
        for (int vault = 0; vault < 6; vault++) {
            x.turn(0, vault, x.vault(vault, 0));
        }
        int[] most = {6, 6, 12, 12, 12, 1, 100, 63, 0, 6, 6, 5994, 7};
        for (int what = 0; what < most.length; what++) {
            due("count(" + what + ")", x.count(what), most[what]);
        }
        for (int i = 0; i < 75; i++) {
            x.turn(5, 5, 0);
        }
        due("rows", x.count(9), 80);
        due("acts", x.count(12), 10);
    }

    static void p48CountLinesOfNoLawAndOfAnEmptyOne() {
        SafeKnown x = new SafeKnown();
        due("without one", x.count(4), NONE);
        x.law();
        due("an empty one", x.count(4), 0);
    }

    static void p48CountToldAnewInAll() {
        SafeKnown x = made("vault 000 worth 1;vault 000 worth 1;person;change 100");
        x.days(60);
        due("days", x.count(10), 120);
        x.change(0, 5);
        due("and a change", x.count(10), 121);
        x.trial(40, true);
        x.span(40, true);
        due("trials do not count", x.count(10), 121);
        x.bank();
        due("a text does not count", x.count(10), 121);
        x.change(0, 6);
        x.undo();
        due("undone", x.count(10), 121);
    }

    static void p48CountWorthOfAll() {
        due("none", new SafeKnown().count(11), 0);
        due("0", made("vault 000 worth 0").count(11), 0);
        due("all", made("vault 000 worth 1;vault 000 worth 999;vault 000 worth 10").count(11), 1010);
    }

    static void p48CountChangesNothing() {
        answersAndNothing("count(13)", NONE, x -> x.count(13));
        answersAndNothing("count(12)", 6, x -> x.count(12));
    }
}
