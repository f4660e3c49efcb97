/** The edges of promises 19 to 33: turnings that part, who can open, and contracts. */
public final class Edges19To33Test extends Edges {
    /** Which of three codes it is, is told by a third wheel that is turned to 0. */
    private static final String TOLD_BY_0 = HALF_DOZEN + ";click 4 if wheel>1 and code>2;"
            + "click 8 if wheel>1 and told<1 and code>4;click 16 if wheel>1 and told<1 and code>3";

    /** Which of six codes it is, is told by a third wheel that is turned to 0. */
    private static final String ALL_TOLD_BY_0 = HALF_DOZEN + ";click 4 if wheel>1 and told<1 and apart>0;"
            + "click 4 if wheel>1 and told<1 and apart>1;click 4 if wheel>1 and told<1 and apart>2;"
            + "click 8 if wheel>1 and told<1 and code>2";

    private Edges19To33Test() {
    }

    public static void main(String[] args) {
        run(Edges19To33Test.class, 19, 33);
    }

    private static SafeKnown opened() {
        SafeKnown x = made("vault 123 worth 1;person");
        due("opened", x.turn(0, 0, 51), 3);
        return x;
    }

    /** The codes from one to 11 are left of the dozen; the vault has the last of them. */
    private static SafeKnown leftFrom(int code) {
        SafeKnown x = dozen(11, 1);
        for (int i = 0; i < code; i++) {
            due("turn to " + i, x.turn(0, 0, i), 3);
        }
        due("left", x.left(0, 0), 12 - code);
        return x;
    }

    // ---- promise 19 ----

    static void p19PartsOfOneCode() {
        SafeKnown x = opened();
        due("by itself", x.parts(0, 0, 51, false), 1);
        due("by itself: greatest", x.parts(0, 0, 51, true), 1);
        due("by another one", x.parts(0, 0, 0, false), 1);
        due("by another one: greatest", x.parts(0, 0, 0, true), 1);
    }

    static void p19PartsOfAllCodesInOne() {
        SafeKnown x = made("vault 000 worth 1;person", "");
        for (int code : new int[] {0, 100, 215}) {
            due("the one turned to and the others", x.parts(0, 0, code, false), 2);
            due("the others", x.parts(0, 0, code, true), 215);
        }
    }

    static void p19PartsOfAllCodesEachItsOwn() {
        SafeKnown x = made("vault 000 worth 1;person", BABBLER);
        due("how many", x.parts(0, 0, 0, false), 216);
        due("greatest", x.parts(0, 0, 0, true), 1);
    }

    static void p19PartsTheOneTurnedToIfItCanBe() {
        SafeKnown x = leftFrom(1);
        due("000 cannot be", x.parts(0, 0, 0, false), 1);
        due("000 cannot be: greatest", x.parts(0, 0, 0, true), 11);
        due("001 can be", x.parts(0, 0, 1, false), 2);
        due("001 can be: greatest", x.parts(0, 0, 1, true), 10);
        due("the last can be", x.parts(0, 0, 11, true), 10);
        due("one behind it cannot be", x.parts(0, 0, 12, true), 11);
    }

    static void p19PartsOfNone() {
        needs("parts", x -> x.parts(-1, 0, 0, true), x -> x.parts(2, 0, 0, true), x -> x.parts(0, -1, 0, true),
                x -> x.parts(0, 2, 0, true), x -> x.parts(0, 0, -1, true), x -> x.parts(0, 0, 216, true),
                x -> x.parts(0, 0, LEAST, false), x -> x.parts(0, 0, MOST, false));
    }

    static void p19PartsChangesNothing() {
        SafeKnown x = busy();
        int greatest = x.parts(0, 1, 9, true);
        answersAndNothing("parts", greatest, y -> y.parts(0, 1, 9, true));
        refusedAndNothing("parts(0, 1, 216, true)", INDEX, y -> y.parts(0, 1, 216, true));
    }

    // ---- promise 20 ----

    static void p20NextOfOneAndOfTwo() {
        due("of one that one", opened().next(0, 0), 51);
        due("of two the least", leftFrom(10).next(0, 0), 10);
        due("of the last one", leftFrom(11).next(0, 0), 11);
    }

    static void p20NextOfAll() {
        due("without a text", made("vault 000 worth 1;person").next(0, 0), 0);
        due("each its own part", made("vault 123 worth 1;person", BABBLER).next(0, 0), 0);
        SafeKnown x = made("vault 123 worth 1;person", "");
        due("silent", x.next(0, 0), 0);
        x.turn(0, 0, 0);
        due("000 cannot be any more", x.next(0, 0), 1);
    }

    static void p20NextOneThatCanBeAheadOfALesser() {
        SafeKnown x = made("vault 005 worth 1;person", HALF_DOZEN + ";click 4 if wheel>1 and code>2;"
                + "click 8 if wheel>1 and told<5 and code>4;click 16 if wheel>1 and told<1 and code>3");
        due("turn to 555", x.turn(0, 0, 215), 7);
        due("3, 4 and 5 are left", x.left(0, 0), 3);
        due("000 parts all", x.parts(0, 0, 0, true), 1);
        due("003 parts all", x.parts(0, 0, 3, true), 1);
        due("003 can be", x.next(0, 0), 3);
        due("the least of all", x.outright(0, 0), 0);
    }

    static void p20NextOneThatCannotBeIfItPartsMore() {
        SafeKnown x = made("vault 005 worth 1;person", TOLD_BY_0);
        due("turn to 551", x.turn(0, 0, 211), 7);
        due("3, 4 and 5 are left", x.left(0, 0), 3);
        due("003 leaves two", x.parts(0, 0, 3, true), 2);
        due("000 cannot be", x.next(0, 0), 0);
    }

    static void p20NextEachCodeMayBeTheOne() {
        for (int code = 0; code < 216; code++) {
            StringBuilder law = new StringBuilder();
            String[] wheels = {"click 1 if wheel<1", ";click 2 if wheel>0 and wheel<2", ";click 4 if wheel>1"};
            for (int wheel = 0; wheel < 3; wheel++) {
                char side = figures(code).charAt(wheel);
                law.append(wheels[wheel]).append(" and not(told<").append(side).append(" or told>").append(side)
                        .append(")and code<3");
            }
            // Each wheel tells halves if it is turned to that side alone: 27 codes in each of eight parts.
            SafeKnown x = made("vault 000 worth 1;person", law.toString());
            due("greatest part", x.parts(0, 0, code, true), 27);
            due("next", x.next(0, 0), code);
        }
    }

    static void p20NextTwoSidesThatPartUnlike() {
        String told1 = "wheel>1 and told>0 and told<2";
        SafeKnown x = made("vault 000 worth 1;person", "click 1 if wheel>1 and told<1 and code<4;click 1 if " + told1
                + " and code>0;click 1 if " + told1 + " and code>0 and code<4");
        due("000: four and two sides", x.parts(0, 0, 0, true), 143);
        due("001: one, three and two sides", x.parts(0, 0, 1, true), 107);
        due("001 parts more", x.next(0, 0), 1);
        x = made("vault 000 worth 1;person", "click 1 if wheel>1 and told<1 and code<4;mute 1 if " + told1
                + " and code<1;click 1 if " + told1 + " and code>0 and code<4");
        due("000: four and two sides", x.parts(0, 0, 0, true), 143);
        due("001: one, three and two sides, below 0", x.parts(0, 0, 1, true), 107);
        due("001 parts more", x.next(0, 0), 1);
    }

    static void p20NextTheLesserOfTwoThatPartAll() {
        // 000 and 005 part alike, but 005 alone can be; 003 parts as well, and is less.
        SafeKnown x = made("vault 005 worth 1;person", HALF_DOZEN + ";click 4 if wheel>1 and code>2;"
                + "click 8 if wheel>1 and(told<1 or told>4)and code>3;click 16 if wheel>1 and(told<1 or told>4)and code>4;"
                + "click 32 if wheel>1 and told>2 and told<4 and code>4");
        due("turn to 551", x.turn(0, 0, 211), 7);
        due("3, 4 and 5 are left", x.left(0, 0), 3);
        due("005 parts all", x.parts(0, 0, 5, true), 1);
        due("003 parts all", x.parts(0, 0, 3, true), 1);
        due("next", x.next(0, 0), 3);
        dueNext("three left", x);
    }

    static void p20NextOfThreeByALaterOneThatPartsMore() {
        SafeKnown x = made("vault 000 worth 1;person");
        for (int code : new int[] {43, 86, 129, 172, 5}) {
            x.turn(0, 0, code);
        }
        due("000, 055 and 505 are left", x.left(0, 0), 3);
        due("000 leaves two", x.parts(0, 0, 0, true), 2);
        due("010 leaves one", x.parts(0, 0, 6, true), 1);
        due("next", x.next(0, 0), 6);
        dueNext("three left", x);
    }

    static void p20NextTheLeastOfThoseThatCanBe() {
        for (int first = 0; first < 12; first++) {
            due("from " + first + " on", leftFrom(first).next(0, 0), first);
        }
    }

    static void p20NextByThePartsOfAllTurnings() {
        String[] laws = {"click 1 if same", "click 1 if same;click 3 if wheel<1 and next;mute 2 if wheel>1 and told<code",
            "click 1 if wheel<1 and told<code;click 5 if wheel>0 and apart>1;click 7 if told>4",
            "click 2 if wheel>0 and wheel<2 and told+code>5;click 3 if wheel>1 and same and told>1;mute 9 if wheel<1 and next",
            "click 1 if wheel>1 and told<code;click 4 if wheel<2 and code<1", HALF_DOZEN, ALL_TOLD_BY_0};
        for (String law : laws) {
            for (int turned : new int[] {0, 100, 215}) {
                SafeKnown x = made("vault 345 worth 1;person;person", law);
                x.turn(0, 0, turned);
                x.turn(0, 0, 140);
                dueNext(law + ", turned to " + turned, x);
                due("of one who knows nothing", x.next(1, 0), made("vault 000 worth 1;person", law).next(0, 0));
            }
        }
    }

    /** NEXT of person 0 at vault 0, by what parts() answers of all 216 turnings. */
    private static void dueNext(String what, SafeKnown x) {
        int best = NONE;
        int bestPart = 217;
        boolean bestCan = false;
        int k = 0;
        for (int told = 0; told < 216; told++) {
            boolean can = x.code(0, 0, k) == told;
            k += can ? 1 : 0;
            int part = x.parts(0, 0, told, true);
            if (part < bestPart || part == bestPart && can && !bestCan) {
                best = told;
                bestPart = part;
                bestCan = can;
            }
        }
        due("next by " + what, x.next(0, 0), best);
    }

    static void p20NextOfNone() {
        needs("next", x -> x.next(-1, 0), x -> x.next(2, 0), x -> x.next(0, -1), x -> x.next(0, 2));
        answersAndNothing("next", busy().next(0, 1), y -> y.next(0, 1));
    }

    // ---- promise 21 ----

    static void p21OutrightOfOneIsAnyTheLeast() {
        due("of one", opened().outright(0, 0), 0);
        due("of the last of twelve", leftFrom(11).outright(0, 0), 0);
    }

    static void p21OutrightOfTwoButNotOfThree() {
        due("of two", leftFrom(10).outright(0, 0), 10);
        due("of three", leftFrom(9).outright(0, 0), NONE);
        due("of twelve", leftFrom(0).outright(0, 0), NONE);
    }

    static void p21OutrightOfAll() {
        due("each its own part", made("vault 123 worth 1;person", BABBLER).outright(0, 0), 0);
        due("without a text", made("vault 123 worth 1;person").outright(0, 0), NONE);
        due("silent", made("vault 123 worth 1;person", "").outright(0, 0), NONE);
    }

    static void p21OutrightFarAmongTheCodes() {
        // A first wheel turned to 5 tells 0 from 1 and both from more; any other is silent.
        SafeKnown x = made("vault 200 worth 1;person", "click 1 if wheel>0 and code<1;"
                + "click 4 if wheel<1 and told>4 and code>0;click 4 if wheel<1 and told>4 and code>1");
        due("turn to 055", x.turn(0, 0, 35), 2);
        due("x00 are left", x.left(0, 0), 6);
        x.turn(0, 0, 144);
        due("200 and 300 sound alike", x.outright(0, 0), NONE);
        x.turn(0, 0, 108);
        due("000, 100, 200 and 500", x.left(0, 0), 4);
        due("500, which is a part of its own", x.outright(0, 0), 180);
    }

    static void p21OutrightOfNone() {
        needs("outright", x -> x.outright(-1, 0), x -> x.outright(2, 0), x -> x.outright(0, -1),
                x -> x.outright(0, 2));
    }

    // ---- promise 22 ----

    static void p22WorstOfSixButNotOfSeven() {
        for (int first = 0; first < 12; first++) {
            int left = 12 - first;
            due("of " + left, leftFrom(first).worst(0, 0), left > 6 ? -3 : left);
        }
    }

    static void p22WorstOfAll() {
        due("all", made("vault 123 worth 1;person").worst(0, 0), -3);
        due("though one turning tells all", made("vault 123 worth 1;person", BABBLER).worst(0, 0), -3);
    }

    static void p22WorstOfSixThatOneTurningParts() {
        SafeKnown x = made("vault 005 worth 1;person", ALL_TOLD_BY_0);
        due("turn to 551", x.turn(0, 0, 211), 3);
        due("six are left", x.left(0, 0), 6);
        due("two", x.worst(0, 0), 2);
    }

    static void p22WorstOfThreeByOneThatCannotBe() {
        SafeKnown x = made("vault 005 worth 1;person", TOLD_BY_0);
        x.turn(0, 0, 211);
        due("three are left", x.left(0, 0), 3);
        due("000, then the code", x.worst(0, 0), 2);
    }

    static void p22WorstOfSixByHalves() {
        SafeKnown x = made("vault 005 worth 1;person", HALF_DOZEN + ";click 4 if wheel>1 and told>code");
        due("turn to 550", x.turn(0, 0, 210), 3);
        due("six are left", x.left(0, 0), 6);
        due("002, 004, and the last", x.worst(0, 0), 3);
    }

    static void p22WorstByTheFirstCodeAlone() {
        // Told 0, the third wheel tells 2 from 0 and 1: 000 is a part of its own, so it tells all.
        SafeKnown x = made("vault 001 worth 1;person", HALF_DOZEN + ";click 4 if wheel>1 and code>2;"
                + "click 8 if wheel>1 and told<1 and code>1");
        due("turn to 551", x.turn(0, 0, 211), 3);
        due("0, 1 and 2 are left", x.left(0, 0), 3);
        due("000, then the code", x.worst(0, 0), 2);
        due("next", x.next(0, 0), 0);
        due("outright", x.outright(0, 0), 0);
    }

    static void p22WorstOfOneIsOne() {
        due("the one that opens is counted", opened().worst(0, 0), 1);
    }

    static void p22WorstOfNone() {
        needs("worst", x -> x.worst(-1, 0), x -> x.worst(2, 0), x -> x.worst(0, -1), x -> x.worst(0, 2));
        answersAndNothing("worst", busy().worst(0, 1), y -> y.worst(0, 1));
    }

    // ---- promises 23 to 25 ----

    static void p23QuietestByTheFirstAndTheLastCode() {
        SafeKnown x = new SafeKnown();
        due("by 000", x.quietest(0), 43);
        due("by 555", x.quietest(215), 0);
        needs("quietest", y -> y.quietest(-1), y -> y.quietest(216), y -> y.quietest(LEAST), y -> y.quietest(MOST));
    }

    static void p23QuietestIsAnotherThanTheOneToldTo() {
        SafeKnown x = new SafeKnown();
        Check.law(x, "");
        due("by 000", x.quietest(0), 1);
        due("by 001", x.quietest(1), 0);
        due("by 555", x.quietest(215), 0);
    }

    static void p23QuietestOfAllOthersAlone() {
        SafeKnown x = new SafeKnown();
        Check.law(x, "click 1 if wheel<1 and code<3");
        due("107 others below 300, 108 above", x.quietest(0), 108);
        due("108 below 300, 107 others above", x.quietest(108), 0);
    }

    static void p23QuietestByOneTurningBehindAnother() {
        SafeKnown x = new SafeKnown();
        Check.law(x, "click 1 if wheel<1 and told<1 and code<5;click 1 if wheel<1 and told>4 and code>2");
        due("179 others below 500", x.quietest(0), 1);
        due("108 below 300, 107 others above", x.quietest(180), 0);
        due("and the first once more", x.quietest(0), 1);
    }

    static void p23QuietestOfSeveralTheLeast() {
        SafeKnown x = new SafeKnown();
        Check.law(x, BABBLER);
        due("each shares its sound with none", x.quietest(0), 1);
    }

    static void p24LoudestTheLastCode() {
        SafeKnown x = new SafeKnown();
        Check.law(x, "click 1 if told>4 and code>4");
        due("555", x.loudest(), 215);
        Check.law(x, "mute 1 if told>4 and code<1");
        due("below 0, too", x.loudest(), 215);
    }

    static void p24LoudestOfSeveralTheLeast() {
        SafeKnown x = new SafeKnown();
        due("without a text", x.loudest(), 0);
        Check.law(x, "");
        due("silent", x.loudest(), 0);
        Check.law(x, "click 99");
        due("as loud by all codes", x.loudest(), 0);
        Check.law(x, "click 99 if told>4;click 1 if wheel<2 and told>0 and code>4");
        due("110: how loud it is told alone counts for nothing", x.loudest(), 42);
    }

    static void p24LoudestByEachWheelAlone() {
        String[] wheels = {"wheel<1", "wheel>0 and wheel<2", "wheel>1"};
        int[] worth = {36, 6, 1};
        for (int wheel = 0; wheel < 3; wheel++) {
            for (int told = 0; told < 6; told++) {
                SafeKnown x = new SafeKnown();
                int code = (told + wheel) % 6;
                Check.law(x, "click 1 if " + wheels[wheel] + " and not (told<" + told + " or told>" + told
                        + " or code<" + code + " or code>" + code + ")");
                due("wheel " + wheel + " told " + told, x.loudest(), told * worth[wheel]);
                due("deaf", x.deaf(), 7 & ~(1 << wheel));
            }
        }
    }

    static void p24LoudestGreatestLessLeast() {
        SafeKnown x = new SafeKnown();
        Check.law(x, "click 50 if wheel>1 and told<4 and 2<told and code<3;mute 26 if wheel>1 and told<5 and 3<told and code<3;"
                + "click 25 if wheel>1 and told<5 and 3<told and code>2");
        due("51 by 004 is more than 50 by 003", x.loudest(), 4);
    }

    static void p25DeafNoneAndAll() {
        SafeKnown x = new SafeKnown();
        due("without a text", x.deaf(), 0);
        Check.law(x, "");
        due("silent", x.deaf(), 7);
        Check.law(x, "click 9;mute 3 if told>2");
        due("by what is told alone", x.deaf(), 7);
    }

    static void p25DeafNotIfOnceInThirtySix() {
        for (int wheel = 0; wheel < 3; wheel++) {
            String here = wheel == 0 ? "wheel<1" : wheel == 1 ? "wheel>0 and wheel<2" : "wheel>1";
            SafeKnown x = new SafeKnown();
            Check.law(x, "click 1 if " + here + " and told>4 and code>4");
            due("wheel " + wheel + " by the last", x.deaf(), 7 & ~(1 << wheel));
            Check.law(x, "mute 1 if " + here + " and told<1 and code<1");
            due("wheel " + wheel + " by the first", x.deaf(), 7 & ~(1 << wheel));
        }
    }

    // ---- promises 26 to 28 ----

    private static SafeKnown sixWhoOpened() {
        SafeKnown x = made("vault 000 worth 1;vault 000 worth 1;" + repeated("person", 6));
        for (int person = 0; person < 6; person++) {
            x.turn(person, 0, 0);
        }
        return x;
    }

    static void p26AloneNobodyAndAll() {
        due("nobody there", made("vault 000 worth 1").alone(0), 0);
        due("nobody knows", dozen(0, 2).alone(0), 0);
        SafeKnown x = sixWhoOpened();
        due("all six", x.alone(0), 63);
        due("of the other vault nobody", x.alone(1), 0);
    }

    static void p26AloneOfOneNotOfTwo() {
        SafeKnown x = dozen(0, 2);
        for (int code = 11; code > 1; code--) {
            x.turn(1, 0, code);
        }
        due("two are left", x.alone(0), 0);
        x.turn(1, 0, 1);
        due("one is left, though it was not opened", x.alone(0), 2);
        due("not opened", x.count(7), 0);
    }

    static void p26AloneAtNoVault() {
        needs("alone", x -> x.alone(-1), x -> x.alone(2), x -> x.alone(LEAST), x -> x.alone(MOST));
    }

    static void p27TogetherNobodyCannot() {
        SafeKnown x = sixWhoOpened();
        due("the empty set", x.together(0, 0), false);
        due("a seventh one", x.together(64, 0), false);
        due("the highest bit", x.together(LEAST, 0), false);
        due("all that are none", x.together(-64, 0), false);
        due("nobody there", made("vault 000 worth 1").together(-1, 0), false);
    }

    static void p27TogetherBitsOfNoneCountForNothing() {
        SafeKnown x = made("vault 000 worth 1;person;person");
        x.turn(1, 0, 0);
        due("the second", x.together(2, 0), true);
        due("and bits of none", x.together(2 | 64 | LEAST, 0), true);
        due("all bits", x.together(-1, 0), true);
        due("the most", x.together(MOST, 0), true);
        due("the first", x.together(1, 0), false);
        due("the first and bits of none", x.together(-3, 0), false);
    }

    static void p27TogetherJustOneCode() {
        SafeKnown x = dozen(11, 2);
        for (int code = 0; code < 10; code++) {
            x.turn(code % 2, 0, code);
        }
        due("two are left", x.together(3, 0), false);
        x.turn(1, 0, 10);
        due("one is left", x.together(3, 0), true);
        due("not by one of them", x.together(1, 0) || x.together(2, 0), false);
    }

    static void p27TogetherAtNoVault() {
        needs("together", x -> x.together(1, -1) ? 1 : 0, x -> x.together(1, 2) ? 1 : 0,
                x -> x.together(0, 2) ? 1 : 0);
    }

    static void p28FewestNobodyCan() {
        due("nobody there", made("vault 000 worth 1").fewest(0, false), NONE);
        due("nobody there to silence", made("vault 000 worth 1").fewest(0, true), 0);
        SafeKnown x = dozen(0, 6);
        due("all six cannot", x.fewest(0, false), NONE);
        due("nobody to silence", x.fewest(0, true), 0);
    }

    static void p28FewestAllSix() {
        SafeKnown x = dozen(11, 6);
        for (int code = 0; code < 11; code++) {
            x.turn(code / 2, 0, code);
        }
        due("all six", x.fewest(0, false), 63);
        due("any of them, the least", x.fewest(0, true), 1);
    }

    static void p28FewestEachOfSix() {
        SafeKnown x = sixWhoOpened();
        due("the least", x.fewest(0, false), 1);
        due("all must be silent", x.fewest(0, true), 63);
    }

    static void p28FewestOneAheadOfTwo() {
        SafeKnown x = dozen(11, 3);
        for (int code = 0; code < 11; code++) {
            x.turn(code < 6 ? 0 : 1, 0, code);
        }
        due("two", x.fewest(0, false), 3);
        due("one of both", x.fewest(0, true), 1);
        x.turn(2, 0, 11);
        due("one, though its bits are more", x.fewest(0, false), 4);
        due("that one, and one of both", x.fewest(0, true), 5);
    }

    static void p28FewestAtNoVault() {
        needs("fewest", x -> x.fewest(-1, false), x -> x.fewest(2, false), x -> x.fewest(-1, true),
                x -> x.fewest(2, true));
    }

    // ---- promises 29 and 30 ----

    static void p29PairOfFewerThanTwo() {
        SafeKnown x = made("vault 000 worth 1");
        due("nobody", x.pair(0), NONE);
        Check.bank(x, "person");
        due("one", x.pair(0), NONE);
        Check.bank(x, "person");
        due("two", x.pair(0), 1);
    }

    static void p29PairOfSixAlike() {
        due("the least first, then second one", sixWhoOpened().pair(0), 1);
        due("nobody knows", sixWhoOpened().pair(1), 1);
    }

    static void p29PairTheLastTwo() {
        SafeKnown x = made("vault 000 worth 1;" + repeated("person", 6));
        x.turn(5, 0, 86);
        due("the first with the one who knows", x.pair(0), 5);
        x.turn(4, 0, 43);
        due("64 by both", x.pair(0), 45);
    }

    static void p29PairAtNoVault() {
        needs("pair", x -> x.pair(-1), x -> x.pair(2));
    }

    static void p30GainsNothingAndAllButOne() {
        SafeKnown x = made("vault 000 worth 1;person;person");
        due("nothing", x.gains(0, 1, 0), 0);
        x.turn(1, 0, 0);
        due("all but one", x.gains(0, 1, 0), 215);
        due("the other way nothing", x.gains(1, 0, 0), 0);
    }

    static void p30GainsOfOneAndTheSame() {
        SafeKnown x = made("vault 000 worth 1;person;person");
        refuses("gains(0, 0, 0)", ARGUMENT, () -> x.gains(0, 0, 0));
        refuses("gains(1, 1, 0)", ARGUMENT, () -> x.gains(1, 1, 0));
        refuses("two who are none", INDEX, () -> x.gains(2, 2, 0));
        refuses("at no vault", INDEX, () -> x.gains(0, 0, 1));
    }

    static void p30GainsOfNone() {
        needs("gains", x -> x.gains(-1, 0, 0), x -> x.gains(2, 0, 0), x -> x.gains(0, -1, 0), x -> x.gains(0, 2, 0),
                x -> x.gains(0, 1, -1), x -> x.gains(0, 1, 2));
        refusedAndNothing("gains(1, 1, 0)", ARGUMENT, x -> x.gains(1, 1, 0));
    }

    // ---- promise 31 ----

    /** Twelve contracts of one person and one vault; the first is of another kind than the others. */
    private static SafeKnown oneAgainstEleven() {
        SafeKnown x = made("vault 000 worth 1;person");
        Check.bank(x, "never 0 0;" + repeated("open 0 0 by 9", 11));
        return x;
    }

    static void p31ContractFirstLastAndBehindIt() {
        SafeKnown x = oneAgainstEleven();
        due("the first", x.contract(0, 0), 0);
        due("the twelfth", x.contract(11, 0), 1);
        for (int none : new int[] {-1, 12, LEAST, MOST}) {
            refuses("contract " + none, INDEX, () -> x.contract(none, 0));
        }
        SafeKnown y = made("vault 000 worth 1;person");
        refuses("none there", INDEX, () -> y.contract(0, 0));
    }

    static void p31ContractAnotherWhat() {
        SafeKnown x = oneAgainstEleven();
        due("what 4", x.contract(0, 4), 4094);
        for (int none : new int[] {-1, 5, LEAST, MOST}) {
            refuses("what " + none, ELEMENT, () -> x.contract(0, none));
        }
        refuses("none there ahead of it", INDEX, () -> x.contract(12, 5));
    }

    static void p31ContractDayOfANeverOne() {
        SafeKnown x = made("vault 000 worth 1;person;never 0 0;open 0 0 by 0;open 0 0 by 999");
        due("none", x.contract(0, 3), NONE);
        due("0", x.contract(1, 3), 0);
        due("0 is an open one", x.contract(1, 0), 1);
        due("999", x.contract(2, 3), 999);
    }

    static void p31ContractQuarrelsOfSameAndOfOther() {
        SafeKnown x = made("vault 000 worth 1;vault 000 worth 1;person;person;never 0 0;never 0 0;open 0 1 by 1;"
                + "open 1 0 by 1;open 1 1 by 1");
        for (int contract = 0; contract < 5; contract++) {
            due("contract " + contract, x.contract(contract, 4), 0);
        }
        due("the twelfth with the first", oneAgainstEleven().contract(11, 4), 1);
    }

    static void p31ContractRefusedChangesNothing() {
        refusedAndNothing("contract(3, 0)", INDEX, x -> x.contract(3, 0));
        refusedAndNothing("contract(0, 5)", ELEMENT, x -> x.contract(0, 5));
    }

    // ---- promise 32 ----

    static void p32BrokenNone() {
        due("no contract", new SafeKnown().broken(), 0);
        due("no row", made("vault 000 worth 1;person;never 0 0").broken(), 0);
    }

    static void p32BrokenOnTheDayBehindItsDay() {
        SafeKnown x = made("vault 000 worth 1;person;open 0 0 by 0;open 0 0 by 2;open 0 0 by 999");
        due("day 0", x.broken(), 0);
        x.days(1);
        due("day 1", x.broken(), 1);
        x.days(1);
        due("day 2", x.broken(), 1);
        x.days(1);
        due("day 3", x.broken(), 3);
        goToDay(x, 999);
        due("day 999", x.broken(), 3);
        x.days(1);
        due("day 1000", x.broken(), 7);
    }

    static void p32BrokenNotIfOpenedOnItsDay() {
        SafeKnown x = made("vault 000 worth 1;person;open 0 0 by 2");
        x.days(2);
        x.turn(0, 0, 0);
        x.days(1);
        due("opened on day 2", x.broken(), 0);
        SafeKnown y = made("vault 000 worth 1;person;open 0 0 by 2");
        y.days(3);
        y.turn(0, 0, 0);
        due("opened on day 3", y.broken(), 1);
        SafeKnown z = made("vault 000 worth 1;person;open 0 0 by 0");
        z.turn(0, 0, 0);
        z.days(1);
        due("opened on day 0", z.broken(), 0);
    }

    static void p32BrokenByThatPersonAtThatVaultAlone() {
        SafeKnown x = made("vault 000 worth 1;vault 000 worth 1;person;person;never 0 0;open 0 0 by 0");
        x.turn(1, 0, 0);
        x.turn(0, 1, 0);
        due("never by another, nor at another", x.broken(), 0);
        x.days(1);
        due("not opened by that one", x.broken(), 2);
        x.turn(0, 0, 5);
        due("turned, not opened", x.broken(), 3);
    }

    static void p32BrokenWhateverWasToldSince() {
        SafeKnown x = made("vault 000 worth 1;person;open 0 0 by 0;never 0 0");
        x.turn(0, 0, 0);
        x.change(0, 9);
        x.days(1);
        due("the row says it was opened", x.broken(), 2);
    }

    static void p32BrokenByRowsOfTheLogAlone() {
        SafeKnown x = made("vault 000 worth 1;vault 000 worth 1;person;never 0 0;open 0 0 by 0");
        x.turn(0, 0, 0);
        x.days(1);
        for (int i = 0; i < 79; i++) {
            x.turn(0, 1, 1);
        }
        due("the eightieth row", x.broken(), 1);
        x.turn(0, 1, 1);
        due("fallen out", x.broken(), 2);
        x.undo();
        due("undone", x.broken(), 1);
    }

    static void p32BrokenTheTwelfth() {
        SafeKnown x = oneAgainstEleven();
        x.days(10);
        due("all open ones", x.broken(), 4094);
        x.turn(0, 0, 1);
        due("and the never one", x.broken(), 4095);
    }

    // ---- promise 33 ----

    static void p33BreaksNone() {
        due("no contract", new SafeKnown().breaks(), 0);
        due("no quarrel", made("vault 000 worth 1;person;never 0 0;never 0 0").breaks(), 0);
    }

    static void p33BreaksOneAgainstEleven() {
        due("the one", oneAgainstEleven().breaks(), 1);
        SafeKnown x = made("vault 000 worth 1;person");
        Check.bank(x, repeated("open 0 0 by 9", 11) + ";never 0 0");
        due("the one, though its bits are more", x.breaks(), 2048);
    }

    static void p33BreaksSixAgainstSix() {
        SafeKnown x = made("vault 000 worth 1;person");
        Check.bank(x, repeated("never 0 0;open 0 0 by 1", 6));
        due("of several the least as bits", x.breaks(), 0b010101010101);
        SafeKnown y = made("vault 000 worth 1;person");
        Check.bank(y, repeated("open 0 0 by 1", 6) + ";" + repeated("never 0 0", 6));
        due("the first six", y.breaks(), 63);
    }

    static void p33BreaksOfEachPairOfPersonAndVault() {
        SafeKnown x = made("vault 000 worth 1;vault 000 worth 1;person;person");
        Check.bank(x, "never 0 0;never 0 1;never 1 0;never 1 1;open 1 1 by 1;open 1 0 by 1;open 0 1 by 1;open 0 0 by 1");
        due("the least of each", x.breaks(), 15);
        Check.bank(x, "never 0 0");
        due("two against one", x.breaks(), 14 + 128);
    }
}
