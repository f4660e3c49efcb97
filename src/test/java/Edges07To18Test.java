/** The edges of promises 7 to 18: vaults, what people know, sounds, and all acts. */
public final class Edges07To18Test extends Edges {
    private Edges07To18Test() {
    }

    public static void main(String[] args) {
        run(Edges07To18Test.class, 7, 18);
    }

    private static SafeKnown guarded(String weekdays) {
        return made("vault 000 worth 1" + (weekdays.isEmpty() ? "" : " guard " + weekdays) + ";person");
    }

    // ---- promise 7 ----

    static void p07VaultFirstAndLast() {
        SafeKnown x = made("vault 000 worth 0;vault 111 worth 5;vault 555 worth 999");
        due("the first", x.vault(0, 0), 0);
        due("the last", x.vault(2, 0), 215);
        due("worth 0", x.vault(0, 2), 0);
        due("worth 999", x.vault(2, 2), 999);
        for (int none : new int[] {-1, 3, 6, LEAST, MOST}) {
            refuses("vault " + none, INDEX, () -> x.vault(none, 0));
        }
    }

    static void p07VaultBehindTheSixth() {
        SafeKnown x = made(repeated("vault 000 worth 1", 6));
        due("the sixth", x.vault(5, 2), 1);
        refuses("a seventh", INDEX, () -> x.vault(6, 2));
    }

    static void p07VaultAnotherWhat() {
        SafeKnown x = made("vault 000 worth 1");
        due("what 0", x.vault(0, 0), 0);
        due("what 6", x.vault(0, 6), 7);
        for (int none : new int[] {-1, 7, LEAST, MOST}) {
            refuses("what " + none, ELEMENT, () -> x.vault(0, none));
        }
    }

    static void p07VaultThatIsNoneAheadOfAnotherWhat() {
        SafeKnown x = made("vault 000 worth 1");
        refuses("vault(1, 7)", INDEX, () -> x.vault(1, 7));
        refuses("vault(-1, -1)", INDEX, () -> x.vault(-1, -1));
    }

    static void p07VaultRefusedChangesNothing() {
        refusedAndNothing("vault(2, 0)", INDEX, x -> x.vault(2, 0));
        refusedAndNothing("vault(0, 7)", ELEMENT, x -> x.vault(0, 7));
    }

    static void p07VaultGapsOfNoneAndOfAll() {
        due("no guard", guarded("").vault(0, 4), 127);
        due("all", guarded("0 1 2 3 4 5 6").vault(0, 4), 0);
        due("the first", guarded("0").vault(0, 4), 126);
        due("the last", guarded("6").vault(0, 4), 63);
    }

    static void p07VaultSoonFrom0To6() {
        String weekdays = "";
        for (int day = 0; day <= 5; day++) {
            due("guarded " + weekdays, guarded(weekdays).vault(0, 5), day);
            weekdays = weekdays + " " + day;
        }
        due("guarded on all but the last", guarded("0 1 2 3 4 5").vault(0, 5), 6);
    }

    static void p07VaultSoonOfAllIsNone() {
        SafeKnown x = guarded("0 1 2 3 4 5 6");
        for (int day = 0; day < 8; day++) {
            due("on day " + day, x.vault(0, 5), NONE);
            x.days(1);
        }
    }

    static void p07VaultSoonGoesRoundTheWeek() {
        SafeKnown x = guarded("1 2 3 4 5 6");
        due("today", x.vault(0, 5), 0);
        x.days(1);
        due("on the day behind it", x.vault(0, 5), 6);
        x.days(5);
        due("on the last weekday", x.vault(0, 5), 1);
        x.days(1);
        due("a week later", x.vault(0, 5), 0);
    }

    static void p07VaultSoonOnTheLastDays() {
        // 9999 is weekday 3, and so is each day behind it.
        SafeKnown x = made("vault 000 worth 1 guard 3;vault 000 worth 1 guard 1 2;vault 000 worth 1 guard 1 2 3;"
                + "vault 000 worth 1 guard 0 1 2 4 5 6");
        goToDay(x, 9996);
        due("9996: vault 3 is free in 3 days", x.vault(3, 5), 3);
        x.days(1);
        due("9997: vault 1 is free in 2 days", x.vault(1, 5), 2);
        due("9997: vault 2 never is", x.vault(2, 5), NONE);
        x.days(1);
        due("9998: vault 0", x.vault(0, 5), 0);
        due("9998: vault 1", x.vault(1, 5), 1);
        due("9998: vault 2", x.vault(2, 5), NONE);
        x.days(1);
        due("9999: vault 0", x.vault(0, 5), NONE);
        due("9999: vault 3", x.vault(3, 5), 0);
    }

    static void p07VaultLongOfNoneOneAndAll() {
        due("no guard", guarded("").vault(0, 6), 7);
        due("all", guarded("0 1 2 3 4 5 6").vault(0, 6), 0);
        for (int day = 0; day < 7; day++) {
            due("on " + day + " alone", guarded("" + day).vault(0, 6), 6);
        }
    }

    static void p07VaultLongGoesRoundTheWeek() {
        due("6 and 0", guarded("1 2 3 4 5").vault(0, 6), 2);
        due("0 alone", guarded("1 2 3 4 5 6").vault(0, 6), 1);
        due("6 alone", guarded("0 1 2 3 4 5").vault(0, 6), 1);
        due("4 to 1", guarded("2 3").vault(0, 6), 5);
        due("1 to 5", guarded("0 6").vault(0, 6), 5);
        due("5 to 0, and 2 to 3", guarded("1 4").vault(0, 6), 3);
        due("1, 3 and 5", guarded("0 2 4 6").vault(0, 6), 1);
    }

    static void p07VaultOpenedSinceItsCodeWasTold() {
        SafeKnown x = guarded("");
        due("not yet", x.vault(0, 3), 0);
        x.turn(0, 0, 0);
        due("opened", x.vault(0, 3), 1);
        x.turn(0, 0, 1);
        due("still", x.vault(0, 3), 1);
        x.change(0, 0);
        due("the same code told anew", x.vault(0, 3), 0);
    }

    // ---- promises 8 to 10 ----

    static void p08LeftOfAllAndOfOne() {
        SafeKnown x = made("vault 123 worth 1;person");
        due("all at first", x.left(0, 0), 216);
        x.turn(0, 0, 51);
        due("opened", x.left(0, 0), 1);
    }

    static void p08LeftOneByOneDownToOne() {
        SafeKnown x = dozen(0, 1);
        for (int code = 11; code > 0; code--) {
            x.turn(0, 0, code);
            due("behind " + code, x.left(0, 0), code);
        }
        due("which", x.code(0, 0, 0), 0);
        due("known, but not opened", x.count(7), 0);
    }

    static void p08LeftOfTheLast() {
        SafeKnown x = made(repeated("vault 000 worth 1", 6) + ";" + repeated("person", 6));
        due("the last of both", x.left(5, 5), 216);
        refuses("left(6, 5)", INDEX, () -> x.left(6, 5));
        refuses("left(5, 6)", INDEX, () -> x.left(5, 6));
        refuses("left of the least", INDEX, () -> x.left(LEAST, 0));
        refuses("left of the most", INDEX, () -> x.left(0, MOST));
        needs("left", y -> y.left(-1, 0), y -> y.left(2, 0), y -> y.left(0, -1), y -> y.left(0, 2));
    }

    static void p08LeftWithoutVaultsOrPeople() {
        SafeKnown x = made("person");
        refuses("no vault", INDEX, () -> x.left(0, 0));
        SafeKnown y = made("vault 000 worth 1");
        refuses("nobody", INDEX, () -> y.left(0, 0));
    }

    static void p09CodeFirstLastAndBehindIt() {
        SafeKnown x = made("vault 000 worth 1;person");
        due("the first", x.code(0, 0, 0), 0);
        due("the last", x.code(0, 0, 215), 215);
        due("behind it", x.code(0, 0, 216), NONE);
        due("ahead of the first", x.code(0, 0, -1), NONE);
        due("the most", x.code(0, 0, MOST), NONE);
        due("the least", x.code(0, 0, LEAST), NONE);
    }

    static void p09CodeOfFew() {
        SafeKnown x = dozen(7, 1);
        x.turn(0, 0, 0);
        x.turn(0, 0, 5);
        x.turn(0, 0, 11);
        int[] left = {1, 2, 3, 4, 6, 7, 8, 9, 10, NONE};
        for (int k = 0; k < left.length; k++) {
            due("code " + k, x.code(0, 0, k), left[k]);
        }
        x.turn(0, 0, 7);
        due("one alone", x.code(0, 0, 0), 7);
        due("no second", x.code(0, 0, 1), NONE);
    }

    static void p09CodeOfNone() {
        needs("code", y -> y.code(-1, 0, 0), y -> y.code(2, 0, 0), y -> y.code(0, -1, 0),
                y -> y.code(0, 2, 0));
        SafeKnown x = made("vault 000 worth 1;person");
        refuses("none of both, and no k", INDEX, () -> x.code(1, 1, -1));
    }

    static void p10WheelFirstAndLast() {
        SafeKnown x = made("vault 000 worth 1;person");
        due("wheel 0", x.wheel(0, 0, 0, true), 63);
        due("wheel 2", x.wheel(0, 0, 2, true), 63);
        for (int none : new int[] {-1, 3, LEAST, MOST}) {
            needs("wheel", y -> y.wheel(0, 0, none, true), y -> y.wheel(0, 0, none, false));
        }
        needs("wheel", y -> y.wheel(-1, 0, 0, true), y -> y.wheel(2, 0, 0, true),
                y -> y.wheel(0, -1, 0, false), y -> y.wheel(0, 2, 0, false));
    }

    static void p10WheelSureOfOneNotOfTwo() {
        SafeKnown x = dozen(11, 1);
        due("sure of the first", x.wheel(0, 0, 0, false), 0);
        due("the first", x.wheel(0, 0, 0, true), 1);
        due("two of the second", x.wheel(0, 0, 1, false), NONE);
        due("the second", x.wheel(0, 0, 1, true), 3);
        due("six of the third", x.wheel(0, 0, 2, false), NONE);
        due("the third", x.wheel(0, 0, 2, true), 63);
        for (int code = 0; code < 6; code++) {
            x.turn(0, 0, code);
        }
        due("sure of the second", x.wheel(0, 0, 1, false), 1);
        due("the second", x.wheel(0, 0, 1, true), 2);
        x.turn(0, 0, 11);
        due("sure of a 5", x.wheel(0, 0, 2, false), 5);
        due("a 5", x.wheel(0, 0, 2, true), 32);
    }

    static void p10WheelOfEachCode() {
        SafeKnown x = made("vault 000 worth 1;person");
        for (int code : new int[] {0, 5, 6, 34, 35, 36, 37, 70, 71, 72, 137, 179, 180, 210, 214, 215}) {
            x.change(0, code);
            x.turn(0, 0, code);
            int[] sides = {code / 36, code / 6 % 6, code % 6};
            for (int wheel = 0; wheel < 3; wheel++) {
                due("sure of wheel " + wheel + " of " + code, x.wheel(0, 0, wheel, false), sides[wheel]);
                due("wheel " + wheel + " of " + code, x.wheel(0, 0, wheel, true), 1 << sides[wheel]);
            }
        }
    }

    // ---- promises 11 and 12 ----

    static void p11ClickFirstAndLast() {
        SafeKnown x = new SafeKnown();
        Check.law(x, "click 1 if told<1;click 2 if told>4;click 4 if code<1;click 8 if code>4;click 16 if wheel>1");
        due("wheel 0, 0 and 0", x.click(0, 0, 0), 5);
        due("wheel 0, 5 and 0", x.click(0, 5, 0), 6);
        due("wheel 1, 0 and 5", x.click(1, 0, 5), 9);
        due("wheel 2, 5 and 5", x.click(2, 5, 5), 26);
    }

    static void p11ClickOfWheelsAndSidesThatAreNone() {
        SafeKnown x = new SafeKnown();
        for (int none : new int[] {-1, 3, LEAST, MOST}) {
            refuses("wheel " + none, INDEX, () -> x.click(none, 0, 0));
        }
        for (int none : new int[] {-1, 6, LEAST, MOST}) {
            refuses("told " + none, ARGUMENT, () -> x.click(0, none, 0));
            refuses("code " + none, ARGUMENT, () -> x.click(2, 0, none));
        }
        refuses("no wheel ahead of the others", INDEX, () -> x.click(3, 6, 6));
        refusedAndNothing("click(0, 6, 0)", ARGUMENT, y -> y.click(0, 6, 0));
        refusedAndNothing("click(3, 0, 0)", INDEX, y -> y.click(3, 0, 0));
    }

    static void p12SoundOfEachCodeIsOfItsThreeWheels() {
        for (int other : new int[] {0, 35, 36, 71, 137, 180, 215}) {
            SafeKnown x = new SafeKnown();
            Check.law(x, "click 1 if wheel<1 and told<code;click 10 if wheel>0 and wheel<2 and told<code;"
                    + "click 50 if wheel>1 and told<code;mute 3 if same");
            for (int code = 0; code < 216; code++) {
                due("told " + other + ", code " + code, x.sound(other, code), byWheels(other, code));
                due("told " + code + ", code " + other, x.sound(code, other), byWheels(code, other));
            }
        }
    }

    private static int byWheels(int told, int code) {
        int sum = 0;
        int[] loud = {1, 10, 50};
        for (int wheel = 0; wheel < 3; wheel++) {
            int one = figures(told).charAt(wheel) - '0';
            int other = figures(code).charAt(wheel) - '0';
            sum += one < other ? loud[wheel] : one == other ? -3 : 0;
        }
        return sum;
    }

    static void p12SoundFirstAndLast() {
        SafeKnown x = new SafeKnown();
        due("0 and 0", x.sound(0, 0), 3);
        due("215 and 215", x.sound(215, 215), 3);
        due("0 and 215", x.sound(0, 215), 0);
        due("5 and 0", x.sound(5, 0), 2);
        for (int none : new int[] {-1, 216, LEAST, MOST}) {
            needs("sound", y -> y.sound(none, 0), y -> y.sound(0, none));
        }
    }

    // ---- promise 13 ----

    static void p13TurnToTheFirstAndTheLastCode() {
        SafeKnown x = made("vault 000 worth 1;vault 555 worth 1;person");
        due("to 000", x.turn(0, 0, 0), 3);
        due("to 555", x.turn(0, 1, 215), 3);
        due("both opened", x.count(7), 3);
        for (int none : new int[] {-1, 216, LEAST, MOST}) {
            refuses("to " + none, INDEX, () -> x.turn(0, 0, none));
        }
        needs("turn", y -> y.turn(-1, 0, 0), y -> y.turn(2, 0, 0), y -> y.turn(0, -1, 0),
                y -> y.turn(0, 2, 0));
    }

    static void p13TurnOnGuardedDaysAlone() {
        SafeKnown x = guarded("0 6");
        for (int day = 0; day < 15; day++) {
            if (day % 7 == 0 || day % 7 == 6) {
                refuses("on day " + day, STATE, () -> x.turn(0, 0, 1));
            } else {
                due("on day " + day, x.turn(0, 0, 1), 2);
            }
            x.days(1);
        }
    }

    static void p13TurnOnceTheGuardIsTakenOut() {
        SafeKnown x = guarded("0");
        refuses("guarded", STATE, () -> x.turn(0, 0, 0));
        x.guard(0, 0, false);
        due("not any more", x.turn(0, 0, 0), 3);
        x.guard(0, 0, true);
        refuses("guarded again, though opened", STATE, () -> x.turn(0, 0, 0));
    }

    static void p13TurnOnTheLastDay() {
        SafeKnown x = made("vault 000 worth 1 guard 3;vault 000 worth 1 guard 2 4;person");
        goToDay(x, 9999);
        refuses("guarded", STATE, () -> x.turn(0, 0, 0));
        due("not guarded", x.turn(0, 1, 0), 3);
        due("its day", x.log(0, 0), 9999);
        x.days(1);
        refuses("still that day", STATE, () -> x.turn(0, 0, 0));
        due("still not guarded", x.turn(0, 1, 0), 3);
    }

    static void p13TurnNoneThereAheadOfTheGuard() {
        SafeKnown x = guarded("0");
        refuses("no such code", INDEX, () -> x.turn(0, 0, 216));
        refuses("no such person", INDEX, () -> x.turn(1, 0, 0));
        refuses("guarded", STATE, () -> x.turn(0, 0, 0));
    }

    static void p13TurnRefusedChangesNothing() {
        refusedAndNothing("guarded", STATE, x -> x.turn(0, 0, 8));
        refusedAndNothing("no such code", INDEX, x -> x.turn(0, 1, 216));
        refusedAndNothing("no such person", INDEX, x -> x.turn(2, 1, 0));
        refusedAndNothing("no such vault", INDEX, x -> x.turn(0, 2, 0));
    }

    static void p13TurnOpenedThatOneAlone() {
        SafeKnown x = made("vault 123 worth 1;person", "");
        due("without a sound", x.turn(0, 0, 51), 0);
        due("one alone", x.left(0, 0), 1);
        due("that one", x.code(0, 0, 0), 51);
    }

    static void p13TurnNotOpenedNotTheOneTurnedTo() {
        SafeKnown x = made("vault 123 worth 1;person", "");
        x.turn(0, 0, 0);
        due("all but one", x.left(0, 0), 215);
        due("not 000", x.code(0, 0, 0), 1);
        x.turn(0, 0, 0);
        due("turned to again", x.left(0, 0), 215);
        x.turn(0, 0, 215);
        due("not 555", x.code(0, 0, 213), 214);
        due("none behind it", x.code(0, 0, 214), NONE);
    }

    static void p13TurnAtAnOpenedOne() {
        SafeKnown x = made("vault 123 worth 1;person;person");
        x.turn(0, 0, 51);
        due("away from it", x.turn(0, 0, 0), 0);
        due("still opened", x.vault(0, 3), 1);
        due("not by that", x.log(0, 5), 0);
        due("still known", x.left(0, 0), 1);
        due("opened once more", x.turn(1, 0, 51), 3);
        due("by that", x.log(0, 5), 1);
    }

    static void p13TurnLeavesThoseOfTheSameSound() {
        for (int told : new int[] {0, 5, 6, 35, 36, 41, 100, 137, 175, 180, 209, 215}) {
            SafeKnown x = made("vault 345 worth 1;person", "click 1 if wheel<1 and told<code;"
                    + "click 2 if wheel>0 and wheel<2 and told<code;click 4 if wheel>1 and told<code;mute 9 if next");
            int heard = x.turn(0, 0, told);
            int k = 0;
            for (int code = 0; code < 216; code++) {
                if (told == 137 ? code == told : code != told && x.sound(told, code) == heard) {
                    due("told " + told + ", left " + k, x.code(0, 0, k), code);
                    k++;
                }
            }
            due("told " + told + ", left", x.left(0, 0), k);
        }
    }

    static void p13TurnTellsAllByOneSound() {
        SafeKnown x = made("vault 345 worth 1;person", BABBLER);
        due("3 is 5, 4 is 4, 5 is 3", x.turn(0, 0, 0), 5 * 36 + 4 * 6 + 3);
        due("one is left", x.left(0, 0), 1);
        due("that one", x.code(0, 0, 0), 3 * 36 + 4 * 6 + 5);
        due("not opened", x.count(7), 0);
    }

    // ---- promise 14 ----

    static void p14TellByNumbers() {
        SafeKnown x = made("vault 000 worth 1;vault 000 worth 1;" + repeated("person", 6));
        x.turn(5, 1, 0);
        due("the last tells the first", x.tell(5, 0, 1), 1);
        due("the first tells the last", x.tell(0, 5, 1), 1);
        refuses("tell(6, 0, 0)", INDEX, () -> x.tell(6, 0, 0));
        refuses("tell(0, 6, 0)", INDEX, () -> x.tell(0, 6, 0));
        refuses("tell(-1, 0, 0)", INDEX, () -> x.tell(-1, 0, 0));
        refuses("tell(0, -1, 0)", INDEX, () -> x.tell(0, -1, 0));
        refuses("tell(0, 1, 2)", INDEX, () -> x.tell(0, 1, 2));
        refuses("tell(0, 1, -1)", INDEX, () -> x.tell(0, 1, -1));
    }

    static void p14TellOfOneVaultAlone() {
        SafeKnown x = made(repeated("vault 000 worth 1", 6) + ";" + repeated("person", 6));
        for (int vault = 0; vault < 6; vault++) {
            x.turn(4, vault, 0);
        }
        for (int vault = 5; vault >= 0; vault--) {
            due("of vault " + vault, x.tell(4, 5, vault), 1);
            for (int other = 0; other < 6; other++) {
                due("left of vault " + other, x.left(5, other), other < vault ? 216 : 1);
                due("nobody else is told", x.left(3, other), 216);
            }
        }
    }

    static void p14TellOneself() {
        SafeKnown x = made("vault 000 worth 1;person;person");
        refuses("tell(0, 0, 0)", ARGUMENT, () -> x.tell(0, 0, 0));
        refuses("tell(1, 1, 0)", ARGUMENT, () -> x.tell(1, 1, 0));
        refuses("nobody tells nobody", INDEX, () -> x.tell(2, 2, 0));
        refuses("oneself of no vault", INDEX, () -> x.tell(0, 0, 1));
    }

    static void p14TellRefusedChangesNothing() {
        refusedAndNothing("tell(1, 1, 1)", ARGUMENT, x -> x.tell(1, 1, 1));
        refusedAndNothing("tell(0, 2, 1)", INDEX, x -> x.tell(0, 2, 1));
        refusedAndNothing("tell(0, 1, 2)", INDEX, x -> x.tell(0, 1, 2));
    }

    static void p14TellWhatNobodyKnows() {
        SafeKnown x = made("vault 000 worth 1;person;person");
        due("nothing", x.tell(0, 1, 0), 216);
        due("an act all the same", x.count(12), 1);
        x.turn(1, 0, 0);
        due("nothing to one who knows", x.tell(0, 1, 0), 1);
        due("the one who tells learns nothing", x.left(0, 0), 216);
    }

    static void p14TellIsAllowedOnGuardedDays() {
        SafeKnown x = guarded("0 1 2 3 4 5 6");
        Check.bank(x, "person");
        due("tell", x.tell(0, 1, 0), 216);
        due("forget", x.forget(0, 0), 216);
    }

    // ---- promise 15 ----

    static void p15ForgetAllAndOne() {
        SafeKnown x = made("vault 000 worth 1;person");
        due("nothing known", x.forget(0, 0), 216);
        due("an act all the same", x.count(12), 1);
        x.turn(0, 0, 0);
        due("one", x.forget(0, 0), 1);
        due("all can be", x.left(0, 0), 216);
        due("the last too", x.code(0, 0, 215), 215);
        due("still opened", x.vault(0, 3), 1);
        needs("forget", y -> y.forget(-1, 0), y -> y.forget(2, 0), y -> y.forget(0, -1),
                y -> y.forget(0, 2));
    }

    static void p15ForgetRefusedChangesNothing() {
        refusedAndNothing("forget(2, 1)", INDEX, x -> x.forget(2, 1));
        refusedAndNothing("forget(0, 2)", INDEX, x -> x.forget(0, 2));
    }

    // ---- promise 16 ----

    static void p16ChangeToTheFirstAndTheLastCode() {
        SafeKnown x = made("vault 111 worth 1;vault 111 worth 1");
        due("what it was", x.change(1, 0), 43);
        due("what it was", x.change(1, 215), 0);
        due("the code", x.vault(1, 0), 215);
        due("another vault", x.vault(0, 0), 43);
        for (int none : new int[] {-1, 216, LEAST, MOST}) {
            refuses("to " + none, INDEX, () -> x.change(0, none));
        }
        for (int none : new int[] {-1, 2, LEAST, MOST}) {
            refuses("of " + none, INDEX, () -> x.change(none, 0));
        }
        due("told anew", x.count(10), 2);
    }

    static void p16ChangeToTheSameIsToldAnew() {
        SafeKnown x = made("vault 111 worth 1;person;person");
        x.turn(0, 0, 43);
        x.turn(1, 0, 0);
        due("the same", x.change(0, 43), 43);
        due("told anew", x.count(10), 1);
        due("not opened", x.count(7), 0);
        due("the one forgets", x.left(0, 0), 216);
        due("the other one, too", x.left(1, 0), 216);
    }

    static void p16ChangeRefusedChangesNothing() {
        refusedAndNothing("change(2, 0)", INDEX, x -> x.change(2, 0));
        refusedAndNothing("change(1, 216)", INDEX, x -> x.change(1, 216));
        refusedAndNothing("change(1, -1)", INDEX, x -> x.change(1, -1));
    }

    static void p16ChangeOnAGuardedDay() {
        SafeKnown x = guarded("0 1 2 3 4 5 6");
        due("what it was", x.change(0, 5), 0);
        due("the code", x.vault(0, 0), 5);
    }

    // ---- promise 17 ----

    static void p17GuardFirstAndLastWeekday() {
        SafeKnown x = guarded("");
        due("0 put in", x.guard(0, 0, true), true);
        due("6 put in", x.guard(0, 6, true), true);
        due("guards", x.vault(0, 1), 65);
        due("0 taken out", x.guard(0, 0, false), true);
        due("6 taken out", x.guard(0, 6, false), true);
        due("guards", x.vault(0, 1), 0);
        for (int none : new int[] {-1, 7, 31, 32, LEAST, MOST}) {
            refuses("weekday " + none + " in", ARGUMENT, () -> x.guard(0, none, true) ? 1 : 0);
            refuses("weekday " + none + " out", ARGUMENT, () -> x.guard(0, none, false) ? 1 : 0);
        }
    }

    static void p17GuardOfNoVault() {
        SafeKnown x = guarded("");
        refuses("vault 1", INDEX, () -> x.guard(1, 0, true) ? 1 : 0);
        refuses("vault -1", INDEX, () -> x.guard(-1, 0, true) ? 1 : 0);
        refuses("ahead of the weekday", INDEX, () -> x.guard(1, 7, true) ? 1 : 0);
    }

    static void p17GuardThatChangesNothing() {
        SafeKnown x = guarded("2");
        due("put in what is in", x.guard(0, 2, true), false);
        due("taken out what is out", x.guard(0, 3, false), false);
        due("guards", x.vault(0, 1), 4);
        due("acts all the same", x.count(12), 2);
    }

    static void p17GuardAllSevenInAndOut() {
        SafeKnown x = guarded("");
        for (int day = 0; day < 7; day++) {
            due("in " + day, x.guard(0, day, true), true);
        }
        due("all", x.vault(0, 1), 127);
        due("gaps", x.vault(0, 4), 0);
        for (int day = 0; day < 7; day++) {
            due("out " + day, x.guard(0, day, false), true);
        }
        due("none", x.vault(0, 1), 0);
    }

    static void p17GuardRefusedChangesNothing() {
        refusedAndNothing("guard(0, 7, true)", ARGUMENT, x -> x.guard(0, 7, true) ? 1 : 0);
        refusedAndNothing("guard(0, -1, false)", ARGUMENT, x -> x.guard(0, -1, false) ? 1 : 0);
        refusedAndNothing("guard(2, 0, true)", INDEX, x -> x.guard(2, 0, true) ? 1 : 0);
    }

    // ---- promise 18 ----

    static void p18DaysFrom1To60() {
        SafeKnown x = made("vault 000 worth 1;change 100");
        due("one", x.days(1), 1);
        due("day", x.count(5), 1);
        due("sixty", x.days(60), 60);
        due("day", x.count(5), 61);
        due("told anew", x.count(10), 61);
        for (int none : new int[] {0, -1, 61, LEAST, MOST}) {
            refuses(none + " days", ARGUMENT, () -> x.days(none));
        }
        due("day", x.count(5), 61);
    }

    static void p18DaysRefusedChangesNothing() {
        refusedAndNothing("days(0)", ARGUMENT, x -> x.days(0));
        refusedAndNothing("days(61)", ARGUMENT, x -> x.days(61));
        refusedAndNothing("days(-1)", ARGUMENT, x -> x.days(-1));
    }

    static void p18DaysBelowChangeNotAtIt() {
        for (int seed : new int[] {1, 2, 77, -5, LEAST, MOST}) {
            Draws draws = new Draws(seed);
            int drawn = draws.next() % 100;
            SafeKnown x = made("vault 000 worth 1;change " + drawn);
            x.seed(seed);
            due("a draw of just change, seed " + seed, x.days(1), 0);
            due("one draw alone", x.seed(seed), draws.seed());
            Check.bank(x, "change " + (drawn + 1));
            due("a draw below change, seed " + seed, x.days(1), 1);
            due("the code", x.vault(0, 0), draws.next() % 216);
            due("two draws", x.seed(0), draws.seed());
        }
    }

    static void p18DaysChange0NeverAnd100Always() {
        SafeKnown x = made(repeated("vault 000 worth 1", 6) + ";change 0");
        due("never", x.days(60), 0);
        Draws draws = new Draws(1);
        for (int i = 0; i < 360; i++) {
            draws.next();
        }
        due("but drawn", x.seed(1), draws.seed());
        Check.bank(x, "change 100");
        due("always", x.days(60), 360);
    }

    static void p18DaysByNumbersOfVaults() {
        SafeKnown x = made(repeated("vault 000 worth 1", 6) + ";person;change 50");
        for (int vault = 0; vault < 6; vault++) {
            x.turn(0, vault, 0);
        }
        Draws draws = new Draws(1);
        int[] codes = new int[6];
        int told = 0;
        int times = 0;
        for (int i = 0; i < 12; i++) {
            if (draws.next() % 100 < 50) {
                codes[i % 6] = draws.next() % 216;
                told |= 1 << i % 6;
                times++;
            }
        }
        due("two days", x.days(2), times);
        for (int vault = 0; vault < 6; vault++) {
            due("code of " + vault, x.vault(vault, 0), codes[vault]);
            due("left of " + vault, x.left(0, vault), (told >> vault & 1) == 1 ? 216 : 1);
        }
        due("opened ones", x.count(7), 63 & ~told);
        due("seed", x.seed(0), draws.seed());
    }

    static void p18DaysToldTheSameCodeIsToldAnew() {
        Draws draws = new Draws(1);
        draws.next();
        int code = draws.next() % 216;
        SafeKnown x = made("vault " + figures(code) + " worth 1;person;change 100");
        x.turn(0, 0, code);
        due("one day", x.days(1), 1);
        due("the same code", x.vault(0, 0), code);
        due("not opened", x.count(7), 0);
        due("forgotten", x.left(0, 0), 216);
        due("told anew", x.count(10), 1);
    }

    static void p18DaysThatTellNothingBehindDaysThatDid() {
        SafeKnown x = made("vault 000 worth 1;vault 000 worth 1;person;change 100");
        due("both told", x.days(1), 2);
        Check.bank(x, "change 0");
        int code = x.vault(1, 0);
        x.turn(0, 1, code);
        due("none told", x.days(1), 0);
        due("code", x.vault(1, 0), code);
        due("left", x.left(0, 1), 1);
        due("opened", x.count(7), 2);
        due("told anew in all", x.count(10), 2);
    }

    static void p18DaysWithoutAVaultDrawNothing() {
        SafeKnown x = made("person;change 100");
        due("sixty", x.days(60), 0);
        due("day", x.count(5), 60);
        due("seed", x.seed(1), 1);
    }

    static void p18DaysUpTo9999() {
        SafeKnown x = new SafeKnown();
        goToDay(x, 9998);
        x.days(1);
        due("the last", x.count(5), 9999);
        x.days(1);
        due("no day behind it", x.count(5), 9999);
        x.days(60);
        due("nor by sixty", x.count(5), 9999);
    }

    static void p18DaysBeyond9999AreDrawnAllTheSame() {
        SafeKnown x = made("vault 000 worth 1 guard 3");
        goToDay(x, 9970);
        Check.bank(x, "change 100");
        due("sixty, of which 29 are days", x.days(60), 60);
        due("the last", x.count(5), 9999);
        due("one more", x.days(1), 1);
        due("told anew", x.count(10), 61);
        due("guarded", x.count(8), 1);
        due("undo", x.undo(), true);
        due("undo", x.undo(), true);
        due("the day ahead of it", x.count(5), 9970);
    }

    static void p18DaysWeekdayGoesRound() {
        SafeKnown x = guarded("0");
        due("day 0", x.count(8), 1);
        x.days(6);
        due("day 6", x.count(8), 0);
        x.days(1);
        due("day 7", x.count(8), 1);
        x.days(49);
        due("day 56", x.count(8), 1);
        x.days(1);
        due("day 57", x.count(8), 0);
    }
}
