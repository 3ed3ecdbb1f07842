/** Promises 15 to 20: banks, lending, fines, the fund and ponds. */
final class BanksTest {
    private BanksTest() {
    }

    /** Two wells far apart whose rights are 1000 and 0, behind a first year: their banks have 1000 and 0. */
    private static WellRights richAndPoor() {
        WellRights rights = new WellRights();
        rights.addWell(0, 0, 0, -10000, 0, 1000);
        rights.addWell(0, 90, 0, -10000, 0, 0);
        rights.year();
        return rights;
    }

    /** One well that draws 50 a year above its right of 0, after so many years: 100 a year go to the fund. */
    private static WellRights withFund(int years) {
        WellRights rights = new WellRights();
        rights.addWell(0, 90, 0, -10000, 0, 0);
        rights.plan(0, 50);
        for (int year = 0; year < years; year++) {
            rights.year();
        }
        rights.plan(0, 0);
        return rights;
    }

    @Sentence("Returns the bank of a well.")
    static void promise15_restOfTheRightIsBanked() {
        WellRights rights = new WellRights();
        rights.addWell(0, 0, 0, -10000, 0, 100);
        Check.due("empty", rights.bank(0), 0);
        rights.plan(0, 40);
        rights.year();
        Check.due("the rest", rights.bank(0), 60);
        rights.plan(0, 100);
        rights.year();
        Check.due("less a tenth", rights.bank(0), 54);
        rights.year();
        Check.due("less a tenth, rounded up", rights.bank(0), 48);
        rights.plan(0, 110);
        rights.year();
        Check.due("taken from the bank", rights.bank(0), 33);
        Check.due("without a fine", rights.fines(0), 0);
        Check.noPlace("well 1", () -> rights.bank(1));
        Check.noPlace("well -1", () -> rights.bank(-1));
    }

    static void promise15_smallBanksLoseOne() {
        WellRights rights = new WellRights();
        rights.addWell(0, 0, 0, -10000, 0, 11);
        rights.year();
        rights.plan(0, 11);
        int[] banks = {9, 8, 7, 6, 5, 4, 3, 2, 1, 0, 0};
        for (int due : banks) {
            rights.year();
            Check.due("bank", rights.bank(0), due);
        }
    }

    static void promise15_toldAndNotDrawnCounts() {
        WellRights rights = new WellRights();
        rights.addWell(0, 0, 0, -10000, 0, 100);
        rights.plan(0, 90);
        rights.toggleMeter(0);
        rights.power(0, 10);
        rights.year();
        Check.due("bank", rights.bank(0), 70);
    }

    static void promise15_stoppedWellsTakeFromTheirBank() {
        WellRights rights = new WellRights();
        rights.addWell(0, 0, 0, 0, 0, 0);
        rights.addWell(0, 0, 0, -10000, 5, 20);
        rights.year();
        rights.plan(1, 1);
        rights.toggleMeter(1);
        rights.power(1, 9);
        Check.due("stopped", rights.year(), 1);
        Check.due("told", rights.told(1), 27);
        Check.due("bank", rights.bank(1), 11);
        rights.power(1, 2);
        Check.due("stopped", rights.year(), 1);
        Check.due("nothing is added", rights.bank(1), 9);
    }

    @Sentence("Lends water.")
    static void promise16_lentWaterIsInTheOtherBank() {
        WellRights rights = richAndPoor();
        Check.due("first", rights.lend(0, 1, 300), 300);
        Check.due("bank 0", rights.bank(0), 700);
        Check.due("bank 1", rights.bank(1), 300);
        Check.due("second", rights.lend(0, 1, 1), 301);
        Check.due("the other way", rights.lend(1, 0, 50), 50);
        Check.due("bank 1", rights.bank(1), 251);
        Check.due("all that is left", rights.lend(0, 1, 749), 1050);
        Check.due("bank 0", rights.bank(0), 0);
        rights.plan(1, 901);
        rights.year();
        Check.due("the borrower's to use", rights.bank(1), 0);
        Check.due("and not enough", rights.fines(1), 2);
    }

    static void promise16_whatWasCalledBackIsLentNoMore() {
        WellRights rights = richAndPoor();
        rights.lend(0, 1, 300);
        rights.callBack(0, 1);
        Check.due("lent then", rights.lend(0, 1, 10), 10);
    }

    static void promise16_wrongLendingChangesNothing() {
        WellRights rights = richAndPoor();
        Check.noPlace("to 2", () -> rights.lend(0, 2, 1));
        Check.noPlace("to -1", () -> rights.lend(0, -1, 0));
        Check.noPlace("from 2", () -> rights.lend(2, 0, 1));
        Check.noPlace("both -1", () -> rights.lend(-1, -1, 0));
        Check.badArgument("the same", () -> rights.lend(0, 0, 1));
        Check.badArgument("the same, too much", () -> rights.lend(1, 1, 10));
        Check.badArgument("0", () -> rights.lend(0, 1, 0));
        Check.badArgument("-1", () -> rights.lend(0, 1, -1));
        Check.badArgument("10001", () -> rights.lend(0, 1, 10001));
        Check.notNow("10000", () -> rights.lend(0, 1, 10000));
        Check.notNow("one too much", () -> rights.lend(0, 1, 1001));
        Check.notNow("from an empty bank", () -> rights.lend(1, 0, 1));
        Check.due("bank 0", rights.bank(0), 1000);
        Check.due("bank 1", rights.bank(1), 0);
        Check.due("nothing is lent", rights.lend(0, 1, 1), 1);
    }

    @Sentence("Calls back what is lent, as far as the bank of the other one goes.")
    static void promise17_comesBackAsFarAsTheBankGoes() {
        WellRights rights = richAndPoor();
        rights.lend(0, 1, 1000);
        rights.year();
        Check.due("bank 0", rights.bank(0), 1000);
        Check.due("the borrower's bank lost a tenth", rights.callBack(0, 1), 900);
        Check.due("bank 0", rights.bank(0), 1900);
        Check.due("bank 1", rights.bank(1), 0);
        Check.due("an empty bank", rights.callBack(0, 1), 0);
        Check.due("the rest is still lent", rights.lend(0, 1, 150), 250);
        Check.due("all of the bank", rights.callBack(0, 1), 150);
    }

    static void promise17_noMoreThanWasLent() {
        WellRights rights = richAndPoor();
        rights.addWell(0, 45, 0, 0, 0, 0);
        rights.lend(0, 1, 100);
        rights.lend(0, 2, 30);
        rights.lend(2, 1, 30);
        Check.due("from 0", rights.callBack(0, 1), 100);
        Check.due("bank 1", rights.bank(1), 30);
        Check.due("twice", rights.callBack(0, 1), 0);
        Check.due("not lent this way", rights.callBack(1, 0), 0);
        Check.due("lent, but not there now", rights.callBack(0, 2), 0);
        Check.due("from 2", rights.callBack(2, 1), 30);
        Check.due("there again", rights.callBack(0, 2), 30);
        Check.due("bank 0", rights.bank(0), 1000);
    }

    static void promise17_wrongCalls() {
        WellRights rights = richAndPoor();
        rights.lend(0, 1, 10);
        Check.noPlace("to 2", () -> rights.callBack(0, 2));
        Check.noPlace("from 2", () -> rights.callBack(2, 0));
        Check.noPlace("both 2", () -> rights.callBack(2, 2));
        Check.noPlace("both -1", () -> rights.callBack(-1, -1));
        Check.badArgument("the same", () -> rights.callBack(0, 0));
        Check.due("what is lent", rights.callBack(0, 1), 10);
    }

    @Sentence("Returns all fines of a well.")
    static void promise18_twoForEachThatNoBankHas() {
        WellRights rights = new WellRights();
        rights.addWell(0, 0, 0, -10000, 0, 10);
        rights.plan(0, 10);
        rights.year();
        Check.due("up to the right is free", rights.fines(0), 0);
        rights.plan(0, 11);
        rights.year();
        Check.due("one above", rights.fines(0), 2);
        rights.year();
        Check.due("the sum", rights.fines(0), 4);
        rights.plan(0, 0);
        rights.year();
        Check.due("still", rights.fines(0), 4);
        rights.plan(0, 30);
        rights.year();
        Check.due("less what the bank had", rights.fines(0), 4 + 2 * (20 - 9));
        Check.due("bank", rights.bank(0), 0);
        Check.noPlace("well 1", () -> rights.fines(1));
        Check.noPlace("well -1", () -> rights.fines(-1));
    }

    static void promise18_pondsDoNotLowerThem() {
        WellRights rights = withFund(2);
        rights.build(0);
        Check.due("fines", rights.fines(0), 200);
    }

    @Sentence("Returns the fund.")
    static void promise19_sumOfFinesLessPonds() {
        WellRights rights = withFund(2);
        rights.addWell(0, 0, 0, -10000, 0, 5);
        Check.due("fund", rights.fund(), 200);
        rights.plan(1, 8);
        rights.year();
        Check.due("fines of both", rights.fund(), 206);
        rights.build(0);
        Check.due("less a pond", rights.fund(), 106);
        rights.build(0);
        Check.due("less two ponds", rights.fund(), 6);
    }

    static void promise20_fivePondsAndNoMore() {
        WellRights rights = withFund(6);
        Check.due("edge", rights.build(0), 1);
        Check.due("edge", rights.build(99), 2);
        Check.due("same place", rights.build(99), 3);
        Check.due("fourth", rights.build(50), 4);
        Check.due("fifth", rights.build(50), 5);
        Check.notNow("sixth", () -> rights.build(50));
        Check.badArgument("sixth at no place", () -> rights.build(100));
        Check.due("fund", rights.fund(), 100);
    }

    @Sentence("Builds a pond, which costs 100 of the fund.")
    static void promise20_costsAHundred() {
        WellRights rights = withFund(0);
        rights.plan(0, 49);
        rights.year();
        rights.plan(0, 1);
        Check.notNow("98", () -> rights.build(5));
        rights.year();
        Check.due("100", rights.build(5), 1);
        Check.due("fund", rights.fund(), 0);
        Check.notNow("0", () -> rights.build(5));
    }

    static void promise20_wrongPlacesBuildNothing() {
        WellRights rights = withFund(1);
        Check.badArgument("100", () -> rights.build(100));
        Check.badArgument("-1", () -> rights.build(-1));
        Check.due("fund", rights.fund(), 100);
        Check.due("first", rights.build(0), 1);
        Check.badArgument("100 without a fund", () -> rights.build(100));
    }

    static void promise20_pondsRaiseWellsAsLayerZeroReaches() {
        WellRights rights = withFund(2);
        rights.addWell(0, 10, 0, 0, 0, 0);
        rights.addWell(0, 17, 0, 0, 0, 0);
        rights.addWell(0, 20, 0, 0, 0, 0);
        rights.addWell(1, 10, 0, 0, 0, 0);
        rights.addWell(1, 19, 0, 0, 0, 0);
        rights.addWell(2, 10, 0, 0, 0, 0);
        rights.build(10);
        Check.due("not before a year", rights.level(1), 0);
        rights.year();
        int[] once = {20, 6, 0, 10, 1, 0};
        for (int k = 0; k < once.length; k++) {
            Check.due("level " + (k + 1), rights.level(k + 1), once[k]);
        }
        rights.build(13);
        rights.year();
        int[] twice = {20 + 20 + 14, 6 + 6 + 12, 6, 10 + 10 + 7, 1 + 1 + 4, 0};
        for (int k = 0; k < twice.length; k++) {
            Check.due("level then " + (k + 1), rights.level(k + 1), twice[k]);
        }
    }

    static void promise20_pondsAtOnePlaceAddUp() {
        WellRights rights = withFund(2);
        rights.addWell(1, 15, 0, 0, 0, 0);
        rights.addWell(1, 18, 0, 0, 0, 0);
        rights.build(9);
        rights.build(9);
        rights.year();
        Check.due("20 * 20 / 100, twice", rights.level(1), 8);
        Check.due("20 * 5 / 100, twice", rights.level(2), 2);
    }
}
