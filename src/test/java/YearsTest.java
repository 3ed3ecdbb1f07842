/** Promises 8 to 12: years, who is stopped in them, and what is drawn and told. */
final class YearsTest {
    private YearsTest() {
    }

    static void promise8_sixtyYearsAndNoMore() {
        WellRights rights = new WellRights();
        rights.addWell(0, 0, 0, 0, 0, 0);
        rights.setRecharge(0, 1);
        for (int year = 1; year <= 60; year++) {
            Check.due("stopped", rights.year(), 0);
            Check.due("years", rights.years(), year);
        }
        rights.power(0, 5);
        Check.notNow("year 61", () -> rights.year());
        Check.due("level", rights.level(0), 60);
        Check.due("power before", rights.power(0, 0), 5);
    }

    @Sentence("Lets a year pass.")
    static void promise8_letsAYearPass() {
        WellRights rights = new WellRights();
        rights.addWell(0, 50, 100, 0, 1, 20);
        rights.addWell(0, 50, 100, -10000, 9, 10);
        rights.setRecharge(0, 7);
        rights.plan(0, 12);
        rights.plan(1, 30);
        rights.toggleMeter(1);
        rights.power(1, 5);
        int[] level = {65, 30};
        int[] told = {15, 12};
        int[] bank = {8, 15};
        int[] fines = {10, 14};
        for (int year = 0; year < 2; year++) {
            Check.due("stopped", rights.year(), 0);
            Check.due("years", rights.years(), year + 1);
            Check.due("level", rights.level(0), level[year]);
            Check.due("drew", rights.drew(1), 30);
            Check.due("told", rights.told(1), told[year]);
            Check.due("bank", rights.bank(0), bank[year]);
            Check.due("fines", rights.fines(1), fines[year]);
            Check.due("fund", rights.fund(), fines[year]);
            Check.due("power", rights.power(1, 0), 0);
        }
    }

    static void promise8_levelsComeFromEachDrawRoundedDown() {
        WellRights rights = new WellRights();
        rights.addWell(0, 50, 1000, -10000, 0, 1000);
        rights.addWell(0, 55, 1000, -10000, 1, 1000);
        rights.addWell(1, 55, 1000, -10000, 2, 1000);
        rights.plan(0, 33);
        rights.plan(1, 35);
        rights.plan(2, 39);
        rights.setRecharge(1, 4);
        Check.due("stopped", rights.year(), 0);
        Check.due("level 0", rights.level(0), 1000 - 33 - 17 - 9);
        Check.due("level 1", rights.level(1), 1000 - 16 - 35 - 19);
        Check.due("level 2", rights.level(2), 1004 - 8 - 17 - 39);
    }

    static void promise8_banksLoseBeforeAllElse() {
        WellRights rights = new WellRights();
        rights.addWell(0, 0, 0, -10000, 0, 100);
        rights.year();
        rights.plan(0, 200);
        rights.year();
        Check.due("bank", rights.bank(0), 0);
        Check.due("fines", rights.fines(0), 20);
    }

    static void promise8_stoppedWellLosesButBanksNothing() {
        WellRights rights = new WellRights();
        rights.addWell(0, 0, 0, 0, 0, 0);
        rights.addWell(0, 0, 0, -10000, 5, 55);
        rights.year();
        Check.due("bank of its whole right", rights.bank(1), 55);
        rights.plan(1, 1);
        Check.due("stopped", rights.year(), 1);
        Check.due("drew", rights.drew(1), 0);
        Check.due("bank less a tenth", rights.bank(1), 49);
        Check.due("level", rights.level(0), 0);
    }

    static void promise8_nobodyIsStoppedToBeginWith() {
        WellRights rights = new WellRights();
        rights.addWell(0, 0, 0, 0, 0, 0);
        rights.addWell(0, 0, 0, -10000, 5, 0);
        rights.plan(1, 10);
        Check.due("stopped", rights.year(), 1);
        rights.setRecharge(0, 10);
        Check.due("stopped no more", rights.year(), 0);
        Check.due("drew", rights.drew(1), 10);
    }

    @Sentence("Returns how many years have passed.")
    static void promise9_onlyYearsCount() {
        WellRights rights = new WellRights();
        rights.addWell(0, 0, 0, 0, 0, 0);
        rights.wouldStop();
        Check.due("years", rights.years(), 0);
        rights.year();
        rights.year();
        Check.due("years", rights.years(), 2);
        Check.due("asked again", rights.years(), 2);
    }

    /** Eight wells near one another in three layers, made up by a number. */
    private static WellRights madeUpBy(int number) {
        WellRights rights = new WellRights();
        for (int well = 0; well < 8; well++) {
            int mix = (number + 1) * (well + 3) * 7919 % 10007;
            rights.addWell(mix % 3, 40 + mix % 14, limitOf(number, well) + mix % 40, limitOf(number, well), ageOf(number, well), 0);
            rights.plan(well, mix % 5 == 0 ? 0 : mix % 31);
        }
        return rights;
    }

    private static int limitOf(int number, int well) {
        return number * (well + 5) % 100;
    }

    private static int ageOf(int number, int well) {
        return (number * 3 + well * well) % 6;
    }

    @Sentence("Returns the wells that would be stopped if a year passed now.")
    static void promise10_foretellsTheYear() {
        for (int number = 0; number < 400; number++) {
            WellRights rights = madeUpBy(number);
            for (int year = 0; year < 5; year++) {
                int set = rights.wouldStop();
                Check.due("how many of " + number, rights.year(), Integer.bitCount(set));
                for (int well = 0; well < 8; well++) {
                    int plan = rights.plan(well, 0);
                    rights.plan(well, plan);
                    boolean isStopped = (set >> well & 1) == 1;
                    Check.due("draw of " + well + " of " + number, rights.drew(well), isStopped ? 0 : plan);
                    Check.due("stopped without a draw", isStopped && plan == 0, false);
                }
            }
        }
    }

    static void promise8_noShortWellIsReachedByAYoungerDraw() {
        for (int number = 0; number < 400; number++) {
            WellRights rights = madeUpBy(number);
            rights.year();
            for (int old = 0; old < 8; old++) {
                for (int young = 0; young < 8; young++) {
                    int yearsYounger = ageOf(number, young) - ageOf(number, old);
                    boolean isYounger = yearsYounger > 0 || (yearsYounger == 0 && young > old);
                    boolean isShort = rights.level(old) < limitOf(number, old);
                    boolean reaches = rights.drew(young) > 0 && rights.reach(young, old) > 0;
                    Check.due(young + " left to draw on " + old + " of " + number, isYounger && isShort && reaches, false);
                }
            }
        }
    }

    static void promise10_changesNothing() {
        WellRights rights = new WellRights();
        rights.addWell(0, 10, 100, 100, 0, 50);
        rights.addWell(0, 10, 100, 0, 5, 50);
        rights.plan(1, 10);
        Check.due("set", rights.wouldStop(), 2);
        Check.due("set again", rights.wouldStop(), 2);
        Check.due("level", rights.level(0), 100);
        Check.due("bank", rights.bank(0), 0);
        Check.due("years", rights.years(), 0);
        Check.due("stopped", rights.year(), 1);
    }

    static void promise10_atTheLimitIsNotShort() {
        WellRights rights = new WellRights();
        rights.addWell(0, 10, 100, 90, 0, 0);
        rights.addWell(0, 10, 100, 0, 5, 0);
        rights.plan(1, 10);
        Check.due("at the limit", rights.wouldStop(), 0);
        rights.plan(1, 11);
        Check.due("below the limit", rights.wouldStop(), 2);
    }

    static void promise10_rechargeAndPondsCount() {
        WellRights rights = new WellRights();
        rights.addWell(0, 10, 100, 100, 0, 0);
        rights.addWell(0, 10, 100, 0, 5, 0);
        rights.addWell(0, 90, 100, 0, 9, 0);
        rights.plan(1, 25);
        rights.plan(2, 50);
        rights.setRecharge(0, 24);
        Check.due("recharge is too little", rights.wouldStop(), 2);
        rights.setRecharge(0, 25);
        Check.due("recharge is enough", rights.wouldStop(), 0);
        rights.year();
        rights.setRecharge(0, 15);
        rights.plan(1, 33);
        Check.due("without a pond", rights.wouldStop(), 2);
        rights.build(11);
        Check.due("with a pond", rights.wouldStop(), 0);
        rights.plan(1, 34);
        Check.due("above the pond", rights.wouldStop(), 2);
    }

    static void promise10_youngestOfThoseGoesFirst() {
        WellRights rights = new WellRights();
        rights.addWell(0, 10, 100, 80, 1, 0);
        rights.addWell(0, 10, 100, -10000, 9, 0);
        rights.addWell(0, 10, 100, -10000, 5, 0);
        rights.plan(1, 15);
        rights.plan(2, 15);
        Check.due("the youngest", rights.wouldStop(), 2);
        rights.plan(2, 21);
        Check.due("both", rights.wouldStop(), 6);
        rights.plan(1, 0);
        rights.plan(2, 30);
        Check.due("only what draws", rights.wouldStop(), 4);
    }

    static void promise10_oldestShortWellGoesFirst() {
        for (int swap = 0; swap < 2; swap++) {
            WellRights rights = new WellRights();
            int oldest = swap == 0 ? 0 : 1;
            int older = 1 - oldest;
            for (int well = 0; well < 2; well++) {
                if (well == oldest) {
                    rights.addWell(0, 0, 100, 100, 1, 0);
                } else {
                    rights.addWell(0, 15, 100, 60, 2, 0);
                }
            }
            rights.addWell(0, 9, 100, -10000, 5, 0);
            rights.addWell(0, 20, 100, -10000, 9, 0);
            rights.plan(2, 100);
            rights.plan(3, 20);
            Check.due("the far one is spared, oldest " + oldest, rights.wouldStop(), 4);
            rights.year();
            Check.due("level of the oldest", rights.level(oldest), 100);
            Check.due("level of the older", rights.level(older), 90);
        }
    }

    static void promise10_sameAgeGoesByNumber() {
        WellRights rights = new WellRights();
        rights.addWell(0, 10, 100, -10000, 5, 0);
        rights.addWell(0, 10, 100, 85, 5, 0);
        rights.addWell(0, 10, 100, -10000, 5, 0);
        rights.addWell(0, 10, 100, -10000, 5, 0);
        rights.plan(0, 10);
        rights.plan(2, 10);
        rights.plan(3, 10);
        Check.due("higher numbers, the highest first", rights.wouldStop(), 12);
        rights.plan(0, 4);
        Check.due("one is enough", rights.wouldStop(), 8);
    }

    static void promise10_oldestShortOfOneAgeIsTheLowerNumber() {
        WellRights rights = new WellRights();
        rights.addWell(0, 0, 100, 100, 1, 0);
        rights.addWell(0, 15, 100, 60, 1, 0);
        rights.addWell(0, 9, 100, -10000, 5, 0);
        rights.addWell(0, 20, 100, -10000, 9, 0);
        rights.plan(2, 100);
        rights.plan(3, 20);
        Check.due("well 0 goes first", rights.wouldStop(), 4);
    }

    static void promise10_olderAndItselfAreNotStopped() {
        WellRights rights = new WellRights();
        rights.addWell(0, 10, 100, -10000, 1, 0);
        rights.addWell(0, 10, 100, 10000, 5, 0);
        rights.plan(0, 50);
        rights.plan(1, 50);
        Check.due("nobody", rights.wouldStop(), 0);
        rights.addWell(0, 10, 100, -10000, 4, 0);
        rights.plan(2, 50);
        Check.due("nobody", rights.wouldStop(), 0);
    }

    static void promise10_reachCountsHoweverLittleItLowers() {
        WellRights rights = new WellRights();
        rights.addWell(0, 50, 0, 10, 1, 0);
        rights.addWell(1, 59, 0, -10000, 5, 0);
        rights.addWell(0, 60, 0, -10000, 6, 0);
        rights.addWell(2, 50, 0, -10000, 7, 0);
        rights.plan(1, 1);
        rights.plan(2, 500);
        rights.plan(3, 500);
        Check.due("only the one that reaches it", rights.wouldStop(), 2);
    }

    static void promise10_aStoppedWellIsShortToo() {
        WellRights rights = new WellRights();
        rights.addWell(0, 10, 100, 100, 1, 0);
        rights.addWell(0, 19, 100, 200, 5, 0);
        rights.addWell(0, 28, 100, -10000, 9, 0);
        rights.plan(1, 10);
        rights.plan(2, 10);
        Check.due("both", rights.wouldStop(), 6);
        Check.due("how many", rights.year(), 2);
    }

    static void promise10_allYoungerOnesOfEight() {
        WellRights rights = new WellRights();
        for (int well = 0; well < 8; well++) {
            rights.addWell(0, well, 0, 10000, 8 - well, 0);
            rights.plan(well, 1);
        }
        Check.due("all but the oldest", rights.wouldStop(), 127);
        Check.due("how many", rights.year(), 7);
    }

    static void promise10_isAnsweredBehindTheLastYearToo() {
        WellRights rights = new WellRights();
        rights.addWell(0, 10, 0, 0, 0, 0);
        rights.addWell(0, 10, 0, 0, 5, 0);
        for (int year = 0; year < 60; year++) {
            rights.year();
        }
        rights.plan(1, 1);
        Check.due("set", rights.wouldStop(), 2);
    }

    @Sentence("Returns what a well drew in the last year.")
    static void promise11_whatWasDrawn() {
        WellRights rights = new WellRights();
        rights.addWell(0, 10, 100, 50, 0, 0);
        rights.addWell(0, 10, 100, 0, 5, 0);
        rights.plan(0, 10);
        rights.plan(1, 20);
        Check.due("no year yet", rights.drew(1), 0);
        rights.year();
        Check.due("drew 0", rights.drew(0), 10);
        Check.due("drew 1", rights.drew(1), 20);
        rights.plan(1, 30);
        Check.due("last year's, not the plan", rights.drew(1), 20);
        rights.addWell(0, 10, 0, 0, 0, 0);
        Check.due("was not there", rights.drew(2), 0);
        rights.year();
        Check.due("stopped", rights.drew(1), 0);
        Check.noPlace("well 3", () -> rights.drew(3));
        Check.noPlace("well -1", () -> rights.drew(-1));
    }

    static void promise11_aFailedMeterDoesNotChangeIt() {
        WellRights rights = new WellRights();
        rights.addWell(0, 10, 100, -10000, 0, 0);
        rights.plan(0, 12);
        rights.toggleMeter(0);
        rights.power(0, 50);
        rights.year();
        Check.due("drew", rights.drew(0), 12);
    }

    @Sentence("Returns what was told for a well in the last year.")
    static void promise12_meterTellsWhatWasDrawn() {
        WellRights rights = new WellRights();
        rights.addWell(0, 10, 100, 50, 0, 0);
        rights.addWell(0, 10, 100, 0, 5, 0);
        rights.plan(0, 10);
        rights.plan(1, 20);
        rights.power(0, 900);
        Check.due("no year yet", rights.told(0), 0);
        rights.year();
        Check.due("told 0", rights.told(0), 10);
        Check.due("told 1", rights.told(1), 20);
        rights.addWell(0, 10, 0, 0, 0, 0);
        Check.due("was not there", rights.told(2), 0);
        rights.plan(1, 50);
        rights.year();
        Check.due("stopped", rights.told(1), 0);
        Check.noPlace("well 3", () -> rights.told(3));
        Check.noPlace("well -1", () -> rights.told(-1));
    }

    static void promise12_meanOfWorkingMetersOfTheLayer() {
        WellRights rights = new WellRights();
        rights.addWell(0, 0, 1000, -10000, 0, 0);
        rights.addWell(0, 20, 1000, -10000, 0, 0);
        rights.addWell(0, 40, 1000, -10000, 0, 0);
        rights.addWell(1, 60, 1000, -10000, 0, 0);
        rights.addWell(0, 80, 1000, -10000, 0, 0);
        rights.plan(0, 700);
        rights.plan(1, 10);
        rights.plan(2, 15);
        rights.plan(3, 300);
        rights.plan(4, 600);
        rights.toggleMeter(0);
        rights.toggleMeter(4);
        rights.year();
        Check.due("told 0, by wells behind it", rights.told(0), 12);
        Check.due("told 4", rights.told(4), 12);
        Check.due("told 3", rights.told(3), 300);
        rights.toggleMeter(1);
        rights.toggleMeter(2);
        rights.toggleMeter(3);
        rights.year();
        for (int well = 0; well < 5; well++) {
            Check.due("told without a meter in the layer, " + well, rights.told(well), 0);
        }
    }

    static void promise12_wellsAheadCountInTheMean() {
        WellRights rights = new WellRights();
        rights.addWell(2, 0, 1000, -10000, 0, 0);
        rights.addWell(2, 50, 1000, -10000, 0, 0);
        rights.plan(0, 7);
        rights.plan(1, 90);
        rights.toggleMeter(1);
        rights.year();
        Check.due("told 1", rights.told(1), 7);
    }

    static void promise12_aStoppedWellCountsInTheMean() {
        WellRights rights = new WellRights();
        rights.addWell(0, 0, 0, 0, 0, 0);
        rights.addWell(0, 0, 0, -10000, 5, 0);
        rights.addWell(0, 90, 0, -10000, 6, 0);
        rights.plan(1, 10);
        rights.plan(2, 31);
        rights.toggleMeter(0);
        Check.due("stopped", rights.year(), 1);
        Check.due("mean of 0 and 31", rights.told(0), 15);
    }
}
