/** The words under "Terms", from the numbers of the wells to lending, one by one. */
final class TermsTest {
    private TermsTest() {
    }

    /** An old well at its limit of 0 and, at the same place, so many younger ones of one age that draw nothing. */
    private static WellRights atTheLimit(int younger) {
        WellRights rights = new WellRights();
        rights.addWell(0, 50, 0, 0, 0, 0);
        for (int well = 0; well < younger; well++) {
            rights.addWell(0, 50, 0, -10000, 5, 0);
        }
        return rights;
    }

    /** One well whose right is 100 and whose bank has 90 when a year begins and 81 when it goes on. */
    private static WellRights withBankOf90() {
        WellRights rights = new WellRights();
        rights.addWell(0, 0, 10000, -10000, 0, 100);
        rights.plan(0, 10);
        rights.year();
        rights.plan(0, 100);
        return rights;
    }

    @Sentence("Wells are numbered from 0; there are at most 8.")
    static void promise2_atMostEight() {
        WellRights rights = new WellRights();
        for (int number = 0; number < 8; number++) {
            Check.due("number", rights.addWell(1, 5, 0, 0, 0, 0), number);
        }
        for (int asked = 0; asked < 3; asked++) {
            Check.notNow("a ninth", () -> rights.addWell(1, 5, 0, 0, 0, 0));
            rights.year();
        }
        Check.noPlace("well 8", () -> rights.level(8));
    }

    @Sentence("a lower one is older")
    static void promise10_lowerAgeIsOlder() {
        for (int age : new int[] {499, 501}) {
            WellRights rights = new WellRights();
            rights.addWell(0, 50, 0, 10000, 500, 0);
            rights.addWell(0, 50, 0, 10000, age, 0);
            rights.plan(0, 1);
            rights.plan(1, 1);
            Check.due("the one with the higher age is stopped", rights.wouldStop(), age == 499 ? 1 : 2);
        }
    }

    @Sentence("of wells with the same age the one with the lower number is older")
    static void promise10_lowerNumberIsOlderInOneAge() {
        WellRights rights = new WellRights();
        for (int well = 0; well < 3; well++) {
            rights.addWell(0, 50, 0, well == 1 ? 10000 : -10000, 5, 0);
            rights.plan(well, 1);
        }
        Check.due("the higher number is younger, the lower one is not", rights.wouldStop(), 4);
        WellRights all = atTheLimit(3);
        for (int well = 1; well <= 3; well++) {
            all.plan(well, 1);
        }
        all.setRecharge(0, 2);
        Check.due("the highest number is the youngest", all.wouldStop(), 8);
    }

    @Sentence("100 less 10 for each of the difference of their places, but 0 at least, if they are in the same layer")
    static void promise5_zeroAtLeast() {
        int[] places = {0, 1, 8, 9, 10, 11, 20, 99};
        int[] due = {100, 90, 20, 10, 0, 0, 0, 0};
        for (int layer = 0; layer <= 2; layer++) {
            WellRights rights = new WellRights();
            for (int well = 0; well < places.length; well++) {
                rights.addWell(layer, places[well], 0, 0, 0, 0);
                Check.due("reach on place " + places[well], rights.reach(0, well), due[well]);
                Check.due("reach from place " + places[well], rights.reach(well, 0), due[well]);
            }
        }
    }

    @Sentence("half of that, rounded down, if their layers differ by 1")
    static void promise5_halfRoundedDown() {
        int[] places = {50, 51, 53, 59, 60, 61, 0};
        int[] due = {50, 45, 35, 5, 0, 0, 0};
        for (int layer = 0; layer <= 2; layer++) {
            WellRights rights = new WellRights();
            rights.addWell(layer, 50, 0, 0, 0, 0);
            int next = layer == 1 ? 2 : 1;
            for (int k = 0; k < places.length; k++) {
                int well = rights.addWell(next, places[k], 0, 0, 0, 0);
                Check.due("reach on place " + places[k], rights.reach(0, well), due[k]);
                Check.due("reach from place " + places[k], rights.reach(well, 0), due[k]);
            }
        }
    }

    @Sentence("and 0 otherwise")
    static void promise5_zeroOtherwise() {
        WellRights rights = new WellRights();
        rights.addWell(0, 50, 0, 0, 0, 0);
        rights.addWell(2, 50, 0, 0, 0, 0);
        rights.addWell(2, 51, 0, 0, 0, 0);
        Check.due("two layers down", rights.reach(0, 1), 0);
        Check.due("two layers up", rights.reach(1, 0), 0);
        Check.due("two layers and a place", rights.reach(0, 2), 0);
    }

    @Sentence("Of a well on itself it is 100.")
    static void promise5_onItself() {
        WellRights rights = new WellRights();
        for (int well = 0; well < 8; well++) {
            rights.addWell(well % 3, 14 * well, 0, 0, 0, 0);
            Check.due("well " + well, rights.reach(well, well), 100);
        }
    }

    @Sentence("A draw of an amount lowers a well by amount * reach / 100, rounded down.")
    static void promise8_drawsRoundedDown() {
        int[] amounts = {0, 1, 9, 10, 11, 19, 20, 1999, 2000};
        int[] byTen = {0, 0, 0, 1, 1, 1, 2, 199, 200};
        int[] byFive = {0, 0, 0, 0, 0, 0, 1, 99, 100};
        for (int k = 0; k < amounts.length; k++) {
            WellRights rights = new WellRights();
            rights.addWell(0, 50, 0, -10000, 0, 0);
            rights.addWell(0, 59, 0, -10000, 0, 0);
            rights.addWell(1, 41, 0, -10000, 0, 0);
            rights.plan(0, amounts[k]);
            rights.year();
            Check.due("itself", rights.level(0), -amounts[k]);
            Check.due("by a reach of 10", rights.level(1), -byTen[k]);
            Check.due("by a reach of 5", rights.level(2), -byFive[k]);
        }
    }

    @Sentence("less what each draw lowers it by")
    static void promise8_eachDrawIsRoundedAlone() {
        WellRights rights = new WellRights();
        rights.addWell(0, 50, 0, -10000, 0, 0);
        rights.addWell(0, 59, 0, -10000, 0, 0);
        rights.addWell(0, 41, 0, -10000, 0, 0);
        rights.plan(1, 19);
        rights.plan(2, 19);
        rights.year();
        Check.due("1 and 1, not 3", rights.level(0), -2);
    }

    @Sentence("A pond is at a place and reaches wells as a well of the layer 0 would.")
    static void promise20_pondsReachAsLayerZero() {
        WellRights rights = Worlds.withFund(100);
        for (int layer = 0; layer <= 2; layer++) {
            rights.addWell(layer, 51, 0, -10000, 0, 0);
            rights.addWell(layer, 60, 0, -10000, 0, 0);
        }
        rights.build(51);
        rights.year();
        int[] due = {20, 2, 10, 1, 0, 0};
        for (int k = 0; k < due.length; k++) {
            Check.due("level " + k, rights.level(1 + k), due[k]);
        }
    }

    @Sentence("for each pond, 20 * reach / 100, rounded down")
    static void promise20_pondsByEveryReach() {
        for (int apart = 0; apart <= 11; apart++) {
            WellRights rights = Worlds.withFund(200);
            rights.addWell(0, 60 + apart, 0, -10000, 0, 0);
            rights.addWell(1, 60 - apart, 0, -10000, 0, 0);
            rights.build(60);
            rights.year();
            int reach = Math.max(0, 100 - 10 * apart);
            Check.due("one pond, " + apart + " apart", rights.level(1), 20 * reach / 100);
            Check.due("one pond, the next layer", rights.level(2), 20 * (reach / 2) / 100);
            rights.build(60);
            rights.year();
            Check.due("then two ponds", rights.level(1), 3 * (20 * reach / 100));
            Check.due("then two ponds, the next layer", rights.level(2), 3 * (20 * (reach / 2) / 100));
        }
    }

    @Sentence("First it is found who draws: each well that is not stopped draws what is planned for it.")
    static void promise11_whoIsNotStoppedDrawsItsPlan() {
        WellRights rights = atTheLimit(3);
        rights.addWell(2, 50, 0, -10000, 9, 0);
        rights.addWell(0, 90, 0, -10000, 9, 0);
        int[] plans = {0, 3, 5, 0, 2000, 7};
        int[] due = {0, 3, 0, 0, 2000, 7};
        for (int well = 0; well < plans.length; well++) {
            rights.plan(well, plans[well]);
        }
        rights.setRecharge(0, 3);
        Check.due("well 2 is stopped", rights.wouldStop(), 4);
        rights.year();
        for (int well = 0; well < due.length; well++) {
            Check.due("well " + well, rights.drew(well), due[well]);
        }
    }

    @Sentence("To begin with nobody is stopped.")
    static void promise8_nobodyIsStoppedForTwoYears() {
        WellRights rights = atTheLimit(1);
        rights.plan(1, 9);
        Check.due("stopped", rights.year(), 1);
        rights.setRecharge(0, 9);
        Check.due("not the year behind", rights.year(), 0);
        Check.due("it draws", rights.drew(1), 9);
    }

    @Sentence("A well is short if its level behind is less than its limit.")
    static void promise10_lessThanTheLimit() {
        for (int limit : new int[] {-10000, -1, 0, 1, 9999}) {
            WellRights rights = new WellRights();
            rights.addWell(0, 50, limit + 1, limit, 0, 0);
            rights.addWell(0, 50, 0, -10000, 5, 0);
            rights.plan(1, 1);
            Check.due("at the limit", rights.wouldStop(), 0);
            rights.plan(1, 2);
            Check.due("less than the limit", rights.wouldStop(), 2);
        }
    }

    @Sentence("that a younger well reaches (its reach is above 0, however little it lowers them)")
    static void promise10_reachAboveZero() {
        int[] places = {59, 60};
        for (int layer = 0; layer <= 2; layer++) {
            for (int place : places) {
                WellRights rights = new WellRights();
                rights.addWell(0, 50, 0, 1, 0, 0);
                rights.addWell(layer, place, 0, -10000, 5, 0);
                rights.plan(1, 1);
                int due = place == 59 && layer < 2 ? 2 : 0;
                Check.due("a draw of 1 in layer " + layer + " at " + place, rights.wouldStop(), due);
            }
        }
    }

    @Sentence("which draws more than 0")
    static void promise10_drawsMoreThanZero() {
        WellRights rights = new WellRights();
        rights.addWell(0, 50, 0, 10000, 0, 0);
        rights.addWell(0, 50, 0, -10000, 4, 0);
        rights.addWell(0, 50, 0, -10000, 5, 0);
        Check.due("nobody draws", rights.wouldStop(), 0);
        rights.plan(1, 1);
        Check.due("the youngest draws 0", rights.wouldStop(), 2);
        rights.plan(2, 1);
        Check.due("both draw", rights.wouldStop(), 6);
    }

    @Sentence("the oldest one is taken, and of those younger ones the youngest one is stopped")
    static void promise10_oldestAndYoungest() {
        WellRights rights = new WellRights();
        rights.addWell(0, 20, 0, 0, 2, 0);
        rights.addWell(0, 35, 0, -5, 3, 0);
        rights.addWell(0, 28, 0, -10000, 7, 0);
        rights.addWell(0, 40, 0, -10000, 9, 0);
        rights.plan(2, 50);
        rights.plan(3, 10);
        // Well 1 alone would have the younger well 3 stopped; well 0 is older, and what is stopped for it is enough.
        Check.due("for the oldest", rights.wouldStop(), 4);
        rights.setRecharge(0, 10);
        Check.due("the oldest one is not short", rights.wouldStop(), 8);
    }

    @Sentence("this is done again until there is no such well")
    static void promise10_untilThereIsNone() {
        WellRights rights = atTheLimit(7);
        for (int well = 1; well <= 7; well++) {
            rights.plan(well, 10);
        }
        int[] recharges = {0, 9, 10, 19, 20, 60, 69, 70, 71};
        int[] due = {254, 254, 252, 252, 248, 128, 128, 0, 0};
        for (int k = 0; k < recharges.length; k++) {
            rights.setRecharge(0, recharges[k]);
            Check.due("with a recharge of " + recharges[k], rights.wouldStop(), due[k]);
        }
    }

    @Sentence("Then all levels become the levels behind.")
    static void promise6_allLevelsBecomeTheLevelsBehind() {
        WellRights rights = new WellRights();
        rights.addWell(0, 50, 100, 91, 1, 0);
        rights.addWell(0, 51, 0, -10000, 9, 0);
        rights.addWell(1, 50, 50, -10000, 3, 0);
        rights.plan(0, 10);
        rights.plan(1, 50);
        rights.plan(2, 8);
        rights.setRecharge(0, 5);
        int[] stopped = {1, 2};
        int[][] due = {{100 + 5 - 10 - 4, 0 + 5 - 9 - 3, 50 - 5 - 8}, {91 + 5 - 10, -7 + 5 - 9, 37 - 5}};
        for (int year = 0; year < due.length; year++) {
            Check.due("stopped", rights.year(), stopped[year]);
            for (int well = 0; well < due[year].length; well++) {
                Check.due("level " + well + " behind year " + year, rights.level(well), due[year][well]);
            }
        }
    }

    @Sentence("Then, by rising wells: its meter tells what it drew, if it works.")
    static void promise12_metersThatWorkTellWhatWasDrawn() {
        WellRights rights = Worlds.apart(8);
        for (int well = 0; well < 8; well++) {
            rights.plan(well, 3 * well + 1);
            rights.power(well, well % 2 == 0 ? 0 : 900);
            if (well % 2 == 0) {
                rights.toggleMeter(well);
            }
        }
        rights.year();
        for (int well = 0; well < 8; well++) {
            int mean = (4 + 10 + 16 + 22) / 4;
            Check.due("well " + well, rights.told(well), well % 2 == 0 ? mean : 3 * well + 1);
        }
    }

    @Sentence("What is told for wells with working meters is known before")
    static void promise12_workingMetersAreKnownBefore() {
        int[] due = {20, 19, 18, 17, 17, 16, 15, 15};
        for (int failed = 0; failed < 8; failed++) {
            WellRights rights = Worlds.apart(8);
            for (int well = 0; well < 8; well++) {
                rights.plan(well, 100);
            }
            rights.year();
            for (int well = 0; well < 8; well++) {
                rights.plan(well, 5 * well);
            }
            rights.toggleMeter(failed);
            rights.year();
            Check.due("by wells ahead of " + failed + " and behind it", rights.told(failed), due[failed]);
        }
    }

    @Sentence("3 times the power that was told for this year, if that is above 0")
    static void promise14_powerAboveZero() {
        int[] powers = {1, 2, 999, 1000, 0};
        int[] due = {3, 6, 2997, 3000, 8};
        WellRights rights = Worlds.apart(2);
        rights.plan(0, 5);
        rights.plan(1, 8);
        rights.toggleMeter(0);
        for (int k = 0; k < powers.length; k++) {
            rights.power(0, powers[k]);
            rights.year();
            Check.due("told by a power of " + powers[k], rights.told(0), due[k]);
        }
    }

    @Sentence("the mean, rounded down, of what was told for the wells of its layer whose meters work")
    static void promise12_meanRoundedDown() {
        int[] draws = {0, 1, 2, 3, 4, 5, 2000};
        int[] due = {3, 4, 4, 4, 5, 5, 670};
        WellRights rights = new WellRights();
        for (int well = 0; well < 4; well++) {
            rights.addWell(1, 25 * well, 10000, -10000, 0, 0);
        }
        rights.addWell(0, 99, 0, -10000, 0, 0);
        rights.addWell(2, 99, 0, -10000, 0, 0);
        rights.plan(0, 4);
        rights.plan(1, 7);
        rights.plan(2, 900);
        rights.plan(4, 800);
        rights.plan(5, 700);
        rights.toggleMeter(2);
        for (int k = 0; k < draws.length; k++) {
            rights.plan(3, draws[k]);
            rights.year();
            Check.due("the mean of 4, 7 and " + draws[k], rights.told(2), due[k]);
        }
    }

    @Sentence("or 0 if there are none")
    static void promise12_zeroIfThereAreNone() {
        WellRights rights = Worlds.apart(2);
        rights.addWell(1, 99, 100, -10000, 0, 0);
        rights.plan(0, 40);
        rights.plan(1, 50);
        rights.plan(2, 60);
        rights.toggleMeter(0);
        rights.year();
        Check.due("one meter works", rights.told(0), 50);
        rights.toggleMeter(1);
        rights.year();
        Check.due("no meter of the layer works", rights.told(0), 0);
        Check.due("nor for the other one", rights.told(1), 0);
        Check.due("the other layer's works", rights.told(2), 60);
    }

    @Sentence("what is told for failed ones is never used for others")
    static void promise12_failedOnesAreNotUsed() {
        WellRights rights = Worlds.apart(4);
        rights.plan(3, 6);
        rights.toggleMeter(0);
        rights.toggleMeter(1);
        rights.toggleMeter(2);
        rights.power(0, 100);
        rights.power(2, 100);
        rights.year();
        Check.due("between two with power", rights.told(1), 6);
        rights.toggleMeter(3);
        rights.power(0, 100);
        rights.year();
        Check.due("without a meter that works", rights.told(1), 0);
        Check.due("nor from the year before", rights.told(3), 0);
    }

    @Sentence("The power that was told is forgotten behind the year.")
    static void promise14_powerIsForgotten() {
        WellRights rights = Worlds.apart(2);
        rights.toggleMeter(0);
        rights.power(0, 7);
        rights.power(1, 8);
        rights.year();
        Check.due("told in that year", rights.told(0), 21);
        rights.year();
        Check.due("told in the next one", rights.told(0), 0);
        Check.due("power of the failed one", rights.power(0, 0), 0);
        Check.due("power of the other one", rights.power(1, 0), 0);
    }

    @Sentence("Of what is told, up to the right is free.")
    static void promise18_upToTheRight() {
        for (int right : new int[] {0, 1, 999, 1000}) {
            WellRights rights = new WellRights();
            rights.addWell(0, 0, 10000, -10000, 0, right);
            rights.plan(0, right);
            rights.year();
            Check.due("the right", rights.fines(0), 0);
            Check.due("all of it", rights.bank(0), 0);
            rights.plan(0, right + 1);
            rights.year();
            Check.due("one above the right", rights.fines(0), 2);
        }
    }

    @Sentence("What is above is taken from its bank, as far as that goes")
    static void promise15_asFarAsTheBankGoes() {
        int[] above = {0, 1, 80, 81, 82};
        for (int more : above) {
            WellRights rights = withBankOf90();
            rights.plan(0, 100 + more);
            rights.year();
            Check.due("bank behind " + more, rights.bank(0), Math.max(0, 81 - more));
            Check.due("fines behind " + more, rights.fines(0), more == 82 ? 2 : 0);
        }
    }

    @Sentence("of the rest it is fined 2 for each, which go to the fund")
    static void promise18_twoForEach() {
        WellRights rights = withBankOf90();
        rights.plan(0, 100 + 81 + 5);
        rights.year();
        Check.due("fines", rights.fines(0), 10);
        Check.due("fund", rights.fund(), 10);
        rights.plan(0, 2000);
        rights.year();
        Check.due("fines of both years", rights.fines(0), 10 + 3800);
        Check.due("fund of both years", rights.fund(), 10 + 3800);
    }

    @Sentence("If less than the right is told, and it was not stopped, the rest of the right is added to its bank.")
    static void promise15_lessThanTheRight() {
        WellRights rights = atTheLimit(0);
        rights.addWell(0, 50, 0, -10000, 5, 100);
        rights.plan(1, 99);
        rights.setRecharge(0, 100);
        rights.year();
        Check.due("one less", rights.bank(1), 1);
        rights.plan(1, 100);
        rights.year();
        Check.due("as much: a bank of 1 loses 1", rights.bank(1), 0);
        rights.setRecharge(0, 0);
        rights.plan(1, 101);
        Check.due("stopped", rights.year(), 1);
        Check.due("less, but it was stopped", rights.bank(1), 0);
        rights.plan(1, 0);
        rights.year();
        Check.due("nothing, but it was not stopped", rights.bank(1), 100);
    }

    @Sentence("At the beginning of a year, before all else, each bank loses a tenth, rounded up.")
    static void promise15_tenthRoundedUp() {
        int[] rights = {0, 1, 2, 9, 10, 11, 19, 20, 21, 999, 1000};
        int[] due = {0, 0, 1, 8, 9, 9, 17, 18, 18, 899, 900};
        for (int k = 0; k < rights.length; k++) {
            WellRights wells = new WellRights();
            wells.addWell(0, 0, 10000, -10000, 0, rights[k]);
            wells.year();
            wells.plan(0, rights[k]);
            wells.year();
            Check.due("bank of " + rights[k] + " behind a year", wells.bank(0), due[k]);
        }
    }

    @Sentence("A well lends some of its bank to another one: it is in the bank of that then.")
    static void promise16_inTheOtherBank() {
        WellRights rights = withBankOf90();
        rights.addWell(0, 90, 10000, -10000, 0, 0);
        rights.lend(0, 1, 90);
        Check.due("bank of the one", rights.bank(0), 0);
        Check.due("bank of the other", rights.bank(1), 90);
        rights.plan(1, 82);
        rights.year();
        Check.due("it loses its tenth there, and is used there", rights.bank(1), 0);
        Check.due("one was lacking", rights.fines(1), 2);
    }

    @Sentence("It can be called back, as far as the bank of the other one has it.")
    static void promise17_asFarAsTheOtherBankHasIt() {
        WellRights rights = withBankOf90();
        rights.addWell(0, 90, 10000, -10000, 0, 0);
        rights.lend(0, 1, 90);
        rights.year();
        Check.due("the bank has less than is lent", rights.callBack(0, 1), 81);
        Check.due("the bank has nothing", rights.callBack(0, 1), 0);
        rights.lend(0, 1, 1);
        Check.due("the bank has some of it", rights.callBack(0, 1), 1);
        rights.lend(0, 1, 1);
        Check.due("what did not come back is lent still", rights.lend(0, 1, 1), 9 + 2);
        Check.due("the bank has it all", rights.callBack(0, 1), 2);
        Check.due("nothing was made on the way", rights.bank(0) + rights.bank(1), 81);
    }
}
