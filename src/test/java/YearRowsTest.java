/** The rows under promises 8 to 14: years, what is drawn and told, and meters. */
final class YearRowsTest {
    private YearRowsTest() {
    }

    /** Wells of which the second is older than all others, and so short that every well but it is stopped. */
    private static WellRights thirsty(int wells) {
        WellRights rights = new WellRights();
        for (int well = 0; well < wells; well++) {
            rights.addWell(0, 50, 0, well == 1 ? 10000 : -10000, well == 1 ? 0 : 5, 0);
        }
        return rights;
    }

    private static void pass(WellRights rights, int years) {
        for (int year = 0; year < years; year++) {
            rights.year();
        }
    }

    @Sentence("Returns how many wells were stopped.")
    static void promise8_returns() {
        Check.due("without wells", new WellRights().year(), 0);
        WellRights rights = thirsty(8);
        Check.due("nobody draws", rights.year(), 0);
        int drawers = 0;
        for (int well = 0; well < 8; well++) {
            rights.plan(well, 1);
            drawers += well == 1 ? 0 : 1;
            Check.due("drawers behind the oldest", rights.year(), drawers);
        }
        Check.due("the most", drawers, 7);
    }

    @Sentence("Throws `IllegalStateException` if 60 years have passed")
    static void promise8_throwsBehindSixtyYears() {
        WellRights rights = thirsty(2);
        rights.plan(0, 1);
        pass(rights, 59);
        Check.due("the 60th", rights.year(), 1);
        Check.notNow("the 61st", () -> rights.year());
        Check.notNow("the 61st, asked again", () -> rights.year());
    }

    @Sentence("Returns the number.")
    static void promise9_returns() {
        WellRights rights = new WellRights();
        for (int year = 0; year < 60; year++) {
            Check.due("years", rights.years(), year);
            rights.year();
        }
        Check.due("the most", rights.years(), 60);
        Check.notNow("the 61st", () -> rights.year());
        Check.due("the most still", rights.years(), 60);
    }

    @Sentence("Returns the wells, as a set: bit w for well w.")
    static void promise10_returns() {
        Check.due("without wells", new WellRights().wouldStop(), 0);
        WellRights rights = thirsty(8);
        Check.due("nobody draws", rights.wouldStop(), 0);
        for (int well = 0; well < 8; well++) {
            rights.plan(well, 1);
            Check.due("well " + well + " alone", rights.wouldStop(), well == 1 ? 0 : 1 << well);
            rights.plan(well, 0);
        }
        for (int well = 0; well < 8; well++) {
            rights.plan(well, 1);
        }
        Check.due("all but the oldest", rights.wouldStop(), 255 - 2);
    }

    @Sentence("- `well`: a well")
    static void promise11_well() {
        WellRights rights = Worlds.apart(8);
        for (int well = 0; well < 8; well++) {
            rights.plan(well, 30 + well);
        }
        rights.year();
        for (int well = 0; well < 8; well++) {
            Check.due("well " + well, rights.drew(well), 30 + well);
        }
        Check.noPlace("well -1", () -> rights.drew(-1));
        Check.noPlace("well 8", () -> rights.drew(8));
    }

    @Sentence("Returns the amount, 0 if it was stopped or was not there, or no year has passed.")
    static void promise11_returns() {
        WellRights rights = thirsty(2);
        rights.plan(0, 2000);
        Check.due("no year has passed", rights.drew(0), 0);
        Check.due("stopped", rights.year(), 1);
        Check.due("it was stopped", rights.drew(0), 0);
        rights.addWell(0, 90, 0, -10000, 0, 0);
        rights.plan(2, 7);
        Check.due("it was not there", rights.drew(2), 0);
        rights.year();
        Check.due("it was there", rights.drew(2), 7);
        rights.plan(2, 0);
        rights.year();
        Check.due("of the last year, not of the one before", rights.drew(2), 0);
    }

    @Sentence("Throws `IndexOutOfBoundsException` if there is no such well")
    static void promise11_throwsForNoWell() {
        Worlds.refusedForNoWell(WellRights::drew);
    }

    @Sentence("- `well`: a well")
    static void promise12_well() {
        WellRights rights = Worlds.apart(8);
        for (int well = 0; well < 8; well++) {
            rights.plan(well, 40 + well);
        }
        rights.year();
        for (int well = 0; well < 8; well++) {
            Check.due("well " + well, rights.told(well), 40 + well);
        }
        Check.noPlace("well -1", () -> rights.told(-1));
        Check.noPlace("well 8", () -> rights.told(8));
    }

    @Sentence("Returns the amount, 0 if it was not there, or no year has passed.")
    static void promise12_returns() {
        WellRights rights = Worlds.apart(1);
        rights.toggleMeter(0);
        rights.power(0, 1000);
        rights.plan(0, 2000);
        Check.due("no year has passed", rights.told(0), 0);
        rights.year();
        Check.due("the most", rights.told(0), 3000);
        rights.addWell(0, 90, 0, -10000, 0, 0);
        rights.plan(1, 2000);
        Check.due("it was not there", rights.told(1), 0);
        rights.year();
        Check.due("it was there", rights.told(1), 2000);
        rights.plan(1, 0);
        rights.year();
        Check.due("of the last year, not of the one before", rights.told(1), 0);
    }

    @Sentence("Throws `IndexOutOfBoundsException` if there is no such well")
    static void promise12_throwsForNoWell() {
        Worlds.refusedForNoWell(WellRights::told);
    }

    @Sentence("- `well`: a well")
    static void promise13_well() {
        WellRights rights = Worlds.apart(8);
        for (int well = 0; well < 8; well += 7) {
            Check.due("well " + well, rights.toggleMeter(well), false);
            rights.power(well, 10 + well);
        }
        rights.year();
        for (int well = 0; well < 8; well++) {
            Check.due("told for " + well, rights.told(well), well % 7 == 0 ? 3 * (10 + well) : 0);
        }
        Check.noPlace("well -1", () -> rights.toggleMeter(-1));
        Check.noPlace("well 8", () -> rights.toggleMeter(8));
    }

    @Sentence("Returns true if it works then.")
    static void promise13_returns() {
        WellRights rights = Worlds.apart(2);
        for (int round = 0; round < 3; round++) {
            Check.due("it fails", rights.toggleMeter(0), false);
            rights.year();
            Check.due("it works, behind a year too", rights.toggleMeter(0), true);
        }
        Check.due("the other one fails", rights.toggleMeter(1), false);
    }

    @Sentence("Throws `IndexOutOfBoundsException` if there is no such well")
    static void promise13_throwsForNoWell() {
        Worlds.refusedForNoWell(WellRights::toggleMeter);
    }

    @Sentence("- `well`: a well")
    static void promise14_well() {
        WellRights rights = Worlds.apart(8);
        for (int well = 0; well < 8; well++) {
            Check.due("well " + well, rights.power(well, 50 + well), 0);
        }
        for (int well = 0; well < 8; well++) {
            Check.due("well " + well + " again", rights.power(well, 0), 50 + well);
        }
        Check.noPlace("well -1", () -> rights.power(-1, 1));
        Check.noPlace("well 8", () -> rights.power(8, 1));
    }

    @Sentence("- `power`: 0 to 1000")
    static void promise14_power() {
        WellRights rights = Worlds.apart(2);
        rights.plan(1, 8);
        rights.toggleMeter(0);
        Check.badArgument("-1", () -> rights.power(0, -1));
        Check.badArgument("1001", () -> rights.power(0, 1001));
        rights.power(0, 1000);
        rights.year();
        Check.due("told by a power of 1000", rights.told(0), 3000);
        rights.power(0, 0);
        rights.year();
        Check.due("told by a power of 0", rights.told(0), 8);
    }

    @Sentence("Returns what was told for this year before.")
    static void promise14_returns() {
        WellRights rights = Worlds.apart(1);
        Check.due("to begin with", rights.power(0, 1000), 0);
        Check.due("the most", rights.power(0, 9), 1000);
        Check.due("the one before", rights.power(0, 9), 9);
        rights.year();
        Check.due("in a new year", rights.power(0, 0), 0);
        Check.due("the least", rights.power(0, 1), 0);
    }

    @Sentence("Throws `IndexOutOfBoundsException` if there is no such well")
    static void promise14_throwsForNoWell() {
        Worlds.refusedForNoWell((rights, well) -> rights.power(well, 1));
    }

    @Sentence("Throws `IllegalArgumentException` if power is out of range")
    static void promise14_throwsOutOfRange() {
        WellRights rights = Worlds.apart(1);
        rights.power(0, 5);
        Worlds.refusedOutside(0, 1000, power -> rights.power(0, power));
        Check.due("what was told", rights.power(0, 0), 5);
    }
}
