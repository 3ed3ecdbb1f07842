/** Promises 13 and 14: meters that fail, and the power that fills in for them. */
final class MetersTest {
    private MetersTest() {
    }

    @Sentence("Lets the meter of a well fail, or work again.")
    static void promise13_failsAndWorksAgain() {
        WellRights rights = new WellRights();
        rights.addWell(0, 0, 1000, -10000, 0, 0);
        rights.addWell(0, 90, 1000, -10000, 0, 0);
        rights.plan(0, 8);
        Check.due("first", rights.toggleMeter(0), false);
        rights.year();
        Check.due("told while it fails", rights.told(0), 0);
        Check.due("second", rights.toggleMeter(0), true);
        rights.year();
        Check.due("told when it works", rights.told(0), 8);
        Check.due("third", rights.toggleMeter(0), false);
        Check.due("the other one", rights.toggleMeter(1), false);
    }

    static void promise13_noSuchWell() {
        WellRights rights = new WellRights();
        rights.addWell(0, 0, 0, 0, 0, 0);
        Check.noPlace("well 1", () -> rights.toggleMeter(1));
        Check.noPlace("well -1", () -> rights.toggleMeter(-1));
        Check.due("the meter worked", rights.toggleMeter(0), false);
    }

    @Sentence("Tells the power of a well for this year.")
    static void promise14_threeTimesThePowerIsTold() {
        WellRights rights = new WellRights();
        rights.addWell(0, 0, 1000, -10000, 0, 100);
        rights.addWell(0, 50, 1000, -10000, 0, 100);
        rights.plan(0, 10);
        rights.plan(1, 20);
        rights.toggleMeter(0);
        Check.due("first", rights.power(0, 40), 0);
        Check.due("second", rights.power(0, 1000), 40);
        rights.year();
        Check.due("told", rights.told(0), 3000);
        Check.due("fines", rights.fines(0), 5800);
        Check.due("forgotten behind the year", rights.power(0, 1), 0);
        rights.year();
        Check.due("told", rights.told(0), 3);
        rights.year();
        Check.due("told by its neighbour", rights.told(0), 20);
    }

    static void promise14_powerZeroIsAsNoPower() {
        WellRights rights = new WellRights();
        rights.addWell(0, 0, 1000, -10000, 0, 100);
        rights.addWell(0, 50, 1000, -10000, 0, 100);
        rights.plan(1, 20);
        rights.toggleMeter(0);
        rights.power(0, 7);
        Check.due("before", rights.power(0, 0), 7);
        rights.year();
        Check.due("told", rights.told(0), 20);
    }

    static void promise14_aWorkingMeterForgetsPowerToo() {
        WellRights rights = new WellRights();
        rights.addWell(0, 0, 1000, -10000, 0, 100);
        rights.power(0, 7);
        rights.year();
        Check.due("told", rights.told(0), 0);
        Check.due("before", rights.power(0, 0), 0);
    }

    static void promise14_powerOfOneIsNotUsedForOthers() {
        WellRights rights = new WellRights();
        rights.addWell(0, 0, 1000, -10000, 0, 100);
        rights.addWell(0, 50, 1000, -10000, 0, 100);
        rights.toggleMeter(0);
        rights.toggleMeter(1);
        rights.power(0, 5);
        rights.year();
        Check.due("told 0", rights.told(0), 15);
        Check.due("told 1", rights.told(1), 0);
    }

    static void promise14_wrongPowerChangesNothing() {
        WellRights rights = new WellRights();
        rights.addWell(0, 0, 0, 0, 0, 0);
        rights.power(0, 6);
        Check.noPlace("well 1", () -> rights.power(1, 0));
        Check.noPlace("well -1", () -> rights.power(-1, 1001));
        Check.badArgument("1001", () -> rights.power(0, 1001));
        Check.badArgument("-1", () -> rights.power(0, -1));
        Check.due("before", rights.power(0, 0), 6);
    }
}
