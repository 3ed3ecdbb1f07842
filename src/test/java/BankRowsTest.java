/** The rows under promises 15 to 20: banks, lending, fines, the fund and ponds. */
final class BankRowsTest {
    private BankRowsTest() {
    }

    /** Eight wells that draw nothing, behind a year: the bank of well w has 10 + w. */
    private static WellRights banked() {
        WellRights rights = Worlds.apart(8);
        rights.year();
        return rights;
    }

    /** Two wells; the bank of the first one has so much, 7000 to 13000, for the second one lent it what was lacking. */
    private static WellRights withBank(int water) {
        WellRights rights = new WellRights();
        rights.addWell(0, 0, 0, -10000, 0, 1000);
        rights.addWell(0, 90, 0, -10000, 0, 1000);
        for (int year = 0; year < 10; year++) {
            rights.year();
        }
        rights.lend(1, 0, water - rights.bank(0));
        return rights;
    }

    @Sentence("- `well`: a well")
    static void promise15_well() {
        WellRights rights = banked();
        for (int well = 0; well < 8; well++) {
            Check.due("well " + well, rights.bank(well), 10 + well);
        }
        Check.noPlace("well -1", () -> rights.bank(-1));
        Check.noPlace("well 8", () -> rights.bank(8));
    }

    @Sentence("Returns the water.")
    static void promise15_returns() {
        WellRights rights = new WellRights();
        rights.addWell(0, 0, 0, -10000, 0, 1000);
        Check.due("none to begin with", rights.bank(0), 0);
        for (int year = 0; year < 60; year++) {
            rights.year();
        }
        Check.due("sixty years of a right of 1000", rights.bank(0), 9977);
    }

    @Sentence("Throws `IndexOutOfBoundsException` if there is no such well")
    static void promise15_throwsForNoWell() {
        Worlds.refusedForNoWell(WellRights::bank);
    }

    @Sentence("- `from`: a well")
    static void promise16_from() {
        WellRights rights = banked();
        Check.due("the first", rights.lend(0, 3, 10), 10);
        Check.due("the last", rights.lend(7, 3, 17), 17);
        Check.due("bank of the first", rights.bank(0), 0);
        Check.due("bank of the last", rights.bank(7), 0);
        Check.noPlace("from -1", () -> rights.lend(-1, 3, 1));
        Check.noPlace("from 8", () -> rights.lend(8, 3, 1));
    }

    @Sentence("- `to`: another well")
    static void promise16_to() {
        WellRights rights = banked();
        Check.due("the first", rights.lend(3, 0, 1), 1);
        Check.due("the last", rights.lend(3, 7, 2), 2);
        Check.due("bank of the first", rights.bank(0), 11);
        Check.due("bank of the last", rights.bank(7), 19);
        Check.badArgument("to itself", () -> rights.lend(3, 3, 1));
        Check.noPlace("to -1", () -> rights.lend(3, -1, 1));
        Check.noPlace("to 8", () -> rights.lend(3, 8, 1));
    }

    @Sentence("- `amount`: 1 to 10000")
    static void promise16_amount() {
        WellRights rights = withBank(10001);
        Check.badArgument("0", () -> rights.lend(0, 1, 0));
        Check.badArgument("10001, which the bank has", () -> rights.lend(0, 1, 10001));
        Check.due("1", rights.lend(0, 1, 1), 1);
        Check.due("10000", rights.lend(0, 1, 10000), 10001);
        Check.due("bank", rights.bank(0), 0);
    }

    @Sentence("Returns what is lent from the one to the other, and was not called back, then.")
    static void promise16_returns() {
        WellRights rights = banked();
        Check.due("what is lent first", rights.lend(7, 0, 3), 3);
        Check.due("what is lent in all", rights.lend(7, 0, 4), 7);
        Check.due("to another one", rights.lend(7, 1, 5), 5);
        Check.due("from another one", rights.lend(6, 0, 2), 2);
        Check.due("the other way", rights.lend(0, 7, 1), 1);
        Check.due("called back", rights.callBack(7, 0), 7);
        Check.due("none of that", rights.lend(7, 0, 1), 1);
        Check.due("the other one's still", rights.lend(7, 1, 1), 6);
        rights.year();
        Check.due("what a bank loses is lent still", rights.lend(7, 1, 1), 7);
    }

    @Sentence("Throws `IndexOutOfBoundsException` if there is no such well")
    static void promise16_throwsForNoWell() {
        Worlds.refusedForNoWell((rights, from) -> rights.lend(from, 0, 1));
        Worlds.refusedForNoWell((rights, to) -> rights.lend(0, to, 1));
        Worlds.refusedForNoWell((rights, both) -> rights.lend(both, both, 1));
    }

    @Sentence("Throws `IllegalArgumentException` if both are the same, or amount is out of range")
    static void promise16_throwsForTheSameOrOutOfRange() {
        WellRights rights = banked();
        Check.badArgument("the first to itself", () -> rights.lend(0, 0, 1));
        Check.badArgument("the last to itself", () -> rights.lend(7, 7, 1));
        Check.badArgument("both at once", () -> rights.lend(7, 7, 0));
        Worlds.refusedOutside(1, 10000, amount -> rights.lend(0, 7, amount));
        Check.due("bank of the first", rights.bank(0), 10);
        Check.due("bank of the last", rights.bank(7), 17);
    }

    @Sentence("Throws `IllegalStateException` if the bank of the first one has less")
    static void promise16_throwsForTooLittle() {
        WellRights rights = banked();
        Check.notNow("one more than there is", () -> rights.lend(3, 7, 14));
        Check.due("all that there is", rights.lend(3, 7, 13), 13);
        Check.notNow("from an empty bank", () -> rights.lend(3, 7, 1));
        Check.due("lent water is lent on", rights.lend(7, 0, 17 + 13), 30);
        WellRights rich = withBank(9999);
        Check.notNow("10000 of 9999", () -> rich.lend(0, 1, 10000));
        Check.due("9999 of 9999", rich.lend(0, 1, 9999), 9999);
    }

    @Sentence("- `from`: a well, who lent")
    static void promise17_from() {
        WellRights rights = banked();
        rights.lend(0, 3, 4);
        rights.lend(7, 3, 5);
        Check.due("the first", rights.callBack(0, 3), 4);
        Check.due("the last", rights.callBack(7, 3), 5);
        Check.due("one who did not lend", rights.callBack(4, 3), 0);
        Check.due("who borrowed", rights.callBack(3, 7), 0);
        Check.noPlace("from -1", () -> rights.callBack(-1, 3));
        Check.noPlace("from 8", () -> rights.callBack(8, 3));
    }

    @Sentence("- `to`: another well")
    static void promise17_to() {
        WellRights rights = banked();
        rights.lend(3, 0, 4);
        rights.lend(3, 7, 5);
        Check.due("the first", rights.callBack(3, 0), 4);
        Check.due("the last", rights.callBack(3, 7), 5);
        Check.badArgument("itself", () -> rights.callBack(3, 3));
        Check.noPlace("to -1", () -> rights.callBack(3, -1));
        Check.noPlace("to 8", () -> rights.callBack(3, 8));
    }

    @Sentence("Returns how much comes back.")
    static void promise17_returns() {
        WellRights rights = banked();
        Check.due("nothing is lent", rights.callBack(7, 0), 0);
        rights.lend(7, 0, 16);
        Check.due("all comes back", rights.callBack(7, 0), 16);
        Check.due("nothing is left", rights.callBack(7, 0), 0);
        Check.due("bank of the one", rights.bank(7), 17);
        Check.due("bank of the other", rights.bank(0), 10);
    }

    @Sentence("Throws `IndexOutOfBoundsException` if there is no such well")
    static void promise17_throwsForNoWell() {
        Worlds.refusedForNoWell((rights, from) -> rights.callBack(from, 0));
        Worlds.refusedForNoWell((rights, to) -> rights.callBack(0, to));
        Worlds.refusedForNoWell((rights, both) -> rights.callBack(both, both));
    }

    @Sentence("Throws `IllegalArgumentException` if both are the same")
    static void promise17_throwsForTheSame() {
        WellRights rights = banked();
        for (int well = 0; well < 8; well++) {
            int both = well;
            Check.badArgument("both " + both, () -> rights.callBack(both, both));
        }
    }

    @Sentence("- `well`: a well")
    static void promise18_well() {
        WellRights rights = Worlds.apart(8);
        for (int well = 0; well < 8; well++) {
            rights.plan(well, 10 + well + 1 + well);
        }
        rights.year();
        for (int well = 0; well < 8; well++) {
            Check.due("well " + well, rights.fines(well), 2 * (1 + well));
        }
        Check.noPlace("well -1", () -> rights.fines(-1));
        Check.noPlace("well 8", () -> rights.fines(8));
    }

    @Sentence("Returns the sum.")
    static void promise18_returns() {
        WellRights rights = Worlds.together();
        Check.due("none to begin with", rights.fines(0), 0);
        rights.toggleMeter(0);
        for (int year = 1; year <= 60; year++) {
            rights.power(0, 1000);
            rights.year();
            Check.due("of all years", rights.fines(0), 6000 * year);
        }
        Check.due("none for the other one", rights.fines(1), 0);
    }

    @Sentence("Throws `IndexOutOfBoundsException` if there is no such well")
    static void promise18_throwsForNoWell() {
        Worlds.refusedForNoWell(WellRights::fines);
    }

    @Sentence("Returns the fines less what was paid for ponds.")
    static void promise19_returns() {
        Check.due("without wells", new WellRights().fund(), 0);
        WellRights rights = Worlds.apart(8);
        for (int well = 0; well < 8; well++) {
            rights.plan(well, 10 + well + 32);
        }
        rights.year();
        Check.due("the fines of all", rights.fund(), 8 * 64);
        for (int pond = 1; pond <= 5; pond++) {
            rights.build(0);
            Check.due("less ponds", rights.fund(), 8 * 64 - 100 * pond);
        }
        Check.notNow("one too many", () -> rights.build(0));
        Check.due("which costs nothing", rights.fund(), 12);
    }

    @Sentence("- `place`: 0 to 99")
    static void promise20_place() {
        for (int place : new int[] {0, 99}) {
            WellRights rights = Worlds.withFund(100);
            rights.addWell(0, place, 0, -10000, 0, 0);
            Check.badArgument("place -1", () -> rights.build(-1));
            Check.badArgument("place 100", () -> rights.build(100));
            Check.due("place " + place, rights.build(place), 1);
            rights.year();
            Check.due("it raises a well there", rights.level(1), 20);
        }
    }

    @Sentence("Returns number of ponds then.")
    static void promise20_returns() {
        WellRights rights = Worlds.withFund(500);
        for (int pond = 1; pond <= 5; pond++) {
            Check.due("ponds", rights.build(7), pond);
        }
    }

    @Sentence("Throws `IllegalArgumentException` if place is out of range")
    static void promise20_throwsOutOfRange() {
        WellRights rights = Worlds.withFund(100);
        Worlds.refusedOutside(0, 99, place -> rights.build(place));
        Check.due("nothing was paid", rights.fund(), 100);
        Check.due("nothing was built", rights.build(0), 1);
    }

    @Sentence("Throws `IllegalStateException` if there is less in the fund, or there are 5 ponds")
    static void promise20_throwsForTooLittleOrFivePonds() {
        // A fine is 2 for each, so a fund is even: 98 is the most that is too little.
        WellRights poor = Worlds.withFund(98);
        Check.notNow("98 in the fund", () -> poor.build(0));
        WellRights enough = Worlds.withFund(100);
        Check.due("100 in the fund", enough.build(0), 1);
        Check.notNow("0 in the fund", () -> enough.build(0));
        WellRights four = Worlds.withFund(498);
        for (int pond = 1; pond <= 4; pond++) {
            Check.due("ponds", four.build(0), pond);
        }
        Check.notNow("98 in the fund and four ponds", () -> four.build(0));
        WellRights rich = Worlds.withFund(4000);
        for (int pond = 1; pond <= 5; pond++) {
            Check.due("ponds", rich.build(0), pond);
        }
        Check.notNow("a sixth, though the fund has enough", () -> rich.build(0));
        Check.notNow("a sixth elsewhere", () -> rich.build(99));
    }
}
