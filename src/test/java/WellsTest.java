/** Promises 1 to 7: a new object and its wells. */
final class WellsTest {
    private WellsTest() {
    }

    @Sentence("Begins without wells and ponds, in the year 0, with no recharge.")
    static void promise1_newObjectIsEmpty() {
        WellRights rights = new WellRights();
        Check.due("years", rights.years(), 0);
        Check.due("fund", rights.fund(), 0);
        Check.due("wouldStop", rights.wouldStop(), 0);
        Check.noPlace("level of no well", () -> rights.level(0));
        for (int layer = 0; layer < 3; layer++) {
            Check.due("recharge of layer " + layer, rights.setRecharge(layer, 7), 0);
        }
        Check.due("year without wells", rights.year(), 0);
        Check.due("years then", rights.years(), 1);
    }

    @Sentence("Begins without wells and ponds, in the year 0, with no recharge.")
    static void promise1_newObjectHasNoPondAndNoRecharge() {
        WellRights rights = new WellRights();
        rights.addWell(0, 50, 100, 0, 0, 10);
        rights.year();
        Check.due("level", rights.level(0), 100);
        rights.plan(0, 60);
        rights.year();
        rights.year();
        Check.due("first pond", rights.build(50), 1);
    }

    static void promise1_objectsShareNothing() {
        WellRights first = new WellRights();
        first.addWell(0, 0, 0, 0, 0, 0);
        first.setRecharge(0, 5);
        first.year();
        WellRights second = new WellRights();
        Check.noPlace("well of another object", () -> second.level(0));
        Check.due("recharge of another object", second.setRecharge(0, 1), 0);
        Check.due("years of another object", second.years(), 0);
    }

    static void promise2_numbersRiseUpToEight() {
        WellRights rights = new WellRights();
        for (int number = 0; number < 8; number++) {
            Check.due("number", rights.addWell(number % 3, number, number, 0, 5, 5), number);
        }
        Check.notNow("ninth well", () -> rights.addWell(0, 0, 0, 0, 0, 0));
        Check.noPlace("ninth well in no layer", () -> rights.addWell(3, 100, 0, 0, 0, 0));
        Check.badArgument("ninth well at no place", () -> rights.addWell(0, 100, 0, 0, 0, 0));
        Check.due("level of the last", rights.level(7), 7);
        Check.noPlace("level of the ninth", () -> rights.level(8));
    }

    @Sentence("Adds a well, for which 0 is planned, with an empty bank and a meter that works.")
    static void promise2_newWellIsBare() {
        WellRights rights = new WellRights();
        rights.addWell(1, 20, 300, 200, 10, 40);
        Check.due("level", rights.level(0), 300);
        Check.due("bank", rights.bank(0), 0);
        Check.due("fines", rights.fines(0), 0);
        Check.due("drew", rights.drew(0), 0);
        Check.due("told", rights.told(0), 0);
        Check.due("power before", rights.power(0, 0), 0);
        Check.due("plan before", rights.plan(0, 0), 0);
        Check.due("meter after a toggle", rights.toggleMeter(0), false);
    }

    static void promise2_edgesOfTheRanges() {
        WellRights rights = new WellRights();
        Check.due("lowest", rights.addWell(0, 0, -10000, -10000, 0, 0), 0);
        Check.due("highest", rights.addWell(2, 99, 10000, 10000, 1000, 1000), 1);
        Check.due("level", rights.level(0), -10000);
        Check.due("level", rights.level(1), 10000);
    }

    static void promise2_wrongArgumentsAddNothing() {
        WellRights rights = new WellRights();
        Check.noPlace("layer 3", () -> rights.addWell(3, 0, 0, 0, 0, 0));
        Check.noPlace("layer -1", () -> rights.addWell(-1, 0, 0, 0, 0, 0));
        Check.noPlace("layer first", () -> rights.addWell(3, -1, 10001, 10001, -1, -1));
        Check.badArgument("place 100", () -> rights.addWell(0, 100, 0, 0, 0, 0));
        Check.badArgument("place -1", () -> rights.addWell(0, -1, 0, 0, 0, 0));
        Check.badArgument("level 10001", () -> rights.addWell(0, 0, 10001, 0, 0, 0));
        Check.badArgument("level -10001", () -> rights.addWell(0, 0, -10001, 0, 0, 0));
        Check.badArgument("limit 10001", () -> rights.addWell(0, 0, 0, 10001, 0, 0));
        Check.badArgument("limit -10001", () -> rights.addWell(0, 0, 0, -10001, 0, 0));
        Check.badArgument("age 1001", () -> rights.addWell(0, 0, 0, 0, 1001, 0));
        Check.badArgument("age -1", () -> rights.addWell(0, 0, 0, 0, -1, 0));
        Check.badArgument("right 1001", () -> rights.addWell(0, 0, 0, 0, 0, 1001));
        Check.badArgument("right -1", () -> rights.addWell(0, 0, 0, 0, 0, -1));
        Check.badArgument("extreme level", () -> rights.addWell(0, 0, Integer.MIN_VALUE, 0, 0, 0));
        Check.due("first number", rights.addWell(0, 0, 0, 0, 0, 0), 0);
    }

    @Sentence("Plans what a well draws in years to come.")
    static void promise3_planHoldsForYearsToCome() {
        WellRights rights = new WellRights();
        rights.addWell(0, 0, 1000, -10000, 0, 1000);
        Check.due("first plan", rights.plan(0, 30), 0);
        Check.due("drew before a year", rights.drew(0), 0);
        rights.year();
        rights.year();
        Check.due("level", rights.level(0), 940);
        Check.due("second plan", rights.plan(0, 2000), 30);
        Check.due("third plan", rights.plan(0, 0), 2000);
    }

    static void promise3_wrongPlansChangeNothing() {
        WellRights rights = new WellRights();
        rights.addWell(0, 0, 0, 0, 0, 0);
        rights.plan(0, 12);
        Check.noPlace("well 1", () -> rights.plan(1, 5));
        Check.noPlace("well -1", () -> rights.plan(-1, 2001));
        Check.badArgument("2001", () -> rights.plan(0, 2001));
        Check.badArgument("-1", () -> rights.plan(0, -1));
        Check.due("plan before", rights.plan(0, 0), 12);
    }

    @Sentence("Sets the recharge of a layer.")
    static void promise4_rechargeRaisesItsLayer() {
        WellRights rights = new WellRights();
        rights.addWell(0, 0, 100, 0, 0, 0);
        rights.addWell(1, 0, 100, 0, 0, 0);
        rights.addWell(2, 0, 100, 0, 0, 0);
        Check.due("first", rights.setRecharge(1, 25), 0);
        Check.due("last layer", rights.setRecharge(2, 1000), 0);
        rights.year();
        rights.year();
        Check.due("layer 0", rights.level(0), 100);
        Check.due("layer 1", rights.level(1), 150);
        Check.due("layer 2", rights.level(2), 2100);
        Check.due("recharge before", rights.setRecharge(1, 0), 25);
        Check.due("recharge before", rights.setRecharge(1, 0), 0);
    }

    static void promise4_wrongRechargesChangeNothing() {
        WellRights rights = new WellRights();
        rights.setRecharge(0, 9);
        Check.noPlace("layer 3", () -> rights.setRecharge(3, 0));
        Check.noPlace("layer -1", () -> rights.setRecharge(-1, 1001));
        Check.badArgument("1001", () -> rights.setRecharge(0, 1001));
        Check.badArgument("-1", () -> rights.setRecharge(0, -1));
        Check.due("recharge before", rights.setRecharge(0, 0), 9);
    }

    @Sentence("Returns the reach of a well on another one.")
    static void promise5_reachByPlaceAndLayer() {
        WellRights rights = new WellRights();
        rights.addWell(0, 50, 0, 0, 0, 0);
        rights.addWell(0, 53, 0, 0, 0, 0);
        rights.addWell(1, 59, 0, 0, 0, 0);
        rights.addWell(2, 50, 0, 0, 0, 0);
        rights.addWell(0, 41, 0, 0, 0, 0);
        rights.addWell(0, 40, 0, 0, 0, 0);
        rights.addWell(1, 50, 0, 0, 0, 0);
        rights.addWell(0, 50, 0, 0, 0, 0);
        Check.due("itself", rights.reach(3, 3), 100);
        Check.due("same place", rights.reach(0, 7), 100);
        Check.due("3 apart", rights.reach(0, 1), 70);
        Check.due("3 apart, back", rights.reach(1, 0), 70);
        Check.due("9 apart", rights.reach(0, 4), 10);
        Check.due("10 apart", rights.reach(0, 5), 0);
        Check.due("13 apart", rights.reach(1, 5), 0);
        Check.due("next layer", rights.reach(0, 6), 50);
        Check.due("next layer, back", rights.reach(6, 0), 50);
        Check.due("next layer below", rights.reach(3, 6), 50);
        Check.due("next layer, 9 apart", rights.reach(0, 2), 5);
        Check.due("two layers apart", rights.reach(0, 3), 0);
    }

    static void promise5_reachOfNoWell() {
        WellRights rights = new WellRights();
        rights.addWell(0, 50, 0, 0, 0, 0);
        Check.noPlace("other 1", () -> rights.reach(0, 1));
        Check.noPlace("well 1", () -> rights.reach(1, 0));
        Check.noPlace("other -1", () -> rights.reach(0, -1));
        Check.noPlace("well -1", () -> rights.reach(-1, 0));
    }

    @Sentence("Returns the level of a well.")
    static void promise6_levelFollowsTheYears() {
        WellRights rights = new WellRights();
        rights.addWell(0, 50, 100, -10000, 0, 0);
        rights.addWell(0, 52, -100, -10000, 0, 0);
        rights.plan(0, 33);
        Check.due("planning alone", rights.level(0), 100);
        rights.year();
        Check.due("its own draw", rights.level(0), 67);
        Check.due("a neighbour's draw, rounded down", rights.level(1), -126);
        Check.noPlace("well 2", () -> rights.level(2));
        Check.noPlace("well -1", () -> rights.level(-1));
    }

    @Sentence("Returns a character of the text of a well: \"layer\", its layer, \"@\" and its place, then \":\" and its number, "
            + "such as \"layer1@20:3\".")
    static void promise7_signsOfTheText() {
        WellRights rights = new WellRights();
        rights.addWell(0, 0, 0, 0, 0, 0);
        rights.addWell(2, 99, 0, 0, 0, 0);
        rights.addWell(0, 9, 0, 0, 0, 0);
        rights.addWell(1, 20, 0, 0, 0, 0);
        dueSigns(rights, 0, "layer0@0:0");
        dueSigns(rights, 1, "layer2@99:1");
        dueSigns(rights, 2, "layer0@9:2");
        dueSigns(rights, 3, "layer1@20:3");
        Check.noPlace("well 4", () -> rights.sign(4, 0));
        Check.noPlace("well -1", () -> rights.sign(-1, 0));
    }

    private static void dueSigns(WellRights rights, int well, String text) {
        StringBuilder got = new StringBuilder();
        for (int place = 0; place < text.length(); place++) {
            got.append(rights.sign(well, place));
        }
        Check.dueText("text of " + well, got.toString(), text);
        Check.noPlace("behind the text", () -> rights.sign(well, text.length()));
        Check.noPlace("far behind the text", () -> rights.sign(well, Integer.MAX_VALUE));
        Check.noPlace("ahead of the text", () -> rights.sign(well, -1));
    }
}
