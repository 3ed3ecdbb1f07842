/** The rows under promises 2 to 7: the last value inside and the first one outside of each range, and what is refused. */
final class WellRowsTest {
    private WellRowsTest() {
    }

    private static String textOf(WellRights rights, int well) {
        StringBuilder text = new StringBuilder();
        try {
            while (true) {
                text.append(rights.sign(well, text.length()));
            }
        } catch (IndexOutOfBoundsException behindTheText) {
            return text.toString();
        }
    }

    @Sentence("- `layer`: 0 to 2")
    static void promise2_layer() {
        WellRights rights = new WellRights();
        Check.noPlace("layer -1", () -> rights.addWell(-1, 5, 0, 0, 0, 0));
        Check.noPlace("layer 3", () -> rights.addWell(3, 5, 0, 0, 0, 0));
        for (int layer = 0; layer <= 2; layer++) {
            Check.due("layer " + layer, rights.addWell(layer, 5, 0, 0, 0, 0), layer);
            Check.dueText("its text", textOf(rights, layer), "layer" + layer + "@5:" + layer);
        }
    }

    @Sentence("- `place`: 0 to 99")
    static void promise2_place() {
        WellRights rights = new WellRights();
        Check.badArgument("place -1", () -> rights.addWell(0, -1, 0, 0, 0, 0));
        Check.badArgument("place 100", () -> rights.addWell(0, 100, 0, 0, 0, 0));
        Check.due("place 0", rights.addWell(0, 0, 0, 0, 0, 0), 0);
        Check.due("place 99", rights.addWell(0, 99, 0, 0, 0, 0), 1);
        Check.dueText("text of place 0", textOf(rights, 0), "layer0@0:0");
        Check.dueText("text of place 99", textOf(rights, 1), "layer0@99:1");
    }

    @Sentence("- `level`: -10000 to 10000")
    static void promise2_level() {
        WellRights rights = new WellRights();
        Check.badArgument("level -10001", () -> rights.addWell(0, 5, -10001, 0, 0, 0));
        Check.badArgument("level 10001", () -> rights.addWell(0, 5, 10001, 0, 0, 0));
        Check.due("level -10000", rights.addWell(0, 5, -10000, 0, 0, 0), 0);
        Check.due("level 10000", rights.addWell(0, 5, 10000, 0, 0, 0), 1);
        Check.due("the low level", rights.level(0), -10000);
        Check.due("the high level", rights.level(1), 10000);
    }

    @Sentence("- `limit`: -10000 to 10000")
    static void promise2_limit() {
        for (int limit : new int[] {-10000, 10000}) {
            WellRights rights = new WellRights();
            Check.badArgument("limit -10001", () -> rights.addWell(0, 5, 0, -10001, 0, 0));
            Check.badArgument("limit 10001", () -> rights.addWell(0, 5, 0, 10001, 0, 0));
            Check.due("limit " + limit, rights.addWell(0, 5, limit, limit, 0, 0), 0);
            rights.addWell(0, 5, 0, -10000, 1, 0);
            rights.plan(1, 1);
            Check.due("one below the limit", rights.wouldStop(), 2);
            rights.setRecharge(0, 1);
            Check.due("at the limit", rights.wouldStop(), 0);
        }
    }

    @Sentence("- `age`: 0 to 1000")
    static void promise2_age() {
        for (int age : new int[] {0, 1000}) {
            WellRights rights = new WellRights();
            Check.badArgument("age -1", () -> rights.addWell(0, 5, 0, 0, -1, 0));
            Check.badArgument("age 1001", () -> rights.addWell(0, 5, 0, 0, 1001, 0));
            Check.due("a middle age", rights.addWell(0, 5, 0, 10000, 500, 0), 0);
            Check.due("age " + age, rights.addWell(0, 5, 0, 10000, age, 0), 1);
            rights.plan(0, 1);
            rights.plan(1, 1);
            Check.due("the younger one is stopped", rights.wouldStop(), age == 0 ? 1 : 2);
        }
    }

    @Sentence("- `right`: 0 to 1000")
    static void promise2_right() {
        WellRights rights = new WellRights();
        Check.badArgument("right -1", () -> rights.addWell(0, 5, 0, 0, 0, -1));
        Check.badArgument("right 1001", () -> rights.addWell(0, 5, 0, 0, 0, 1001));
        Check.due("right 0", rights.addWell(0, 5, 0, -10000, 0, 0), 0);
        Check.due("right 1000", rights.addWell(0, 5, 0, -10000, 0, 1000), 1);
        rights.year();
        Check.due("nothing is banked", rights.bank(0), 0);
        Check.due("1000 are banked", rights.bank(1), 1000);
    }

    @Sentence("Returns number of the well.")
    static void promise2_returns() {
        WellRights rights = new WellRights();
        Check.due("the first", rights.addWell(2, 9, 0, 0, 1000, 0), 0);
        Check.due("one like it", rights.addWell(2, 9, 0, 0, 1000, 0), 1);
        Check.badArgument("one refused", () -> rights.addWell(2, 100, 0, 0, 0, 0));
        rights.year();
        for (int number = 2; number < 8; number++) {
            Check.due("the next", rights.addWell(0, 9, 0, 0, 0, 0), number);
        }
    }

    @Sentence("Throws `IndexOutOfBoundsException` if there is no such layer")
    static void promise2_throwsForNoLayer() {
        WellRights rights = new WellRights();
        for (int layer : new int[] {Integer.MIN_VALUE, -1, 3, Integer.MAX_VALUE}) {
            Check.noPlace("layer " + layer, () -> rights.addWell(layer, 5, 0, 0, 0, 0));
        }
        Check.due("none was added", rights.addWell(2, 5, 0, 0, 0, 0), 0);
    }

    @Sentence("Throws `IllegalArgumentException` if place, level, limit, age or right is out of range")
    static void promise2_throwsOutOfRange() {
        WellRights rights = new WellRights();
        Worlds.refusedOutside(0, 99, place -> rights.addWell(0, place, 0, 0, 0, 0));
        Worlds.refusedOutside(-10000, 10000, level -> rights.addWell(0, 5, level, 0, 0, 0));
        Worlds.refusedOutside(-10000, 10000, limit -> rights.addWell(0, 5, 0, limit, 0, 0));
        Worlds.refusedOutside(0, 1000, age -> rights.addWell(0, 5, 0, 0, age, 0));
        Worlds.refusedOutside(0, 1000, right -> rights.addWell(0, 5, 0, 0, 0, right));
        Check.due("none was added", rights.addWell(0, 5, 0, 0, 0, 0), 0);
    }

    @Sentence("Throws `IllegalStateException` if there are 8 wells")
    static void promise2_throwsBehindEightWells() {
        WellRights rights = Worlds.apart(7);
        Check.due("the eighth", rights.addWell(0, 0, 0, 0, 0, 0), 7);
        Check.notNow("the ninth", () -> rights.addWell(0, 0, 0, 0, 0, 0));
        Check.notNow("the ninth, asked again", () -> rights.addWell(2, 99, 10000, 10000, 1000, 1000));
    }

    @Sentence("- `well`: a well")
    static void promise3_well() {
        WellRights rights = Worlds.apart(8);
        for (int well = 0; well < 8; well++) {
            Check.due("well " + well, rights.plan(well, 20 + well), 0);
        }
        for (int well = 0; well < 8; well++) {
            Check.due("well " + well + " again", rights.plan(well, 0), 20 + well);
        }
        Check.noPlace("well -1", () -> rights.plan(-1, 0));
        Check.noPlace("well 8", () -> rights.plan(8, 0));
    }

    @Sentence("- `amount`: 0 to 2000")
    static void promise3_amount() {
        WellRights rights = Worlds.together();
        Check.badArgument("-1", () -> rights.plan(0, -1));
        Check.badArgument("2001", () -> rights.plan(0, 2001));
        rights.plan(0, 2000);
        rights.year();
        Check.due("2000 are drawn", rights.drew(0), 2000);
        Check.due("and lower the well", rights.level(0), 8000);
        rights.plan(0, 0);
        rights.year();
        Check.due("0 are drawn", rights.drew(0), 0);
        Check.due("and lower nothing", rights.level(0), 8000);
    }

    @Sentence("Returns what was planned before.")
    static void promise3_returns() {
        WellRights rights = Worlds.apart(1);
        Check.due("to begin with", rights.plan(0, 2000), 0);
        Check.due("the most", rights.plan(0, 7), 2000);
        rights.year();
        Check.due("a year changes no plan", rights.plan(0, 7), 7);
        Check.due("the same again", rights.plan(0, 0), 7);
        Check.due("the least", rights.plan(0, 1), 0);
    }

    @Sentence("Throws `IndexOutOfBoundsException` if there is no such well")
    static void promise3_throwsForNoWell() {
        Worlds.refusedForNoWell((rights, well) -> rights.plan(well, 1));
    }

    @Sentence("Throws `IllegalArgumentException` if amount is out of range")
    static void promise3_throwsOutOfRange() {
        WellRights rights = Worlds.apart(1);
        rights.plan(0, 5);
        Worlds.refusedOutside(0, 2000, amount -> rights.plan(0, amount));
        Check.due("what was planned", rights.plan(0, 0), 5);
    }

    @Sentence("- `layer`: 0 to 2")
    static void promise4_layer() {
        WellRights rights = new WellRights();
        Check.noPlace("layer -1", () -> rights.setRecharge(-1, 1));
        Check.noPlace("layer 3", () -> rights.setRecharge(3, 1));
        for (int layer = 0; layer <= 2; layer++) {
            rights.addWell(layer, 5, 0, 0, 0, 0);
            Check.due("layer " + layer, rights.setRecharge(layer, 10 + layer), 0);
        }
        rights.year();
        for (int layer = 0; layer <= 2; layer++) {
            Check.due("level in layer " + layer, rights.level(layer), 10 + layer);
        }
    }

    @Sentence("- `amount`: 0 to 1000")
    static void promise4_amount() {
        WellRights rights = Worlds.apart(1);
        Check.badArgument("-1", () -> rights.setRecharge(0, -1));
        Check.badArgument("1001", () -> rights.setRecharge(0, 1001));
        rights.setRecharge(0, 1000);
        rights.year();
        Check.due("1000 more", rights.level(0), 1100);
        rights.setRecharge(0, 0);
        rights.year();
        Check.due("0 more", rights.level(0), 1100);
    }

    @Sentence("Returns the recharge before.")
    static void promise4_returns() {
        WellRights rights = new WellRights();
        Check.due("to begin with", rights.setRecharge(1, 1000), 0);
        Check.due("of another layer", rights.setRecharge(2, 3), 0);
        rights.year();
        Check.due("a year changes no recharge", rights.setRecharge(1, 1000), 1000);
        Check.due("the same again", rights.setRecharge(1, 0), 1000);
        Check.due("the least", rights.setRecharge(1, 1), 0);
    }

    @Sentence("Throws `IndexOutOfBoundsException` if there is no such layer")
    static void promise4_throwsForNoLayer() {
        WellRights rights = Worlds.apart(8);
        for (int layer : new int[] {Integer.MIN_VALUE, -1, 3, Integer.MAX_VALUE}) {
            Check.noPlace("layer " + layer, () -> rights.setRecharge(layer, 1));
        }
    }

    @Sentence("Throws `IllegalArgumentException` if amount is out of range")
    static void promise4_throwsOutOfRange() {
        WellRights rights = new WellRights();
        rights.setRecharge(2, 5);
        Worlds.refusedOutside(0, 1000, amount -> rights.setRecharge(2, amount));
        Check.due("the recharge", rights.setRecharge(2, 0), 5);
    }

    @Sentence("- `well`: a well")
    static void promise5_well() {
        WellRights rights = Worlds.apart(8);
        Check.due("the first", rights.reach(0, 7), 0);
        Check.due("the last", rights.reach(7, 0), 0);
        Check.noPlace("well -1", () -> rights.reach(-1, 0));
        Check.noPlace("well 8", () -> rights.reach(8, 0));
    }

    @Sentence("- `other`: a well, which may be the same one")
    static void promise5_other() {
        WellRights rights = Worlds.apart(8);
        Check.due("the first on itself", rights.reach(0, 0), 100);
        Check.due("the last on itself", rights.reach(7, 7), 100);
        Check.due("the first on the last", rights.reach(0, 7), 0);
        Check.noPlace("other -1", () -> rights.reach(0, -1));
        Check.noPlace("other 8", () -> rights.reach(0, 8));
    }

    @Sentence("Returns 0 to 100.")
    static void promise5_returns() {
        WellRights rights = new WellRights();
        for (int well = 0; well < 8; well++) {
            rights.addWell(well % 3, well % 2 == 0 ? 14 * well : 14 * well + 1, 0, 0, 0, 0);
        }
        for (int well = 0; well < 8; well++) {
            for (int other = 0; other < 8; other++) {
                int reach = rights.reach(well, other);
                Check.due("reach " + reach + " is 0 to 100", reach >= 0 && reach <= 100, true);
            }
        }
    }

    @Sentence("Throws `IndexOutOfBoundsException` if there is no such well")
    static void promise5_throwsForNoWell() {
        Worlds.refusedForNoWell((rights, well) -> rights.reach(well, 0));
        Worlds.refusedForNoWell((rights, other) -> rights.reach(0, other));
        Worlds.refusedForNoWell((rights, both) -> rights.reach(both, both));
    }

    @Sentence("- `well`: a well")
    static void promise6_well() {
        WellRights rights = Worlds.apart(8);
        for (int well = 0; well < 8; well++) {
            Check.due("well " + well, rights.level(well), 100 + well);
        }
        Check.noPlace("well -1", () -> rights.level(-1));
        Check.noPlace("well 8", () -> rights.level(8));
    }

    @Sentence("Returns the level.")
    static void promise6_returns() {
        WellRights rights = Worlds.together();
        rights.plan(0, 2000);
        rights.plan(1, 2000);
        for (int year = 0; year < 5; year++) {
            rights.year();
        }
        Check.due("as low as addWell takes it", rights.level(0), -10000);
        rights.year();
        Check.due("lower than that", rights.level(0), -12000);
        rights.setRecharge(0, 1000);
        rights.plan(0, 0);
        rights.plan(1, 0);
        for (int year = 0; year < 54; year++) {
            rights.year();
        }
        Check.due("higher than addWell takes it", rights.level(0), 42000);
    }

    @Sentence("Throws `IndexOutOfBoundsException` if there is no such well")
    static void promise6_throwsForNoWell() {
        Worlds.refusedForNoWell(WellRights::level);
    }

    @Sentence("- `well`: a well")
    static void promise7_well() {
        WellRights rights = Worlds.apart(8);
        for (int well = 0; well < 8; well++) {
            Check.dueText("well " + well, textOf(rights, well), "layer0@" + 12 * well + ":" + well);
        }
        Check.noPlace("well -1", () -> rights.sign(-1, 0));
        Check.noPlace("well 8", () -> rights.sign(8, 0));
    }

    @Sentence("- `place`: 0 for the first character")
    static void promise7_place() {
        WellRights rights = new WellRights();
        rights.addWell(1, 20, 0, 0, 0, 0);
        Check.due("the first character", rights.sign(0, 0), 'l');
        Check.due("the second character", rights.sign(0, 1), 'a');
        Check.due("the last character", rights.sign(0, 10), '0');
        Check.noPlace("ahead of the first", () -> rights.sign(0, -1));
        Check.noPlace("behind the last", () -> rights.sign(0, 11));
    }

    @Sentence("Returns the character.")
    static void promise7_returns() {
        int[] places = {0, 9, 10, 99};
        for (int layer = 0; layer <= 2; layer++) {
            WellRights rights = new WellRights();
            for (int well = 0; well < places.length; well++) {
                rights.addWell(layer, places[well], -10000, 10000, 1000, 1000);
                Check.dueText("text", textOf(rights, well), "layer" + layer + "@" + places[well] + ":" + well);
            }
        }
    }

    @Sentence("Throws `IndexOutOfBoundsException` if there is no such well or character")
    static void promise7_throwsForNoWellOrCharacter() {
        Worlds.refusedForNoWell((rights, well) -> rights.sign(well, 0));
        WellRights rights = new WellRights();
        rights.addWell(0, 9, 0, 0, 0, 0);
        rights.addWell(0, 10, 0, 0, 0, 0);
        Check.due("the last of the short text", rights.sign(0, 9), '0');
        Check.due("the last of the long text", rights.sign(1, 10), '1');
        for (int place : new int[] {Integer.MIN_VALUE, -1, 10, 11, Integer.MAX_VALUE}) {
            Check.noPlace("place " + place, () -> rights.sign(0, place));
        }
        for (int place : new int[] {Integer.MIN_VALUE, -1, 11, 12, Integer.MAX_VALUE}) {
            Check.noPlace("place " + place + " of the long text", () -> rights.sign(1, place));
        }
    }
}
