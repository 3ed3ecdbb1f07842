import java.lang.reflect.Method;
import java.lang.reflect.Modifier;

/** What the document says of the object as a whole: "What it is" and how "Terms" begin. */
final class WholeTest {
    private static final int CALLS_OF_AN_OBJECT = 512;

    private WholeTest() {
    }

    @Sentence("Wells that draw on one another's water.")
    static void wellsDrawOnOneAnothersWater() {
        WellRights rights = new WellRights();
        rights.addWell(0, 50, 100, -10000, 0, 0);
        rights.addWell(0, 52, 100, -10000, 1, 0);
        rights.plan(0, 10);
        rights.plan(1, 20);
        rights.year();
        Check.due("its own draw and the other's", rights.level(0), 100 - 10 - 16);
        Check.due("and the other way round", rights.level(1), 100 - 20 - 8);
    }

    @Sentence("An object is used for at most 512 calls after it has been made")
    static void allOf512CallsAreAnswered() {
        WellRights rights = new WellRights();
        for (int well = 0; well < 8; well++) {
            rights.addWell(0, 12 * well, 0, -10000, 0, 1000);
        }
        int calls = 8;
        int bank = 0;
        for (int year = 0; year < 60; year++) {
            rights.year();
            bank = bank - (bank + 9) / 10 + 1000;
            Check.due("all of it is lent", rights.lend(6, 7, bank), bank);
            Check.due("and comes back", rights.callBack(6, 7), bank);
            calls += 3;
        }
        for (int lent = 1; calls < CALLS_OF_AN_OBJECT; lent++) {
            Check.due("lent the other way", rights.lend(7, 6, 1), lent);
            calls++;
        }
    }

    @Sentence("Wells lie in layers and lower their neighbours")
    static void promise6_wellsLowerTheirNeighbours() {
        WellRights rights = new WellRights();
        for (int layer = 0; layer <= 2; layer++) {
            rights.addWell(layer, 50, 0, -10000, 0, 0);
            rights.addWell(layer, 57, 0, -10000, 0, 0);
            rights.plan(2 * layer, 0);
        }
        int[][] lowered = {{100, 30, 50, 15, 0, 0}, {50, 15, 100, 30, 50, 15}, {0, 0, 50, 15, 100, 30}};
        int[] due = new int[6];
        for (int layer = 0; layer <= 2; layer++) {
            rights.plan(2 * layer, 100);
            rights.year();
            rights.plan(2 * layer, 0);
            for (int well = 0; well < due.length; well++) {
                due[well] -= lowered[layer][well];
                Check.due("level " + well + " behind a draw in layer " + layer, rights.level(well), due[well]);
            }
        }
    }

    @Sentence("rights go by age, so that the young are stopped when the old run short")
    static void promise10_theYoungAreStopped() {
        for (int old = 0; old < 2; old++) {
            for (int shortOne = 0; shortOne < 2; shortOne++) {
                WellRights rights = new WellRights();
                for (int well = 0; well < 2; well++) {
                    rights.addWell(0, 50, 0, well == shortOne ? 0 : -10000, well == old ? 1 : 9, 0);
                    rights.plan(well, 10);
                }
                int due = shortOne == old ? 1 << (1 - old) : 0;
                Check.due("old is " + old + ", short is " + shortOne, rights.wouldStop(), due);
            }
        }
    }

    @Sentence("water that was not drawn is banked, loses by year, and is lent and called back")
    static void promise15_waterThatWasNotDrawn() {
        WellRights rights = new WellRights();
        rights.addWell(0, 0, 10000, -10000, 0, 100);
        rights.addWell(0, 90, 10000, -10000, 0, 0);
        rights.plan(0, 40);
        rights.year();
        Check.due("banked", rights.bank(0), 60);
        rights.plan(0, 100);
        rights.year();
        Check.due("less a tenth", rights.bank(0), 54);
        Check.due("lent", rights.lend(0, 1, 30), 30);
        rights.year();
        Check.due("what was kept", rights.bank(0), 21);
        Check.due("what was lent", rights.bank(1), 27);
        Check.due("called back", rights.callBack(0, 1), 27);
        Check.due("all in the one bank", rights.bank(0), 48);
        Check.due("none in the other", rights.bank(1), 0);
    }

    @Sentence("meters that fail are filled in by power and by neighbours")
    static void promise12_metersThatFailAreFilledIn() {
        WellRights rights = Worlds.apart(3);
        rights.plan(0, 70);
        rights.plan(1, 30);
        rights.plan(2, 50);
        rights.toggleMeter(0);
        rights.power(0, 4);
        rights.year();
        Check.due("by power", rights.told(0), 12);
        rights.year();
        Check.due("by neighbours", rights.told(0), 40);
        rights.toggleMeter(0);
        rights.year();
        Check.due("by its meter", rights.told(0), 70);
    }

    @Sentence("and fines pay for ponds that raise some wells")
    static void promise20_finesPayForPonds() {
        WellRights rights = new WellRights();
        rights.addWell(0, 0, 1000, -10000, 0, 0);
        rights.addWell(0, 55, 0, -10000, 1, 0);
        rights.addWell(0, 70, 0, -10000, 1, 0);
        rights.plan(0, 60);
        rights.year();
        Check.due("paid by the fines", rights.build(50), 1);
        rights.plan(0, 0);
        rights.year();
        Check.due("raised", rights.level(1), 10);
        Check.due("too far to be raised", rights.level(2), 0);
        Check.due("what is left", rights.fund(), 20);
        Check.due("the fines", rights.fines(0), 120);
    }

    @Sentence("A well has a layer, 0 to 2, a place, 0 to 99, a level, a limit, an age and a right.")
    static void promise2_aWellHasAllOfThese() {
        WellRights rights = new WellRights();
        rights.addWell(1, 20, 300, 200, 10, 40);
        Check.due("layer", rights.sign(0, 5), '1');
        Check.due("place", rights.sign(0, 7), '2');
        Check.due("level", rights.level(0), 300);
        rights.addWell(1, 20, 0, -10000, 9, 0);
        rights.addWell(1, 20, 0, -10000, 10, 0);
        rights.plan(1, 50);
        rights.plan(2, 50);
        Check.due("at the limit", rights.wouldStop(), 0);
        rights.plan(1, 51);
        Check.due("below the limit, by age", rights.wouldStop(), 4);
        rights.year();
        Check.due("right", rights.bank(0), 40);
    }

    @Sentence("All of these, and all water, are whole numbers")
    static void allAreWholeNumbers() {
        for (Method method : WellRights.class.getDeclaredMethods()) {
            if (Modifier.isPublic(method.getModifiers())) {
                for (Class<?> parameter : method.getParameterTypes()) {
                    Check.due(method.getName() + " takes an int", parameter == int.class, true);
                }
                Class<?> answer = method.getReturnType();
                boolean isNoNumber = method.getName().equals("sign") || method.getName().equals("toggleMeter");
                Check.due(method.getName() + " answers an int", answer == int.class, !isNoNumber);
            }
        }
    }

    @Sentence("IndexOutOfBoundsException is thrown for a well, layer, pond or place in a text that does not exist, "
            + "IllegalArgumentException for another argument out of range, "
            + "and IllegalStateException if a call is not possible now.")
    static void whichExceptionIsForWhat() {
        WellRights rights = Worlds.apart(8);
        Check.noPlace("a well", () -> rights.level(8));
        Check.noPlace("a well to draw for", () -> rights.plan(8, 0));
        Check.noPlace("a layer of a well", () -> rights.addWell(3, 0, 0, 0, 0, 0));
        Check.noPlace("a layer to recharge", () -> rights.setRecharge(3, 0));
        Check.noPlace("a place in a text", () -> rights.sign(0, 10));
        Check.badArgument("a place of a well", () -> rights.addWell(0, 100, 0, 0, 0, 0));
        Check.badArgument("a place of a pond", () -> rights.build(100));
        Check.badArgument("an amount", () -> rights.plan(0, 2001));
        Check.badArgument("the same well", () -> rights.callBack(0, 0));
        Check.notNow("a ninth well", () -> rights.addWell(0, 0, 0, 0, 0, 0));
        Check.notNow("water that is not there", () -> rights.lend(0, 1, 1));
        Check.notNow("a pond that cannot be paid", () -> rights.build(0));
        while (rights.years() < 60) {
            rights.year();
        }
        Check.notNow("a year too many", () -> rights.year());
    }
}
