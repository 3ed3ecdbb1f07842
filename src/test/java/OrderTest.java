/** Refused calls: which exception goes first, and that they change nothing. */
final class OrderTest {
    private static final String ORDER = "If several apply, IndexOutOfBoundsException goes first, then IllegalArgumentException.";
    private static final String UNCHANGED = "A call that throws an exception changes nothing.";

    private OrderTest() {
    }

    @Sentence(ORDER)
    static void promise2_whichExceptionGoesFirst() {
        WellRights full = Worlds.apart(8);
        WellRights empty = new WellRights();
        for (int layer : new int[] {-1, 3}) {
            Check.noPlace("layer and place", () -> empty.addWell(layer, 100, 0, 0, 0, 0));
            Check.noPlace("layer and level", () -> empty.addWell(layer, 0, 10001, 0, 0, 0));
            Check.noPlace("layer and limit", () -> empty.addWell(layer, 0, 0, 10001, 0, 0));
            Check.noPlace("layer and age", () -> empty.addWell(layer, 0, 0, 0, 1001, 0));
            Check.noPlace("layer and right", () -> empty.addWell(layer, 0, 0, 0, 0, 1001));
            Check.noPlace("layer and eight wells", () -> full.addWell(layer, 0, 0, 0, 0, 0));
            Check.noPlace("all of them", () -> full.addWell(layer, -1, -10001, -10001, -1, -1));
        }
        Check.badArgument("place and eight wells", () -> full.addWell(0, -1, 0, 0, 0, 0));
        Check.badArgument("level and eight wells", () -> full.addWell(0, 0, -10001, 0, 0, 0));
        Check.badArgument("limit and eight wells", () -> full.addWell(0, 0, 0, -10001, 0, 0));
        Check.badArgument("age and eight wells", () -> full.addWell(0, 0, 0, 0, -1, 0));
        Check.badArgument("right and eight wells", () -> full.addWell(0, 0, 0, 0, 0, -1));
        Check.notNow("eight wells alone", () -> full.addWell(0, 0, 0, 0, 0, 0));
    }

    @Sentence(ORDER)
    static void promise3_whichExceptionGoesFirst() {
        WellRights rights = Worlds.apart(1);
        Check.noPlace("well -1 and amount", () -> rights.plan(-1, -1));
        Check.noPlace("well 1 and amount", () -> rights.plan(1, 2001));
        Check.badArgument("amount alone", () -> rights.plan(0, 2001));
    }

    @Sentence(ORDER)
    static void promise4_whichExceptionGoesFirst() {
        WellRights rights = new WellRights();
        Check.noPlace("layer -1 and amount", () -> rights.setRecharge(-1, -1));
        Check.noPlace("layer 3 and amount", () -> rights.setRecharge(3, 1001));
        Check.badArgument("amount alone", () -> rights.setRecharge(2, 1001));
    }

    @Sentence(ORDER)
    static void promise14_whichExceptionGoesFirst() {
        WellRights rights = Worlds.apart(1);
        Check.noPlace("well -1 and power", () -> rights.power(-1, -1));
        Check.noPlace("well 1 and power", () -> rights.power(1, 1001));
        Check.badArgument("power alone", () -> rights.power(0, 1001));
    }

    @Sentence(ORDER)
    static void promise16_whichExceptionGoesFirst() {
        WellRights rights = Worlds.apart(2);
        Check.noPlace("from, amount and bank", () -> rights.lend(2, 0, 10001));
        Check.noPlace("to, amount and bank", () -> rights.lend(0, 2, 0));
        Check.noPlace("to and bank", () -> rights.lend(0, -1, 1));
        Check.noPlace("no well twice", () -> rights.lend(2, 2, 1));
        Check.noPlace("no well twice and amount", () -> rights.lend(-1, -1, 0));
        Check.badArgument("the same and bank", () -> rights.lend(0, 0, 1));
        Check.badArgument("the same, amount and bank", () -> rights.lend(1, 1, 10001));
        Check.badArgument("amount and bank", () -> rights.lend(0, 1, 10001));
        Check.notNow("bank alone", () -> rights.lend(0, 1, 10000));
    }

    @Sentence(ORDER)
    static void promise17_whichExceptionGoesFirst() {
        WellRights rights = Worlds.apart(2);
        Check.noPlace("no well twice", () -> rights.callBack(2, 2));
        Check.noPlace("no well twice, below", () -> rights.callBack(-1, -1));
        Check.badArgument("the same alone", () -> rights.callBack(1, 1));
    }

    @Sentence(ORDER)
    static void promise20_whichExceptionGoesFirst() {
        WellRights poor = new WellRights();
        Check.badArgument("place and fund", () -> poor.build(-1));
        Check.notNow("fund alone", () -> poor.build(0));
        WellRights rich = Worlds.withFund(600);
        for (int pond = 0; pond < 5; pond++) {
            rich.build(0);
        }
        Check.badArgument("place and five ponds", () -> rich.build(100));
        Check.notNow("five ponds alone", () -> rich.build(0));
    }

    /** The call is refused with each of the numbers by objects that have much and by ones that are full. */
    private static void dueUnchanged(Worlds.WellCall call, int... numbers) {
        for (int number : numbers) {
            Worlds.sameBehindRefusal(Worlds::busy, call, number);
            Worlds.sameBehindRefusal(Worlds::full, call, number);
        }
    }

    @Sentence(UNCHANGED)
    static void promise2_refusedCallsChangeNothing() {
        dueUnchanged((rights, layer) -> rights.addWell(layer, 5, 6, 7, 8, 9), -1, 3);
        dueUnchanged((rights, place) -> rights.addWell(1, place, 6, 7, 8, 9), -1, 100);
        dueUnchanged((rights, level) -> rights.addWell(1, 5, level, 7, 8, 9), -10001, 10001);
        dueUnchanged((rights, limit) -> rights.addWell(1, 5, 6, limit, 8, 9), -10001, 10001);
        dueUnchanged((rights, age) -> rights.addWell(1, 5, 6, 7, age, 9), -1, 1001);
        dueUnchanged((rights, right) -> rights.addWell(1, 5, 6, 7, 8, right), -1, 1001);
        Worlds.sameBehindRefusal(Worlds::full, (rights, place) -> rights.addWell(1, place, 6, 7, 8, 9), 5);
    }

    @Sentence(UNCHANGED)
    static void promise3_refusedCallsChangeNothing() {
        dueUnchanged((rights, well) -> rights.plan(well, 77), -1, 8);
        dueUnchanged((rights, amount) -> rights.plan(0, amount), -1, 2001);
    }

    @Sentence(UNCHANGED)
    static void promise4_refusedCallsChangeNothing() {
        dueUnchanged((rights, layer) -> rights.setRecharge(layer, 77), -1, 3);
        dueUnchanged((rights, amount) -> rights.setRecharge(0, amount), -1, 1001);
    }

    @Sentence(UNCHANGED)
    static void promise5_refusedCallsChangeNothing() {
        dueUnchanged((rights, well) -> rights.reach(well, 0), -1, 8);
        dueUnchanged((rights, other) -> rights.reach(0, other), -1, 8);
    }

    @Sentence(UNCHANGED)
    static void promise6_refusedCallsChangeNothing() {
        dueUnchanged(WellRights::level, -1, 8);
    }

    @Sentence(UNCHANGED)
    static void promise7_refusedCallsChangeNothing() {
        dueUnchanged((rights, well) -> rights.sign(well, 0), -1, 8);
        dueUnchanged((rights, place) -> rights.sign(0, place), -1, 11);
    }

    @Sentence(UNCHANGED)
    static void promise8_refusedCallsChangeNothing() {
        Worlds.sameBehindRefusal(Worlds::full, (rights, unused) -> rights.year(), 0);
    }

    @Sentence(UNCHANGED)
    static void promise11_refusedCallsChangeNothing() {
        dueUnchanged(WellRights::drew, -1, 8);
    }

    @Sentence(UNCHANGED)
    static void promise12_refusedCallsChangeNothing() {
        dueUnchanged(WellRights::told, -1, 8);
    }

    @Sentence(UNCHANGED)
    static void promise13_refusedCallsChangeNothing() {
        dueUnchanged(WellRights::toggleMeter, -1, 8);
    }

    @Sentence(UNCHANGED)
    static void promise14_refusedCallsChangeNothing() {
        dueUnchanged((rights, well) -> rights.power(well, 77), -1, 8);
        dueUnchanged((rights, power) -> rights.power(1, power), -1, 1001);
    }

    @Sentence(UNCHANGED)
    static void promise15_refusedCallsChangeNothing() {
        dueUnchanged(WellRights::bank, -1, 8);
    }

    @Sentence(UNCHANGED)
    static void promise16_refusedCallsChangeNothing() {
        dueUnchanged((rights, from) -> rights.lend(from, 0, 5), -1, 8);
        dueUnchanged((rights, to) -> rights.lend(0, to, 5), -1, 8);
        dueUnchanged((rights, both) -> rights.lend(both, both, 5), 0, 2);
        dueUnchanged((rights, amount) -> rights.lend(0, 1, amount), -1, 0, 10000, 10001);
    }

    @Sentence(UNCHANGED)
    static void promise17_refusedCallsChangeNothing() {
        dueUnchanged((rights, from) -> rights.callBack(from, 1), -1, 8);
        dueUnchanged((rights, to) -> rights.callBack(0, to), -1, 8);
        dueUnchanged((rights, both) -> rights.callBack(both, both), 0, 1);
    }

    @Sentence(UNCHANGED)
    static void promise18_refusedCallsChangeNothing() {
        dueUnchanged(WellRights::fines, -1, 8);
    }

    @Sentence(UNCHANGED)
    static void promise20_refusedCallsChangeNothing() {
        dueUnchanged((rights, place) -> rights.build(place), -1, 100);
        Worlds.World poor = () -> {
            WellRights rights = Worlds.busy();
            rights.build(51);
            return rights;
        };
        Worlds.World withFivePonds = () -> {
            WellRights rights = Worlds.withFund(2000);
            for (int pond = 0; pond < 5; pond++) {
                rights.build(0);
            }
            return rights;
        };
        Worlds.sameBehindRefusal(poor, (rights, place) -> rights.build(place), 51);
        Worlds.sameBehindRefusal(withFivePonds, (rights, place) -> rights.build(place), 0);
    }
}
