/** Objects that many tests begin with, and all that can be seen of one. */
final class Worlds {
    interface World {
        WellRights make();
    }

    interface WellCall {
        void on(WellRights rights, int well);
    }

    interface NumberCall {
        void with(int number);
    }

    private static final int MOST_WELLS = 8;

    private Worlds() {
    }

    /** So many wells, none of which reaches another; the level is 100 more than the number, the right 10 more. */
    static WellRights apart(int wells) {
        WellRights rights = new WellRights();
        for (int well = 0; well < wells; well++) {
            rights.addWell(0, 12 * well, 100 + well, -10000, 5, 10 + well);
        }
        return rights;
    }

    /** Two wells at one place that are never short, whose rights are 0. */
    static WellRights together() {
        WellRights rights = new WellRights();
        rights.addWell(0, 50, 10000, -10000, 1, 0);
        rights.addWell(0, 50, 10000, -10000, 9, 0);
        return rights;
    }

    /** One well with so much in the fund, an even number up to 4000. */
    static WellRights withFund(int fund) {
        WellRights rights = new WellRights();
        rights.addWell(0, 0, 10000, -10000, 0, 0);
        rights.plan(0, fund / 2);
        rights.year();
        rights.plan(0, 0);
        return rights;
    }

    /** Of each thing that an object can hold there is some: wells, plans, banks, loans, fines, power, ponds and so on. */
    static WellRights busy() {
        WellRights rights = new WellRights();
        rights.addWell(0, 50, 900, 400, 3, 300);
        rights.addWell(0, 53, 800, 300, 7, 200);
        rights.addWell(1, 51, 700, 600, 2, 100);
        rights.addWell(2, 52, 600, 0, 9, 0);
        rights.plan(3, 120);
        rights.setRecharge(1, 11);
        rights.year();
        rights.lend(0, 1, 60);
        rights.lend(1, 2, 30);
        rights.build(51);
        rights.toggleMeter(1);
        rights.power(1, 44);
        rights.power(2, 55);
        rights.plan(0, 70);
        rights.plan(1, 40);
        rights.setRecharge(0, 22);
        rights.setRecharge(2, 33);
        return rights;
    }

    /** The busy one with all that it can have: eight wells and sixty years. */
    static WellRights full() {
        WellRights rights = busy();
        for (int well = 4; well < MOST_WELLS; well++) {
            rights.addWell(0, 40 + well, 100, 50, 4, 20 * well);
            rights.plan(well, 3 * well);
        }
        while (rights.years() < 60) {
            rights.year();
        }
        rights.power(0, 66);
        return rights;
    }

    /** The call is refused ahead of the first well and behind the last one, however many there are. */
    static void refusedForNoWell(WellCall call) {
        for (int wells : new int[] {0, 1, 7, 8}) {
            WellRights rights = apart(wells);
            for (int well : new int[] {Integer.MIN_VALUE, -1, wells, wells + 1, Integer.MAX_VALUE}) {
                Check.noPlace("well " + well + " of " + wells, () -> call.on(rights, well));
            }
        }
    }

    /** The call is refused below the least number and above the most. */
    static void refusedOutside(int least, int most, NumberCall call) {
        for (int number : new int[] {Integer.MIN_VALUE, least - 1, most + 1, Integer.MAX_VALUE}) {
            Check.badArgument("number " + number, () -> call.with(number));
        }
    }

    /** Of two objects made alike one refuses the call; then nothing that is seen of them, or follows, differs. */
    static void sameBehindRefusal(World world, WellCall refused, int number) {
        WellRights untouched = world.make();
        WellRights touched = world.make();
        try {
            refused.on(touched, number);
            Check.fault("the call with " + number + " was not refused");
        } catch (IllegalStateException | IllegalArgumentException | IndexOutOfBoundsException thrown) {
            Check.dueText("behind the refusal with " + number, story(touched), story(untouched));
        }
    }

    /** All that is seen of an object, now and in the year that follows; it is used up by that. */
    private static String story(WellRights rights) {
        StringBuilder story = new StringBuilder();
        int wells = 0;
        while (wells < MOST_WELLS && isThere(rights, wells)) {
            tellPlans(rights, wells, story);
            wells++;
        }
        for (int layer = 0; layer < 3; layer++) {
            int recharge = rights.setRecharge(layer, 0);
            rights.setRecharge(layer, recharge);
            story.append(" recharge ").append(recharge);
        }
        tellResults(rights, wells, story);
        tellTry("year", () -> story.append(rights.year()), story);
        tellResults(rights, wells, story);
        for (int pond = 0; pond < 6; pond++) {
            tellTry("build", () -> story.append(rights.build(50)), story);
        }
        for (int from = 0; from < wells; from++) {
            for (int to = 0; to < wells; to++) {
                story.append(from == to ? "" : " back " + rights.callBack(from, to));
            }
        }
        tellTry("addWell", () -> story.append(rights.addWell(0, 0, 0, 0, 0, 0)), story);
        return story.toString();
    }

    private static boolean isThere(WellRights rights, int well) {
        try {
            rights.level(well);
            return true;
        } catch (IndexOutOfBoundsException thrown) {
            return false;
        }
    }

    private static void tellPlans(WellRights rights, int well, StringBuilder story) {
        int plan = rights.plan(well, 0);
        rights.plan(well, plan);
        int power = rights.power(well, 0);
        rights.power(well, power);
        rights.toggleMeter(well);
        boolean works = rights.toggleMeter(well);
        story.append(" plan ").append(plan).append(" power ").append(power).append(" works ").append(works);
        story.append(" text ").append(rights.sign(well, 5)).append(rights.sign(well, 7));
    }

    private static void tellResults(WellRights rights, int wells, StringBuilder story) {
        story.append(" years ").append(rights.years()).append(" fund ").append(rights.fund());
        story.append(" would ").append(rights.wouldStop());
        for (int well = 0; well < wells; well++) {
            story.append(" level ").append(rights.level(well)).append(" drew ").append(rights.drew(well));
            story.append(" told ").append(rights.told(well)).append(" bank ").append(rights.bank(well));
            story.append(" fines ").append(rights.fines(well));
        }
    }

    private static void tellTry(String name, Check.Call call, StringBuilder story) {
        story.append(' ').append(name).append(' ');
        try {
            call.run();
        } catch (IllegalStateException thrown) {
            story.append("refused");
        }
    }
}
