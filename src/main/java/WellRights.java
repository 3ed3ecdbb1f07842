import java.util.ArrayList;

/** Wells that draw on one another's water. */
public final class WellRights {
    private static final int MOST_WELLS = 8;
    private static final int LAYERS = 3;
    private static final int LAST_PLACE = 99;
    private static final int MOST_LEVEL = 10000;
    private static final int MOST_AGE = 1000;
    private static final int MOST_RIGHT = 1000;
    private static final int MOST_PLANNED = 2000;
    private static final int MOST_RECHARGE = 1000;
    private static final int MOST_POWER = 1000;
    private static final int MOST_LENT_AT_ONCE = 10000;
    private static final int MOST_YEARS = 60;
    private static final int MOST_PONDS = 5;

    private static final int FULL_REACH = 100;
    private static final int REACH_LOST_PER_PLACE = 10;
    private static final int POND_LAYER = 0;
    private static final int POND_RISE = 20;
    private static final int POND_COST = 100;
    private static final int WATER_PER_POWER = 3;
    private static final int FINE_PER_WATER = 2;
    private static final int NOBODY = 0;

    private final ArrayList<Well> wells;
    private final int[] recharges;
    private final int[] pondPlaces;
    private int pondCount;
    private int fund;
    private int years;

    public WellRights() {
        wells = new ArrayList<Well>();
        recharges = new int[LAYERS];
        pondPlaces = new int[MOST_PONDS];
        pondCount = 0;
        fund = 0;
        years = 0;
    }

    // ---- wells

    public int addWell(int layer, int place, int level, int limit, int age, int right)
            throws IndexOutOfBoundsException, IllegalArgumentException, IllegalStateException {
        requireLayer(layer);
        requireWithin(place, 0, LAST_PLACE);
        requireWithin(level, -MOST_LEVEL, MOST_LEVEL);
        requireWithin(limit, -MOST_LEVEL, MOST_LEVEL);
        requireWithin(age, 0, MOST_AGE);
        requireWithin(right, 0, MOST_RIGHT);
        int number = wells.size();
        if (number >= MOST_WELLS) {
            throw new IllegalStateException("there are 8 wells");
        }
        wells.add(new Well(number, layer, place, level, limit, age, right));
        return number;
    }

    public int plan(int well, int amount) throws IndexOutOfBoundsException, IllegalArgumentException {
        Well planner = wellAt(well);
        requireWithin(amount, 0, MOST_PLANNED);
        int before = planner.planned;
        planner.planned = amount;
        return before;
    }

    public int setRecharge(int layer, int amount) throws IndexOutOfBoundsException, IllegalArgumentException {
        requireLayer(layer);
        requireWithin(amount, 0, MOST_RECHARGE);
        int before = recharges[layer];
        recharges[layer] = amount;
        return before;
    }

    public int reach(int well, int other) throws IndexOutOfBoundsException {
        Well first = wellAt(well);
        Well second = wellAt(other);
        return second.reachedFrom(first.layer, first.place);
    }

    public int level(int well) throws IndexOutOfBoundsException {
        return wellAt(well).level;
    }

    public char sign(int well, int place) throws IndexOutOfBoundsException {
        String text = wellAt(well).text;
        if (place < 0 || place >= text.length()) {
            throw new IndexOutOfBoundsException("no such character");
        }
        return text.charAt(place);
    }

    // ---- years

    public int year() throws IllegalStateException {
        if (years >= MOST_YEARS) {
            throw new IllegalStateException("60 years have passed");
        }
        shrinkBanks();
        int stopped = whoIsStopped();
        drawWater(stopped);
        tellWater();
        settleRights(stopped);
        forgetPower();
        years++;
        return Integer.bitCount(stopped);
    }

    public int years() {
        return years;
    }

    public int wouldStop() {
        return whoIsStopped();
    }

    public int drew(int well) throws IndexOutOfBoundsException {
        return wellAt(well).drew;
    }

    public int told(int well) throws IndexOutOfBoundsException {
        return wellAt(well).told;
    }

    // ---- meters

    public boolean toggleMeter(int well) throws IndexOutOfBoundsException {
        Well toggled = wellAt(well);
        toggled.meterWorks = !toggled.meterWorks;
        return toggled.meterWorks;
    }

    public int power(int well, int power) throws IndexOutOfBoundsException, IllegalArgumentException {
        Well powered = wellAt(well);
        requireWithin(power, 0, MOST_POWER);
        int before = powered.power;
        powered.power = power;
        return before;
    }

    // ---- banks, fines and ponds

    public int bank(int well) throws IndexOutOfBoundsException {
        return wellAt(well).bank;
    }

    public int lend(int from, int to, int amount)
            throws IndexOutOfBoundsException, IllegalArgumentException, IllegalStateException {
        Well lender = wellAt(from);
        Well borrower = wellAt(to);
        requireDifferent(from, to);
        requireWithin(amount, 1, MOST_LENT_AT_ONCE);
        if (lender.bank < amount) {
            throw new IllegalStateException("the bank has less");
        }
        lender.bank -= amount;
        borrower.bank += amount;
        lender.lentTo[to] += amount;
        return lender.lentTo[to];
    }

    public int callBack(int from, int to) throws IndexOutOfBoundsException, IllegalArgumentException {
        Well lender = wellAt(from);
        Well borrower = wellAt(to);
        requireDifferent(from, to);
        int back = Math.min(lender.lentTo[to], borrower.bank);
        // What the other bank lacks now stays lent, for a later call.
        lender.lentTo[to] -= back;
        borrower.bank -= back;
        lender.bank += back;
        return back;
    }

    public int fines(int well) throws IndexOutOfBoundsException {
        return wellAt(well).fines;
    }

    public int fund() {
        return fund;
    }

    public int build(int place) throws IllegalArgumentException, IllegalStateException {
        requireWithin(place, 0, LAST_PLACE);
        if (fund < POND_COST || pondCount >= MOST_PONDS) {
            throw new IllegalStateException("too little in the fund, or 5 ponds");
        }
        fund -= POND_COST;
        pondPlaces[pondCount] = place;
        pondCount++;
        return pondCount;
    }

    // ---- what arguments must be

    private Well wellAt(int number) {
        if (number < 0 || number >= wells.size()) {
            throw new IndexOutOfBoundsException("no such well");
        }
        return wells.get(number);
    }

    private static void requireLayer(int layer) {
        if (layer < 0 || layer >= LAYERS) {
            throw new IndexOutOfBoundsException("no such layer");
        }
    }

    private static void requireWithin(int value, int least, int most) {
        if (value < least || value > most) {
            throw new IllegalArgumentException("out of range");
        }
    }

    private static void requireDifferent(int from, int to) {
        if (from == to) {
            throw new IllegalArgumentException("both wells are the same");
        }
    }

    // ---- who is stopped; a set of wells is an int with bit w for well w

    private int whoIsStopped() {
        int stopped = NOBODY;
        // Each round stops one more well, so there are no more rounds than wells.
        for (int round = 0; round < MOST_WELLS; round++) {
            Well next = nextToStop(stopped);
            if (next == null) {
                break;
            }
            stopped |= next.bit();
        }
        return stopped;
    }

    /** The well to stop for the oldest short one that can be helped, or null. */
    private Well nextToStop(int stopped) {
        Well oldest = null;
        Well next = null;
        for (int w = 0; w < wells.size(); w++) {
            Well well = wells.get(w);
            if (levelBehind(well, stopped) < well.limit && (oldest == null || well.isOlderThan(oldest))) {
                Well youngest = youngestDrawerOn(well, stopped);
                if (youngest != null) {
                    oldest = well;
                    next = youngest;
                }
            }
        }
        return next;
    }

    /** The youngest well that draws, reaches the given one and is younger than it, or null. */
    private Well youngestDrawerOn(Well well, int stopped) {
        Well youngest = null;
        for (int w = 0; w < wells.size(); w++) {
            Well other = wells.get(w);
            if (well.isOlderThan(other) && other.drawUnder(stopped) > 0
                    && well.reachedFrom(other.layer, other.place) > 0
                    && (youngest == null || youngest.isOlderThan(other))) {
                youngest = other;
            }
        }
        return youngest;
    }

    private int levelBehind(Well well, int stopped) {
        int behind = well.level + recharges[well.layer];
        for (int p = 0; p < pondCount; p++) {
            behind += hundredths(POND_RISE, well.reachedFrom(POND_LAYER, pondPlaces[p]));
        }
        for (int w = 0; w < wells.size(); w++) {
            Well other = wells.get(w);
            behind -= hundredths(other.drawUnder(stopped), well.reachedFrom(other.layer, other.place));
        }
        return behind;
    }

    private static int hundredths(int amount, int reach) {
        return amount * reach / FULL_REACH;
    }

    // ---- the steps of a year

    private void shrinkBanks() {
        for (int w = 0; w < wells.size(); w++) {
            Well well = wells.get(w);
            int tenthRoundedUp = (well.bank + 9) / 10;
            well.bank -= tenthRoundedUp;
        }
    }

    private void drawWater(int stopped) {
        for (int w = 0; w < wells.size(); w++) {
            Well well = wells.get(w);
            well.level = levelBehind(well, stopped);
            well.drew = well.drawUnder(stopped);
        }
    }

    private void tellWater() {
        for (int w = 0; w < wells.size(); w++) {
            Well well = wells.get(w);
            if (well.meterWorks) {
                well.told = well.drew;
            } else if (well.power > 0) {
                well.told = WATER_PER_POWER * well.power;
            } else {
                well.told = meanOfWorkingMeters(well.layer);
            }
        }
    }

    private int meanOfWorkingMeters(int layer) {
        int sum = 0;
        int meters = 0;
        for (int w = 0; w < wells.size(); w++) {
            Well well = wells.get(w);
            if (well.layer == layer && well.meterWorks) {
                // What it drew is what its meter tells, though its turn to tell may be still to come.
                sum += well.drew;
                meters++;
            }
        }
        return meters > 0 ? sum / meters : 0;
    }

    private void settleRights(int stopped) {
        for (int w = 0; w < wells.size(); w++) {
            Well well = wells.get(w);
            if (well.told > well.right) {
                chargeAbove(well, well.told - well.right);
            } else if (!well.isIn(stopped)) {
                well.bank += well.right - well.told;
            }
        }
    }

    private void chargeAbove(Well well, int above) {
        int banked = Math.min(above, well.bank);
        int fine = FINE_PER_WATER * (above - banked);
        well.bank -= banked;
        well.fines += fine;
        fund += fine;
    }

    private void forgetPower() {
        for (int w = 0; w < wells.size(); w++) {
            wells.get(w).power = 0;
        }
    }

    private static final class Well {
        final int number;
        final int layer;
        final int place;
        final int limit;
        final int age;
        final int right;
        final String text;
        final int[] lentTo;
        int level;
        int planned;
        int drew;
        int told;
        boolean meterWorks;
        int power;
        int bank;
        int fines;

        Well(int number, int layer, int place, int level, int limit, int age, int right) {
            this.number = number;
            this.layer = layer;
            this.place = place;
            this.level = level;
            this.limit = limit;
            this.age = age;
            this.right = right;
            this.text = textOf(layer, place, number);
            this.lentTo = new int[MOST_WELLS];
            this.meterWorks = true;
        }

        private static String textOf(int layer, int place, int number) {
            StringBuilder text = new StringBuilder();
            text.append("layer").append(layer).append('@').append(place).append(':').append(number);
            return text.toString();
        }

        int bit() {
            return 1 << number;
        }

        boolean isIn(int set) {
            return (set & bit()) != 0;
        }

        boolean isOlderThan(Well other) {
            return age < other.age || (age == other.age && number < other.number);
        }

        int drawUnder(int stopped) {
            return isIn(stopped) ? 0 : planned;
        }

        int reachedFrom(int otherLayer, int otherPlace) {
            int reach = Math.max(0, FULL_REACH - REACH_LOST_PER_PLACE * Math.abs(place - otherPlace));
            int layersApart = Math.abs(layer - otherLayer);
            if (layersApart == 0) {
                return reach;
            }
            return layersApart == 1 ? reach / 2 : 0;
        }
    }
}
