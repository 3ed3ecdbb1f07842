import java.util.ArrayList;
import java.util.Comparator;
import java.util.HashMap;
import java.util.HashSet;
import java.util.List;
import java.util.Map;
import java.util.Set;

/**
 * The document told once more, in another way: wells are kept oldest first, every answer is a text,
 * and wouldStop lets a copy of the whole world pass a year.
 */
final class Model {
    private static final String NO_PLACE = "throws.IndexOutOfBoundsException";
    private static final String BAD_ARGUMENT = "throws.IllegalArgumentException";
    private static final String NOT_NOW = "throws.IllegalStateException";

    private static final class Pump {
        int number, layer, place, level, limit, age, right, plan, drew, told, power, bank, fines;
        boolean failed;

        Pump copy() {
            Pump c = new Pump();
            c.number = number;
            c.layer = layer;
            c.place = place;
            c.level = level;
            c.limit = limit;
            c.age = age;
            c.right = right;
            c.plan = plan;
            c.power = power;
            c.bank = bank;
            c.failed = failed;
            return c;
        }
    }

    private final List<Pump> byNumber = new ArrayList<>();
    private final List<Pump> byAge = new ArrayList<>();
    private final List<Integer> ponds = new ArrayList<>();
    private final Map<String, Integer> debts = new HashMap<>();
    private int[] recharge = new int[3];
    private int fines;
    private int years;
    private Set<Integer> lastStopped = new HashSet<>();

    /** The answer to a call by its name, with as many of the arguments as the call has. */
    String answer(String call, int[] a) {
        switch (call) {
            case "addWell": return addWell(a);
            case "setRecharge": return setRecharge(a[0], a[1]);
            case "year": return year();
            case "years": return "" + years;
            case "wouldStop": return wouldStop();
            case "fund": return "" + fund();
            case "build": return build(a[0]);
            case "lend":
            case "callBack": return between(call, a);
            default: return ofWell(call, a);
        }
    }

    private String addWell(int[] a) {
        if (a[0] < 0 || a[0] > 2) {
            return NO_PLACE;
        }
        boolean good = in(a[1], 0, 99) && in(a[2], -10000, 10000) && in(a[3], -10000, 10000)
                && in(a[4], 0, 1000) && in(a[5], 0, 1000);
        if (!good) {
            return BAD_ARGUMENT;
        }
        if (byNumber.size() == 8) {
            return NOT_NOW;
        }
        Pump pump = new Pump();
        pump.number = byNumber.size();
        pump.layer = a[0];
        pump.place = a[1];
        pump.level = a[2];
        pump.limit = a[3];
        pump.age = a[4];
        pump.right = a[5];
        enter(pump);
        return "" + pump.number;
    }

    private void enter(Pump pump) {
        byNumber.add(pump);
        byAge.add(pump);
        byAge.sort(Comparator.<Pump>comparingInt(p -> p.age).thenComparingInt(p -> p.number));
    }

    private String setRecharge(int layer, int amount) {
        if (!in(layer, 0, 2)) {
            return NO_PLACE;
        }
        if (!in(amount, 0, 1000)) {
            return BAD_ARGUMENT;
        }
        int before = recharge[layer];
        recharge[layer] = amount;
        return "" + before;
    }

    private String ofWell(String call, int[] a) {
        if (!isWell(a[0])) {
            return NO_PLACE;
        }
        Pump pump = byNumber.get(a[0]);
        switch (call) {
            case "level": return "" + pump.level;
            case "drew": return "" + pump.drew;
            case "told": return "" + pump.told;
            case "bank": return "" + pump.bank;
            case "fines": return "" + pump.fines;
            case "reach": return isWell(a[1]) ? "" + reach(pump.layer, pump.place, byNumber.get(a[1])) : NO_PLACE;
            case "sign": return sign(pump, a[1]);
            case "toggleMeter":
                pump.failed = !pump.failed;
                return pump.failed ? "0" : "1";
            case "plan": {
                int before = pump.plan;
                if (!in(a[1], 0, 2000)) {
                    return BAD_ARGUMENT;
                }
                pump.plan = a[1];
                return "" + before;
            }
            case "power": {
                int before = pump.power;
                if (!in(a[1], 0, 1000)) {
                    return BAD_ARGUMENT;
                }
                pump.power = a[1];
                return "" + before;
            }
            default: throw new AssertionError("no such call: " + call);
        }
    }

    private static String sign(Pump pump, int place) {
        String text = String.format("layer%d@%d:%d", pump.layer, pump.place, pump.number);
        return in(place, 0, text.length() - 1) ? "" + (int) text.charAt(place) : NO_PLACE;
    }

    private String between(String call, int[] a) {
        if (!isWell(a[0]) || !isWell(a[1])) {
            return NO_PLACE;
        }
        boolean lends = call.equals("lend");
        if (a[0] == a[1] || (lends && !in(a[2], 1, 10000))) {
            return BAD_ARGUMENT;
        }
        String debt = a[0] + " to " + a[1];
        Pump from = byNumber.get(a[0]);
        Pump to = byNumber.get(a[1]);
        int moved = lends ? a[2] : -Integer.min(debts.getOrDefault(debt, 0), to.bank);
        if (from.bank < moved) {
            return NOT_NOW;
        }
        from.bank -= moved;
        to.bank += moved;
        debts.merge(debt, moved, Integer::sum);
        return "" + (lends ? debts.get(debt) : -moved);
    }

    private int fund() {
        return fines - 100 * ponds.size();
    }

    private String build(int place) {
        if (!in(place, 0, 99)) {
            return BAD_ARGUMENT;
        }
        if (fund() < 100 || ponds.size() == 5) {
            return NOT_NOW;
        }
        ponds.add(place);
        return "" + ponds.size();
    }

    private String wouldStop() {
        Model copy = new Model();
        for (Pump pump : byNumber) {
            copy.enter(pump.copy());
        }
        copy.ponds.addAll(ponds);
        copy.recharge = recharge.clone();
        copy.year();
        int set = 0;
        for (int number : copy.lastStopped) {
            set += 1 << number;
        }
        return "" + set;
    }

    private String year() {
        if (years == 60) {
            return NOT_NOW;
        }
        for (Pump pump : byNumber) {
            pump.bank = pump.bank * 9 / 10;
        }
        for (Pump pump : byNumber) {
            pump.drew = pump.plan;
        }
        lastStopped = new HashSet<>();
        while (stopOne()) {
            // each round stops one more well, as stopOne tells
        }
        int[] behind = byNumber.stream().mapToInt(this::behind).toArray();
        for (Pump pump : byNumber) {
            pump.level = behind[pump.number];
        }
        tell();
        for (Pump pump : byNumber) {
            int rest = pump.right - pump.told;
            if (rest > 0 && !lastStopped.contains(pump.number)) {
                pump.bank += rest;
            }
            for (; rest < 0; rest++) {
                if (pump.bank > 0) {
                    pump.bank--;
                } else {
                    pump.fines += 2;
                    fines += 2;
                }
            }
            pump.power = 0;
        }
        years++;
        return "" + lastStopped.size();
    }

    /** Stops one well and answers true, or false if there is none to stop. */
    private boolean stopOne() {
        for (int old = 0; old < byAge.size(); old++) {
            Pump pump = byAge.get(old);
            if (behind(pump) >= pump.limit) {
                continue;
            }
            for (int young = byAge.size() - 1; young > old; young--) {
                Pump drawer = byAge.get(young);
                if (drawer.drew > 0 && reach(drawer.layer, drawer.place, pump) > 0) {
                    drawer.drew = 0;
                    lastStopped.add(drawer.number);
                    return true;
                }
            }
        }
        return false;
    }

    private int behind(Pump pump) {
        int behind = pump.level + recharge[pump.layer];
        for (int pond : ponds) {
            behind += 20 * reach(0, pond, pump) / 100;
        }
        for (Pump drawer : byNumber) {
            behind -= drawer.drew * reach(drawer.layer, drawer.place, pump) / 100;
        }
        return behind;
    }

    private void tell() {
        int[] sum = new int[3];
        int[] count = new int[3];
        for (Pump pump : byNumber) {
            if (!pump.failed) {
                pump.told = pump.drew;
                sum[pump.layer] += pump.told;
                count[pump.layer]++;
            }
        }
        for (Pump pump : byNumber) {
            if (pump.failed && pump.power > 0) {
                pump.told = pump.power * 3;
            } else if (pump.failed) {
                pump.told = count[pump.layer] == 0 ? 0 : sum[pump.layer] / count[pump.layer];
            }
        }
    }

    private static int reach(int layer, int place, Pump other) {
        int apart = Math.abs(place - other.place);
        int near = apart > 10 ? 0 : 100 - 10 * apart;
        int[] byLayers = {near, near / 2, 0};
        return byLayers[Math.abs(layer - other.layer)];
    }

    private boolean isWell(int number) {
        return in(number, 0, byNumber.size() - 1);
    }

    private static boolean in(int value, int least, int most) {
        return value >= least && value <= most;
    }
}
