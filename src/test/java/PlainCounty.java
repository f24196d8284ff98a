import java.util.ArrayList;
import java.util.HashMap;
import java.util.List;
import java.util.Map;

/**
 * The document once more, as slow and as plain as can be: everything that ever was is kept in logs and looked up
 * there, ways and rows are tried one by one. Arguments are taken to be right; ModelTest says which are not.
 */
final class PlainCounty {
    static final int NONE = -1;

    static final class Way {
        int one;
        int other;
        int length;
        int rank;
        int height;
        int shade;
        boolean isBridge;
        int warmth = 3;
        int water;
        int ice;
        int snow;
        int salt;
        final List<Integer> slippery = new ArrayList<>();
        final List<Integer> treated = new ArrayList<>();

        Way copy() {
            Way copy = new Way();
            copy.one = one;
            copy.other = other;
            copy.length = length;
            copy.rank = rank;
            copy.height = height;
            copy.shade = shade;
            copy.isBridge = isBridge;
            copy.warmth = warmth;
            copy.water = water;
            copy.ice = ice;
            copy.snow = snow;
            copy.salt = salt;
            return copy;
        }

        int goal(int air, boolean isClear) {
            int goal = air;
            goal -= height / 3;
            goal -= shade;
            if (isClear) {
                goal -= 2;
            }
            return goal;
        }

        int point() {
            if (water + ice + snow == 0) {
                return 0;
            }
            int down = 6 * salt / (water + ice + snow);
            return down > 21 ? -21 : -down;
        }

        boolean isSlippery() {
            return ice > 1 || snow > 2;
        }
    }

    static final class Truck {
        int node;
        int from;
        int done;
        int hopper;
        int rate = 2;
        boolean hasPlough;
        int hours;
        int spread;
        final List<Integer> orders = new ArrayList<>();
    }

    final List<Way> ways = new ArrayList<>();
    final List<Truck> trucks = new ArrayList<>();
    /** Told at, for quarter, three airs, 1 if clear, salt. */
    final List<int[]> forecasts = new ArrayList<>();
    /** Amount, quarter. */
    final List<int[]> deliveries = new ArrayList<>();
    private final Map<Integer, Integer> bestFrom = new HashMap<>();
    int air = 5;
    boolean isClear;
    int rain;
    int flakes;
    int wind;
    int now;
    int barn = 100;
    int river;
    int fields;
    int returned;
    int ranOff;
    int ploughed;
    int delivered;

    int road(int one, int other, int length, int rank, int height, int shade, boolean isBridge) {
        Way way = new Way();
        way.one = one;
        way.other = other;
        way.length = length;
        way.rank = rank;
        way.height = height;
        way.shade = shade;
        way.isBridge = isBridge;
        ways.add(way);
        bestFrom.clear();
        return ways.size() - 1;
    }

    int forecast(int later, int first, int second, int third, boolean clear) {
        int salt = barn;
        for (Truck truck : trucks) {
            salt += truck.hopper;
        }
        int[] told = {now, now + later, first, second, third, clear ? 1 : 0, salt};
        forecasts.add(told);
        int count = 0;
        for (Way way : ways) {
            if (foretells(told, way)) {
                count++;
            }
        }
        return count;
    }

    private static boolean foretells(int[] told, Way way) {
        int members = 0;
        for (int i = 2; i <= 4; i++) {
            if (way.goal(told[i], told[5] == 1) < 0) {
                members++;
            }
        }
        return members == 2 || members == 3;
    }

    int pass(int quarters) {
        int before = 0;
        int behind = 0;
        for (Way way : ways) {
            before += way.slippery.size();
        }
        for (int i = 0; i < quarters; i++) {
            quarter();
        }
        for (Way way : ways) {
            behind += way.slippery.size();
        }
        return behind - before;
    }

    private void quarter() {
        now++;
        for (Way way : ways) {
            int[] gone = weather(way);
            ranOff += gone[0];
            river += gone[1];
            fields += gone[2];
            if (way.isSlippery()) {
                way.slippery.add(now);
            }
        }
        for (Truck truck : trucks) {
            if (!truck.orders.isEmpty() && truck.hours < 40) {
                truck.hours++;
                work(truck);
            }
        }
        for (int i = deliveries.size() - 1; i >= 0; i--) {
            if (deliveries.get(i)[1] == now) {
                int amount = deliveries.remove(i)[0];
                int all = barn + amount;
                int over = Math.max(0, all - 999);
                barn = all - over;
                returned += over;
                delivered += amount - over;
            }
        }
    }

    /** Water that ran off, salt to the river, salt to the fields. */
    private int[] weather(Way way) {
        int goal = way.goal(air, isClear);
        for (int step = 0; step < (way.isBridge ? 2 : 1); step++) {
            way.warmth += Integer.signum(goal - way.warmth);
        }
        way.water += rain;
        way.snow += flakes;
        if (way.warmth < way.point()) {
            for (int i = 0; i < 2 && way.water > 0; i++) {
                way.water--;
                way.ice++;
            }
        } else {
            for (int i = 0; i < 1 + way.salt / 4; i++) {
                if (way.ice > 0) {
                    way.ice--;
                    way.water++;
                } else if (way.snow > 0) {
                    way.snow--;
                    way.water++;
                }
            }
        }
        int[] gone = new int[3];
        if (way.water > 8) {
            gone[0] = way.water - 8;
            gone[1] = (way.water - 8) * way.salt / way.water;
            way.water = 8;
            way.salt -= gone[1];
        }
        int lost = 0;
        if (way.water > 0) {
            lost = way.rank == 0 ? 1 : 0;
        } else if (wind >= 2) {
            lost = 2;
        }
        gone[2] = Math.min(lost, way.salt);
        way.salt -= gone[2];
        return gone;
    }

    private void work(Truck truck) {
        Way way = ways.get(truck.orders.get(0));
        if (truck.node != NONE) {
            if (way.one != truck.node && way.other != truck.node) {
                truck.orders.remove(0);
                return;
            }
            truck.from = truck.node;
            truck.node = NONE;
            truck.done = 1;
        } else {
            truck.done++;
        }
        if (truck.done < way.length) {
            return;
        }
        truck.node = way.one + way.other - truck.from;
        truck.done = 0;
        truck.orders.remove(0);
        int salt = Math.min(truck.hopper, truck.rate * way.length);
        truck.hopper -= salt;
        truck.spread += salt;
        way.salt += salt;
        if (truck.hasPlough) {
            ploughed += way.snow;
            way.snow = 0;
        }
        if (salt >= 1 || truck.hasPlough) {
            way.treated.add(now);
        }
    }

    int claim(int road, int quarter) {
        Way way = ways.get(road);
        if (!way.slippery.contains(quarter)) {
            return 0;
        }
        for (int treated : way.treated) {
            if (treated <= quarter && quarter - treated <= 12) {
                return 1;
            }
        }
        int[] notice = {4, 8, 16};
        int[] last = null;
        for (int[] told : forecasts) {
            boolean isFor = told[1] <= quarter && quarter - told[1] <= 4;
            boolean isEarly = told[0] + notice[way.rank] <= quarter;
            if (isFor && isEarly && foretells(told, way)) {
                last = told;
            }
        }
        if (last == null) {
            return 2;
        }
        return last[6] > 0 ? 4 : 3;
    }

    int ofRoad(int road, int what) {
        Way way = ways.get(road);
        int latest = way.treated.isEmpty() ? NONE : way.treated.get(way.treated.size() - 1);
        int[] facts = {way.one, way.other, way.length, way.rank, way.height, way.shade, way.isBridge ? 1 : 0,
            way.warmth, way.water, way.ice, way.snow, way.salt, way.point(), way.slippery.size(), latest};
        return facts[what];
    }

    int ofLorry(int lorry, int what) {
        Truck truck = trucks.get(lorry);
        int road = truck.node == NONE ? truck.orders.get(0) : NONE;
        int[] facts = {truck.node, road, truck.done, truck.hopper, truck.rate, truck.hasPlough ? 1 : 0, truck.hours,
            truck.orders.size(), truck.spread};
        return facts[what];
    }

    int many(int what) {
        int inHoppers = 0;
        for (Truck truck : trucks) {
            inHoppers += truck.hopper;
        }
        int onRoads = 0;
        int slippery = 0;
        for (Way way : ways) {
            onRoads += way.salt;
            slippery += way.slippery.contains(now) ? 1 : 0;
        }
        int[] counts = {ways.size(), now, trucks.size(), barn, inHoppers, onRoads, river, fields, returned, ranOff,
            ploughed, forecasts.size(), deliveries.size(), delivered, slippery};
        return counts[what];
    }

    int way(int one, int other) {
        int[][] far = new int[7][7];
        for (int i = 0; i < 7; i++) {
            for (int j = 0; j < 7; j++) {
                far[i][j] = i == j ? 0 : 1000;
            }
        }
        for (Way way : ways) {
            far[way.one][way.other] = Math.min(far[way.one][way.other], way.length);
            far[way.other][way.one] = far[way.one][way.other];
        }
        for (int over = 0; over < 7; over++) {
            for (int i = 0; i < 7; i++) {
                for (int j = 0; j < 7; j++) {
                    far[i][j] = Math.min(far[i][j], far[i][over] + far[over][j]);
                }
            }
        }
        return far[one][other] >= 1000 ? NONE : far[one][other];
    }

    double meanWarmth() {
        double sum = 0;
        for (Way way : ways) {
            sum += way.warmth;
        }
        return ways.isEmpty() ? 0 : sum / ways.size();
    }

    int slipperyIn(int road, int quarters) {
        return slipperyWith(road, 0, quarters);
    }

    private int slipperyWith(int road, int salt, int quarters) {
        Way way = ways.get(road).copy();
        way.salt += salt;
        for (int i = 1; i <= quarters; i++) {
            weather(way);
            if (way.isSlippery()) {
                return i;
            }
        }
        return NONE;
    }

    int saltFor(int road, int quarters) {
        int least = NONE;
        for (int salt = 60; salt >= 0; salt--) {
            if (slipperyWith(road, salt, quarters) == NONE) {
                least = salt;
            }
        }
        return least;
    }

    int bestOrders(int from) {
        if (!bestFrom.containsKey(from)) {
            int[] best = {0, 0, 0};
            tryRows(from, 0, 0, 1, best);
            bestFrom.put(from, best[2]);
        }
        return bestFrom.get(from);
    }

    /** best: length, count, digits of the best row so far, digits 0 without one. */
    private void tryRows(int node, int length, int count, int digits, int[] best) {
        if (goesAlongAll(digits)) {
            boolean isBetter = best[2] == 0 || length < best[0] || length == best[0]
                && (count < best[1] || count == best[1] && digits < best[2]);
            if (isBetter) {
                best[0] = length;
                best[1] = count;
                best[2] = digits;
            }
        }
        for (int i = 0; count < 6 && i < ways.size(); i++) {
            Way way = ways.get(i);
            if (way.one == node || way.other == node) {
                int end = way.one == node ? way.other : way.one;
                tryRows(end, length + way.length, count + 1, digits * 10 + i, best);
            }
        }
    }

    private boolean goesAlongAll(int digits) {
        String row = String.valueOf(digits).substring(1);
        for (int i = 0; i < ways.size(); i++) {
            if (ways.get(i).rank == 0 && row.indexOf('0' + i) < 0) {
                return false;
            }
        }
        return true;
    }

    long digest() {
        List<Integer> values = new ArrayList<>();
        for (int what = 0; what <= 14; what++) {
            values.add(many(what));
        }
        for (int road = 0; road < ways.size(); road++) {
            for (int what = 0; what <= 14; what++) {
                values.add(ofRoad(road, what));
            }
            values.add(slipperyIn(road, 8));
            values.add(saltFor(road, 4));
            if (now > 0) {
                values.add(claim(road, now));
            }
        }
        for (int lorry = 0; lorry < trucks.size(); lorry++) {
            for (int what = 0; what <= 8; what++) {
                values.add(ofLorry(lorry, what));
            }
        }
        for (int node = 0; node <= 6; node++) {
            values.add(way(0, node));
        }
        if (!trucks.isEmpty()) {
            values.add(bestOrders(0));
        }
        long d = 4808;
        for (int value : values) {
            d = d * 31 + value;
        }
        return d;
    }
}
