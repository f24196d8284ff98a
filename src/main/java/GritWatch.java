import java.util.Arrays;

/** A county's roads through a winter night: weather, lorries, salt, forecasts and claims. */
public final class GritWatch {
    private static final int NONE = -1;
    private static final int NODES = 7;
    private static final int MOST_ROADS = 8;
    private static final int MOST_LORRIES = 3;
    private static final int MOST_FORECASTS = 20;
    private static final int MOST_DELIVERIES = 5;
    private static final int MOST_ORDERS = 8;
    private static final int LAST_QUARTER = 199;
    private static final int MOST_IN_BARN = 999;
    private static final int MOST_IN_HOPPER = 90;
    private static final int MOST_HOURS = 40;
    private static final int MOST_WATER = 8;
    private static final int DEEPEST_POINT = 21;
    private static final int MOST_SALT_AT_ONCE = 60;
    private static final int MOST_IN_ROW = 6;
    private static final int FAR = 1000000000;

    private final Road[] roads = new Road[MOST_ROADS];
    private final Lorry[] lorries = new Lorry[MOST_LORRIES];
    private final Forecast[] forecasts = new Forecast[MOST_FORECASTS];
    private final Delivery[] deliveries = new Delivery[MOST_DELIVERIES];
    private final Weather weather = new Weather();
    private final Surface trial = new Surface();
    private final int[] ways = new int[NODES];
    private final Rows rows = new Rows();
    private int roadCount;
    private int lorryCount;
    private int forecastCount;
    private int now;
    private int barn = 100;
    private int delivered;
    private int returned;
    private int ploughed;

    public GritWatch() {
    }

    // ---- roads and weather

    public int road(int one, int other, int length, int rank, int height, int shade, boolean isBridge)
            throws IndexOutOfBoundsException, IllegalArgumentException, IllegalStateException {
        if (!isNode(one) || !isNode(other)) {
            throw new IndexOutOfBoundsException("no such node");
        }
        if (one == other) {
            throw new IllegalArgumentException("both nodes are the same");
        }
        if (!isWithin(length, 1, 6) || !isWithin(rank, 0, 2) || !isWithin(height, 0, 9) || !isWithin(shade, 0, 2)) {
            throw new IllegalArgumentException("length, rank, height or shade is out of range");
        }
        int number = roadCount;
        if (number >= roads.length) {
            throw new IllegalStateException("there are 8 roads");
        }
        roads[number] = new Road(one, other, length, rank, height, shade, isBridge);
        roadCount = number + 1;
        return number;
    }

    public int air(int air, boolean isClear) throws IllegalArgumentException {
        if (!isAir(air)) {
            throw new IllegalArgumentException("air is not -20 to 20");
        }
        int before = weather.air;
        weather.air = air;
        weather.isClear = isClear;
        return before;
    }

    public int fall(int rain, int flakes, int wind) throws IllegalArgumentException {
        if (!isWithin(rain, 0, 3) || !isWithin(flakes, 0, 3) || !isWithin(wind, 0, 3)) {
            throw new IllegalArgumentException("rain, flakes or wind is not 0 to 3");
        }
        int before = weather.wind;
        weather.rain = rain;
        weather.flakes = flakes;
        weather.wind = wind;
        return before;
    }

    public int forecast(int later, int first, int second, int third, boolean isClear)
            throws IllegalArgumentException, IllegalStateException {
        if (!isWithin(later, 1, 48)) {
            throw new IllegalArgumentException("later is not 1 to 48");
        }
        if (!isAir(first) || !isAir(second) || !isAir(third)) {
            throw new IllegalArgumentException("an air is not -20 to 20");
        }
        if (forecastCount >= forecasts.length) {
            throw new IllegalStateException("there are 20 forecasts");
        }
        Forecast told = new Forecast(now, now + later, barn + saltInHoppers());
        told.tellMembers(first, second, third, isClear);
        forecasts[forecastCount] = told;
        forecastCount++;
        return roadsForetold(told);
    }

    public int pass(int quarters) throws IllegalArgumentException, IllegalStateException {
        if (!isWithin(quarters, 1, 20)) {
            throw new IllegalArgumentException("quarters is not 1 to 20");
        }
        if (now + quarters > LAST_QUARTER) {
            throw new IllegalStateException("now would be above 199");
        }
        int slippery = 0;
        for (int i = 0; i < quarters; i++) {
            passQuarter();
            slippery += slipperyNow();
        }
        return slippery;
    }

    // ---- lorries and salt

    public int lorry(boolean hasPlough) throws IllegalStateException {
        int number = lorryCount;
        if (number >= lorries.length) {
            throw new IllegalStateException("there are 3 lorries");
        }
        lorries[number] = new Lorry(hasPlough);
        lorryCount = number + 1;
        return number;
    }

    public int rate(int lorry, int rate) throws IndexOutOfBoundsException, IllegalArgumentException {
        Lorry driven = lorryAt(lorry);
        if (driven == null) {
            throw new IndexOutOfBoundsException("no such lorry");
        }
        if (!isWithin(rate, 0, 9)) {
            throw new IllegalArgumentException("rate is not 0 to 9");
        }
        int before = driven.rate;
        driven.rate = rate;
        return before;
    }

    public int order(int lorry, int road) throws IndexOutOfBoundsException, IllegalStateException {
        Lorry driven = lorryAt(lorry);
        if (driven == null || roadAt(road) == null) {
            throw new IndexOutOfBoundsException("no such lorry or road");
        }
        if (driven.orderCount >= MOST_ORDERS) {
            throw new IllegalStateException("the lorry has 8 orders");
        }
        driven.addOrder(road);
        return driven.orderCount;
    }

    public int load(int lorry) throws IndexOutOfBoundsException, IllegalStateException {
        Lorry driven = lorryAt(lorry);
        if (driven == null) {
            throw new IndexOutOfBoundsException("no such lorry");
        }
        if (driven.node != 0) {
            throw new IllegalStateException("the lorry is not at the barn");
        }
        int amount = Math.min(MOST_IN_HOPPER - driven.hopper, barn);
        driven.hopper += amount;
        barn -= amount;
        return amount;
    }

    public int rest(int lorry) throws IndexOutOfBoundsException, IllegalStateException {
        Lorry driven = lorryAt(lorry);
        if (driven == null) {
            throw new IndexOutOfBoundsException("no such lorry");
        }
        if (driven.node == NONE) {
            throw new IllegalStateException("the lorry is on a road");
        }
        int before = driven.hours;
        driven.hours = 0;
        driven.orderCount = 0;
        return before;
    }

    public int deliver(int amount, int later) throws IllegalArgumentException, IllegalStateException {
        if (!isWithin(amount, 1, 500) || !isWithin(later, 1, 96)) {
            throw new IllegalArgumentException("amount is not 1 to 500, or later not 1 to 96");
        }
        if (deliveriesOnTheirWay() >= MOST_DELIVERIES) {
            throw new IllegalStateException("there are 5 deliveries");
        }
        keepDelivery(new Delivery(amount, now + later));
        return deliveriesOnTheirWay();
    }

    public int claim(int road, int quarter) throws IndexOutOfBoundsException, IllegalArgumentException {
        Road claimed = roadAt(road);
        if (claimed == null) {
            throw new IndexOutOfBoundsException("no such road");
        }
        if (!isWithin(quarter, 1, now)) {
            throw new IllegalArgumentException("quarter is not 1 to now");
        }
        return answerTo(claimed, quarter);
    }

    // ---- what one asks

    public int ofRoad(int road, int what) throws IndexOutOfBoundsException, IllegalArgumentException {
        Road asked = roadAt(road);
        if (asked == null) {
            throw new IndexOutOfBoundsException("no such road");
        }
        if (!isWithin(what, 0, 14)) {
            throw new IllegalArgumentException("what is not 0 to 14");
        }
        return asked.fact(what);
    }

    public int ofLorry(int lorry, int what) throws IndexOutOfBoundsException, IllegalArgumentException {
        Lorry asked = lorryAt(lorry);
        if (asked == null) {
            throw new IndexOutOfBoundsException("no such lorry");
        }
        if (!isWithin(what, 0, 8)) {
            throw new IllegalArgumentException("what is not 0 to 8");
        }
        return asked.fact(what);
    }

    public int many(int what) throws IllegalArgumentException {
        if (!isWithin(what, 0, 14)) {
            throw new IllegalArgumentException("what is not 0 to 14");
        }
        return countOf(what);
    }

    public int way(int one, int other) throws IndexOutOfBoundsException {
        if (!isNode(one) || !isNode(other)) {
            throw new IndexOutOfBoundsException("no such node");
        }
        return shortestWay(one, other);
    }

    public double meanWarmth() {
        int sum = 0;
        int count = 0;
        for (Road road : roads) {
            if (road != null) {
                sum += road.surface.warmth;
                count++;
            }
        }
        return count == 0 ? 0.0 : (double) sum / count;
    }

    // ---- what would be (nothing is changed)

    public int slipperyIn(int road, int quarters) throws IndexOutOfBoundsException, IllegalArgumentException {
        Road asked = roadAt(road);
        if (asked == null) {
            throw new IndexOutOfBoundsException("no such road");
        }
        if (!isWithin(quarters, 1, 24)) {
            throw new IllegalArgumentException("quarters is not 1 to 24");
        }
        return firstSlippery(asked, 0, quarters);
    }

    public int saltFor(int road, int quarters) throws IndexOutOfBoundsException, IllegalArgumentException {
        Road asked = roadAt(road);
        if (asked == null) {
            throw new IndexOutOfBoundsException("no such road");
        }
        if (!isWithin(quarters, 1, 24)) {
            throw new IllegalArgumentException("quarters is not 1 to 24");
        }
        return leastSalt(asked, quarters);
    }

    public int bestOrders(int lorry, int from) throws IndexOutOfBoundsException {
        if (lorryAt(lorry) == null || !isNode(from)) {
            throw new IndexOutOfBoundsException("no such lorry or node");
        }
        return rows.best(roads, from);
    }

    public long digest() {
        long sum = 4808;
        for (int what = 0; what <= 14; what++) {
            sum = sum * 31 + countOf(what);
        }
        for (Road road : roads) {
            if (road != null) {
                sum = digestOfRoad(road, sum);
            }
        }
        for (Lorry lorry : lorries) {
            if (lorry != null) {
                sum = digestOfLorry(lorry, sum);
            }
        }
        for (int node = 0; node < NODES; node++) {
            sum = sum * 31 + shortestWay(0, node);
        }
        return lorryCount == 0 ? sum : sum * 31 + rows.best(roads, 0);
    }

    private long digestOfRoad(Road road, long before) {
        long sum = before;
        for (int what = 0; what <= 14; what++) {
            sum = sum * 31 + road.fact(what);
        }
        sum = sum * 31 + firstSlippery(road, 0, 8);
        sum = sum * 31 + leastSalt(road, 4);
        return now == 0 ? sum : sum * 31 + answerTo(road, now);
    }

    private static long digestOfLorry(Lorry lorry, long before) {
        long sum = before;
        for (int what = 0; what <= 8; what++) {
            sum = sum * 31 + lorry.fact(what);
        }
        return sum;
    }

    // ---- numbers and places

    private static boolean isWithin(int number, int least, int most) {
        return number >= least && number <= most;
    }

    private static boolean isNode(int node) {
        return isWithin(node, 0, NODES - 1);
    }

    private static boolean isAir(int air) {
        return isWithin(air, -20, 20);
    }

    private Road roadAt(int number) {
        return number >= 0 && number < roads.length ? roads[number] : null;
    }

    private Lorry lorryAt(int number) {
        return number >= 0 && number < lorries.length ? lorries[number] : null;
    }

    private static int numberAt(int[] numbers, int index) {
        return index >= 0 && index < numbers.length ? numbers[index] : FAR;
    }

    private static void lower(int[] numbers, int index, int number) {
        if (index >= 0 && index < numbers.length && number < numbers[index]) {
            numbers[index] = number;
        }
    }

    // ---- a quarter

    private void passQuarter() {
        now++;
        for (Road road : roads) {
            if (road != null) {
                road.weatherQuarter(road.surface, weather);
                road.noteSlippery(now);
            }
        }
        for (Lorry lorry : lorries) {
            if (lorry != null) {
                work(lorry);
            }
        }
        takeDeliveries();
    }

    private void work(Lorry lorry) {
        if (lorry.orderCount == 0 || lorry.hours >= MOST_HOURS) {
            return;
        }
        lorry.hours++;
        Road road = roadAt(lorry.firstOrder());
        if (road == null || lorry.node != NONE && !road.joins(lorry.node)) {
            lorry.dropFirstOrder();
            return;
        }
        if (lorry.node != NONE) {
            lorry.ahead = road.otherEnd(lorry.node);
            lorry.node = NONE;
        }
        lorry.done++;
        if (lorry.done >= road.length) {
            lorry.arrive();
            treat(road, lorry);
        }
    }

    private void treat(Road road, Lorry lorry) {
        int amount = Math.min(lorry.rate * road.length, lorry.hopper);
        lorry.hopper -= amount;
        lorry.spread += amount;
        road.surface.salt += amount;
        if (lorry.hasPlough) {
            ploughed += road.surface.snow;
            road.surface.snow = 0;
        }
        if (amount > 0 || lorry.hasPlough) {
            road.noteTreated(now);
        }
    }

    private void takeDeliveries() {
        for (int i = 0; i < deliveries.length; i++) {
            Delivery coming = deliveries[i];
            if (coming != null && coming.quarter == now) {
                int taken = Math.min(coming.amount, MOST_IN_BARN - barn);
                barn += taken;
                delivered += taken;
                returned += coming.amount - taken;
                deliveries[i] = null;
            }
        }
    }

    private void keepDelivery(Delivery told) {
        for (int i = 0; i < deliveries.length; i++) {
            if (deliveries[i] == null) {
                deliveries[i] = told;
                return;
            }
        }
    }

    // ---- forecasts and claims

    private int roadsForetold(Forecast told) {
        int count = 0;
        for (Road road : roads) {
            if (road != null && told.foretells(road)) {
                count++;
            }
        }
        return count;
    }

    private int answerTo(Road road, int quarter) {
        if (!road.wasSlippery(quarter)) {
            return 0;
        }
        if (road.wasTreatedWithin(quarter - 12, quarter)) {
            return 1;
        }
        Forecast warning = lastWarning(road, quarter);
        if (warning == null) {
            return 2;
        }
        return warning.salt == 0 ? 3 : 4;
    }

    private Forecast lastWarning(Road road, int quarter) {
        Forecast last = null;
        for (Forecast told : forecasts) {
            if (told != null && isWithin(told.quarter, quarter - 4, quarter)
                    && quarter - told.toldAt >= road.notice() && told.foretells(road)) {
                last = told;
            }
        }
        return last;
    }

    // ---- counts and ways

    private int countOf(int what) {
        switch (what) {
            case 0: return roadCount;
            case 1: return now;
            case 2: return lorryCount;
            case 3: return barn;
            case 4: return saltInHoppers();
            case 5: return saltOnRoads();
            case 6: return saltInRiver();
            case 7: return saltOnFields();
            case 8: return returned;
            case 9: return waterRunOff();
            case 10: return ploughed;
            case 11: return forecastCount;
            case 12: return deliveriesOnTheirWay();
            case 13: return delivered;
            default: return slipperyNow();
        }
    }

    private int saltInHoppers() {
        int sum = 0;
        for (Lorry lorry : lorries) {
            sum += lorry == null ? 0 : lorry.hopper;
        }
        return sum;
    }

    private int saltOnRoads() {
        int sum = 0;
        for (Road road : roads) {
            sum += road == null ? 0 : road.surface.salt;
        }
        return sum;
    }

    private int saltInRiver() {
        int sum = 0;
        for (Road road : roads) {
            sum += road == null ? 0 : road.surface.saltToRiver;
        }
        return sum;
    }

    private int saltOnFields() {
        int sum = 0;
        for (Road road : roads) {
            sum += road == null ? 0 : road.surface.saltToFields;
        }
        return sum;
    }

    private int waterRunOff() {
        int sum = 0;
        for (Road road : roads) {
            sum += road == null ? 0 : road.surface.waterRunOff;
        }
        return sum;
    }

    private int deliveriesOnTheirWay() {
        int count = 0;
        for (Delivery coming : deliveries) {
            count += coming == null ? 0 : 1;
        }
        return count;
    }

    private int slipperyNow() {
        int count = 0;
        for (Road road : roads) {
            count += road != null && road.wasSlippery(now) ? 1 : 0;
        }
        return count;
    }

    private int shortestWay(int one, int other) {
        Arrays.fill(ways, FAR);
        lower(ways, one, 0);
        // a shortest way goes along fewer roads than there are nodes
        for (int round = 1; round < NODES; round++) {
            for (Road road : roads) {
                if (road != null) {
                    lowerWay(road.one, road.other, road.length);
                    lowerWay(road.other, road.one, road.length);
                }
            }
        }
        int found = numberAt(ways, other);
        return found == FAR ? NONE : found;
    }

    private void lowerWay(int from, int to, int length) {
        int sofar = numberAt(ways, from);
        if (sofar != FAR) {
            lower(ways, to, sofar + length);
        }
    }

    // ---- what would be

    private int firstSlippery(Road road, int moreSalt, int quarters) {
        trial.becomeLike(road.surface);
        trial.salt += moreSalt;
        for (int i = 1; i <= quarters; i++) {
            road.weatherQuarter(trial, weather);
            if (trial.isSlippery()) {
                return i;
            }
        }
        return NONE;
    }

    private int leastSalt(Road road, int quarters) {
        for (int salt = 0; salt <= MOST_SALT_AT_ONCE; salt++) {
            if (firstSlippery(road, salt, quarters) == NONE) {
                return salt;
            }
        }
        return NONE;
    }

    private static final class Weather {
        int air = 5;
        boolean isClear;
        int rain;
        int flakes;
        int wind;
    }

    /** What lies on a road, how warm it is, and what has left it. */
    private static final class Surface {
        int warmth = 3;
        int water;
        int ice;
        int snow;
        int salt;
        int saltToRiver;
        int saltToFields;
        int waterRunOff;

        // what has left the road is no part of how it lies
        void becomeLike(Surface other) {
            warmth = other.warmth;
            water = other.water;
            ice = other.ice;
            snow = other.snow;
            salt = other.salt;
        }

        boolean isSlippery() {
            return ice >= 2 || snow >= 3;
        }

        int point() {
            int wet = water + ice + snow;
            int depth = wet <= 0 ? 0 : 6 * salt / wet;
            return depth > DEEPEST_POINT ? -DEEPEST_POINT : -depth;
        }

        void comeNearer(int goal, int most) {
            if (warmth < goal) {
                warmth = Math.min(goal, warmth + most);
            } else {
                warmth = Math.max(goal, warmth - most);
            }
        }

        void freezeOrThaw() {
            if (warmth < point()) {
                int frozen = Math.min(2, water);
                water -= frozen;
                ice += frozen;
                return;
            }
            int strength = 1 + salt / 4;
            int meltedIce = Math.min(ice, strength);
            int meltedSnow = Math.min(snow, strength - meltedIce);
            ice -= meltedIce;
            snow -= meltedSnow;
            water += meltedIce + meltedSnow;
        }

        void runOff() {
            if (water <= MOST_WATER) {
                return;
            }
            int above = water - MOST_WATER;
            int washed = above * salt / water;
            water = MOST_WATER;
            waterRunOff += above;
            salt -= washed;
            saltToRiver += washed;
        }

        void loseToFields(int most) {
            int lost = Math.min(most, salt);
            salt -= lost;
            saltToFields += lost;
        }
    }

    private static final class Road {
        final int one;
        final int other;
        final int length;
        final int rank;
        final int height;
        final int shade;
        final boolean isBridge;
        final Surface surface = new Surface();
        final boolean[] slippery = new boolean[LAST_QUARTER + 1];
        final boolean[] treated = new boolean[LAST_QUARTER + 1];
        int slipperyTimes;
        int lastTreated = NONE;

        Road(int one, int other, int length, int rank, int height, int shade, boolean isBridge) {
            this.one = one;
            this.other = other;
            this.length = length;
            this.rank = rank;
            this.height = height;
            this.shade = shade;
            this.isBridge = isBridge;
        }

        int goal(int air, boolean isClear) {
            return air - height / 3 - shade - (isClear ? 2 : 0);
        }

        /** How many quarters ahead a forecast must have been told to count against this road. */
        int notice() {
            return rank == 0 ? 4 : rank == 1 ? 8 : 16;
        }

        boolean joins(int node) {
            return node == one || node == other;
        }

        int otherEnd(int node) {
            return node == one ? other : one;
        }

        void weatherQuarter(Surface lies, Weather weather) {
            lies.comeNearer(goal(weather.air, weather.isClear), isBridge ? 2 : 1);
            lies.water += weather.rain;
            lies.snow += weather.flakes;
            lies.freezeOrThaw();
            lies.runOff();
            if (rank == 0 && lies.water > 0) {
                lies.loseToFields(1);
            }
            if (weather.wind >= 2 && lies.water == 0) {
                lies.loseToFields(2);
            }
        }

        void noteSlippery(int quarter) {
            if (surface.isSlippery() && quarter >= 0 && quarter < slippery.length) {
                slippery[quarter] = true;
                slipperyTimes++;
            }
        }

        void noteTreated(int quarter) {
            if (quarter >= 0 && quarter < treated.length) {
                treated[quarter] = true;
                lastTreated = quarter;
            }
        }

        boolean wasSlippery(int quarter) {
            return quarter >= 0 && quarter < slippery.length && slippery[quarter];
        }

        boolean wasTreatedWithin(int first, int last) {
            int end = Math.min(last, treated.length - 1);
            for (int quarter = Math.max(first, 0); quarter <= end; quarter++) {
                if (treated[quarter]) {
                    return true;
                }
            }
            return false;
        }

        int fact(int what) {
            switch (what) {
                case 0: return one;
                case 1: return other;
                case 2: return length;
                case 3: return rank;
                case 4: return height;
                case 5: return shade;
                case 6: return isBridge ? 1 : 0;
                case 7: return surface.warmth;
                case 8: return surface.water;
                case 9: return surface.ice;
                case 10: return surface.snow;
                case 11: return surface.salt;
                case 12: return surface.point();
                case 13: return slipperyTimes;
                default: return lastTreated;
            }
        }
    }

    private static final class Lorry {
        final boolean hasPlough;
        final int[] orders = new int[MOST_ORDERS];
        int orderCount;
        int node;
        int ahead;
        int done;
        int hopper;
        int rate = 2;
        int hours;
        int spread;

        Lorry(boolean hasPlough) {
            this.hasPlough = hasPlough;
        }

        void addOrder(int road) {
            if (orderCount >= 0 && orderCount < orders.length) {
                orders[orderCount] = road;
                orderCount++;
            }
        }

        int firstOrder() {
            return orderCount > 0 && orders.length > 0 ? orders[0] : NONE;
        }

        void dropFirstOrder() {
            for (int i = 1; i < orders.length; i++) {
                orders[i - 1] = orders[i];
            }
            orderCount = Math.max(0, orderCount - 1);
        }

        void arrive() {
            node = ahead;
            done = 0;
            dropFirstOrder();
        }

        int fact(int what) {
            switch (what) {
                case 0: return node;
                case 1: return node == NONE ? firstOrder() : NONE;
                case 2: return done;
                case 3: return hopper;
                case 4: return rate;
                case 5: return hasPlough ? 1 : 0;
                case 6: return hours;
                case 7: return orderCount;
                default: return spread;
            }
        }
    }

    private static final class Forecast {
        final int toldAt;
        final int quarter;
        /** What hoppers and barn had as it was told: claims are heard by what was known then. */
        final int salt;
        private int first;
        private int second;
        private int third;
        private boolean isClear;

        Forecast(int toldAt, int quarter, int salt) {
            this.toldAt = toldAt;
            this.quarter = quarter;
            this.salt = salt;
        }

        void tellMembers(int first, int second, int third, boolean isClear) {
            this.first = first;
            this.second = second;
            this.third = third;
            this.isClear = isClear;
        }

        boolean foretells(Road road) {
            int freezing = (road.goal(first, isClear) < 0 ? 1 : 0)
                    + (road.goal(second, isClear) < 0 ? 1 : 0)
                    + (road.goal(third, isClear) < 0 ? 1 : 0);
            return freezing >= 2;
        }
    }

    private static final class Delivery {
        final int amount;
        final int quarter;

        Delivery(int amount, int quarter) {
            this.amount = amount;
            this.quarter = quarter;
        }
    }

    /**
     * The best row of roads along all of the class 0. Of the rows with equally many roads that end at the same node
     * and have gone along the same roads of the class 0, only the best can begin a best row: so only that is kept, and
     * the work stays small however many rows there are.
     */
    private static final class Rows {
        // length times BASE, and the digits: one comparison finds the shorter, then the smaller of rows of equal count
        private static final int BASE = 10000000;

        private int[] kept = new int[NODES << MOST_IN_ROW];
        private int[] longer = new int[NODES << MOST_IN_ROW];

        int best(Road[] roads, int from) {
            int needed = 0;
            for (Road road : roads) {
                needed += road != null && road.rank == 0 ? 1 : 0;
            }
            if (needed > MOST_IN_ROW) {
                return 0;
            }
            int sets = 1 << needed;
            Arrays.fill(kept, FAR);
            lower(kept, from, 1);
            int best = bestWhole(sets);
            for (int count = 1; count <= MOST_IN_ROW; count++) {
                lengthen(roads, sets);
                int whole = bestWhole(sets);
                // one of equal length has more roads than that before it
                if (whole / BASE < best / BASE) {
                    best = whole;
                }
            }
            return best == FAR ? 0 : best % BASE;
        }

        // the last set is that of all roads of the class 0
        private int bestWhole(int sets) {
            int best = FAR;
            for (int node = 0; node < NODES; node++) {
                best = Math.min(best, numberAt(kept, (sets - 1) * NODES + node));
            }
            return best;
        }

        private void lengthen(Road[] roads, int sets) {
            Arrays.fill(longer, FAR);
            int nextBit = 1;
            for (int number = 0; number < roads.length; number++) {
                Road road = roads[number];
                if (road != null) {
                    int bit = road.rank == 0 ? nextBit : 0;
                    nextBit += bit;
                    for (int set = 0; set < sets; set++) {
                        int after = (set | bit) * NODES;
                        goAlong(road, number, set * NODES + road.one, after + road.other);
                        goAlong(road, number, set * NODES + road.other, after + road.one);
                    }
                }
            }
            int[] spare = kept;
            kept = longer;
            longer = spare;
        }

        private void goAlong(Road road, int number, int before, int after) {
            int row = numberAt(kept, before);
            if (row != FAR) {
                int length = row / BASE + road.length;
                int digits = row % BASE * 10 + number;
                lower(longer, after, length * BASE + digits);
            }
        }
    }
}
