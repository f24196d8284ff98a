/** Promises 1 to 6: the new county, what is told of roads and weather, and what a quarter does. */
public final class RoadsAndWeatherTest {
    private static final int WARMTH = 7;
    private static final int WATER = 8;
    private static final int ICE = 9;
    private static final int SNOW = 10;
    private static final int SALT = 11;
    private static final int TIMES_SLIPPERY = 13;
    private static final int RIVER = 6;
    private static final int FIELDS = 7;
    private static final int RAN_OFF = 9;

    public static void main(String[] args) {
        newCounty();
        newCountyWeather();
        roadNumbersAndFacts();
        roadEdges();
        roadRefusals();
        roadRefusalsInOrder();
        airBefore();
        airEdges();
        airRefusals();
        fallBefore();
        fallRefusals();
        forecastCountsRoads();
        forecastEdges();
        forecastRefusals();
        warmthComesNearer();
        goalOfHeightShadeAndSky();
        rainAndFlakes();
        freezing();
        freezingBelowThePoint();
        thawing();
        thawingBySalt();
        runningOff();
        spraying();
        blowing();
        slipperyEdges();
        passCountsRoadsAndQuarters();
        passRefusals();
        passOverTheLastQuarter();
        Check.finish();
    }

    private static GritWatch oneRoad(int length, int rank, boolean isBridge) {
        GritWatch county = new GritWatch();
        county.road(0, 1, length, rank, 0, 0, isBridge);
        return county;
    }

    /** A road of the length 1 that got this salt (1 to 9) in its first quarter, dry and 4 warm. */
    private static GritWatch saltedRoad(int rank, int salt) {
        GritWatch county = oneRoad(1, rank, false);
        county.lorry(false);
        county.load(0);
        county.rate(0, salt);
        county.order(0, 0);
        county.pass(1);
        return county;
    }

    private static void newCounty() {
        GritWatch county = new GritWatch();
        for (int what = 0; what <= 14; what++) {
            Check.same("new many " + what, county.many(what), what == 3 ? 100 : 0);
        }
        Check.same("new digest", county.digest(), 7399592041431241676L);
        Check.isTrue("new meanWarmth", county.meanWarmth() == 0.0);
        Check.noPlace("road of a new county", county, () -> county.ofRoad(0, 0));
        Check.noPlace("lorry of a new county", county, () -> county.ofLorry(0, 0));
        GritWatch other = new GritWatch();
        other.road(0, 1, 1, 0, 0, 0, false);
        Check.same("roads of the first county", county.many(0), 0);
    }

    private static void newCountyWeather() {
        GritWatch county = oneRoad(1, 0, false);
        county.pass(10);
        Check.same("warmth by the first weather", county.ofRoad(0, WARMTH), 5);
        Check.same("water by the first weather", county.ofRoad(0, WATER), 0);
        Check.same("snow by the first weather", county.ofRoad(0, SNOW), 0);
        Check.same("the first air", county.air(0, false), 5);
        Check.same("the first wind", county.fall(0, 0, 0), 0);
    }

    private static void roadNumbersAndFacts() {
        GritWatch county = new GritWatch();
        Check.same("first road", county.road(4, 2, 6, 1, 9, 2, true), 0);
        Check.same("second road", county.road(2, 4, 1, 2, 3, 0, false), 1);
        int[] first = {4, 2, 6, 1, 9, 2, 1, 3, 0, 0, 0, 0, 0, 0, -1};
        int[] second = {2, 4, 1, 2, 3, 0, 0, 3, 0, 0, 0, 0, 0, 0, -1};
        for (int what = 0; what <= 14; what++) {
            Check.same("first road's " + what, county.ofRoad(0, what), first[what]);
            Check.same("second road's " + what, county.ofRoad(1, what), second[what]);
        }
        Check.same("roads", county.many(0), 2);
    }

    private static void roadEdges() {
        GritWatch county = new GritWatch();
        Check.same("least", county.road(0, 6, 1, 0, 0, 0, false), 0);
        Check.same("most", county.road(6, 0, 6, 2, 9, 2, true), 1);
        for (int i = 2; i < 8; i++) {
            Check.same("road " + i, county.road(i - 2, i - 1, 1, 0, 0, 0, false), i);
        }
        Check.same("roads", county.many(0), 8);
    }

    private static void roadRefusals() {
        GritWatch county = oneRoad(1, 0, false);
        Check.noPlace("one -1", county, () -> county.road(-1, 0, 1, 0, 0, 0, false));
        Check.noPlace("one 7", county, () -> county.road(7, 0, 1, 0, 0, 0, false));
        Check.noPlace("other -1", county, () -> county.road(0, -1, 1, 0, 0, 0, false));
        Check.noPlace("other 7", county, () -> county.road(0, 7, 1, 0, 0, 0, false));
        Check.badArgument("same nodes", county, () -> county.road(3, 3, 1, 0, 0, 0, false));
        Check.badArgument("length 0", county, () -> county.road(0, 1, 0, 0, 0, 0, false));
        Check.badArgument("length 7", county, () -> county.road(0, 1, 7, 0, 0, 0, false));
        Check.badArgument("rank -1", county, () -> county.road(0, 1, 1, -1, 0, 0, false));
        Check.badArgument("rank 3", county, () -> county.road(0, 1, 1, 3, 0, 0, false));
        Check.badArgument("height -1", county, () -> county.road(0, 1, 1, 0, -1, 0, false));
        Check.badArgument("height 10", county, () -> county.road(0, 1, 1, 0, 10, 0, false));
        Check.badArgument("shade -1", county, () -> county.road(0, 1, 1, 0, 0, -1, false));
        Check.badArgument("shade 3", county, () -> county.road(0, 1, 1, 0, 0, 3, false));
    }

    private static void roadRefusalsInOrder() {
        GritWatch county = new GritWatch();
        for (int i = 0; i < 8; i++) {
            county.road(0, 1, 1, 0, 0, 0, false);
        }
        Check.badState("ninth road", county, () -> county.road(0, 1, 1, 0, 0, 0, false));
        Check.badArgument("ninth road, length 0", county, () -> county.road(0, 1, 0, 0, 0, 0, false));
        Check.badArgument("ninth road, same nodes", county, () -> county.road(1, 1, 1, 0, 0, 0, false));
        Check.noPlace("ninth road, node 7", county, () -> county.road(0, 7, 1, 0, 0, 0, false));
        Check.noPlace("same nodes 7", county, () -> county.road(7, 7, 1, 0, 0, 0, false));
        Check.noPlace("node -1 and length 0", county, () -> county.road(-1, 0, 0, 0, 0, 0, false));
    }

    private static void airBefore() {
        GritWatch county = new GritWatch();
        Check.same("air", county.air(-7, true), 5);
        Check.same("air again", county.air(3, false), -7);
        Check.same("air a third time", county.air(3, true), 3);
    }

    private static void airEdges() {
        GritWatch county = oneRoad(1, 2, false);
        county.air(20, false);
        county.pass(20);
        Check.same("warmth of air 20", county.ofRoad(0, WARMTH), 20);
        Check.same("air 20", county.air(-20, true), 20);
        county.pass(20);
        county.pass(20);
        county.pass(20);
        Check.same("warmth of air -20, clear", county.ofRoad(0, WARMTH), -22);
        Check.same("air -20", county.air(0, true), -20);
    }

    private static void airRefusals() {
        GritWatch county = oneRoad(1, 2, false);
        county.air(1, false);
        Check.badArgument("air 21", county, () -> county.air(21, true));
        Check.badArgument("air -21", county, () -> county.air(-21, true));
        Check.badArgument("least air", county, () -> county.air(Integer.MIN_VALUE, true));
        county.pass(10);
        Check.same("warmth behind refused airs", county.ofRoad(0, WARMTH), 1);
        Check.same("air behind refused airs", county.air(2, false), 1);
    }

    private static void fallBefore() {
        GritWatch county = new GritWatch();
        Check.same("wind", county.fall(1, 2, 3), 0);
        Check.same("wind again", county.fall(0, 0, 1), 3);
        Check.same("wind a third time", county.fall(3, 3, 0), 1);
    }

    private static void fallRefusals() {
        GritWatch county = oneRoad(1, 2, false);
        county.fall(1, 0, 1);
        Check.badArgument("rain 4", county, () -> county.fall(4, 2, 2));
        Check.badArgument("rain -1", county, () -> county.fall(-1, 2, 2));
        Check.badArgument("flakes 4", county, () -> county.fall(2, 4, 2));
        Check.badArgument("flakes -1", county, () -> county.fall(2, -1, 2));
        Check.badArgument("wind 4", county, () -> county.fall(2, 2, 4));
        Check.badArgument("wind -1", county, () -> county.fall(2, 2, -1));
        county.pass(2);
        Check.same("water behind refused falls", county.ofRoad(0, WATER), 2);
        Check.same("wind behind refused falls", county.fall(0, 0, 0), 1);
    }

    private static void forecastCountsRoads() {
        GritWatch county = new GritWatch();
        Check.same("forecast without roads", county.forecast(1, -20, -20, -20, true), 0);
        county.road(0, 1, 1, 0, 0, 0, false);
        county.road(0, 1, 1, 0, 3, 0, false);
        county.road(0, 1, 1, 0, 2, 1, false);
        county.road(0, 1, 1, 0, 9, 2, true);
        // the goals are 0, 1, 1 and 5 lower than the air
        Check.same("air 0", county.forecast(1, 0, 0, 0, false), 3);
        Check.same("air 0, clear", county.forecast(1, 0, 0, 0, true), 4);
        Check.same("air 1", county.forecast(1, 1, 1, 1, false), 1);
        Check.same("air 1, clear", county.forecast(1, 1, 1, 1, true), 4);
        Check.same("air 5", county.forecast(1, 5, 5, 5, false), 0);
        Check.same("air 4", county.forecast(1, 4, 4, 4, false), 1);
        Check.same("one member", county.forecast(1, 9, -1, 9, false), 0);
        Check.same("first and second", county.forecast(1, -1, -1, 9, false), 4);
        Check.same("first and third", county.forecast(1, -1, 9, -1, false), 4);
        Check.same("second and third", county.forecast(1, 9, -1, -1, false), 4);
        Check.same("one member, the third", county.forecast(1, 9, 9, -1, false), 0);
        Check.same("forecasts", county.many(11), 12);
        Check.same("roads lie as before", county.ofRoad(0, WARMTH), 3);
    }

    private static void forecastEdges() {
        GritWatch flat = oneRoad(1, 0, false);
        Check.same("one below 0 and the first at 0", flat.forecast(1, 0, -1, 9, false), 0);
        Check.same("one below 0 and the second at 0", flat.forecast(1, -1, 0, 9, false), 0);
        Check.same("one below 0 and the third at 0", flat.forecast(1, -1, 9, 0, false), 0);
        Check.same("two below 0 and one at 0", flat.forecast(1, -1, 0, -1, false), 1);
        GritWatch county = oneRoad(1, 0, false);
        Check.same("later 48", county.forecast(48, 20, -20, -20, false), 1);
        Check.same("later 1", county.forecast(1, -20, 20, 20, false), 0);
        county.pass(20);
        Check.same("forecasts stay", county.many(11), 2);
    }

    private static void forecastRefusals() {
        GritWatch county = oneRoad(1, 0, false);
        Check.badArgument("later 0", county, () -> county.forecast(0, 0, 0, 0, false));
        Check.badArgument("later 49", county, () -> county.forecast(49, 0, 0, 0, false));
        Check.badArgument("first 21", county, () -> county.forecast(1, 21, 0, 0, false));
        Check.badArgument("first -21", county, () -> county.forecast(1, -21, 0, 0, false));
        Check.badArgument("second 21", county, () -> county.forecast(1, 0, 21, 0, false));
        Check.badArgument("second -21", county, () -> county.forecast(1, 0, -21, 0, false));
        Check.badArgument("third 21", county, () -> county.forecast(1, 0, 0, 21, false));
        Check.badArgument("third -21", county, () -> county.forecast(1, 0, 0, -21, false));
        for (int i = 1; i <= 20; i++) {
            county.forecast(i, 0, 0, 0, false);
            Check.same("forecasts", county.many(11), i);
        }
        Check.badState("a 21st forecast", county, () -> county.forecast(1, 0, 0, 0, false));
        Check.badArgument("a 21st forecast, later 0", county, () -> county.forecast(0, 0, 0, 0, false));
        Check.badArgument("a 21st forecast, third 21", county, () -> county.forecast(1, 0, 0, 21, false));
    }

    private static void warmthComesNearer() {
        GritWatch county = oneRoad(1, 1, false);
        county.road(0, 1, 1, 1, 0, 0, true);
        county.air(0, false);
        int[] plain = {2, 1, 0, 0};
        int[] bridge = {1, 0, 0, 0};
        for (int i = 0; i < 4; i++) {
            county.pass(1);
            Check.same("falling warmth", county.ofRoad(0, WARMTH), plain[i]);
            Check.same("falling warmth of a bridge", county.ofRoad(1, WARMTH), bridge[i]);
        }
        county.air(3, false);
        int[] plainUp = {1, 2, 3, 3};
        int[] bridgeUp = {2, 3, 3, 3};
        for (int i = 0; i < 4; i++) {
            county.pass(1);
            Check.same("rising warmth", county.ofRoad(0, WARMTH), plainUp[i]);
            Check.same("rising warmth of a bridge", county.ofRoad(1, WARMTH), bridgeUp[i]);
        }
    }

    private static void goalOfHeightShadeAndSky() {
        GritWatch county = new GritWatch();
        county.road(0, 1, 1, 1, 2, 0, false);
        county.road(0, 1, 1, 1, 3, 1, false);
        county.road(0, 1, 1, 1, 9, 2, false);
        county.air(10, false);
        county.pass(20);
        Check.same("height 2", county.ofRoad(0, WARMTH), 10);
        Check.same("height 3, shade 1", county.ofRoad(1, WARMTH), 8);
        Check.same("height 9, shade 2", county.ofRoad(2, WARMTH), 5);
        county.air(10, true);
        county.pass(20);
        Check.same("height 2, clear", county.ofRoad(0, WARMTH), 8);
        Check.same("height 3, shade 1, clear", county.ofRoad(1, WARMTH), 6);
        Check.same("height 9, shade 2, clear", county.ofRoad(2, WARMTH), 3);
    }

    private static void rainAndFlakes() {
        GritWatch county = oneRoad(1, 1, false);
        county.fall(2, 3, 0);
        county.pass(1);
        // warm: one of the three flakes thaws at once
        Check.same("water", county.ofRoad(0, WATER), 3);
        Check.same("snow", county.ofRoad(0, SNOW), 2);
    }

    private static void freezing() {
        GritWatch county = oneRoad(1, 1, false);
        county.air(-5, false);
        county.fall(1, 0, 0);
        Check.same("three quarters", county.pass(3), 0);
        Check.same("warmth at the point", county.ofRoad(0, WARMTH), 0);
        Check.same("water at the point", county.ofRoad(0, WATER), 3);
        Check.same("a fourth", county.pass(1), 1);
        Check.same("water below it", county.ofRoad(0, WATER), 2);
        Check.same("ice below it", county.ofRoad(0, ICE), 2);
        county.fall(0, 0, 0);
        county.pass(1);
        Check.same("no water left", county.ofRoad(0, WATER), 0);
        Check.same("all ice", county.ofRoad(0, ICE), 4);
        county.fall(1, 0, 0);
        county.pass(1);
        Check.same("as much as there is", county.ofRoad(0, ICE), 5);
        Check.same("none is left", county.ofRoad(0, WATER), 0);
    }

    private static void freezingBelowThePoint() {
        GritWatch county = saltedRoad(1, 2);
        county.fall(3, 0, 0);
        county.pass(1);
        county.fall(0, 0, 0);
        Check.same("salt 2, water 3", county.ofRoad(0, 12), -4);
        county.air(-5, false);
        county.pass(9);
        Check.same("warmth at the point", county.ofRoad(0, WARMTH), -4);
        Check.same("no ice at the point", county.ofRoad(0, ICE), 0);
        // as it is by now: the rain of this quarter thins the salt first
        county.air(-4, false);
        county.fall(1, 0, 0);
        county.pass(1);
        Check.same("ice by the thinner salt", county.ofRoad(0, ICE), 2);
        Check.same("point by the thinner salt", county.ofRoad(0, 12), -3);
    }

    private static void thawing() {
        GritWatch county = oneRoad(1, 1, false);
        county.air(-20, false);
        county.fall(2, 1, 0);
        county.pass(4);
        // one flake thawed in each of three warm quarters
        Check.same("ice", county.ofRoad(0, ICE), 2);
        Check.same("snow", county.ofRoad(0, SNOW), 1);
        county.air(0, false);
        county.fall(0, 0, 0);
        county.pass(1);
        Check.same("ice behind 1", county.ofRoad(0, ICE), 1);
        Check.same("snow behind 1", county.ofRoad(0, SNOW), 1);
        county.pass(1);
        Check.same("ice behind 2", county.ofRoad(0, ICE), 0);
        Check.same("snow behind 2", county.ofRoad(0, SNOW), 1);
        county.pass(1);
        Check.same("snow behind 3", county.ofRoad(0, SNOW), 0);
    }

    private static void thawingBySalt() {
        GritWatch county = oneRoad(4, 2, false);
        county.air(-10, false);
        county.pass(8);
        county.fall(2, 3, 0);
        county.pass(2);
        Check.same("ice", county.ofRoad(0, ICE), 4);
        Check.same("snow", county.ofRoad(0, SNOW), 6);
        county.fall(0, 0, 0);
        county.lorry(false);
        county.load(0);
        county.rate(0, 5);
        county.order(0, 0);
        county.pass(4);
        Check.same("salt", county.ofRoad(0, SALT), 20);
        Check.same("point", county.ofRoad(0, 12), -12);
        county.pass(1);
        // 1 and a quarter of 20: 4 ice first, then 2 snow
        Check.same("ice is gone", county.ofRoad(0, ICE), 0);
        Check.same("snow is less", county.ofRoad(0, SNOW), 4);
        Check.same("water", county.ofRoad(0, WATER), 6);
    }

    private static void runningOff() {
        GritWatch county = saltedRoad(1, 9);
        county.fall(3, 0, 0);
        county.pass(2);
        Check.same("water 6", county.ofRoad(0, WATER), 6);
        Check.same("none ran off", county.many(RAN_OFF), 0);
        county.pass(1);
        Check.same("water of 9", county.ofRoad(0, WATER), 8);
        Check.same("1 ran off", county.many(RAN_OFF), 1);
        Check.same("1 of 9 salt went along", county.many(RIVER), 1);
        county.pass(1);
        // 3 times 8 salt, divided by 11 water
        Check.same("3 more ran off", county.many(RAN_OFF), 4);
        Check.same("2 of 8 salt went along", county.many(RIVER), 3);
        Check.same("salt left", county.ofRoad(0, SALT), 6);
        GritWatch exact = oneRoad(1, 1, false);
        exact.fall(2, 0, 0);
        exact.pass(4);
        Check.same("8 water stays", exact.ofRoad(0, WATER), 8);
        Check.same("8 water is not above 8", exact.many(RAN_OFF), 0);
    }

    private static void spraying() {
        GritWatch county = saltedRoad(0, 2);
        county.pass(1);
        Check.same("dry: none", county.ofRoad(0, SALT), 2);
        county.fall(1, 0, 3);
        county.pass(1);
        Check.same("wet: 1, also with wind", county.ofRoad(0, SALT), 1);
        Check.same("to the fields", county.many(FIELDS), 1);
        county.pass(2);
        Check.same("no more than there is", county.ofRoad(0, SALT), 0);
        Check.same("all to the fields", county.many(FIELDS), 2);
        GritWatch second = saltedRoad(1, 2);
        second.fall(1, 0, 3);
        second.pass(1);
        Check.same("not of the class 1", second.ofRoad(0, SALT), 2);
        GritWatch third = saltedRoad(2, 2);
        third.fall(1, 0, 3);
        third.pass(1);
        Check.same("not of the class 2", third.ofRoad(0, SALT), 2);
    }

    private static void blowing() {
        for (int rank = 0; rank <= 2; rank++) {
            GritWatch county = saltedRoad(rank, 5);
            county.fall(0, 0, 1);
            county.pass(1);
            Check.same("wind 1", county.ofRoad(0, SALT), 5);
            county.fall(0, 0, 2);
            county.pass(1);
            Check.same("wind 2", county.ofRoad(0, SALT), 3);
            county.fall(0, 0, 3);
            county.pass(1);
            Check.same("wind 3", county.ofRoad(0, SALT), 1);
            county.pass(1);
            Check.same("as much as there is", county.ofRoad(0, SALT), 0);
            Check.same("to the fields", county.many(FIELDS), 5);
            Check.same("none to the river", county.many(RIVER), 0);
        }
    }

    private static void slipperyEdges() {
        GritWatch county = oneRoad(1, 1, false);
        county.air(-20, false);
        county.pass(10);
        county.fall(1, 0, 0);
        Check.same("ice 1", county.pass(1), 0);
        Check.same("ice 2", county.pass(1), 1);
        Check.same("ice stays", county.many(14), 1);
        GritWatch snowy = oneRoad(1, 1, false);
        snowy.air(-20, false);
        snowy.pass(10);
        snowy.fall(0, 1, 0);
        Check.same("snow 2", snowy.pass(2), 0);
        Check.same("none is slippery", snowy.many(14), 0);
        Check.same("snow 3", snowy.pass(1), 1);
        Check.same("times", snowy.ofRoad(0, TIMES_SLIPPERY), 1);
    }

    private static void passCountsRoadsAndQuarters() {
        GritWatch county = oneRoad(1, 1, false);
        county.road(1, 2, 1, 1, 0, 0, true);
        county.air(-20, false);
        county.fall(2, 0, 0);
        // the bridge is below 0 in the second quarter, the road in the fourth
        Check.same("five quarters", county.pass(5), 6);
        Check.same("of the road", county.ofRoad(0, TIMES_SLIPPERY), 2);
        Check.same("of the bridge", county.ofRoad(1, TIMES_SLIPPERY), 4);
        Check.same("now", county.many(1), 5);
        Check.same("slippery now", county.many(14), 2);
    }

    private static void passRefusals() {
        GritWatch county = oneRoad(1, 1, false);
        county.air(-20, false);
        Check.badArgument("pass 0", county, () -> county.pass(0));
        Check.badArgument("pass -1", county, () -> county.pass(-1));
        Check.badArgument("pass 21", county, () -> county.pass(21));
        Check.badArgument("most quarters", county, () -> county.pass(Integer.MAX_VALUE));
        county.pass(20);
        Check.same("pass 20", county.many(1), 20);
        Check.same("20 quarters of cold", county.ofRoad(0, WARMTH), -17);
    }

    private static void passOverTheLastQuarter() {
        GritWatch county = oneRoad(1, 1, false);
        for (int i = 0; i < 9; i++) {
            county.pass(20);
        }
        county.pass(10);
        Check.same("190 quarters", county.many(1), 190);
        county.air(-20, false);
        county.fall(3, 3, 3);
        Check.badState("to 200", county, () -> county.pass(10));
        Check.badState("to 210", county, () -> county.pass(20));
        Check.badArgument("to 211", county, () -> county.pass(21));
        county.pass(9);
        Check.same("to 199", county.many(1), 199);
        Check.badState("one more", county, () -> county.pass(1));
        Check.badArgument("none more", county, () -> county.pass(0));
        Check.same("claim of the last quarter", county.claim(0, 199), 2);
    }
}
