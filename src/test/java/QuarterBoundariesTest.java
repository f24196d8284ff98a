/** What a QUARTER does to ROADS and LORRIES ('Terms', sections 1 to 3): each bound from both of its sides. */
public final class QuarterBoundariesTest {
    private static final int WARMTH = 7;
    private static final int WATER = 8;
    private static final int ICE = 9;
    private static final int SNOW = 10;
    private static final int SALT = 11;
    private static final int POINT = 12;
    private static final int TIMES_SLIPPERY = 13;
    private static final int TREATED = 14;
    private static final int RIVER = 6;
    private static final int FIELDS = 7;
    private static final int RAN_OFF = 9;
    private static final int PLOUGHED = 10;
    private static final int SLIPPERY_NOW = 14;

    public static void main(String[] args) {
        heightOfThirds();
        warmthAtAndBesideTheGoal();
        pointOfNothing();
        pointIsRoundedTowardsNought();
        pointOfTwentyOneAndBelow();
        atThePointAndBelow();
        belowTheLowestPoint();
        asMuchWaterAsFreezes();
        quarterOfTheSalt();
        iceFirstThenSnow();
        waterOfEightAndNine();
        saltThatRunsOff();
        meltedWaterRunsOff();
        sprayOfTheLastSalt();
        sprayOnlyOfTheClassNought();
        noSprayWhereAllWaterFroze();
        windOfOneAndTwo();
        windTakesAsMuchAsThereIs();
        windOnlyWhereThereIsNoWater();
        slipperyByIce();
        slipperyBySnow();
        slipperyBehindTheWeatherAlone();
        lengthOfOneAndTwo();
        roadOfThisNode();
        rateTimesLengthAndTheHopper();
        lastSaltOfTheHopper();
        treatedOrNot();
        ploughWithAndWithoutSnow();
        Check.finish();
    }

    /** Counties.oneRoad with that salt (0 to 9) on it, spread in the first quarter. */
    private static GritWatch salted(int rank, int salt) {
        GritWatch county = Counties.oneRoad(rank);
        spread(county, salt);
        return county;
    }

    private static void spread(GritWatch county, int salt) {
        if (county.many(2) == 0) {
            county.lorry(false);
            county.load(0);
        }
        county.rate(0, salt);
        county.order(0, 0);
        county.pass(1);
    }

    private static void weather(GritWatch county, int air, int rain, int flakes) {
        county.air(air, false);
        county.fall(rain, flakes, 0);
    }

    private static void lies(String when, GritWatch county, int water, int ice, int snow) {
        Check.same(when + ": water", county.ofRoad(0, WATER), water);
        Check.same(when + ": ice", county.ofRoad(0, ICE), ice);
        Check.same(when + ": snow", county.ofRoad(0, SNOW), snow);
    }

    // ---- section 1: GOAL and POINT

    private static void heightOfThirds() {
        int[] thirds = {0, 0, 0, 1, 1, 1, 2, 2, 2, 3};
        for (int height = 0; height <= 9; height++) {
            GritWatch county = new GritWatch();
            county.road(0, 1, 1, 2, height, 0, false);
            county.air(-20, false);
            Counties.pass(county, 30);
            Check.same("goal of the height " + height, county.ofRoad(0, WARMTH), -20 - thirds[height]);
        }
    }

    private static void warmthAtAndBesideTheGoal() {
        int[] airs = {0, 1, 2, 3, 4, 5, 6};
        int[] plain = {2, 2, 2, 3, 4, 4, 4};
        int[] bridge = {1, 1, 2, 3, 4, 5, 5};
        for (int i = 0; i < airs.length; i++) {
            GritWatch county = Counties.oneRoad(2);
            county.road(0, 1, 1, 2, 0, 0, true);
            county.air(airs[i], false);
            county.pass(1);
            Check.same("from 3 towards " + airs[i], county.ofRoad(0, WARMTH), plain[i]);
            Check.same("of a bridge", county.ofRoad(1, WARMTH), bridge[i]);
        }
    }

    private static void pointOfNothing() {
        Check.same("nothing at all", Counties.oneRoad(1).ofRoad(0, POINT), 0);
        Check.same("salt, and nothing else", salted(1, 9).ofRoad(0, POINT), 0);
        GritWatch county = Counties.oneRoad(1);
        weather(county, 5, 1, 0);
        county.pass(1);
        Check.same("water without salt", county.ofRoad(0, POINT), 0);
    }

    /** Salt, then that much water on it by a warm rain; of a road of the class 1 nothing is sprayed away. */
    private static GritWatch brine(int salt, int water) {
        GritWatch county = salted(1, salt);
        weather(county, 20, 1, 0);
        Counties.pass(county, water);
        county.fall(0, 0, 0);
        return county;
    }

    private static void pointIsRoundedTowardsNought() {
        Check.same("12 by 4", brine(2, 4).ofRoad(0, POINT), -3);
        Check.same("12 by 5", brine(2, 5).ofRoad(0, POINT), -2);
        Check.same("6 by 6", brine(1, 6).ofRoad(0, POINT), -1);
        Check.same("6 by 7", brine(1, 7).ofRoad(0, POINT), 0);
    }

    private static void pointOfTwentyOneAndBelow() {
        Check.same("18 by 1", brine(3, 1).ofRoad(0, POINT), -18);
        Check.same("42 by 2", brine(7, 2).ofRoad(0, POINT), -21);
        Check.same("48 by 2", brine(8, 2).ofRoad(0, POINT), -21);
        Check.same("24 by 1", brine(4, 1).ofRoad(0, POINT), -21);
        Check.same("54 by 1", brine(9, 1).ofRoad(0, POINT), -21);
    }

    // ---- section 2, (3): freezing and thawing

    private static void atThePointAndBelow() {
        GritWatch county = brine(1, 2);
        Check.same("point", county.ofRoad(0, POINT), -3);
        county.air(-3, false);
        Counties.pass(county, 40);
        Check.same("at the point", county.ofRoad(0, WARMTH), -3);
        lies("at the point", county, 2, 0, 0);
        county.air(-4, false);
        county.pass(1);
        lies("1 below it", county, 0, 2, 0);
        GritWatch bare = Counties.oneRoad(1);
        weather(bare, 0, 0, 0);
        bare.pass(3);
        bare.fall(2, 0, 0);
        bare.pass(1);
        lies("0 without salt", bare, 2, 0, 0);
        weather(bare, -1, 0, 0);
        bare.pass(1);
        lies("-1 without salt", bare, 0, 2, 0);
    }

    private static void belowTheLowestPoint() {
        GritWatch county = brine(9, 1);
        county.air(-19, true);
        Counties.pass(county, 60);
        Check.same("at the lowest point", county.ofRoad(0, WARMTH), -21);
        lies("at the lowest point", county, 1, 0, 0);
        county.air(-20, true);
        county.pass(1);
        lies("1 below it, with much salt", county, 0, 1, 0);
    }

    private static void asMuchWaterAsFreezes() {
        int[] left = {0, 0, 0, 1, 2};
        int[] ice = {0, 1, 2, 2, 2};
        for (int water = 0; water <= 4; water++) {
            GritWatch county = Counties.oneRoad(1);
            weather(county, 0, 0, 0);
            county.pass(3);
            county.fall(1, 0, 0);
            Counties.pass(county, water);
            weather(county, -1, 0, 0);
            county.pass(1);
            lies("of " + water, county, left[water], ice[water], 0);
        }
    }

    /** 4 ice and 5 snow at -1, with that much salt spread on it; it is going to be 0. */
    private static GritWatch frozenAndSalted(int salt) {
        GritWatch county = Counties.oneRoad(2);
        county.lorry(false);
        county.load(0);
        weather(county, -1, 0, 0);
        county.pass(4);
        county.fall(2, 3, 0);
        county.pass(1);
        county.fall(2, 2, 0);
        county.pass(1);
        county.fall(0, 0, 0);
        spread(county, salt);
        lies("frozen", county, 0, 4, 5);
        county.air(0, false);
        return county;
    }

    private static void quarterOfTheSalt() {
        int[] ice = {3, 3, 3, 3, 2, 2, 2, 2, 1, 1};
        for (int salt = 0; salt <= 9; salt++) {
            GritWatch county = frozenAndSalted(salt);
            county.pass(1);
            lies("1 and a quarter of " + salt, county, 4 - ice[salt], ice[salt], 5);
        }
    }

    private static void iceFirstThenSnow() {
        GritWatch county = frozenAndSalted(9);
        county.pass(1);
        lies("3 of the ice", county, 3, 1, 5);
        county.pass(1);
        lies("the last ice, and 2 of the snow", county, 6, 0, 3);
        county.pass(1);
        lies("no more than there is", county, 8, 0, 0);
        Check.same("9 by then, of which 1 runs off", county.many(RAN_OFF), 1);
        county.pass(1);
        lies("nothing is left to thaw", county, 8, 0, 0);
    }

    // ---- section 2, (4): what runs off

    private static void waterOfEightAndNine() {
        GritWatch county = brine(8, 8);
        lies("8", county, 8, 0, 0);
        Check.same("none of 8 runs off", county.many(RAN_OFF), 0);
        Check.same("nor of its salt", county.many(RIVER), 0);
        county.fall(1, 0, 0);
        county.pass(1);
        lies("9", county, 8, 0, 0);
        Check.same("1 of 9 runs off", county.many(RAN_OFF), 1);
        Check.same("8 salt by 9: none", county.many(RIVER), 0);
        Check.same("all salt stays", county.ofRoad(0, SALT), 8);
    }

    private static void saltThatRunsOff() {
        int[] rain = {1, 2, 3};
        int[] washed = {1, 1, 2};
        for (int i = 0; i < rain.length; i++) {
            GritWatch county = brine(9, 8);
            county.fall(rain[i], 0, 0);
            county.pass(1);
            // 9 times 1 by 9, 9 times 2 by 10, 9 times 3 by 11
            Check.same("ran off of " + rain[i], county.many(RAN_OFF), rain[i]);
            Check.same("salt to the river", county.many(RIVER), washed[i]);
            Check.same("salt that stays", county.ofRoad(0, SALT), 9 - washed[i]);
            Check.same("none to the fields", county.many(FIELDS), 0);
        }
    }

    private static void meltedWaterRunsOff() {
        GritWatch county = brine(0, 8);
        weather(county, 20, 0, 1);
        county.pass(1);
        lies("a flake that thaws", county, 8, 0, 0);
        Check.same("is above 8", county.many(RAN_OFF), 1);
        county.air(-20, false);
        county.fall(1, 0, 0);
        Counties.pass(county, 10);
        int before = county.many(RAN_OFF);
        Counties.pass(county, 20);
        Check.isTrue("water that froze is no more above 8", county.ofRoad(0, ICE) > 8);
        Check.same("warm: 1 in each quarter", before, 11);
    }

    // ---- section 2, (5): spray and wind

    private static void sprayOfTheLastSalt() {
        GritWatch county = salted(0, 2);
        weather(county, 5, 1, 0);
        county.pass(1);
        Check.same("1 of 2", county.ofRoad(0, SALT), 1);
        Check.same("1 to the fields", county.many(FIELDS), 1);
        county.pass(1);
        Check.same("1 of 1", county.ofRoad(0, SALT), 0);
        Check.same("2 to the fields", county.many(FIELDS), 2);
        county.pass(1);
        Check.same("1 of none", county.ofRoad(0, SALT), 0);
        Check.same("no more to the fields", county.many(FIELDS), 2);
    }

    private static void sprayOnlyOfTheClassNought() {
        for (int rank = 0; rank <= 2; rank++) {
            GritWatch county = salted(rank, 5);
            county.pass(1);
            Check.same("dry, class " + rank, county.ofRoad(0, SALT), 5);
            weather(county, 5, 1, 0);
            county.pass(1);
            Check.same("wet, class " + rank, county.ofRoad(0, SALT), rank == 0 ? 4 : 5);
        }
    }

    private static void noSprayWhereAllWaterFroze() {
        GritWatch county = Counties.oneRoad(0);
        county.road(0, 1, 1, 0, 0, 0, false);
        county.lorry(false);
        county.load(0);
        weather(county, -20, 0, 0);
        county.pass(20);
        county.fall(3, 0, 0);
        Counties.pass(county, 2);
        county.fall(0, 0, 0);
        spread(county, 4);
        // 6 rain, of which 2 froze in each of three quarters; the salt came behind that
        lies("all is ice", county, 0, 6, 0);
        Check.same("point", county.ofRoad(0, POINT), -4);
        county.pass(1);
        Check.same("ice is no water", county.ofRoad(0, SALT), 4);
        county.fall(3, 0, 0);
        county.pass(1);
        lies("1 of 3 is left", county, 1, 8, 0);
        Check.same("it sprays", county.ofRoad(0, SALT), 3);
    }

    private static void windOfOneAndTwo() {
        for (int rank = 0; rank <= 2; rank++) {
            for (int wind = 0; wind <= 3; wind++) {
                GritWatch county = salted(rank, 9);
                county.fall(0, 0, wind);
                county.pass(1);
                int lost = wind >= 2 ? 2 : 0;
                Check.same("wind " + wind + ", class " + rank, county.ofRoad(0, SALT), 9 - lost);
                Check.same("to the fields", county.many(FIELDS), lost);
            }
        }
    }

    private static void windTakesAsMuchAsThereIs() {
        for (int salt = 0; salt <= 3; salt++) {
            GritWatch county = salted(1, salt);
            county.fall(0, 0, 2);
            county.pass(1);
            Check.same("of " + salt, county.ofRoad(0, SALT), Math.max(0, salt - 2));
            Check.same("to the fields", county.many(FIELDS), Math.min(2, salt));
        }
    }

    private static void windOnlyWhereThereIsNoWater() {
        GritWatch wet = brine(9, 1);
        wet.fall(0, 0, 3);
        wet.pass(1);
        Check.same("1 water", wet.ofRoad(0, SALT), 9);
        GritWatch sprayed = salted(0, 9);
        sprayed.fall(1, 0, 3);
        sprayed.pass(1);
        Check.same("1 water, class 0: spray alone", sprayed.ofRoad(0, SALT), 8);
        GritWatch frozen = salted(2, 1);
        weather(frozen, -20, 1, 0);
        Counties.pass(frozen, 20);
        frozen.fall(0, 0, 0);
        Counties.pass(frozen, 10);
        spread(frozen, 9);
        Check.same("no water", frozen.ofRoad(0, WATER), 0);
        Check.isTrue("but ice", frozen.ofRoad(0, ICE) > 2);
        int before = frozen.ofRoad(0, SALT);
        frozen.fall(0, 0, 2);
        frozen.pass(1);
        Check.same("ice and snow hold nothing", frozen.ofRoad(0, SALT), before - 2);
    }

    // ---- section 2: SLIPPERY

    private static void slipperyByIce() {
        GritWatch county = Counties.oneRoad(1);
        weather(county, -20, 0, 0);
        Check.same("without any", county.pass(5), 0);
        county.fall(1, 0, 0);
        Check.same("ice 1", county.pass(1), 0);
        lies("ice 1", county, 0, 1, 0);
        Check.same("not now", county.many(SLIPPERY_NOW), 0);
        Check.same("not then", county.claim(0, 6), 0);
        Check.same("ice 2", county.pass(1), 1);
        Check.same("now", county.many(SLIPPERY_NOW), 1);
        Check.same("then", county.claim(0, 7), 2);
        Check.same("times", county.ofRoad(0, TIMES_SLIPPERY), 1);
    }

    private static void slipperyBySnow() {
        GritWatch county = Counties.oneRoad(1);
        weather(county, -20, 0, 0);
        county.pass(5);
        county.fall(0, 1, 0);
        Check.same("snow 1 and 2", county.pass(2), 0);
        lies("snow 2", county, 0, 0, 2);
        Check.same("not now", county.many(SLIPPERY_NOW), 0);
        Check.same("snow 3", county.pass(1), 1);
        Check.same("now", county.many(SLIPPERY_NOW), 1);
        GritWatch both = Counties.oneRoad(1);
        weather(both, -20, 0, 0);
        both.pass(5);
        both.fall(1, 2, 0);
        Check.same("ice 1 and snow 2", both.pass(1), 0);
        lies("both", both, 0, 1, 2);
    }

    /** A plough that comes behind the weather leaves the QUARTER noted as SLIPPERY. */
    private static void slipperyBehindTheWeatherAlone() {
        GritWatch county = Counties.oneRoad(1);
        county.lorry(true);
        weather(county, -20, 0, 0);
        county.pass(5);
        county.fall(0, 3, 0);
        county.order(0, 0);
        county.order(0, 0);
        Check.same("noted", county.pass(1), 1);
        lies("and ploughed", county, 0, 0, 0);
        Check.same("it was in this quarter", county.many(SLIPPERY_NOW), 1);
        county.fall(0, 2, 0);
        Check.same("2 more are not enough", county.pass(1), 0);
        Check.same("times", county.ofRoad(0, TIMES_SLIPPERY), 1);
    }

    // ---- section 3: LORRIES

    private static void lengthOfOneAndTwo() {
        for (int length = 1; length <= 6; length++) {
            GritWatch county = new GritWatch();
            county.road(0, 1, length, 2, 0, 0, false);
            county.lorry(true);
            county.order(0, 0);
            for (int quarter = 1; quarter < length; quarter++) {
                county.pass(1);
                Check.same("on the road", county.ofLorry(0, 1), 0);
                Check.same("done of " + length, county.ofLorry(0, 2), quarter);
                Check.same("not treated yet", county.ofRoad(0, TREATED), -1);
                Check.same("still ordered", county.ofLorry(0, 7), 1);
            }
            county.pass(1);
            Check.same("at the other node behind " + length, county.ofLorry(0, 0), 1);
            Check.same("on no road", county.ofLorry(0, 1), -1);
            Check.same("none is done", county.ofLorry(0, 2), 0);
            Check.same("treated", county.ofRoad(0, TREATED), length);
            Check.same("no order", county.ofLorry(0, 7), 0);
        }
    }

    private static void roadOfThisNode() {
        GritWatch county = new GritWatch();
        county.road(3, 0, 1, 2, 0, 0, false);
        county.road(1, 3, 1, 2, 0, 0, false);
        county.lorry(false);
        county.order(0, 1);
        county.order(0, 0);
        county.order(0, 0);
        county.order(0, 0);
        county.order(0, 1);
        int[] nodes = {0, 3, 0, 3, 1};
        for (int i = 0; i < nodes.length; i++) {
            county.pass(1);
            Check.same("node behind " + (i + 1), county.ofLorry(0, 0), nodes[i]);
            Check.same("orders behind " + (i + 1), county.ofLorry(0, 7), 4 - i);
            Check.same("hours behind " + (i + 1), county.ofLorry(0, 6), i + 1);
        }
    }

    private static void rateTimesLengthAndTheHopper() {
        for (int length = 1; length <= 6; length++) {
            for (int rate = 0; rate <= 9; rate++) {
                GritWatch county = new GritWatch();
                county.road(0, 1, length, 2, 0, 0, false);
                county.lorry(false);
                county.load(0);
                county.rate(0, rate);
                county.order(0, 0);
                county.order(0, 0);
                Counties.pass(county, 2 * length);
                int due = Math.min(90, 2 * rate * length);
                Check.same("salt of " + rate + " times " + length, county.ofRoad(0, SALT), due);
                Check.same("hopper", county.ofLorry(0, 3), 90 - due);
                Check.same("spread ever", county.ofLorry(0, 8), due);
                Check.same("treated", county.ofRoad(0, TREATED), rate == 0 ? -1 : 2 * length);
            }
        }
    }

    /** 90 in the hopper: 9 times 6 leaves 36, 7 times 5 leaves 1. */
    private static void lastSaltOfTheHopper() {
        GritWatch county = new GritWatch();
        county.road(0, 1, 6, 2, 0, 0, false);
        county.road(1, 2, 5, 2, 0, 0, false);
        county.road(2, 3, 1, 2, 0, 0, false);
        county.road(3, 4, 1, 2, 0, 0, false);
        county.lorry(false);
        county.load(0);
        county.rate(0, 9);
        for (int road = 0; road < 4; road++) {
            county.order(0, road);
        }
        Counties.pass(county, 6);
        Check.same("54", county.ofRoad(0, SALT), 54);
        county.rate(0, 7);
        Counties.pass(county, 5);
        Check.same("35", county.ofRoad(1, SALT), 35);
        county.pass(1);
        Check.same("1 of 7", county.ofRoad(2, SALT), 1);
        Check.same("treated by 1", county.ofRoad(2, TREATED), 12);
        Check.same("empty", county.ofLorry(0, 3), 0);
        county.pass(1);
        Check.same("0 of 7", county.ofRoad(3, SALT), 0);
        Check.same("not treated by 0", county.ofRoad(3, TREATED), -1);
        Check.same("but it came along", county.ofLorry(0, 0), 4);
    }

    private static void treatedOrNot() {
        for (int plough = 0; plough <= 1; plough++) {
            for (int load = 0; load <= 1; load++) {
                for (int rate = 0; rate <= 1; rate++) {
                    GritWatch county = Counties.oneRoad(2);
                    county.lorry(plough == 1);
                    if (load == 1) {
                        county.load(0);
                    }
                    county.rate(0, rate);
                    county.order(0, 0);
                    county.pass(1);
                    boolean isTreated = plough == 1 || load == 1 && rate == 1;
                    Check.same("plough " + plough + ", load " + load + ", rate " + rate, county.ofRoad(0, TREATED),
                        isTreated ? 1 : -1);
                }
            }
        }
    }

    private static void ploughWithAndWithoutSnow() {
        GritWatch county = Counties.oneRoad(2);
        county.road(0, 1, 1, 2, 0, 0, false);
        county.lorry(true);
        weather(county, -20, 1, 3);
        county.pass(10);
        int snow = county.ofRoad(0, SNOW);
        Check.isTrue("much snow", snow > 20);
        county.fall(0, 0, 0);
        county.order(0, 0);
        county.order(0, 0);
        county.order(0, 1);
        county.pass(1);
        lies("ploughed, beside a road that is not", county, county.ofRoad(1, WATER), county.ofRoad(1, ICE), 0);
        Check.same("snow of that other road", county.ofRoad(1, SNOW), snow);
        Check.same("ploughed", county.many(PLOUGHED), snow);
        county.pass(1);
        Check.same("none is left to plough", county.many(PLOUGHED), snow);
        Check.same("treated all the same", county.ofRoad(0, TREATED), 12);
        county.pass(1);
        Check.same("ploughed of both roads", county.many(PLOUGHED), 2 * snow);
        Check.same("snow of the other road", county.ofRoad(1, SNOW), 0);
        Check.same("no salt to the fields by that", county.many(FIELDS), 0);
    }
}
