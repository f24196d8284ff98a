/**
 * What one can ask of a county, in one row, so that two counties can be compared; of the claims those of the first and
 * the latest quarters, as an object is promised to answer 512 calls.
 */
final class Asked {
    private static final int CLAIMS = 12;
    private static final int MOST_ANSWERS = 480;

    private final GritWatch county;
    private final long[] answers = new long[MOST_ANSWERS];
    private int count;

    private Asked(GritWatch county) {
        this.county = county;
    }

    static long[] everything(GritWatch county) {
        Asked asked = new Asked(county);
        asked.keep(county.digest());
        for (int what = 0; what <= 14; what++) {
            asked.keep(county.many(what));
        }
        for (int road = 0; road < county.many(0); road++) {
            asked.keepRoad(road);
        }
        for (int lorry = 0; lorry < county.many(2); lorry++) {
            asked.keepLorry(lorry);
        }
        asked.keepWays();
        return asked.answers;
    }

    /** What is told but cannot be asked (weather, orders, forecasts, deliveries) shows as the night goes on. */
    static long[] restOfTheNight(GritWatch county) {
        Asked asked = new Asked(county);
        for (int i = 0; i < 7 && county.many(1) < 199; i++) {
            asked.keep(county.pass(1));
            asked.keep(county.digest());
        }
        asked.keep(county.air(-20, false));
        asked.keep(county.fall(1, 1, 2));
        for (int i = 0; i < 3 && county.many(1) < 199; i++) {
            asked.keep(county.pass(1));
            asked.keep(county.digest());
        }
        return asked.answers;
    }

    private void keep(long answer) {
        answers[count] = answer;
        count++;
    }

    private void keepRoad(int road) {
        for (int what = 0; what <= 14; what++) {
            keep(county.ofRoad(road, what));
        }
        keep(county.slipperyIn(road, 24));
        keep(county.saltFor(road, 1));
        keep(county.saltFor(road, 24));
        int now = county.many(1);
        for (int quarter = 1; quarter <= now; quarter++) {
            if (quarter <= CLAIMS || quarter > now - CLAIMS) {
                keep(county.claim(road, quarter));
            }
        }
    }

    private void keepLorry(int lorry) {
        for (int what = 0; what <= 8; what++) {
            keep(county.ofLorry(lorry, what));
        }
        keep(county.bestOrders(lorry, 0));
        keep(county.bestOrders(lorry, 6));
    }

    private void keepWays() {
        for (int one = 0; one <= 6; one++) {
            for (int other = one; other <= 6; other++) {
                keep(county.way(one, other));
            }
        }
        keep(Double.doubleToLongBits(county.meanWarmth()));
    }
}
