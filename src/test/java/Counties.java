/** Counties as tests need them: each call makes the same one anew. */
final class Counties {
    private Counties() {
    }

    static void pass(GritWatch county, int quarters) {
        for (int left = quarters; left > 0; left -= 20) {
            county.pass(Math.min(20, left));
        }
    }

    /** One road of that class between the nodes 0 and 1, of the length 1, in the dry. */
    static GritWatch oneRoad(int rank) {
        GritWatch county = new GritWatch();
        county.road(0, 1, 1, rank, 0, 0, false);
        return county;
    }

    /**
     * A night on its way: three slippery roads; two lorries at the barn, with hours, salt and orders; forecasts and
     * deliveries that are still to come. The second and third road are not treated, so that claims tell of the
     * forecasts. NOW is 9.
     */
    static GritWatch night() {
        return nightAt(9);
    }

    /** The same night, as the quarters ahead of it went by without anything. */
    static GritWatch nightAt(int now) {
        GritWatch county = new GritWatch();
        pass(county, now - 9);
        county.road(0, 1, 1, 0, 3, 1, false);
        county.road(1, 2, 2, 1, 0, 0, true);
        county.road(2, 0, 3, 2, 9, 2, false);
        county.lorry(true);
        county.lorry(false);
        county.load(0);
        county.load(1);
        county.rate(1, 3);
        county.air(-4, true);
        county.fall(1, 1, 1);
        county.forecast(12, 6, 6, 9, true);
        for (int lorry = 0; lorry <= 1; lorry++) {
            county.order(lorry, 0);
            county.order(lorry, 0);
        }
        county.pass(9);
        county.forecast(8, 1, 9, 1, true);
        county.deliver(70, 3);
        county.deliver(40, 60);
        county.order(0, 0);
        county.order(0, 2);
        county.rate(1, 0);
        county.order(1, 2);
        county.order(1, 1);
        return county;
    }

    /** That night a quarter later: the first lorry is at the node 1, the second on the third road. */
    static GritWatch nightUnderWay() {
        GritWatch county = night();
        county.pass(1);
        return county;
    }

    /** As many of everything as there can be: 8 roads, 3 lorries with 8 orders, 20 forecasts, 5 deliveries. */
    static GritWatch crowd() {
        GritWatch county = new GritWatch();
        for (int i = 0; i < 8; i++) {
            county.road(i % 7, (i + 1) % 7, 1 + i % 6, i % 3, i, i % 3, i % 2 == 0);
        }
        for (int lorry = 0; lorry < 3; lorry++) {
            county.lorry(lorry == 2);
            county.load(lorry);
            for (int i = 0; i < 8; i++) {
                county.order(lorry, i);
            }
        }
        county.air(-6, false);
        county.fall(2, 1, 2);
        // the first by its clear sky alone, the others by no more than one member
        for (int i = 1; i <= 20; i++) {
            county.forecast(i, i == 1 ? 2 : 9, i == 1 ? 2 : -i, 9, i % 2 == 1);
        }
        for (int i = 1; i <= 5; i++) {
            county.deliver(i, 2 * i);
        }
        return county;
    }

    /** NOW is 199, the last QUARTER; the road is slippery, the lorry at the barn. */
    static GritWatch lastQuarter() {
        GritWatch county = oneRoad(0);
        county.lorry(true);
        pass(county, 189);
        county.air(-20, false);
        county.fall(1, 1, 0);
        county.pass(10);
        return county;
    }

    /** A lorry that has 1 of 3 of the road 0 behind it, and an order more. */
    static GritWatch lorryOnARoad() {
        GritWatch county = new GritWatch();
        county.road(0, 1, 3, 0, 0, 0, false);
        county.lorry(true);
        county.load(0);
        county.order(0, 0);
        county.order(0, 0);
        county.pass(1);
        return county;
    }

    /** A lorry at the node 1, away from the barn, with hours and an order more. */
    static GritWatch lorryAway() {
        GritWatch county = oneRoad(0);
        county.lorry(false);
        county.load(0);
        county.order(0, 0);
        county.pass(2);
        county.order(0, 0);
        return county;
    }
}
