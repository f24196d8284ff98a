import java.util.Random;

/**
 * Runs of calls by fixed seeds, right and wrong ones mixed, each answered by GritWatch and by PlainCounty; the digests
 * of both are compared too, so that a call that should change nothing is seen if it does.
 */
public final class ModelTest {
    private static final int RUNS = 240;
    private static final int CALLS = 256;
    private static final int PLACE = 1;
    private static final int ARGUMENT = 2;
    private static final int STATE = 3;

    private final Random random;
    private final GritWatch county = new GritWatch();
    private final PlainCounty plain = new PlainCounty();
    private final int nodes;
    private final int cold;
    private int wrongPlaces;
    private int wrongArguments;
    private int wrongStates;

    private ModelTest(int seed) {
        random = new Random(seed);
        nodes = 3 + seed % 5;
        cold = -12 + seed % 17;
    }

    public static void main(String[] args) {
        int places = 0;
        int arguments = 0;
        int states = 0;
        for (int seed = 0; seed < RUNS; seed++) {
            ModelTest run = new ModelTest(seed);
            for (int i = 0; i < CALLS; i++) {
                run.call("seed " + seed + ", call " + i);
            }
            places += run.wrongPlaces;
            arguments += run.wrongArguments;
            states += run.wrongStates;
        }
        Check.isTrue("too few refusals", places > 1000 && arguments > 1000 && states > 500);
        Check.finish();
    }

    /** Mostly a number of these, now and then one just outside, seldom one far outside. */
    private int some(int least, int most) {
        int chance = random.nextInt(160);
        if (chance == 0) {
            return random.nextBoolean() ? Integer.MIN_VALUE : Integer.MAX_VALUE;
        }
        if (chance <= 2) {
            return chance == 1 ? least - 1 : most + 1;
        }
        return least + random.nextInt(Math.max(1, most - least + 1));
    }

    private int someNode() {
        return random.nextInt(60) == 0 ? some(-1, 7) : random.nextInt(nodes);
    }

    private int someRoad() {
        return some(0, Math.max(0, plain.ways.size() - 1));
    }

    private int someLorry() {
        return some(0, Math.max(0, plain.trucks.size() - 1));
    }

    private int someAir() {
        return random.nextInt(20) == 0 ? some(-20, 20) : Math.max(-20, cold + random.nextInt(9) - 4);
    }

    private static boolean isWithin(int number, int least, int most) {
        return least <= number && number <= most;
    }

    private boolean isRoad(int road) {
        return isWithin(road, 0, plain.ways.size() - 1);
    }

    private boolean isLorry(int lorry) {
        return isWithin(lorry, 0, plain.trucks.size() - 1);
    }

    private interface Call {
        long answer();
    }

    /** refusal: 0, or which exception is due. */
    private void compare(String what, int refusal, Call call, Call due) {
        wrongPlaces += refusal == PLACE ? 1 : 0;
        wrongArguments += refusal == ARGUMENT ? 1 : 0;
        wrongStates += refusal == STATE ? 1 : 0;
        int got = 0;
        long answer = 0;
        try {
            answer = call.answer();
        } catch (RuntimeException e) {
            got = e.getClass() == IndexOutOfBoundsException.class ? PLACE
                : e.getClass() == IllegalArgumentException.class ? ARGUMENT
                : e.getClass() == IllegalStateException.class ? STATE : 4;
        }
        Check.same(what + " throws", got, refusal);
        if (refusal == 0) {
            Check.same(what, answer, due.answer());
        }
        Check.same(what + ", then digest", county.digest(), plain.digest());
    }

    private void call(String name) {
        int kind = random.nextInt(48);
        if (kind < 2) {
            road(name);
        } else if (kind < 5) {
            air(name);
        } else if (kind < 8) {
            fall(name);
        } else if (kind < 10) {
            forecast(name);
        } else if (kind < 14) {
            pass(name);
        } else if (kind < 26) {
            callOfLorries(name, kind);
        } else if (kind < 30) {
            claim(name);
        } else {
            ask(name, kind);
        }
    }

    private void callOfLorries(String name, int kind) {
        if (kind < 15) {
            lorry(name);
        } else if (kind < 17) {
            rate(name);
        } else if (kind < 21) {
            order(name);
        } else if (kind < 23) {
            load(name);
        } else if (kind < 24) {
            rest(name);
        } else {
            deliver(name);
        }
    }

    private void ask(String name, int kind) {
        if (kind < 33) {
            ofRoad(name);
        } else if (kind < 36) {
            ofLorry(name);
        } else if (kind < 38) {
            many(name);
        } else if (kind < 40) {
            way(name);
        } else if (kind < 41) {
            Check.isTrue(name + " meanWarmth", county.meanWarmth() == plain.meanWarmth());
        } else if (kind < 43) {
            slipperyIn(name);
        } else if (kind < 46) {
            saltFor(name);
        } else {
            bestOrders(name);
        }
    }

    private void road(String name) {
        int one = someNode();
        int other = random.nextInt(20) == 0 ? one : (one + 1 + random.nextInt(nodes - 1)) % nodes;
        int length = some(1, random.nextInt(3) == 0 ? 6 : 2);
        int rank = some(0, 2);
        int height = some(0, 9);
        int shade = some(0, 2);
        boolean isBridge = random.nextInt(3) == 0;
        int refusal = !isWithin(one, 0, 6) || !isWithin(other, 0, 6) ? PLACE
            : one == other || !isWithin(length, 1, 6) || !isWithin(rank, 0, 2) || !isWithin(height, 0, 9)
                || !isWithin(shade, 0, 2) ? ARGUMENT
            : plain.ways.size() == 8 ? STATE : 0;
        compare(name + " road", refusal, () -> county.road(one, other, length, rank, height, shade, isBridge),
            () -> plain.road(one, other, length, rank, height, shade, isBridge));
    }

    private void air(String name) {
        int air = someAir();
        boolean isClear = random.nextBoolean();
        compare(name + " air", isWithin(air, -20, 20) ? 0 : ARGUMENT, () -> county.air(air, isClear), () -> {
            int before = plain.air;
            plain.air = air;
            plain.isClear = isClear;
            return before;
        });
    }

    private void fall(String name) {
        int rain = random.nextInt(3) == 0 ? some(0, 3) : 0;
        int flakes = random.nextInt(3) == 0 ? some(0, 3) : 0;
        int wind = some(0, 3);
        boolean isRight = isWithin(rain, 0, 3) && isWithin(flakes, 0, 3) && isWithin(wind, 0, 3);
        compare(name + " fall", isRight ? 0 : ARGUMENT, () -> county.fall(rain, flakes, wind), () -> {
            int before = plain.wind;
            plain.rain = rain;
            plain.flakes = flakes;
            plain.wind = wind;
            return before;
        });
    }

    private void forecast(String name) {
        int later = random.nextInt(3) == 0 ? some(1, 48) : some(1, 20);
        int first = someAir();
        int second = someAir();
        int third = someAir();
        boolean isClear = random.nextBoolean();
        int refusal = !isWithin(later, 1, 48) || !isWithin(first, -20, 20) || !isWithin(second, -20, 20)
            || !isWithin(third, -20, 20) ? ARGUMENT : plain.forecasts.size() == 20 ? STATE : 0;
        compare(name + " forecast", refusal, () -> county.forecast(later, first, second, third, isClear),
            () -> plain.forecast(later, first, second, third, isClear));
    }

    private void pass(String name) {
        int quarters = random.nextInt(10) == 0 ? some(1, 20) : some(1, 6);
        int refusal = !isWithin(quarters, 1, 20) ? ARGUMENT : plain.now + quarters > 199 ? STATE : 0;
        compare(name + " pass", refusal, () -> county.pass(quarters), () -> plain.pass(quarters));
    }

    private void lorry(String name) {
        boolean hasPlough = random.nextBoolean();
        compare(name + " lorry", plain.trucks.size() == 3 ? STATE : 0, () -> county.lorry(hasPlough), () -> {
            PlainCounty.Truck truck = new PlainCounty.Truck();
            truck.hasPlough = hasPlough;
            plain.trucks.add(truck);
            return plain.trucks.size() - 1;
        });
    }

    private void rate(String name) {
        int lorry = someLorry();
        int rate = some(0, 9);
        int refusal = !isLorry(lorry) ? PLACE : isWithin(rate, 0, 9) ? 0 : ARGUMENT;
        compare(name + " rate", refusal, () -> county.rate(lorry, rate), () -> {
            int before = plain.trucks.get(lorry).rate;
            plain.trucks.get(lorry).rate = rate;
            return before;
        });
    }

    private void order(String name) {
        int lorry = someLorry();
        int road = someRoad();
        int refusal = !isLorry(lorry) || !isRoad(road) ? PLACE
            : plain.trucks.get(lorry).orders.size() == 8 ? STATE : 0;
        compare(name + " order", refusal, () -> county.order(lorry, road), () -> {
            plain.trucks.get(lorry).orders.add(road);
            return plain.trucks.get(lorry).orders.size();
        });
    }

    private void load(String name) {
        int lorry = someLorry();
        int refusal = !isLorry(lorry) ? PLACE : plain.trucks.get(lorry).node != 0 ? STATE : 0;
        compare(name + " load", refusal, () -> county.load(lorry), () -> {
            PlainCounty.Truck truck = plain.trucks.get(lorry);
            int amount = Math.min(90 - truck.hopper, plain.barn);
            truck.hopper += amount;
            plain.barn -= amount;
            return amount;
        });
    }

    private void rest(String name) {
        int lorry = someLorry();
        int refusal = !isLorry(lorry) ? PLACE : plain.trucks.get(lorry).node == PlainCounty.NONE ? STATE : 0;
        compare(name + " rest", refusal, () -> county.rest(lorry), () -> {
            PlainCounty.Truck truck = plain.trucks.get(lorry);
            int before = truck.hours;
            truck.hours = 0;
            truck.orders.clear();
            return before;
        });
    }

    private void deliver(String name) {
        int amount = random.nextBoolean() ? some(1, 500) : some(1, 20);
        int later = random.nextBoolean() ? some(1, 96) : some(1, 9);
        int refusal = !isWithin(amount, 1, 500) || !isWithin(later, 1, 96) ? ARGUMENT
            : plain.deliveries.size() == 5 ? STATE : 0;
        compare(name + " deliver", refusal, () -> county.deliver(amount, later), () -> {
            plain.deliveries.add(new int[] {amount, plain.now + later});
            return plain.deliveries.size();
        });
    }

    private void claim(String name) {
        int road = someRoad();
        int quarter = some(1, Math.max(1, plain.now));
        int refusal = !isRoad(road) ? PLACE : isWithin(quarter, 1, plain.now) ? 0 : ARGUMENT;
        compare(name + " claim", refusal, () -> county.claim(road, quarter), () -> plain.claim(road, quarter));
    }

    private void ofRoad(String name) {
        int road = someRoad();
        int what = some(0, 14);
        int refusal = !isRoad(road) ? PLACE : isWithin(what, 0, 14) ? 0 : ARGUMENT;
        compare(name + " ofRoad", refusal, () -> county.ofRoad(road, what), () -> plain.ofRoad(road, what));
    }

    private void ofLorry(String name) {
        int lorry = someLorry();
        int what = some(0, 8);
        int refusal = !isLorry(lorry) ? PLACE : isWithin(what, 0, 8) ? 0 : ARGUMENT;
        compare(name + " ofLorry", refusal, () -> county.ofLorry(lorry, what), () -> plain.ofLorry(lorry, what));
    }

    private void many(String name) {
        int what = some(0, 14);
        int refusal = isWithin(what, 0, 14) ? 0 : ARGUMENT;
        compare(name + " many", refusal, () -> county.many(what), () -> plain.many(what));
    }

    private void way(String name) {
        int one = some(0, 6);
        int other = some(0, 6);
        int refusal = isWithin(one, 0, 6) && isWithin(other, 0, 6) ? 0 : PLACE;
        compare(name + " way", refusal, () -> county.way(one, other), () -> plain.way(one, other));
    }

    private void slipperyIn(String name) {
        int road = someRoad();
        int quarters = some(1, 24);
        int refusal = !isRoad(road) ? PLACE : isWithin(quarters, 1, 24) ? 0 : ARGUMENT;
        compare(name + " slipperyIn", refusal, () -> county.slipperyIn(road, quarters),
            () -> plain.slipperyIn(road, quarters));
    }

    private void saltFor(String name) {
        int road = someRoad();
        int quarters = some(1, 24);
        int refusal = !isRoad(road) ? PLACE : isWithin(quarters, 1, 24) ? 0 : ARGUMENT;
        compare(name + " saltFor", refusal, () -> county.saltFor(road, quarters),
            () -> plain.saltFor(road, quarters));
    }

    private void bestOrders(String name) {
        int lorry = someLorry();
        int from = some(0, 6);
        int refusal = isLorry(lorry) && isWithin(from, 0, 6) ? 0 : PLACE;
        compare(name + " bestOrders", refusal, () -> county.bestOrders(lorry, from), () -> plain.bestOrders(from));
    }
}
