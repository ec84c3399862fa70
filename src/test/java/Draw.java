import java.util.Random;

/** Draws calls that change a sorter, mostly such as are taken, by what a model in the same state knows. */
final class Draw {
    private static final int[] CODES = {1, 2, 21, 213, 3, 35, 4, 11, 0, 20, 1000};
    private static final int[] ADDRESSES = {1111, 2111, 2134, 2155, 3555, 3111, 4444, 1211, 2011, 999, 5555};

    private final Random random;
    private final Model model;

    Draw(Random random, Model model) {
        this.random = random;
        this.model = model;
    }

    String name(int index) {
        int drawn = random.nextInt(index < 20 ? 40 : 100);
        if (drawn < 10) {
            return index < 20 ? "openHub" : drawn < 1 ? "openHub" : drawn < 5 ? "pass" : "scan";
        }
        if (drawn < 25) {
            return index < 30 || random.nextInt(8) == 0 ? "addLine" : "scan";
        }
        if (drawn < 42) {
            return "accept";
        }
        if (drawn < 60) {
            return "pass";
        }
        if (drawn < 85) {
            return "scan";
        }
        if (drawn < 95) {
            return "deliver";
        }
        return drawn < 98 ? "recall" : random.nextInt(3) == 0 ? "closeLine" : "pass";
    }

    Object[] arguments(String name) {
        switch (name) {
            case "openHub":
                return new Object[] {CODES[random.nextInt(CODES.length)], oneIn(40) ? 0 : 1 + random.nextInt(20)};
            case "addLine":
                return new Object[] {drawHub(), drawHub(), random.nextInt(61),
                    5 + random.nextInt(random.nextBoolean() ? 10 : 57),
                    1 + random.nextInt(random.nextBoolean() ? 20 : 61), 1 + random.nextInt(oneIn(10) ? 5 : 2)};
            case "closeLine":
                return new Object[] {random.nextInt(model.lines() + 2) - 1};
            case "accept":
                return new Object[] {drawHub(), ADDRESSES[random.nextInt(ADDRESSES.length)],
                    oneIn(10) ? random.nextInt(11) : 1 + random.nextInt(9), oneIn(20) ? 3 : random.nextInt(3)};
            case "scan":
                return drawScan();
            case "deliver":
                return new Object[] {drawParcel(), oneIn(3)};
            case "recall":
                return new Object[] {drawParcel()};
            default:
                return new Object[] {oneIn(40) ? 121 : oneIn(6) ? random.nextInt(121) : 1 + random.nextInt(15)};
        }
    }

    private boolean oneIn(int count) {
        return random.nextInt(count) == 0;
    }

    private int drawHub() {
        return random.nextInt(60) == 0 ? model.hubs() : random.nextInt(Math.max(1, model.hubs()));
    }

    private int drawParcel() {
        int count = model.parcels();
        for (int i = 0; i < 20 && count > 0; i++) {
            int parcel = random.nextInt(count);
            if (model.state(parcel) == 's' && model.at(parcel) == model.destination(parcel)) {
                return parcel;
            }
        }
        return random.nextInt(count + 1) - (random.nextInt(20) == 0 ? 1 : 0);
    }

    /** Mostly where the parcel is known to be, else it is held too soon. */
    private Object[] drawScan() {
        int count = model.parcels();
        for (int i = 0; i < 20 && count > 0 && random.nextInt(15) > 0; i++) {
            int parcel = random.nextInt(count);
            if (model.state(parcel) == 'u') {
                return new Object[] {parcel, model.at(parcel)};
            }
        }
        return new Object[] {random.nextInt(count + 1) - (random.nextInt(20) == 0 ? 1 : 0), drawHub()};
    }
}
