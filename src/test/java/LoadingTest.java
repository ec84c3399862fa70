import java.util.ArrayList;
import java.util.List;

/** The order of loading and the trucks that follow from it, with parcels that differ in all that they can. */
final class LoadingTest {
    private final Routepost post = Posts.hubsWith(4, 1);
    private final int[] volumes = new int[40];
    private final int[] services = new int[40];

    private LoadingTest() {
    }

    static void run() {
        Check.test("by service, promise and number, and by nothing else", LoadingTest::order);
        Check.test("each parcel into the first bag, a new one, or left behind", LoadingTest::trucks);
        Check.test("a bag is filled to its last room, whichever it is", LoadingTest::lastRoom);
        Check.test("full trucks, one after another", LoadingTest::fullTrucks);
    }

    /**
     * The line 1 leaves hub 0 in 50 with so many bags, and all parcels but one wait for it: for the hubs 1 to 3, with
     * the promises 55 and 60 and without, scanned in many minutes, returns among them.
     */
    private static LoadingTest varied(int bags) {
        LoadingTest test = new LoadingTest();
        Routepost post = test.post;
        test.accept(8, 0, 3333, 2222);
        post.addLine(0, 1, 50, 60, 10, 4);
        test.accept(8, 0, 2222, 2222);
        post.addLine(0, 1, 50, 60, 5, bags);
        post.addLine(1, 2, 59, 60, 1, 4);
        test.accept(9, 1, 1111, 1111);
        for (int i = 16; i < 25; i++) {
            post.scan(i, 0);
            post.recall(i);
        }
        test.accept(6, 0, 3333, 2222);
        test.accept(8, 0, 4444, 2222);
        post.addLine(1, 3, 59, 60, 1, 4);
        for (int i = 1; i < 16; i += 3) {
            post.pass(1);
            post.scan(i, 2);
            post.scan(i, 0);
        }
        test.accept(1, 0, 1111, 1111);
        return test;
    }

    private void accept(int count, int hub, int one, int other) {
        for (int i = 0; i < count; i++) {
            int number = post.parcels();
            services[number] = number % 3;
            volumes[number] = 1 + number * 4 % 9;
            post.accept(hub, i % 2 == 0 ? one : other, volumes[number], services[number]);
            if (i % 3 == 2) {
                post.pass(1);
            }
        }
    }

    private boolean goesBefore(int one, int other) {
        if (services[one] != services[other]) {
            return services[one] < services[other];
        }
        int promise = post.promise(one) == -1 ? Integer.MAX_VALUE : post.promise(one);
        int otherPromise = post.promise(other) == -1 ? Integer.MAX_VALUE : post.promise(other);
        return promise == otherPromise ? one < other : promise < otherPromise;
    }

    private List<Integer> due() {
        List<Integer> due = new ArrayList<>();
        for (int parcel = 0; parcel < 39; parcel++) {
            int place = 0;
            while (place < due.size() && goesBefore(due.get(place), parcel)) {
                place++;
            }
            due.add(place, parcel);
        }
        return due;
    }

    private static void order() {
        LoadingTest test = varied(4);
        Routepost post = test.post;
        Check.same("parcels", 40, post.parcels());
        Check.same("waiting", 39, post.waiting(1));
        Check.same("without a promise", -1, post.promise(0));
        Check.same("promise", 60, post.promise(8));
        Check.same("a return", true, post.isReturn(16));
        Check.same("promise", 55, post.promise(16));
        Check.same("promise", 60, post.promise(25));
        Check.same("promise", 55, post.promise(26));
        Check.same("without a promise", -1, post.promise(31));
        Check.same("promise", 55, post.promise(32));
        List<Integer> due = test.due();
        for (int rank = 0; rank < 39; rank++) {
            Check.same("rank " + rank, due.get(rank), post.waitingAt(1, rank));
        }
    }

    private static void trucks() {
        for (int bags = 1; bags <= 4; bags++) {
            LoadingTest test = varied(bags);
            Routepost post = test.post;
            List<Integer> due = test.due();
            Posts.passTo(post, 49);
            List<int[]> open = new ArrayList<>();
            boolean[] isLeft = new boolean[40];
            for (int parcel : due) {
                isLeft[parcel] = !isPut(open, post.destination(parcel), test.volumes[parcel], bags);
            }
            post.pass(1);
            for (int parcel : due) {
                Check.same("parcel " + parcel, isLeft[parcel] ? 's' : 't', post.state(parcel));
                Check.same("missed by " + parcel, isLeft[parcel] ? 1 : 0, post.missed(parcel));
            }
            Check.same("bags", bags, post.bags(1));
            for (int bag = 0; bag < bags; bag++) {
                Check.same("bag " + bag, open.get(bag)[1], post.bagVolume(1, bag));
            }
        }
    }

    /** A bag is a destination and a volume. */
    private static boolean isPut(List<int[]> open, int destination, int volume, int bags) {
        for (int[] bag : open) {
            if (bag[0] == destination && bag[1] + volume <= 12) {
                bag[1] += volume;
                return true;
            }
        }
        if (open.size() == bags) {
            return false;
        }
        open.add(new int[] {destination, volume});
        return true;
    }

    /** Four bags of 9, then one after another a parcel that fills the first bag up to the rest, and the rest. */
    private static void lastRoom() {
        for (int rest = 1; rest <= 2; rest++) {
            Routepost post = Posts.hubsWith(2, 1);
            post.addLine(0, 1, 5, 60, 5, 4);
            for (int i = 0; i < 4; i++) {
                post.accept(0, 2222, 9, 0);
            }
            for (int i = 0; i < 4; i++) {
                post.accept(0, 2222, 3 - rest, 1);
                post.accept(0, 2222, rest, 1);
            }
            post.accept(0, 2222, 1, 2);
            Check.same("bagsNeeded", 5, post.bagsNeeded(0));
            Check.same("bagsAtLeast", 5, post.bagsAtLeast(0));
            post.pass(5);
            for (int bag = 0; bag < 4; bag++) {
                Check.same("bag " + bag, 12, post.bagVolume(0, bag));
            }
            Check.same("riding", 12, post.riding(0));
            Check.same("no room left", 1, post.missed(12));
        }
    }

    private static void fullTrucks() {
        for (int bags = 1; bags <= 4; bags++) {
            Routepost post = Posts.hubsWith(2, 1);
            post.addLine(0, 1, 5, 5, 3, bags);
            for (int i = 0; i < 40; i++) {
                post.accept(0, 2222, 5 + i / 8, 1);
            }
            // A volume of 5 or 6 goes into a bag with another one, a larger one by itself.
            int loaded = 0;
            while (loaded < 40) {
                Check.same("waiting", 40 - loaded, post.waiting(0));
                List<int[]> open = new ArrayList<>();
                while (loaded < 40 && isPut(open, 1, 5 + loaded / 8, bags)) {
                    loaded++;
                }
                post.pass(5);
                Check.same("waiting", 40 - loaded, post.waiting(0));
                Check.same("bags", open.size(), post.bags(0));
                for (int bag = 0; bag < open.size(); bag++) {
                    Check.same("bag " + bag, open.get(bag)[1], post.bagVolume(0, bag));
                }
            }
        }
    }
}
