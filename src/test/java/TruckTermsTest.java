/** "Trucks and bags", sentence by sentence. */
final class TruckTermsTest {
    private TruckTermsTest() {
    }

    static void run() {
        Check.test("first all trucks arrive that are due", TruckTermsTest::trucksArriveFirst);
        Check.test("in the state 'u', at the hub at which the line ends", TruckTermsTest::unloaded);
        Check.test("pass counts the parcels that trucks unloaded", TruckTermsTest::countsUnloaded);
        Check.test("that have it as their next line", TruckTermsTest::nextLineAlone);
        Check.test("scanned at least the cutoff of its first hub ago", TruckTermsTest::cutoffs);
        Check.test("not scanned long enough ago is not left behind", TruckTermsTest::tooLateIsNotLeftBehind);
        Check.test("not scanned long enough ago, ahead of others that are", TruckTermsTest::tooLateIsPassedOver);
        Check.test("by service, the lower one first", TruckTermsTest::byService);
        Check.test("then by promise, the earlier one first", TruckTermsTest::byPromise);
        Check.test("those without a promise last", TruckTermsTest::withoutPromiseLast);
        Check.test("those without a promise last, whatever their numbers", TruckTermsTest::withoutPromiseBetween);
        Check.test("then by number", TruckTermsTest::byNumber);
        Check.test("A bag is for one destination", TruckTermsTest::oneDestination);
        Check.test("room for a volume of 12", TruckTermsTest::roomForTwelve);
        Check.test("the first bag for its destination that has room for it", TruckTermsTest::firstBag);
        Check.test("if the truck has fewer bags than the line allows", TruckTermsTest::allowedBags);
        Check.test("otherwise it is left behind, and the next one is tried", TruckTermsTest::nextOneTried);
        Check.test("A truck without parcels does not leave", TruckTermsTest::emptyTruckStays);
        Check.test("After all departures of the minute they are planned anew", TruckTermsTest::plannedAfterAll);
        Check.test("After all departures, also of lines that come next", TruckTermsTest::plannedForTheNextTime);
        Check.test("for each destination the volumes divided by 12, rounded up", TruckTermsTest::bagsAtLeast);
        Check.test("bagsNeeded goes by the order of loading", TruckTermsTest::bagsNeeded);
        Check.test("40 parcels on one truck", TruckTermsTest::fullTruck);
        Check.test("the bags of each line by themselves", TruckTermsTest::bagsOfTwelveLines);
    }

    /** Line 0 leads from hub 0 to hub 1 in 5, 65 .. and takes 5, line 1 from hub 0 to hub 2 in the same way. */
    private static Routepost twoLines(int bags) {
        Routepost post = Posts.hubsWith(3, 1);
        post.addLine(0, 1, 5, 60, 5, bags);
        post.addLine(0, 2, 5, 60, 5, bags);
        return post;
    }

    private static void trucksArriveFirst() {
        Routepost post = Posts.hubsWith(3, 1);
        post.addLine(1, 2, 10, 60, 5, 1);
        post.addLine(0, 1, 5, 60, 5, 1);
        post.accept(0, 3333, 9, 1);
        post.accept(1, 3333, 9, 1);
        Check.same("arrived and loaded in one minute", 1, post.pass(10));
        Check.same("arrived, and not scanned before the departure", 'u', post.state(0));
        Check.same("loaded", 't', post.state(1));
        Check.same("bagVolume", 9, post.bagVolume(0, 0));
        Check.same("missed", 0, post.missed(0));
    }

    private static void unloaded() {
        Routepost post = twoLines(4);
        post.accept(0, 2222, 1, 1);
        post.accept(0, 3333, 1, 1);
        post.pass(10);
        for (int i = 0; i < 2; i++) {
            Check.same("state", 'u', post.state(i));
            Check.same("at", i + 1, post.at(i));
            Check.same("event", 'u', post.eventKind(i, 2));
            Check.same("hub of the event", i + 1, post.eventHub(i, 2));
        }
        Check.same("unloaded once", 0, post.pass(120));
        Check.same("events", 3, post.events(0));
    }

    private static void countsUnloaded() {
        Routepost post = twoLines(4);
        Check.same("nobody", 0, post.pass(1));
        for (int i = 0; i < 40; i++) {
            post.accept(0, 2222 + i % 2 * 1111, 1, 1);
        }
        Check.same("nobody before", 0, post.pass(8));
        Check.same("all of them", 40, post.pass(1));
        Check.same("nobody after", 0, post.pass(1));
    }

    private static void nextLineAlone() {
        Routepost post = Posts.hubsWith(3, 1);
        post.addLine(0, 1, 5, 60, 60, 4);
        post.addLine(0, 1, 6, 60, 5, 4);
        post.addLine(1, 0, 5, 60, 5, 4);
        post.accept(0, 2222, 1, 1);
        post.accept(0, 3333, 1, 1);
        post.accept(0, 1111, 1, 1);
        post.pass(5);
        Check.same("another line leaves first", 's', post.state(0));
        post.pass(1);
        Check.same("rides", 1, post.rides(0));
        Check.same("no path", 's', post.state(1));
        Check.same("at its destination", 's', post.state(2));
    }

    private static void cutoffs() {
        for (int cutoff : new int[] {1, 2, 19, 20}) {
            for (int ago = cutoff - 1; ago <= cutoff + 1; ago++) {
                Routepost post = Posts.hubsWith(2, cutoff);
                post.addLine(0, 1, 30, 30, 5, 4);
                Posts.passTo(post, 30 - ago);
                post.accept(0, 2222, 1, 1);
                Posts.passTo(post, 30);
                Check.same("scanned " + ago + " ago", ago < cutoff ? 's' : 't', post.state(0));
            }
        }
        Routepost post = new Routepost();
        post.openHub(1, 3);
        post.openHub(2, 20);
        post.addLine(0, 1, 5, 60, 5, 1);
        post.pass(2);
        post.accept(0, 2222, 1, 1);
        post.pass(3);
        Check.same("the cutoff of the first hub", 't', post.state(0));
    }

    private static void tooLateIsNotLeftBehind() {
        Routepost post = Posts.hubsWith(2, 10);
        post.addLine(0, 1, 5, 10, 5, 1);
        post.accept(0, 2222, 1, 1);
        Check.same("promise", 20, post.promise(0));
        post.pass(5);
        Check.same("missed", 0, post.missed(0));
        Check.same("no truck has left", 0, post.bags(0));
        Check.same("waiting", 1, post.waiting(0));
        Check.same("nextLine", 0, post.nextLine(0));
    }

    private static void tooLateIsPassedOver() {
        Routepost post = Posts.hubsWith(2, 5);
        post.addLine(0, 1, 10, 60, 5, 1);
        post.accept(0, 2222, 9, 2);
        post.pass(5);
        post.accept(0, 2222, 3, 1);
        post.pass(1);
        post.accept(0, 2222, 9, 0);
        Check.same("waitingAt", 2, post.waitingAt(0, 0));
        post.pass(4);
        Check.same("loaded", "tts", states(post));
        Check.same("missed", 0, post.missed(2));
        Check.same("bagVolume", 12, post.bagVolume(0, 0));
    }

    private static void byService() {
        Routepost post = twoLines(1);
        post.accept(0, 2222, 9, 2);
        post.accept(0, 2222, 9, 1);
        post.accept(0, 2222, 9, 0);
        post.accept(0, 2222, 9, 0);
        Check.same("express", 2, post.waitingAt(0, 0));
        Check.same("bulk", 0, post.waitingAt(0, 3));
        post.pass(5);
        Check.same("loaded", "ssts", states(post));
        post.pass(60);
        Check.same("loaded", "ssut", states(post));
        post.pass(60);
        Check.same("loaded", "stuu", states(post));
        post.pass(60);
        Check.same("loaded", "tuuu", states(post));
    }

    private static String states(Routepost post) {
        StringBuilder states = new StringBuilder();
        for (int i = 0; i < post.parcels(); i++) {
            states.append(post.state(i));
        }
        return states.toString();
    }

    private static void byPromise() {
        for (int second = 0; second <= 1; second++) {
            Routepost post = Posts.hubsWith(3, 1);
            post.addLine(0, 1, 5, 60, 5, 1);
            post.addLine(1, 2, 15, 60, 5, 1);
            post.accept(0, second == 0 ? 2222 : 3333, 9, 1);
            post.accept(0, second == 0 ? 3333 : 2222, 9, 1);
            Check.same("promise", 10, post.promise(second));
            Check.same("promise", 20, post.promise(1 - second));
            Check.same("waitingAt", second, post.waitingAt(0, 0));
            post.pass(5);
            Check.same("the earlier one", 't', post.state(second));
            Check.same("the later one", 's', post.state(1 - second));
        }
        Routepost post = Posts.hubsWith(3, 1);
        post.addLine(0, 1, 5, 60, 5, 1);
        post.addLine(1, 2, 15, 60, 5, 1);
        post.accept(0, 3333, 9, 0);
        post.accept(0, 2222, 9, 1);
        post.pass(5);
        Check.same("the service comes first", "ts", states(post));
    }

    private static void withoutPromiseLast() {
        Routepost post = Posts.hubsWith(2, 1);
        post.accept(0, 2222, 9, 1);
        post.accept(0, 2222, 9, 1);
        post.addLine(0, 1, 5, 60, 5, 1);
        post.accept(0, 2222, 9, 1);
        post.accept(0, 2222, 9, 2);
        int[] order = {2, 0, 1, 3};
        for (int i = 0; i < 4; i++) {
            Check.same("waitingAt", order[i], post.waitingAt(0, i));
        }
        post.pass(5);
        Check.same("loaded", "ssts", states(post));
        post.pass(60);
        Check.same("loaded", "tsus", states(post));
        post.pass(60);
        Check.same("loaded", "utus", states(post));
    }

    /** The line 0 leads on to hub 2 only when the parcels have been accepted. */
    private static void withoutPromiseBetween() {
        for (int goesFirst = 0; goesFirst < 4; goesFirst++) {
            Routepost post = Posts.hubsWith(3, 1);
            post.addLine(0, 1, 5, 60, 5, 1);
            for (int i = 0; i < 4; i++) {
                post.accept(0, i == goesFirst ? 2222 : 3333, 9, 1);
                Check.same("promise", i == goesFirst ? 10 : -1, post.promise(i));
            }
            post.addLine(1, 2, 15, 60, 5, 1);
            int rank = 0;
            Check.same("the promised one", goesFirst, post.waitingAt(0, rank));
            for (int i = 0; i < 4; i++) {
                if (i != goesFirst) {
                    rank++;
                    Check.same("the others by number", i, post.waitingAt(0, rank));
                }
            }
            post.pass(5);
            for (int i = 0; i < 4; i++) {
                Check.same("state", i == goesFirst ? 't' : 's', post.state(i));
            }
        }
    }

    private static void byNumber() {
        Routepost post = twoLines(1);
        for (int i = 0; i < 40; i++) {
            post.accept(0, 2222, 9, 1);
        }
        for (int i = 0; i < 40; i++) {
            Check.same("waitingAt", i, post.waitingAt(0, i));
        }
        for (int rank : new int[] {Integer.MIN_VALUE, -1, 40, 41, Integer.MAX_VALUE}) {
            Check.refuses("rank " + rank, post, Check.INDEX, () -> post.waitingAt(0, rank));
        }
        for (int i = 0; i < 3; i++) {
            Posts.passTo(post, 5 + 60 * i);
            Check.same("loaded", 't', post.state(i));
            Check.same("waiting", 39 - i, post.waiting(0));
            Check.same("missed", i + 1, post.missed(39));
        }
    }

    private static void oneDestination() {
        Routepost post = Posts.hubsWith(4, 1);
        post.addLine(0, 1, 5, 60, 5, 2);
        post.addLine(1, 2, 15, 60, 5, 1);
        post.addLine(1, 3, 15, 60, 5, 1);
        post.accept(0, 2222, 1, 1);
        post.accept(0, 3333, 2, 1);
        post.accept(0, 4444, 3, 1);
        post.accept(0, 3333, 4, 1);
        Check.same("bagsNeeded", 3, post.bagsNeeded(0));
        Check.same("bagsAtLeast", 3, post.bagsAtLeast(0));
        post.pass(5);
        Check.same("loaded", "ttst", states(post));
        Check.same("bags", 2, post.bags(0));
        Check.same("the bag to hub 1", 1, post.bagVolume(0, 0));
        Check.same("the bag to hub 2", 6, post.bagVolume(0, 1));
        Check.same("no bag to hub 3", 1, post.missed(2));
    }

    private static void roomForTwelve() {
        for (int volume = 1; volume <= 9; volume++) {
            Routepost post = twoLines(1);
            post.accept(0, 2222, 9, 0);
            post.accept(0, 2222, volume, 1);
            int needed = volume <= 3 ? 1 : 2;
            Check.same("bagsNeeded", needed, post.bagsNeeded(0));
            Check.same("bagsAtLeast", needed, post.bagsAtLeast(0));
            post.pass(5);
            Check.same("9 and " + volume, volume <= 3 ? "tt" : "ts", states(post));
            Check.same("bagVolume", volume <= 3 ? 9 + volume : 9, post.bagVolume(0, 0));
        }
        Routepost post = twoLines(1);
        for (int i = 0; i < 13; i++) {
            post.accept(0, 2222, 1, 1);
            Check.same("bagsNeeded", i < 12 ? 1 : 2, post.bagsNeeded(0));
            Check.same("bagsAtLeast", i < 12 ? 1 : 2, post.bagsAtLeast(0));
        }
        post.pass(5);
        Check.same("12 of 13", "tttttttttttts", states(post));
        Check.same("bagVolume", 12, post.bagVolume(0, 0));
    }

    private static void firstBag() {
        Routepost post = twoLines(3);
        for (int volume : new int[] {7, 8, 4, 5, 4}) {
            post.accept(0, 2222, volume, 1);
        }
        // 7 4, 8 4, 5: not the bag that is fullest, not the one opened last.
        post.pass(5);
        Check.same("bags", 3, post.bags(0));
        Check.same("bag 0", 11, post.bagVolume(0, 0));
        Check.same("bag 1", 12, post.bagVolume(0, 1));
        Check.same("bag 2", 5, post.bagVolume(0, 2));
        Routepost other = twoLines(2);
        for (int volume : new int[] {7, 9, 3}) {
            other.accept(0, 2222, volume, 1);
        }
        other.pass(5);
        Check.same("bag 0", 10, other.bagVolume(0, 0));
        Check.same("bag 1", 9, other.bagVolume(0, 1));
    }

    private static void allowedBags() {
        for (int bags = 1; bags <= 4; bags++) {
            Routepost post = twoLines(bags);
            for (int i = 0; i < 6; i++) {
                post.accept(0, 2222, 4 + i, 1);
            }
            Check.same("bagsNeeded has no limit", 5, post.bagsNeeded(0));
            post.pass(5);
            Check.same("bags", bags, post.bags(0));
            // 4 5, 6, 7, 8, 9
            Check.same("loaded", "tttttt".substring(0, bags + 1) + "ssssss".substring(bags + 1), states(post));
            for (int bag = 0; bag < bags; bag++) {
                Check.same("bagVolume", bag == 0 ? 9 : 5 + bag, post.bagVolume(0, bag));
            }
            int more = bags;
            Check.refuses("a bag more", post, Check.INDEX, () -> post.bagVolume(0, more));
        }
    }

    private static void nextOneTried() {
        Routepost post = twoLines(1);
        for (int volume : new int[] {7, 9, 6, 3, 2, 1}) {
            post.accept(0, 2222, volume, 1);
        }
        post.pass(5);
        Check.same("loaded", "tsstts", states(post));
        int[] missed = {0, 1, 1, 0, 0, 1};
        for (int i = 0; i < 6; i++) {
            Check.same("missed", missed[i], post.missed(i));
        }
    }

    private static void emptyTruckStays() {
        Routepost post = twoLines(1);
        post.accept(0, 2222, 9, 1);
        post.pass(5);
        Check.same("bags", 1, post.bags(0));
        Check.same("bags of the other line", 0, post.bags(1));
        Check.refuses("none has left", post, Check.INDEX, () -> post.bagVolume(1, 0));
        post.pass(60);
        Check.same("nobody waits, so none leaves", 1, post.bags(0));
        post.pass(59);
        post.accept(0, 2222, 4, 1);
        post.accept(0, 2222, 4, 1);
        Check.same("the last truck still", 9, post.bagVolume(0, 0));
        post.pass(1);
        Check.same("the next truck", 8, post.bagVolume(0, 0));
        post.accept(0, 2222, 5, 1);
        Check.same("unloaded", 2, post.pass(5));
        Check.same("unloaded already, when it left", 8, post.bagVolume(0, 0));
    }

    private static void plannedAfterAll() {
        Routepost post = Posts.hubsWith(2, 1);
        // From the minute 5 on the lines 1 and 2 would be the same, but line 1 has its departure in this minute.
        post.addLine(0, 1, 5, 60, 5, 1);
        post.addLine(0, 1, 5, 60, 10, 4);
        post.addLine(0, 1, 6, 60, 50, 4);
        post.accept(0, 2222, 9, 1);
        post.accept(0, 2222, 9, 1);
        post.pass(5);
        Check.same("left behind", "ts", states(post));
        Check.same("nextLine", 2, post.nextLine(1));
        Check.same("missed once in a minute", 1, post.missed(1));
        Check.same("no truck of the line 1", 0, post.bags(1));
        post.pass(1);
        Check.same("rides", 2, post.rides(1));
    }

    /** The line 1 leaves in the same minute and is the best one afterwards: it takes the parcel only the next time. */
    private static void plannedForTheNextTime() {
        Routepost post = Posts.hubsWith(2, 1);
        post.addLine(0, 1, 5, 60, 5, 1);
        post.addLine(0, 1, 5, 5, 10, 4);
        post.accept(0, 2222, 9, 1);
        post.accept(0, 2222, 9, 1);
        Check.same("nextLine", 0, post.nextLine(1));
        post.pass(5);
        Check.same("left behind", "ts", states(post));
        Check.same("nextLine", 1, post.nextLine(1));
        Check.same("missed", 1, post.missed(1));
        Check.same("no truck of the line 1", 0, post.bags(1));
        Check.same("no event", 1, post.events(1));
        post.pass(4);
        Check.same("not yet", "ts", states(post));
        post.pass(1);
        Check.same("rides", 1, post.rides(1));
        Check.same("loaded in", 10, post.eventMinute(1, 1));
    }

    private static void bagsAtLeast() {
        for (int to = 0; to < 6; to++) {
            int from = (to + 1) % 6;
            Routepost post = Posts.hubsWith(6, 1);
            post.addLine(from, to, 5, 60, 5, 1);
            Check.same("nobody waits", 0, post.bagsAtLeast(0));
            for (int volume = 1; volume <= 40; volume++) {
                post.accept(from, Posts.addressOf(to), 1, 1);
                int want = volume <= 12 ? 1 : volume <= 24 ? 2 : volume <= 36 ? 3 : 4;
                Check.same("volume " + volume, want, post.bagsAtLeast(0));
            }
        }
        Routepost post = Posts.hubsWith(6, 1);
        post.addLine(5, 4, 5, 60, 5, 1);
        for (int hub = 4; hub > 0; hub--) {
            post.addLine(hub, hub - 1, 5, 60, 5, 1);
        }
        for (int hub = 0; hub < 5; hub++) {
            post.accept(5, Posts.addressOf(hub), 9, 1);
            Check.same("each destination by itself", hub + 1, post.bagsAtLeast(0));
            post.accept(5, Posts.addressOf(hub), 3, 1);
            Check.same("each destination by itself", hub + 1, post.bagsAtLeast(0));
        }
        Check.same("bagsNeeded", 5, post.bagsNeeded(0));
    }

    private static void bagsNeeded() {
        for (int small = 0; small <= 2; small += 2) {
            Routepost post = twoLines(1);
            post.accept(0, 2222, 8, 1);
            post.accept(0, 2222, 8, 1);
            post.accept(0, 2222, 4, small);
            post.accept(0, 2222, 4, small);
            Check.same("bagsAtLeast", 2, post.bagsAtLeast(0));
            Check.same("the small ones first or last", small == 0 ? 3 : 2, post.bagsNeeded(0));
        }
        Routepost post = twoLines(1);
        Check.same("nobody waits", 0, post.bagsNeeded(0));
        for (int i = 1; i <= 40; i++) {
            post.accept(0, 2222, 9, 1);
            Check.same("no limit on bags", i, post.bagsNeeded(0));
        }
        Check.same("bagsAtLeast", 30, post.bagsAtLeast(0));
    }

    private static void fullTruck() {
        Routepost post = twoLines(4);
        for (int i = 0; i < 40; i++) {
            post.accept(0, 2222, 1, 1);
        }
        post.pass(5);
        Check.same("riding", 40, post.riding(0));
        Check.same("bags", 4, post.bags(0));
        Check.same("a full bag", 12, post.bagVolume(0, 2));
        Check.same("the rest", 4, post.bagVolume(0, 3));
        Check.same("unloaded", 40, post.pass(5));
        Check.same("riding", 0, post.riding(0));
    }

    private static void bagsOfTwelveLines() {
        Routepost post = Posts.hubsWith(6, 1);
        int[][] ends = new int[12][];
        for (int line = 0; line < 12; line++) {
            int from = line % 6;
            int to = (from + (line < 6 ? 1 : 2)) % 6;
            ends[line] = new int[] {from, to};
            post.addLine(from, to, 5, 60, 60, 1);
        }
        for (int line = 0; line < 12; line++) {
            post.accept(ends[line][0], Posts.addressOf(ends[line][1]), 1 + line % 9, 1);
        }
        for (int line = 0; line < 12; line++) {
            Check.same("waiting", 1, post.waiting(line));
            Check.same("waitingAt", line, post.waitingAt(line, 0));
        }
        post.pass(5);
        for (int line = 0; line < 12; line++) {
            Check.same("riding", 1, post.riding(line));
            Check.same("rides", line, post.rides(line));
            Check.same("bags", 1, post.bags(line));
            Check.same("bagVolume", 1 + line % 9, post.bagVolume(line, 0));
        }
    }
}
