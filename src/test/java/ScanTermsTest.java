/** "Scans and misroutes", sentence by sentence. */
final class ScanTermsTest {
    private ScanTermsTest() {
    }

    static void run() {
        Check.test("known to be there in the state 'u'", ScanTermsTest::knownUnscanned);
        Check.test("known to be there in the state 's', nothing changes", ScanTermsTest::knownScanned);
        Check.test("it is taken from its truck", ScanTermsTest::takenFromTruck);
        Check.test("it is taken from its hub", ScanTermsTest::takenFromHub);
        Check.test("scanned in this minute", ScanTermsTest::scannedInThisMinute);
        Check.test("with its third misroute it is held there instead", ScanTermsTest::thirdMisroute);
        Check.test("without being scanned", ScanTermsTest::heldWithoutScan);
        Check.test("Misroutes are counted from the acceptance on", ScanTermsTest::countedThroughReturn);
        Check.test("counted from the acceptance on, also over other scans", ScanTermsTest::countedOverOtherScans);
        Check.test("other scans are no misroutes", ScanTermsTest::otherScansDontCount);
        Check.test("A truck from which parcels were taken arrives all the same", ScanTermsTest::truckArrives);
        Check.test("taken from one truck and loaded into the next one", ScanTermsTest::nextTruck);
        Check.test("delivered or held", ScanTermsTest::refused);
        Check.test("at the first and the last hub", ScanTermsTest::hubNumbers);
    }

    /** Line 0 leads from hub 0 to hub 1 in 10, 20 .. and takes 15; the cutoffs are 5. */
    private static Routepost oneLine(int parcels) {
        Routepost post = Posts.hubsWith(3, 5);
        post.addLine(0, 1, 10, 10, 15, 4);
        for (int i = 0; i < parcels; i++) {
            post.accept(0, 2222, 1, 1);
        }
        return post;
    }

    private static void knownUnscanned() {
        Routepost post = oneLine(1);
        post.pass(30);
        Check.same("state", 'u', post.state(0));
        Check.same("scan", 'o', post.scan(0, 1));
        Check.same("state", 's', post.state(0));
        Check.same("at", 1, post.at(0));
        Check.same("misroutes", 0, post.misroutes(0));
        Check.same("event", 's', post.eventKind(0, 3));
        Check.same("in this minute", 30, post.eventMinute(0, 3));
        post.addLine(1, 0, 35, 60, 1, 1);
        post.recall(0);
        Check.same("arrival", 36, post.arrival(0));
        Check.same("once more", 'a', post.scan(0, 1));
    }

    private static void knownScanned() {
        Routepost post = oneLine(1);
        for (int minute = 1; minute <= 9; minute++) {
            post.pass(1);
            String before = Answers.of(post);
            Check.same("scan", 'a', post.scan(0, 0));
            Check.same("all answers", before, Answers.of(post));
        }
        post.pass(1);
        Check.same("scanned long enough ago, in the minute 0", 't', post.state(0));
    }

    private static void takenFromTruck() {
        for (int hub = 0; hub < 3; hub++) {
            Routepost post = oneLine(2);
            post.pass(24);
            Check.same("riding", 2, post.riding(0));
            Check.same("no hub is the known one", 'm', post.scan(0, hub));
            Check.same("state", 's', post.state(0));
            Check.same("at", hub, post.at(0));
            Check.same("riding", 1, post.riding(0));
            Check.refuses("rides", post, Check.STATE, () -> post.rides(0));
            Check.same("the other one rides on", 0, post.rides(1));
            Check.same("events", 3, post.events(0));
            Check.same("event", 'm', post.eventKind(0, 2));
            Check.same("hub of the event", hub, post.eventHub(0, 2));
        }
    }

    private static void takenFromHub() {
        Routepost post = oneLine(1);
        Check.same("from the state 's'", 'm', post.scan(0, 2));
        Check.same("at", 2, post.at(0));
        Check.same("waiting", 0, post.waiting(0));
        Check.same("back", 'm', post.scan(0, 0));
        Check.same("waiting", 1, post.waiting(0));
        Routepost other = oneLine(1);
        other.pass(25);
        Check.same("from the state 'u'", 'm', other.scan(0, 0));
        Check.same("at", 0, other.at(0));
        Check.same("state", 's', other.state(0));
    }

    private static void scannedInThisMinute() {
        int[][] due = {{5, 25}, {6, 35}, {10, 35}, {15, 35}, {16, 45}};
        for (int[] row : due) {
            Routepost post = Posts.hubsWith(3, 5);
            post.addLine(0, 1, 10, 10, 15, 4);
            post.accept(2, 2222, 1, 1);
            Posts.passTo(post, row[0]);
            Check.same("scan", 'm', post.scan(0, 0));
            Check.same("arrival, scanned in " + row[0], row[1], post.arrival(0));
            Check.same("nextLine", 0, post.nextLine(0));
        }
    }

    private static void thirdMisroute() {
        for (char state : new char[] {'s', 'u', 't'}) {
            Routepost post = oneLine(1);
            Check.same("first", 'm', post.scan(0, 2));
            Check.same("state", 's', post.state(0));
            Check.same("second", 'm', post.scan(0, 0));
            Check.same("state", 's', post.state(0));
            post.pass(state == 's' ? 9 : state == 't' ? 24 : 25);
            Check.same("state", state, post.state(0));
            Check.same("third", 'h', post.scan(0, 2));
            Check.same("state", 'h', post.state(0));
            Check.same("at", 2, post.at(0));
            Check.same("misroutes", 3, post.misroutes(0));
            Check.same("waiting", 0, post.waiting(0));
            Check.same("riding", 0, post.riding(0));
            int events = post.events(0);
            Check.same("the misroute comes first", 'm', post.eventKind(0, events - 2));
            Check.same("then it is held", 'h', post.eventKind(0, events - 1));
            Check.same("hub", 2, post.eventHub(0, events - 2));
            Check.same("hub", 2, post.eventHub(0, events - 1));
            Check.same("for good", 0, post.pass(120));
            Check.same("state", 'h', post.state(0));
        }
    }

    private static void heldWithoutScan() {
        Routepost post = oneLine(1);
        Check.same("promise", 25, post.promise(0));
        post.scan(0, 2);
        post.scan(0, 0);
        Check.same("scan", 'h', post.scan(0, 1));
        Check.same("no event of a scan", 5, post.events(0));
        Check.refuses("no plan", post, Check.STATE, () -> post.nextLine(0));
        Check.refuses("no delivery", post, Check.STATE, () -> post.deliver(0, true));
        post.pass(26);
        Check.same("its destination isn't reached", true, post.isLate(0));
    }

    private static void countedThroughReturn() {
        Routepost post = oneLine(1);
        post.scan(0, 1);
        post.recall(0);
        Check.same("recalled", 1, post.misroutes(0));
        Check.same("second", 'm', post.scan(0, 2));
        Check.same("third", 'h', post.scan(0, 0));
        Routepost other = Posts.hubsWith(3, 5);
        other.accept(0, 2222, 1, 2);
        other.scan(0, 2);
        other.scan(0, 1);
        Check.same("failed", 'r', other.deliver(0, false));
        Check.same("misroutes", 2, other.misroutes(0));
        Check.same("third", 'h', other.scan(0, 0));
    }

    private static void countedOverOtherScans() {
        Routepost post = oneLine(1);
        post.scan(0, 2);
        post.scan(0, 0);
        Check.same("scan", 'a', post.scan(0, 0));
        Check.same("misroutes", 2, post.misroutes(0));
        post.pass(25);
        Check.same("ridden", 2, post.misroutes(0));
        Check.same("scan", 'o', post.scan(0, 1));
        Check.same("scanned at its destination", 2, post.misroutes(0));
        Check.same("deliver", 'w', post.deliver(0, false));
        Check.same("not taken", 2, post.misroutes(0));
        Check.same("third", 'h', post.scan(0, 0));
        Check.same("attempts, of a parcel that wasn't turned back", 1, post.attempts(0));
    }

    private static void otherScansDontCount() {
        Routepost post = oneLine(1);
        for (int i = 0; i < 5; i++) {
            Check.same("scan", 'a', post.scan(0, 0));
        }
        post.pass(25);
        Check.same("scan", 'o', post.scan(0, 1));
        for (int i = 0; i < 5; i++) {
            Check.same("scan", 'a', post.scan(0, 1));
        }
        Check.same("misroutes", 0, post.misroutes(0));
        Check.same("events", 4, post.events(0));
    }

    private static void truckArrives() {
        for (int taken = 0; taken <= 3; taken++) {
            Routepost post = oneLine(3);
            post.pass(20);
            for (int i = 0; i < taken; i++) {
                post.scan(i, 2);
            }
            Check.same("riding", 3 - taken, post.riding(0));
            Check.same("before it is due", 0, post.pass(4));
            Check.same("when it is due", 3 - taken, post.pass(1));
            for (int i = 0; i < 3; i++) {
                Check.same("at", i < taken ? 2 : 1, post.at(i));
                Check.same("state", i < taken ? 's' : 'u', post.state(i));
            }
            Check.same("the bags as it left", 3, post.bagVolume(0, 0));
        }
    }

    private static void nextTruck() {
        Routepost post = oneLine(2);
        post.pass(11);
        Check.same("back at its first hub", 'm', post.scan(0, 0));
        post.pass(9);
        Check.same("loaded again", 't', post.state(0));
        Check.same("two trucks on the way", 2, post.riding(0));
        Check.same("the first truck", 1, post.pass(5));
        Check.same("not with the first truck", 't', post.state(0));
        Check.same("with the first truck", 'u', post.state(1));
        Check.same("before the second truck", 0, post.pass(9));
        Check.same("the second truck", 1, post.pass(1));
        Check.same("state", 'u', post.state(0));
    }

    private static void refused() {
        Routepost post = Posts.allStates();
        for (int hub = 0; hub < 3; hub++) {
            int there = hub;
            Check.refuses("delivered, at hub " + hub, post, Check.STATE, () -> post.scan(2, there));
            Check.refuses("held, at hub " + hub, post, Check.STATE, () -> post.scan(3, there));
        }
    }

    private static void hubNumbers() {
        for (int count = 1; count <= 6; count++) {
            Routepost post = Posts.hubsWith(count, 5);
            post.accept(0, 1111, 1, 1);
            for (int hub : new int[] {-1, count, Integer.MIN_VALUE, Integer.MAX_VALUE}) {
                Check.refuses("scan at hub " + hub, post, Check.NO_SUCH, () -> post.scan(0, hub));
            }
            Check.same("scan", 'a', post.scan(0, 0));
            Check.same("scan", count == 1 ? 'a' : 'm', post.scan(0, count - 1));
            Check.same("at", count - 1, post.at(0));
        }
    }
}
