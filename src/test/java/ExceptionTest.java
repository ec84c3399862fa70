/** "Exceptions": each exception of each method by itself, and each two that can apply at once. */
final class ExceptionTest {
    private ExceptionTest() {
    }

    static void run() {
        Check.test("promise 2, exceptions", ExceptionTest::openHub);
        Check.test("promise 3, exceptions", ExceptionTest::addLine);
        Check.test("promise 3, two exceptions at once", ExceptionTest::addLineTwice);
        Check.test("promise 4, exceptions", ExceptionTest::closeLine);
        Check.test("promise 5, exceptions", ExceptionTest::accept);
        Check.test("promise 5, two exceptions at once", ExceptionTest::acceptTwice);
        Check.test("promise 6, exceptions", ExceptionTest::scan);
        Check.test("promise 7, exceptions", ExceptionTest::deliver);
        Check.test("promise 8, exceptions", ExceptionTest::recall);
        Check.test("promise 9, exceptions", ExceptionTest::pass);
        Check.test("promises 14 and 15, exceptions", ExceptionTest::hubOf);
        Check.test("promise 16, exceptions", ExceptionTest::nextDeparture);
        Check.test("promises 18 and 19, exceptions", ExceptionTest::atAndRides);
        Check.test("promises 27 to 33, exceptions", ExceptionTest::plans);
        Check.test("promise 30, two exceptions at once", ExceptionTest::pathAt);
        Check.test("promises 35 and 39, exceptions", ExceptionTest::ranksAndBags);
        Check.test("promises 42 to 44, exceptions", ExceptionTest::eventsOfParcels);
        Check.test("promises 46 and 47, exceptions", ExceptionTest::figures);
    }

    private static void openHub() {
        Routepost post = Posts.allStates();
        Check.refuses("no code", post, Check.ARGUMENT, () -> post.openHub(40, 5));
        Check.refuses("no cutoff", post, Check.ARGUMENT, () -> post.openHub(4, 21));
        Check.refuses("neither", post, Check.ARGUMENT, () -> post.openHub(40, 21));
        Check.refuses("a taken code", post, Check.STATE, () -> post.openHub(3, 5));
        Check.refuses("no cutoff and a taken code", post, Check.ARGUMENT, () -> post.openHub(3, 0));
        Routepost full = Posts.allStatesAndFull();
        Check.refuses("6 hubs", full, Check.STATE, () -> full.openHub(7, 5));
        Check.refuses("6 hubs and a taken code", full, Check.STATE, () -> full.openHub(6, 5));
        Check.refuses("no code and 6 hubs", full, Check.ARGUMENT, () -> full.openHub(70, 5));
        Check.refuses("no cutoff and 6 hubs", full, Check.ARGUMENT, () -> full.openHub(7, 0));
        Check.refuses("no cutoff, a taken code and 6 hubs", full, Check.ARGUMENT, () -> full.openHub(6, 21));
    }

    private static void addLine() {
        Routepost post = Posts.allStates();
        Check.refuses("no such hub to begin", post, Check.NO_SUCH, () -> post.addLine(3, 0, 0, 5, 1, 1));
        Check.refuses("no such hub to end", post, Check.NO_SUCH, () -> post.addLine(0, 3, 0, 5, 1, 1));
        Check.refuses("no such hubs", post, Check.NO_SUCH, () -> post.addLine(3, -1, 0, 5, 1, 1));
        int[][] wrong = {{0, 0, 0, 5, 1, 1}, {0, 1, -1, 5, 1, 1}, {0, 1, 60, 5, 1, 1}, {0, 1, 0, 4, 1, 1},
            {0, 1, 0, 61, 1, 1}, {0, 1, 0, 5, 0, 1}, {0, 1, 0, 5, 61, 1}, {0, 1, 0, 5, 1, 0}, {0, 1, 0, 5, 1, 5}};
        for (int[] row : wrong) {
            Check.refuses("a wrong number", post, Check.ARGUMENT, () -> add(post, row));
        }
        Routepost full = Posts.allStatesAndFull();
        Check.refuses("12 lines", full, Check.STATE, () -> full.addLine(0, 1, 0, 5, 1, 1));
        for (int[] row : wrong) {
            Check.refuses("a wrong number and 12 lines", full, Check.ARGUMENT, () -> add(full, row));
        }
    }

    private static void add(Routepost post, int... row) {
        post.addLine(row[0], row[1], row[2], row[3], row[4], row[5]);
    }

    private static void addLineTwice() {
        int[][] wrong = {{-1, 5, 1, 1}, {60, 5, 1, 1}, {0, 4, 1, 1}, {0, 61, 1, 1}, {0, 5, 0, 1}, {0, 5, 61, 1},
            {0, 5, 1, 0}, {0, 5, 1, 5}, {-1, 4, 0, 0}, {0, 5, 1, 1}};
        for (Routepost post : new Routepost[] {Posts.allStates(), Posts.allStatesAndFull()}) {
            int no = post.hubs();
            for (int[] row : wrong) {
                Check.refuses("begins nowhere", post, Check.NO_SUCH,
                        () -> add(post, no, 0, row[0], row[1], row[2], row[3]));
                Check.refuses("ends nowhere", post, Check.NO_SUCH,
                        () -> add(post, 0, no, row[0], row[1], row[2], row[3]));
                Check.refuses("from nowhere to itself", post, Check.NO_SUCH,
                        () -> add(post, no, no, row[0], row[1], row[2], row[3]));
            }
        }
    }

    private static void closeLine() {
        Routepost post = Posts.allStates();
        Check.refuses("line -1", post, Check.NO_SUCH, () -> post.closeLine(-1));
        Check.refuses("line 3", post, Check.NO_SUCH, () -> post.closeLine(3));
        Check.refuses("a closed line", post, Check.STATE, () -> post.closeLine(2));
        post.closeLine(1);
        Check.refuses("a line closed with a truck on the way", post, Check.STATE, () -> post.closeLine(1));
        Check.same("it arrives, and parcel 5 with line 0", 2, post.pass(25));
    }

    private static void accept() {
        Routepost post = Posts.allStates();
        Check.refuses("hub -1", post, Check.NO_SUCH, () -> post.accept(-1, 1111, 1, 1));
        Check.refuses("hub 3", post, Check.NO_SUCH, () -> post.accept(3, 1111, 1, 1));
        Check.refuses("no address", post, Check.ARGUMENT, () -> post.accept(0, 1110, 1, 1));
        Check.refuses("volume 0", post, Check.ARGUMENT, () -> post.accept(0, 1111, 0, 1));
        Check.refuses("volume 10", post, Check.ARGUMENT, () -> post.accept(0, 1111, 10, 1));
        Check.refuses("service -1", post, Check.ARGUMENT, () -> post.accept(0, 1111, 1, -1));
        Check.refuses("service 3", post, Check.ARGUMENT, () -> post.accept(0, 1111, 1, 3));
        Check.refuses("the address has no hub", post, Check.STATE, () -> post.accept(0, 4111, 1, 1));
        Routepost full = Posts.allStatesAndFull();
        Check.refuses("40 parcels", full, Check.STATE, () -> full.accept(0, 1111, 1, 1));
        Check.refuses("40 parcels and no hub", full, Check.STATE, () -> full.accept(0, 7111, 1, 1));
    }

    private static void acceptTwice() {
        int[][] wrong = {{1110, 1, 1}, {111, 1, 1}, {1111, 0, 1}, {1111, 10, 1}, {1111, 1, -1}, {1111, 1, 3},
            {9999, 0, 1}, {9999, 10, 1}, {9999, 1, -1}, {9999, 1, 3}, {0, 0, 3}};
        for (Routepost post : new Routepost[] {Posts.allStates(), Posts.allStatesAndFull()}) {
            int no = post.hubs();
            for (int[] row : wrong) {
                Check.refuses("a wrong number, with no hub for it or 40 parcels", post, Check.ARGUMENT,
                        () -> post.accept(0, row[0], row[1], row[2]));
                Check.refuses("nowhere, and a wrong number", post, Check.NO_SUCH,
                        () -> post.accept(no, row[0], row[1], row[2]));
            }
            Check.refuses("nowhere, and no hub for it", post, Check.NO_SUCH, () -> post.accept(no, 9999, 1, 1));
            Check.refuses("nowhere, or 40 parcels", post, Check.NO_SUCH, () -> post.accept(-1, 1111, 1, 1));
        }
    }

    private static void scan() {
        Routepost post = Posts.allStates();
        for (int parcel : new int[] {-1, 8}) {
            Check.refuses("no such parcel", post, Check.NO_SUCH, () -> post.scan(parcel, 0));
            Check.refuses("no such parcel and no such hub", post, Check.NO_SUCH, () -> post.scan(parcel, 3));
        }
        for (int parcel = 0; parcel < 8; parcel++) {
            int it = parcel;
            Check.refuses("no such hub, also of those at the end", post, Check.NO_SUCH, () -> post.scan(it, -1));
            Check.refuses("no such hub, also of those at the end", post, Check.NO_SUCH, () -> post.scan(it, 3));
        }
        Check.refuses("delivered", post, Check.STATE, () -> post.scan(2, 0));
        Check.refuses("held", post, Check.STATE, () -> post.scan(3, 0));
    }

    private static void deliver() {
        Routepost post = Posts.allStates();
        for (boolean isTaken : new boolean[] {true, false}) {
            Check.refuses("parcel -1", post, Check.NO_SUCH, () -> post.deliver(-1, isTaken));
            Check.refuses("parcel 8", post, Check.NO_SUCH, () -> post.deliver(8, isTaken));
            for (int parcel : new int[] {0, 1, 2, 3, 5, 7}) {
                Check.refuses("not scanned at its destination", post, Check.STATE,
                        () -> post.deliver(parcel, isTaken));
            }
        }
    }

    private static void recall() {
        Routepost post = Posts.allStates();
        Check.refuses("parcel -1", post, Check.NO_SUCH, () -> post.recall(-1));
        Check.refuses("parcel 8", post, Check.NO_SUCH, () -> post.recall(8));
        for (int parcel : new int[] {0, 1, 2, 3, 6, 7}) {
            Check.refuses("a return, or not scanned", post, Check.STATE, () -> post.recall(parcel));
        }
    }

    private static void pass() {
        Routepost post = Posts.allStates();
        for (int minutes : new int[] {0, 121, -1, -120, Integer.MIN_VALUE, Integer.MAX_VALUE}) {
            Check.refuses("pass(" + minutes + ")", post, Check.ARGUMENT, () -> post.pass(minutes));
        }
        for (int minutes = 1; minutes <= 120; minutes++) {
            Routepost taken = new Routepost();
            Check.same("pass(" + minutes + ")", 0, taken.pass(minutes));
            Check.same("minute", minutes, taken.minute());
        }
    }

    private static void hubOf() {
        for (Routepost post : new Routepost[] {new Routepost(), Posts.allStatesAndFull()}) {
            for (int address : new int[] {999, 1110, 1101, 1011, 10000, 11111, -1111, 0}) {
                Check.refuses("hubOf", post, Check.ARGUMENT, () -> post.hubOf(address));
                Check.refuses("hubByTrying", post, Check.ARGUMENT, () -> post.hubByTrying(address));
            }
        }
    }

    private static void nextDeparture() {
        Routepost post = Posts.allStates();
        Check.refuses("line -1", post, Check.NO_SUCH, () -> post.nextDeparture(-1));
        Check.refuses("line 3", post, Check.NO_SUCH, () -> post.nextDeparture(3));
        Check.refuses("a closed line", post, Check.STATE, () -> post.nextDeparture(2));
    }

    private static void atAndRides() {
        Routepost post = Posts.allStates();
        Check.refuses("at, of one on a truck", post, Check.STATE, () -> post.at(1));
        int[] hubs = {1, -1, 0, 0, 0, 0, 2, 2};
        for (int parcel : new int[] {0, 2, 3, 4, 5, 6, 7}) {
            Check.refuses("rides, of one on no truck", post, Check.STATE, () -> post.rides(parcel));
            Check.same("at(" + parcel + ")", hubs[parcel], post.at(parcel));
        }
        Check.same("rides", 1, post.rides(1));
        for (int parcel : new int[] {-1, 8}) {
            Check.refuses("at", post, Check.NO_SUCH, () -> post.at(parcel));
            Check.refuses("rides", post, Check.NO_SUCH, () -> post.rides(parcel));
        }
    }

    private static void plans() {
        Routepost post = Posts.allStates();
        for (int parcel = -1; parcel <= 8; parcel++) {
            int it = parcel;
            Class<?> kind = parcel < 0 || parcel == 8 ? Check.NO_SUCH : Check.STATE;
            if (kind == Check.STATE && post.state(parcel) == 's') {
                continue;
            }
            Check.refuses("nextLine", post, kind, () -> post.nextLine(it));
            Check.refuses("nextLineByPaths", post, kind, () -> post.nextLineByPaths(it));
            Check.refuses("pathSize", post, kind, () -> post.pathSize(it));
            Check.refuses("pathAt", post, kind, () -> post.pathAt(it, 0));
            Check.refuses("arrival", post, kind, () -> post.arrival(it));
            Check.refuses("arrivalByPaths", post, kind, () -> post.arrivalByPaths(it));
            Check.refuses("arrivalBySimulation", post, kind, () -> post.arrivalBySimulation(it));
        }
    }

    private static void pathAt() {
        Routepost post = Posts.allStates();
        for (int index : new int[] {Integer.MIN_VALUE, -1, 0, 1, 5, Integer.MAX_VALUE}) {
            for (int parcel : new int[] {-1, 8}) {
                Check.refuses("no such parcel, no such index", post, Check.NO_SUCH,
                        () -> post.pathAt(parcel, index));
            }
            for (int parcel : new int[] {0, 1, 2, 3}) {
                Check.refuses("not scanned, no such index", post, Check.STATE, () -> post.pathAt(parcel, index));
            }
            for (int parcel : new int[] {4, 6, 7}) {
                Check.refuses("no lines or no path", post, Check.INDEX, () -> post.pathAt(parcel, index));
            }
        }
        Check.same("pathAt", 0, post.pathAt(5, 0));
        Check.refuses("one too far", post, Check.INDEX, () -> post.pathAt(5, 1));
        Check.refuses("one too near", post, Check.INDEX, () -> post.pathAt(5, -1));
    }

    private static void ranksAndBags() {
        Routepost post = Posts.allStates();
        for (int index : new int[] {Integer.MIN_VALUE, -1, 0, 1, Integer.MAX_VALUE}) {
            for (int line : new int[] {-1, 3}) {
                Check.refuses("no such line, no such rank", post, Check.NO_SUCH,
                        () -> post.waitingAt(line, index));
                Check.refuses("no such line, no such bag", post, Check.NO_SUCH,
                        () -> post.bagVolume(line, index));
            }
            Check.refuses("nobody waits", post, Check.INDEX, () -> post.waitingAt(2, index));
            Check.refuses("none has left", post, Check.INDEX, () -> post.bagVolume(2, index));
            if (index != 0) {
                Check.refuses("one waits", post, Check.INDEX, () -> post.waitingAt(0, index));
                Check.refuses("one bag", post, Check.INDEX, () -> post.bagVolume(0, index));
            }
        }
        Check.same("waitingAt", 5, post.waitingAt(0, 0));
        Check.same("bagVolume", 1, post.bagVolume(0, 0));
    }

    private static void eventsOfParcels() {
        Routepost post = Posts.allStates();
        for (int parcel = -1; parcel <= 8; parcel++) {
            int it = parcel;
            boolean isThere = parcel >= 0 && parcel < 8;
            Class<?> kind = isThere ? Check.INDEX : Check.NO_SUCH;
            int count = isThere ? post.events(parcel) : 0;
            for (int index : new int[] {Integer.MIN_VALUE, -1, count, count + 1, Integer.MAX_VALUE}) {
                Check.refuses("eventKind", post, kind, () -> post.eventKind(it, index));
                Check.refuses("eventMinute", post, kind, () -> post.eventMinute(it, index));
                Check.refuses("eventHub", post, kind, () -> post.eventHub(it, index));
            }
        }
    }

    private static void figures() {
        Routepost post = Posts.hubsWith(2, 1);
        Check.refuses("no parcels", post, Check.ARITHMETIC, post::lateShare);
        Check.refuses("no parcels", post, Check.ARITHMETIC, post::meanTime);
        post.accept(0, 1111, 1, 2);
        Check.same("none is late", 0.0, post.lateShare());
        Check.refuses("none delivered", post, Check.ARITHMETIC, post::meanTime);
        post.deliver(0, false);
        post.deliver(0, false);
        Check.refuses("held, not delivered", post, Check.ARITHMETIC, post::meanTime);
        post.accept(0, 1111, 1, 2);
        post.deliver(1, true);
        Check.same("delivered at once", 0.0, post.meanTime());
    }
}
