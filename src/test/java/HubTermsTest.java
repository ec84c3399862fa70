/** "Hubs and addresses", sentence by sentence: what is taken, and what is refused next to it. */
final class HubTermsTest {
    private static final int[] EXTREMES = {Integer.MIN_VALUE, Integer.MIN_VALUE + 1, -65535, 65537, 1 << 24,
        Integer.MAX_VALUE};

    private HubTermsTest() {
    }

    static void run() {
        Check.test("no hubs yet", HubTermsTest::noHubsYet);
        Check.test("At most 6 hubs have the numbers 0 to n - 1", HubTermsTest::atMostSixHubs);
        Check.test("A hub has a code of 1 to 3 digits, none of which is 0", HubTermsTest::codes);
        Check.test("no two hubs have the same code", HubTermsTest::noTwoWithTheSameCode);
        Check.test("a cutoff from 1 to 20", HubTermsTest::cutoffs);
        Check.test("a hub keeps its cutoff", HubTermsTest::cutoffsOfSeveralHubs);
        Check.test("An address has 4 digits, none of which is 0", HubTermsTest::addresses);
        Check.test("the hubs whose code is a prefix of the address", HubTermsTest::prefixes);
        Check.test("the one with the longest code", HubTermsTest::longestCode);
        Check.test("There may be none", HubTermsTest::none);
    }

    private static void hubIs(Routepost post, int address, int want) {
        Check.same("hubOf(" + address + ")", want, post.hubOf(address));
        Check.same("hubByTrying(" + address + ")", want, post.hubByTrying(address));
    }

    private static void noHubsYet() {
        Routepost post = new Routepost();
        Check.same("hubs", 0, post.hubs());
        hubIs(post, 1111, -1);
        hubIs(post, 9999, -1);
        Check.refuses("a line from nowhere", post, Check.NO_SUCH, () -> post.addLine(0, 0, 0, 5, 1, 1));
        Check.refuses("a parcel nowhere", post, Check.NO_SUCH, () -> post.accept(0, 1111, 1, 1));
    }

    private static void atMostSixHubs() {
        Routepost post = new Routepost();
        for (int i = 0; i < 6; i++) {
            Check.same("hubs", i, post.hubs());
            Check.same("openHub", i, post.openHub(9 - i, 5));
        }
        Check.refuses("a 7th hub", post, Check.STATE, () -> post.openHub(1, 5));
        Check.same("hubs", 6, post.hubs());
        for (int i = 0; i < 6; i++) {
            hubIs(post, 1111 * (9 - i), i);
        }
        hubIs(post, 1111, -1);
    }

    private static void codes() {
        for (int code = -1200; code <= 12000; code++) {
            oneCode(code);
        }
        for (int code : EXTREMES) {
            oneCode(code);
        }
    }

    private static void oneCode(int code) {
        boolean isCode = String.valueOf(code).matches("[1-9]{1,3}");
        String want = isCode ? "0" : Check.ARGUMENT.getName();
        Check.same("openHub(" + code + ")", want, Check.outcome(() -> new Routepost().openHub(code, 5)));
    }

    private static void noTwoWithTheSameCode() {
        int[] codes = {1, 9, 11, 99, 111, 999};
        Routepost post = new Routepost();
        for (int i = 0; i < codes.length; i++) {
            post.openHub(codes[i], 5);
            for (int k = 0; k <= i; k++) {
                int code = codes[k];
                Check.refuses("code " + code + " again", post, Check.STATE, () -> post.openHub(code, 6));
            }
        }
    }

    private static void cutoffs() {
        for (int cutoff : new int[] {0, 21, -1, -20, 257, 65537, Integer.MIN_VALUE, Integer.MAX_VALUE}) {
            Routepost post = new Routepost();
            Check.refuses("cutoff " + cutoff, post, Check.ARGUMENT, () -> post.openHub(1, cutoff));
        }
        for (int cutoff = 1; cutoff <= 20; cutoff++) {
            Routepost post = Posts.hubsWith(2, cutoff);
            post.addLine(0, 1, cutoff, 60, 1, 1);
            post.accept(0, 2222, 1, 1);
            Check.same("promise with cutoff " + cutoff, cutoff + 1, post.promise(0));
        }
    }

    private static void cutoffsOfSeveralHubs() {
        Routepost post = new Routepost();
        int[] cutoffs = {20, 1, 13, 7, 2, 19};
        for (int i = 0; i < 6; i++) {
            post.openHub(i + 1, cutoffs[i]);
        }
        for (int i = 0; i < 6; i++) {
            int to = (i + 1) % 6;
            // Of two lines, the one that leaves a minute before the cutoff comes too late for the parcel.
            post.addLine(i, to, cutoffs[i] - 1, 60, 1, 1);
            post.addLine(i, to, cutoffs[i], 60, 1, 1);
        }
        for (int i = 0; i < 6; i++) {
            post.accept(i, Posts.addressOf((i + 1) % 6), 1, 1);
            Check.same("promise from hub " + i, cutoffs[i] + 1, post.promise(i));
            Check.same("nextLine from hub " + i, 2 * i + 1, post.nextLine(i));
        }
    }

    private static void addresses() {
        Routepost post = Posts.hubsWith(1, 5);
        for (int i = 0; i < 40; i++) {
            post.accept(0, 1111, 1, 1);
        }
        for (int address = -1200; address <= 12000; address++) {
            oneAddress(post, address);
        }
        for (int address : EXTREMES) {
            oneAddress(post, address);
        }
        Check.same("parcels", 40, post.parcels());
    }

    private static void oneAddress(Routepost full, int address) {
        boolean isAddress = String.valueOf(address).matches("[1-9]{4}");
        String hub = String.valueOf(address).startsWith("1") ? "0" : "-1";
        String want = isAddress ? hub : Check.ARGUMENT.getName();
        Check.same("hubOf(" + address + ")", want, Check.outcome(() -> full.hubOf(address)));
        Check.same("hubByTrying(" + address + ")", want, Check.outcome(() -> full.hubByTrying(address)));
        // No parcel is taken any more, so a good address is refused in another way than a wrong one.
        String refused = isAddress ? Check.STATE.getName() : Check.ARGUMENT.getName();
        Check.same("accept to " + address, refused, Check.outcome(() -> full.accept(0, address, 1, 1)));
    }

    private static void prefixes() {
        Routepost post = new Routepost();
        post.openHub(34, 5);
        post.openHub(5, 5);
        post.openHub(345, 5);
        hubIs(post, 3411, 0);
        hubIs(post, 3499, 0);
        hubIs(post, 3451, 2);
        hubIs(post, 3459, 2);
        hubIs(post, 5134, 1);
        hubIs(post, 5345, 1);
        hubIs(post, 1345, -1);
        hubIs(post, 1234, -1);
        hubIs(post, 3345, -1);
        hubIs(post, 4345, -1);
        hubIs(post, 3544, -1);
    }

    private static void longestCode() {
        int[][] orders = {{2, 21, 213}, {2, 213, 21}, {21, 2, 213}, {21, 213, 2}, {213, 2, 21}, {213, 21, 2}};
        for (int[] order : orders) {
            Routepost post = new Routepost();
            int[] numbers = new int[4];
            for (int code : order) {
                numbers[String.valueOf(code).length()] = post.openHub(code, 5);
            }
            for (int last = 1; last <= 9; last++) {
                hubIs(post, 2130 + last, numbers[3]);
            }
            hubIs(post, 2123, numbers[2]);
            hubIs(post, 2145, numbers[2]);
            hubIs(post, 2321, numbers[1]);
            hubIs(post, 2213, numbers[1]);
            post.accept(0, 2139, 1, 1);
            Check.same("destination", numbers[3], post.destination(0));
        }
    }

    private static void none() {
        Routepost post = Posts.hubs();
        hubIs(post, 4111, -1);
        Check.refuses("accept", post, Check.STATE, () -> post.accept(0, 4111, 1, 1));
        post.openHub(411, 5);
        hubIs(post, 4111, 3);
        hubIs(post, 4121, -1);
        Check.same("accept", 0, post.accept(0, 4111, 1, 1));
    }
}
