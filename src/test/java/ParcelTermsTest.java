/** "Parcels", sentence by sentence: what is taken, and what is refused next to it. */
final class ParcelTermsTest {
    private ParcelTermsTest() {
    }

    static void run() {
        Check.test("no parcels yet", ParcelTermsTest::noParcelsYet);
        Check.test("At most 40 parcels have numbers in the order in which they were accepted",
                ParcelTermsTest::atMostForty);
        Check.test("numbers are not given again", ParcelTermsTest::numbersStay);
        Check.test("A parcel has a volume from 1 to 9", ParcelTermsTest::volumes);
        Check.test("a service (0 express, 1 normal, 2 bulk)", ParcelTermsTest::services);
        Check.test("an origin, the hub at which it was accepted", ParcelTermsTest::origins);
        Check.test("at first the hub of its address at that time", ParcelTermsTest::destinations);
        Check.test("A parcel is in one of these states", ParcelTermsTest::states);
        Check.test("accepted is scanned at its origin in this minute", ParcelTermsTest::scannedAtOrigin);
    }

    private static void noParcelsYet() {
        Routepost post = Posts.line();
        Check.same("parcels", 0, post.parcels());
        Check.same("pass", 0, post.pass(120));
        Check.same("waiting", 0, post.waiting(0));
        Check.same("bagsNeeded", 0, post.bagsNeeded(0));
        Check.same("bagsAtLeast", 0, post.bagsAtLeast(0));
        Check.same("riding", 0, post.riding(0));
        Check.same("bags", 0, post.bags(0));
        Check.same("closeLine", 0, post.closeLine(0));
    }

    private static void atMostForty() {
        Routepost post = Posts.hubsWith(6, 1);
        for (int i = 0; i < 40; i++) {
            Check.same("parcels", i, post.parcels());
            Check.same("accept", i, post.accept(i % 6, Posts.addressOf(i % 5), 1, 1));
        }
        Check.refuses("a 41st parcel", post, Check.STATE, () -> post.accept(0, 1111, 1, 1));
        Check.same("parcels", 40, post.parcels());
        for (int i = 0; i < 40; i++) {
            Check.same("at(" + i + ")", i % 6, post.at(i));
            Check.same("destination(" + i + ")", i % 5, post.destination(i));
        }
    }

    private static void numbersStay() {
        Routepost post = Posts.hubsWith(1, 1);
        for (int i = 0; i < 40; i++) {
            Check.same("accept", i, post.accept(0, 1111, 1, 2));
            post.deliver(i, i % 2 == 0);
            Check.same("parcels", i + 1, post.parcels());
        }
        Check.refuses("delivered ones count", post, Check.STATE, () -> post.accept(0, 1111, 1, 2));
    }

    private static void volumes() {
        for (int volume : new int[] {0, 10, -1, -9, Integer.MIN_VALUE, Integer.MAX_VALUE}) {
            Routepost post = Posts.hubsWith(2, 1);
            Check.refuses("volume " + volume, post, Check.ARGUMENT, () -> post.accept(0, 2222, volume, 1));
        }
        for (int volume = 1; volume <= 9; volume++) {
            Routepost post = Posts.hubsWith(2, 1);
            post.addLine(0, 1, 5, 5, 5, 1);
            Check.same("volume " + volume, 0, post.accept(0, 2222, volume, 1));
            post.pass(5);
            Check.same("bagVolume", volume, post.bagVolume(0, 0));
        }
    }

    private static void services() {
        for (int service : new int[] {-1, 3, Integer.MIN_VALUE, Integer.MAX_VALUE}) {
            Routepost post = Posts.hubsWith(2, 1);
            Check.refuses("service " + service, post, Check.ARGUMENT, () -> post.accept(0, 2222, 1, service));
        }
        Routepost post = Posts.line();
        for (int service = 2; service >= 0; service--) {
            Check.same("service " + service, 2 - service, post.accept(0, 2222, 1, service));
        }
        for (int rank = 0; rank < 3; rank++) {
            Check.same("express first, bulk last", 2 - rank, post.waitingAt(0, rank));
        }
    }

    private static void origins() {
        Routepost post = Posts.hubsWith(6, 1);
        for (int hub : new int[] {-1, 6, Integer.MIN_VALUE, Integer.MAX_VALUE}) {
            Check.refuses("hub " + hub, post, Check.NO_SUCH, () -> post.accept(hub, 1111, 1, 1));
        }
        for (int hub = 0; hub < 6; hub++) {
            Check.same("accept", hub, post.accept(hub, Posts.addressOf(3), 1, 1));
            post.scan(hub, 5);
            post.recall(hub);
            Check.same("goes back to its origin", hub, post.destination(hub));
        }
    }

    private static void destinations() {
        Routepost post = new Routepost();
        post.openHub(1, 1);
        Check.refuses("no hub yet", post, Check.STATE, () -> post.accept(0, 2345, 1, 1));
        int[] codes = {2, 23, 234};
        for (int i = 0; i < 3; i++) {
            post.openHub(codes[i], 1);
            Check.same("accept", i, post.accept(0, 2345, 1, 1));
            for (int k = 0; k <= i; k++) {
                Check.same("destination(" + k + ")", k + 1, post.destination(k));
            }
        }
        post.addLine(0, 1, 5, 60, 5, 1);
        Check.same("a line to its own destination", 0, post.nextLine(0));
        Check.same("not to that of a later one", -1, post.nextLine(1));
        post.scan(0, 3);
        Check.refuses("a hub opened later", post, Check.STATE, () -> post.deliver(0, true));
        post.scan(0, 1);
        Check.same("deliver", 'd', post.deliver(0, true));
    }

    private static void states() {
        Routepost post = Posts.allStates();
        String states = "utdhssss";
        for (int i = 0; i < states.length(); i++) {
            Check.same("state(" + i + ")", states.charAt(i), post.state(i));
        }
    }

    private static void scannedAtOrigin() {
        for (int minute : new int[] {0, 1, 7}) {
            Routepost post = Posts.hubsWith(2, 10);
            post.addLine(0, 1, 16, 60, 1, 1);
            post.addLine(0, 1, 17, 60, 1, 1);
            Posts.passTo(post, minute);
            post.accept(0, 2222, 1, 1);
            Check.same("state", 's', post.state(0));
            Check.same("at", 0, post.at(0));
            Check.same("scanned already", 'a', post.scan(0, 0));
            Check.same("one event alone", 1, post.events(0));
            // 10 minutes from the minute 7 on lead to 17, from the minutes before to 16 at the latest.
            Check.same("arrival", minute == 7 ? 18 : 17, post.arrival(0));
        }
    }
}
