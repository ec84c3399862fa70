/** "Deliveries and returns", sentence by sentence. */
final class DeliveryTermsTest {
    private DeliveryTermsTest() {
    }

    static void run() {
        Check.test("A parcel in the state 's' at its destination can be delivered", DeliveryTermsTest::whoCanBe);
        Check.test("3 for express, 2 for normal, 1 for bulk", DeliveryTermsTest::attemptsAllowed);
        Check.test("If the delivery fails, it stays there for another attempt", DeliveryTermsTest::staysThere);
        Check.test("an attempt less than its service allows, then taken", DeliveryTermsTest::takenAtLast);
        Check.test("With the last one of these it is turned back", DeliveryTermsTest::turnedBack);
        Check.test("or held if it is a return already", DeliveryTermsTest::returnIsHeld);
        Check.test("its destination is its origin", DeliveryTermsTest::toItsOrigin);
        Check.test("it has had no failed attempts", DeliveryTermsTest::noFailedAttempts);
        Check.test("failed attempts count on through misroutes", DeliveryTermsTest::attemptsThroughMisroutes);
        Check.test("it has not reached its destination unless it is there", DeliveryTermsTest::notReached);
        Check.test("it is scanned in this minute at the hub where it is", DeliveryTermsTest::scannedInThisMinute);
        Check.test("A parcel that is no return can also be recalled", DeliveryTermsTest::whoCanBeRecalled);
        Check.test("a recall at the origin, elsewhere and at the destination", DeliveryTermsTest::recalls);
    }

    private static void whoCanBe() {
        Routepost post = Posts.allStates();
        for (int parcel : new int[] {0, 1, 2, 3, 5, 7}) {
            Check.refuses("parcel " + parcel, post, Check.STATE, () -> post.deliver(parcel, true));
            Check.refuses("parcel " + parcel, post, Check.STATE, () -> post.deliver(parcel, false));
        }
        post.scan(0, 1);
        for (int parcel : new int[] {0, 4, 6}) {
            Check.same("deliver", 'd', post.deliver(parcel, true));
            Check.same("state", 'd', post.state(parcel));
            Check.same("event", 'd', post.eventKind(parcel, post.events(parcel) - 1));
        }
    }

    private static void attemptsAllowed() {
        String[] answers = {"wwrwwh", "wrwh", "rh"};
        for (int service = 0; service <= 2; service++) {
            Routepost post = Posts.hubsWith(1, 1);
            post.accept(0, 1111, 1, service);
            StringBuilder got = new StringBuilder();
            while (post.state(0) == 's') {
                got.append(post.deliver(0, false));
            }
            Check.same("service " + service, answers[service], got.toString());
            Check.refuses("held for good", post, Check.STATE, () -> post.deliver(0, true));
        }
    }

    private static void staysThere() {
        Routepost post = Posts.hubsWith(2, 1);
        post.accept(0, 1111, 1, 0);
        post.pass(3);
        for (int i = 1; i <= 2; i++) {
            Check.same("deliver", 'w', post.deliver(0, false));
            Check.same("state", 's', post.state(0));
            Check.same("at", 0, post.at(0));
            Check.same("destination", 0, post.destination(0));
            Check.same("isReturn", false, post.isReturn(0));
            Check.same("attempts", i, post.attempts(0));
            Check.same("events", i + 1, post.events(0));
            Check.same("event", 'f', post.eventKind(0, i));
            Check.same("promise", 0, post.promise(0));
            Check.same("isLate", false, post.isLate(0));
            Check.same("scanned there already", 'a', post.scan(0, 0));
        }
    }

    private static void takenAtLast() {
        for (int service = 0; service <= 2; service++) {
            Routepost post = Posts.hubsWith(1, 1);
            post.accept(0, 1111, 1, service);
            for (int i = 0; i < 2 - service; i++) {
                Check.same("deliver", 'w', post.deliver(0, false));
            }
            Check.same("deliver", 'd', post.deliver(0, true));
            Check.same("attempts", 2 - service, post.attempts(0));
            Check.same("isReturn", false, post.isReturn(0));
        }
    }

    /** A parcel of the hub 0 is at its destination, the hub 1; a line leads back in 20, 80 .. and takes 10. */
    private static Routepost there(int service) {
        Routepost post = Posts.hubsWith(2, 5);
        post.addLine(0, 1, 5, 60, 5, 1);
        post.addLine(1, 0, 20, 60, 10, 1);
        post.accept(0, 2222, 1, service);
        post.pass(10);
        post.scan(0, 1);
        return post;
    }

    private static void turnedBack() {
        for (int service = 0; service <= 2; service++) {
            Routepost post = there(service);
            for (int i = 0; i < 2 - service; i++) {
                post.deliver(0, false);
            }
            int before = post.events(0);
            Check.same("deliver", 'r', post.deliver(0, false));
            Check.same("isReturn", true, post.isReturn(0));
            Check.same("state", 's', post.state(0));
            Check.same("at", 1, post.at(0));
            Check.same("two events", before + 2, post.events(0));
            Check.same("the failed attempt comes first", 'f', post.eventKind(0, before));
            Check.same("then it is turned back", 'r', post.eventKind(0, before + 1));
            Check.same("promise", 30, post.promise(0));
            Check.same("nextLine", 1, post.nextLine(0));
        }
    }

    private static void returnIsHeld() {
        Routepost post = there(2);
        post.deliver(0, false);
        post.pass(20);
        post.scan(0, 0);
        int before = post.events(0);
        Check.same("deliver", 'h', post.deliver(0, false));
        Check.same("state", 'h', post.state(0));
        Check.same("at", 0, post.at(0));
        Check.same("isReturn", true, post.isReturn(0));
        Check.same("the failed attempt comes first", 'f', post.eventKind(0, before));
        Check.same("then it is held", 'h', post.eventKind(0, before + 1));
        Check.same("two events", before + 2, post.events(0));
        Routepost recalled = there(1);
        recalled.recall(0);
        recalled.scan(0, 0);
        Check.same("a recalled one too", 'w', recalled.deliver(0, false));
        Check.same("a recalled one too", 'h', recalled.deliver(0, false));
    }

    private static void toItsOrigin() {
        for (int origin = 0; origin < 6; origin++) {
            Routepost post = Posts.hubsWith(6, 1);
            post.accept(origin, 3333, 1, 2);
            post.accept(origin, 3333, 1, 2);
            post.recall(0);
            Check.same("recalled", origin, post.destination(0));
            post.scan(1, 2);
            post.deliver(1, false);
            Check.same("failed", origin, post.destination(1));
        }
    }

    private static void noFailedAttempts() {
        Routepost post = Posts.hubsWith(1, 1);
        post.accept(0, 1111, 1, 0);
        post.deliver(0, false);
        post.deliver(0, false);
        Check.same("attempts", 2, post.attempts(0));
        post.recall(0);
        Check.same("attempts", 0, post.attempts(0));
        Check.same("as many as before", 'w', post.deliver(0, false));
        Check.same("as many as before", 'w', post.deliver(0, false));
        Check.same("as many as before", 'h', post.deliver(0, false));
        Check.same("attempts", 3, post.attempts(0));
    }

    private static void attemptsThroughMisroutes() {
        Routepost post = there(0);
        post.deliver(0, false);
        post.scan(0, 0);
        Check.same("attempts", 1, post.attempts(0));
        post.scan(0, 1);
        Check.same("second", 'w', post.deliver(0, false));
        Check.same("third", 'r', post.deliver(0, false));
    }

    private static void notReached() {
        Routepost post = there(2);
        post.deliver(0, false);
        post.pass(20);
        Check.same("in the minute of the promise", false, post.isLate(0));
        post.pass(1);
        Check.same("later", true, post.isLate(0));
        post.scan(0, 0);
        Check.same("reached too late", true, post.isLate(0));
        Routepost atOrigin = Posts.hubsWith(1, 1);
        atOrigin.accept(0, 1111, 1, 2);
        atOrigin.pass(7);
        atOrigin.deliver(0, false);
        Check.same("promise", 7, atOrigin.promise(0));
        atOrigin.pass(10);
        Check.same("it is there", false, atOrigin.isLate(0));
    }

    private static void scannedInThisMinute() {
        for (int minute = 15; minute <= 16; minute++) {
            Routepost post = there(2);
            Posts.passTo(post, minute);
            Check.same("recall", minute == 15 ? 30 : 90, post.recall(0));
            Check.same("event", minute, post.eventMinute(0, post.events(0) - 1));
            Check.same("hub", 1, post.eventHub(0, post.events(0) - 1));
            Check.same("no event of a scan", 'r', post.eventKind(0, post.events(0) - 1));
            Routepost failed = there(2);
            Posts.passTo(failed, minute);
            failed.deliver(0, false);
            Check.same("promise", minute == 15 ? 30 : 90, failed.promise(0));
        }
    }

    private static void whoCanBeRecalled() {
        Routepost post = Posts.allStates();
        for (int parcel : new int[] {0, 1, 2}) {
            Check.refuses("not scanned", post, Check.STATE, () -> post.recall(parcel));
        }
        for (int parcel : new int[] {6, 7}) {
            Check.refuses("a return", post, Check.STATE, () -> post.recall(parcel));
        }
        Check.refuses("a return and not scanned", post, Check.STATE, () -> post.recall(3));
        for (int parcel : new int[] {4, 5}) {
            Check.same("recall", 15, post.recall(parcel));
            Check.refuses("once more", post, Check.STATE, () -> post.recall(parcel));
        }
        post.scan(0, 1);
        Check.same("no path", -1, post.recall(0));
    }

    private static void recalls() {
        Routepost post = there(1);
        post.deliver(0, false);
        Check.same("at the destination", 30, post.recall(0));
        Check.same("attempts", 0, post.attempts(0));
        post.accept(0, 2222, 1, 1);
        Check.same("at the origin", 10, post.recall(1));
        Check.same("it is there", 'w', post.deliver(1, false));
        post.accept(0, 2222, 1, 1);
        post.scan(2, 1);
        Check.same("elsewhere", 30, post.recall(2));
        Check.same("misroutes", 1, post.misroutes(2));
        Check.same("pass", 2, post.pass(20));
        Check.same("at", 0, post.at(0));
        Check.same("at", 0, post.at(2));
    }
}
