/** Promises 7, 8, 21 and 25: deliveries and returns. */
final class DeliveryTest {
    private DeliveryTest() {
    }

    static void run() {
        Check.test("promise 7, taken", DeliveryTest::promise7Taken);
        Check.test("promises 7 and 25, failed attempts", DeliveryTest::promise7FailedAttempts);
        Check.test("promise 7, turned back", DeliveryTest::promise7TurnedBack);
        Check.test("promise 7, a return fails", DeliveryTest::promise7ReturnHeld);
        Check.test("promise 7, refusals", DeliveryTest::promise7Refusals);
        Check.test("promise 8", DeliveryTest::promise8Recall);
        Check.test("promise 8, on the way", DeliveryTest::promise8OnTheWay);
        Check.test("promise 8, no path", DeliveryTest::promise8NoPath);
        Check.test("promise 8, refusals", DeliveryTest::promise8Refusals);
        Check.test("promise 21", DeliveryTest::promise21IsReturn);
        Check.test("promise 25", DeliveryTest::promise25Attempts);
    }

    private static void promise7Taken() {
        Routepost post = Posts.unloaded();
        Check.refuses("not scanned", post, Check.STATE, () -> post.deliver(0, true));
        post.scan(0, 1);
        post.pass(5);
        Check.same("deliver", 'd', post.deliver(0, true));
        Check.same("state", 'd', post.state(0));
        Check.same("at", 1, post.at(0));
        Check.same("kind", 'd', post.eventKind(0, 4));
        Check.same("minute", 30, post.eventMinute(0, 4));
        Check.same("hub", 1, post.eventHub(0, 4));
        Check.refuses("again", post, Check.STATE, () -> post.deliver(0, true));
        Check.refuses("again, not taken", post, Check.STATE, () -> post.deliver(0, false));
    }

    private static void promise7FailedAttempts() {
        for (int service = 0; service <= 2; service++) {
            Routepost post = Posts.ring();
            post.accept(1, 2111, 3, service);
            for (int i = 1; i < 3 - service; i++) {
                Check.same("attempt " + i, 'w', post.deliver(0, false));
                Check.same("attempts", i, post.attempts(0));
                Check.same("state", 's', post.state(0));
                Check.same("isReturn", false, post.isReturn(0));
                Check.same("kind", 'f', post.eventKind(0, i));
            }
            Check.same("the last attempt", 'r', post.deliver(0, false));
            Check.same("attempts", 0, post.attempts(0));
            Check.same("events", 5 - service, post.events(0));
            Check.same("kind", 'f', post.eventKind(0, 3 - service));
            Check.same("kind", 'r', post.eventKind(0, 4 - service));
        }
    }

    private static void promise7TurnedBack() {
        Routepost post = Posts.unloaded();
        post.scan(0, 1);
        post.pass(2);
        Check.same("first attempt", 'w', post.deliver(0, false));
        post.pass(13);
        Check.same("second attempt", 'r', post.deliver(0, false));
        Check.same("isReturn", true, post.isReturn(0));
        Check.same("destination", 0, post.destination(0));
        Check.same("state", 's', post.state(0));
        Check.same("nextLine", 1, post.nextLine(0));
        // Scanned in the minute 40 with a cutoff of 10: 65 to 75 at hub 2, 78 to 98 at hub 0.
        Check.same("promise", 98, post.promise(0));
        Check.same("arrival", 98, post.arrival(0));
        Check.same("not late", false, post.isLate(0));
        Posts.passTo(post, 98);
        Check.same("not late", false, post.isLate(0));
        post.pass(1);
        Check.same("its destination is not reached any more", true, post.isLate(0));
    }

    private static void promise7ReturnHeld() {
        Routepost post = Posts.ring();
        post.accept(1, 2111, 3, 1);
        Check.same("deliver", 'w', post.deliver(0, false));
        Check.same("deliver", 'r', post.deliver(0, false));
        Check.same("at its sender at once", -1, post.nextLine(0));
        Check.same("promise", 0, post.promise(0));
        post.pass(7);
        Check.same("reached at once", false, post.isLate(0));
        Check.same("deliver", 'w', post.deliver(0, false));
        Check.same("deliver", 'h', post.deliver(0, false));
        Check.same("state", 'h', post.state(0));
        Check.same("at", 1, post.at(0));
        Check.same("attempts", 2, post.attempts(0));
        Check.same("events", 7, post.events(0));
        Check.same("kind", 'f', post.eventKind(0, 5));
        Check.same("kind", 'h', post.eventKind(0, 6));
        Check.same("minute", 7, post.eventMinute(0, 6));
        Check.refuses("a held one", post, Check.STATE, () -> post.deliver(0, true));
    }

    private static void promise7Refusals() {
        Routepost post = Posts.line();
        post.accept(0, 2111, 3, 1);
        Check.refuses("parcel -1", post, Check.NO_SUCH, () -> post.deliver(-1, true));
        Check.refuses("parcel 1", post, Check.NO_SUCH, () -> post.deliver(1, false));
        Check.refuses("not at its destination", post, Check.STATE, () -> post.deliver(0, true));
        Check.refuses("not at its destination", post, Check.STATE, () -> post.deliver(0, false));
        post.pass(10);
        Check.refuses("on a truck", post, Check.STATE, () -> post.deliver(0, true));
    }

    private static void promise8Recall() {
        Routepost post = Posts.line();
        post.accept(0, 2111, 3, 1);
        post.pass(6);
        Check.same("recall at its origin", 6, post.recall(0));
        Check.same("isReturn", true, post.isReturn(0));
        Check.same("destination", 0, post.destination(0));
        Check.same("nextLine", -1, post.nextLine(0));
        Check.same("kind", 'r', post.eventKind(0, 1));
        Check.same("minute", 6, post.eventMinute(0, 1));
        Check.same("hub", 0, post.eventHub(0, 1));
        Check.same("it waits for no truck", 0, post.waiting(0));
        Check.same("deliver", 'd', post.deliver(0, true));
    }

    private static void promise8OnTheWay() {
        Routepost post = Posts.ring();
        post.accept(0, 3111, 3, 0);
        post.pass(25);
        post.scan(0, 1);
        post.pass(12);
        // Scanned anew in the minute 37 with a cutoff of 10: the truck of the minute 45 is missed.
        Check.same("recall", 98, post.recall(0));
        Check.same("promise", 98, post.promise(0));
        Check.same("nextLine", 1, post.nextLine(0));
        post.pass(8);
        Check.same("the cutoff counts from the recall", 's', post.state(0));
        post.pass(20);
        Check.same("state", 't', post.state(0));
    }

    private static void promise8NoPath() {
        Routepost post = Posts.line();
        post.accept(0, 2111, 3, 1);
        post.pass(25);
        post.scan(0, 1);
        Check.same("recall", -1, post.recall(0));
        Check.same("promise", -1, post.promise(0));
        Check.same("nextLine", -1, post.nextLine(0));
        Check.same("attempts", 0, post.attempts(0));
        post.pass(50);
        Check.same("never late", false, post.isLate(0));
    }

    private static void promise8Refusals() {
        Routepost post = Posts.unloaded();
        Check.refuses("parcel -1", post, Check.NO_SUCH, () -> post.recall(-1));
        Check.refuses("parcel 1", post, Check.NO_SUCH, () -> post.recall(1));
        Check.refuses("not scanned", post, Check.STATE, () -> post.recall(0));
        post.scan(0, 1);
        post.recall(0);
        Check.refuses("a return", post, Check.STATE, () -> post.recall(0));
        post.accept(0, 1111, 1, 1);
        post.deliver(1, true);
        Check.refuses("a delivered one", post, Check.STATE, () -> post.recall(1));
        post.accept(0, 2111, 1, 1);
        post.pass(20);
        Check.refuses("one on a truck", post, Check.STATE, () -> post.recall(2));
    }

    private static void promise21IsReturn() {
        Routepost post = Posts.line();
        post.accept(0, 2111, 3, 1);
        post.accept(1, 2111, 3, 2);
        Check.same("isReturn", false, post.isReturn(0));
        post.recall(0);
        post.deliver(1, false);
        Check.same("isReturn", true, post.isReturn(0));
        Check.same("isReturn", true, post.isReturn(1));
        post.deliver(1, true);
        Check.same("isReturn", true, post.isReturn(1));
        Check.refuses("parcel -1", post, Check.NO_SUCH, () -> post.isReturn(-1));
        Check.refuses("parcel 2", post, Check.NO_SUCH, () -> post.isReturn(2));
    }

    private static void promise25Attempts() {
        Routepost post = Posts.line();
        post.accept(1, 2111, 3, 0);
        Check.same("attempts", 0, post.attempts(0));
        post.deliver(0, false);
        post.deliver(0, false);
        Check.same("attempts", 2, post.attempts(0));
        post.recall(0);
        Check.same("recalled", 0, post.attempts(0));
        post.deliver(0, false);
        Check.same("attempts", 1, post.attempts(0));
        post.deliver(0, true);
        Check.same("delivered", 1, post.attempts(0));
        Check.refuses("parcel -1", post, Check.NO_SUCH, () -> post.attempts(-1));
        Check.refuses("parcel 1", post, Check.NO_SUCH, () -> post.attempts(1));
    }
}
