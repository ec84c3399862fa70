/** "Plans and promises", sentence by sentence. */
final class PlanTermsTest {
    private PlanTermsTest() {
    }

    static void run() {
        Check.test("it has none if there is no path or the path has no lines", PlanTermsTest::noNextLine);
        Check.test("It is planned when the parcel is scanned", PlanTermsTest::plannedWhenScanned);
        Check.test("It is planned when the parcel is turned back", PlanTermsTest::plannedWhenTurnedBack);
        Check.test("It is planned when it is left behind by a truck", PlanTermsTest::plannedWhenLeftBehind);
        Check.test("for all parcels in the state 's', when a line is added or closed",
                PlanTermsTest::plannedWhenLinesChange);
        Check.test("for all parcels, also when a line is closed that isn't their next one",
                PlanTermsTest::plannedWhenFarLineCloses);
        Check.test("for all parcels, also when a line is added that begins elsewhere",
                PlanTermsTest::plannedWhenFarLineIsAdded);
        Check.test("Being left behind does not change the minute of the scan", PlanTermsTest::leftBehindKeepsScan);
        Check.test("adding a line does not change the minute of the scan", PlanTermsTest::addingKeepsScan);
        Check.test("closing a line does not change the minute of the scan", PlanTermsTest::closingKeepsScan);
        Check.test("The promise is the arrival when it was accepted", PlanTermsTest::promiseStays);
        Check.test("The promise is the arrival when it was turned back", PlanTermsTest::promiseOfReturn);
        Check.test("it has none if there is no path then", PlanTermsTest::noPromise);
        Check.test("the first minute in which it is scanned there", PlanTermsTest::reachedFirst);
        Check.test("reached where it is accepted or turned back", PlanTermsTest::reachedAtOnce);
        Check.test("has reached its destination later than that", PlanTermsTest::reachedLater);
        Check.test("has not reached it and the promise is less than the present minute", PlanTermsTest::notReached);
    }

    private static void noNextLine() {
        Routepost post = Posts.hubsWith(3, 1);
        post.addLine(0, 1, 5, 5, 5, 1);
        post.accept(0, 3333, 1, 1);
        post.accept(0, 1111, 1, 1);
        post.accept(0, 2222, 1, 1);
        Check.same("no path", -1, post.nextLine(0));
        Check.same("no path", -1, post.nextLineByPaths(0));
        Check.same("no lines", -1, post.nextLine(1));
        Check.same("no lines", -1, post.nextLineByPaths(1));
        Check.same("a path", 0, post.nextLine(2));
        Check.same("waiting", 1, post.waiting(0));
    }

    private static void plannedWhenScanned() {
        Routepost post = Posts.hubsWith(3, 1);
        post.addLine(0, 1, 5, 60, 5, 1);
        post.addLine(1, 2, 20, 60, 5, 1);
        post.addLine(1, 2, 30, 60, 7, 1);
        post.accept(0, 3333, 1, 1);
        post.pass(10);
        for (int minute = 10; minute <= 29; minute++) {
            Posts.passTo(post, minute);
            Check.refuses("not planned yet", post, Check.STATE, () -> post.nextLine(0));
        }
        post.scan(0, 1);
        Check.same("as of the minute of the scan", 2, post.nextLine(0));
    }

    private static void plannedWhenTurnedBack() {
        Routepost post = Posts.hubsWith(3, 1);
        post.addLine(0, 2, 5, 60, 60, 1);
        post.addLine(0, 1, 5, 60, 60, 1);
        post.accept(1, 3333, 1, 1);
        post.scan(0, 0);
        Check.same("nextLine", 0, post.nextLine(0));
        post.recall(0);
        Check.same("nextLine to its origin", 1, post.nextLine(0));
        Check.same("waiting", 0, post.waiting(0));
        Check.same("waiting", 1, post.waiting(1));
    }

    private static void plannedWhenLeftBehind() {
        Routepost post = Posts.hubsWith(2, 1);
        post.addLine(0, 1, 5, 20, 5, 1);
        post.addLine(0, 1, 11, 60, 18, 1);
        post.addLine(0, 1, 11, 60, 18, 1);
        for (int i = 0; i < 3; i++) {
            post.accept(0, 2222, 9, 1);
            Check.same("nextLine", 0, post.nextLine(i));
        }
        post.pass(5);
        Check.same("left behind by the line 0", 1, post.nextLine(1));
        Check.same("left behind by the line 0", 1, post.nextLine(2));
        post.pass(6);
        // In 11 the line 1 leaves it behind too: the line 0 comes in 30 then, the line 2 has left already.
        Check.same("left behind by the line 1", 0, post.nextLine(2));
        Check.same("missed", 2, post.missed(2));
        Check.same("arrival", 30, post.arrival(2));
    }

    private static void plannedWhenLinesChange() {
        Routepost post = Posts.hubsWith(2, 1);
        for (int i = 0; i < 40; i++) {
            post.accept(i % 2, 2222, 1, 1);
        }
        for (int line = 0; line < 12; line++) {
            post.addLine(0, 1, 59, 60, 60 - line, 1);
            Check.same("waiting for the newest", 20, post.waiting(line));
        }
        for (int line = 11; line > 0; line--) {
            Check.same("closeLine", 20, post.closeLine(line));
            Check.same("waiting for the one before", 20, post.waiting(line - 1));
        }
        Check.same("closeLine", 20, post.closeLine(0));
        Check.same("nextLine", -1, post.nextLine(0));
    }

    /** From hub 0 to hub 4 by hub 1 and hub 2, or by hub 3; three lines come last, and so may two of them. */
    private static Routepost twoWays() {
        Routepost post = Posts.hubsWith(5, 1);
        post.addLine(0, 1, 5, 60, 5, 1);
        post.addLine(0, 3, 5, 60, 5, 1);
        post.addLine(2, 4, 25, 60, 5, 1);
        post.addLine(3, 4, 59, 60, 5, 1);
        return post;
    }

    private static void plannedWhenFarLineCloses() {
        for (int closed : new int[] {2, 4}) {
            Routepost post = twoWays();
            post.addLine(1, 2, 15, 60, 5, 1);
            post.accept(0, 5555, 1, 1);
            post.accept(0, 2222, 1, 1);
            post.accept(1, 5555, 1, 1);
            Check.same("nextLine", 0, post.nextLine(0));
            Check.same("arrival", 30, post.arrival(0));
            int waiting = closed == 4 ? 1 : 0;
            Check.same("parcels that had it as their next line", waiting, post.closeLine(closed));
            Check.same("another first line", 1, post.nextLine(0));
            Check.same("no other way", 0, post.nextLine(1));
            Check.same("no way", -1, post.nextLine(2));
            Check.same("the promise stays", 30, post.promise(0));
        }
    }

    private static void plannedWhenFarLineIsAdded() {
        Routepost post = twoWays();
        post.accept(0, 5555, 1, 1);
        post.accept(1, 5555, 1, 1);
        post.accept(4, 5555, 1, 1);
        Check.same("nextLine", 1, post.nextLine(0));
        Check.same("no way", -1, post.nextLine(1));
        // It neither begins where the first parcel is nor ends at its destination.
        Check.same("addLine", 4, post.addLine(1, 2, 15, 60, 5, 1));
        Check.same("another first line", 0, post.nextLine(0));
        Check.same("a way", 4, post.nextLine(1));
        Check.same("at its destination", -1, post.nextLine(2));
        Check.same("waiting", 0, post.waiting(1));
        post.pass(5);
        Check.same("rides", 0, post.rides(0));
    }

    private static void leftBehindKeepsScan() {
        Routepost post = Posts.hubsWith(2, 20);
        post.addLine(0, 1, 20, 60, 5, 1);
        post.addLine(0, 1, 21, 60, 40, 1);
        post.accept(0, 2222, 9, 1);
        post.accept(0, 2222, 9, 1);
        post.pass(20);
        Check.same("left behind", 1, post.missed(1));
        Check.same("arrival", 61, post.arrival(1));
        post.pass(1);
        Check.same("state", 't', post.state(1));
        Check.same("rides", 1, post.rides(1));
    }

    private static void addingKeepsScan() {
        Routepost post = Posts.hubsWith(2, 20);
        post.accept(0, 2222, 9, 1);
        post.pass(19);
        post.addLine(0, 1, 20, 60, 1, 1);
        Check.same("arrival", 21, post.arrival(0));
        post.pass(1);
        Check.same("state", 't', post.state(0));
    }

    private static void closingKeepsScan() {
        Routepost post = Posts.hubsWith(2, 20);
        post.addLine(0, 1, 20, 60, 1, 1);
        post.addLine(0, 1, 20, 60, 1, 1);
        post.accept(0, 2222, 9, 1);
        post.pass(19);
        post.closeLine(0);
        Check.same("arrival", 21, post.arrival(0));
        post.pass(1);
        Check.same("rides", 1, post.rides(0));
    }

    private static void promiseStays() {
        Routepost post = Posts.hubsWith(3, 1);
        post.addLine(0, 1, 20, 60, 10, 1);
        post.accept(0, 2222, 9, 1);
        post.accept(0, 2222, 9, 1);
        Check.same("promise", 30, post.promise(1));
        post.addLine(0, 1, 10, 60, 10, 1);
        Check.same("a better line", 20, post.arrival(1));
        Check.same("promise", 30, post.promise(1));
        post.closeLine(1);
        post.pass(20);
        Check.same("left behind", 1, post.missed(1));
        Check.same("promise", 30, post.promise(1));
        post.scan(1, 2);
        Check.same("misrouted", 30, post.promise(1));
        post.closeLine(0);
        Check.same("no path any more", 30, post.promise(1));
        post.scan(0, 1);
        post.deliver(0, false);
        Check.same("a failed attempt", 30, post.promise(0));
    }

    private static void promiseOfReturn() {
        Routepost post = Posts.ring();
        post.accept(0, 2222, 1, 2);
        Check.same("promise", 25, post.promise(0));
        Posts.passTo(post, 25);
        post.scan(0, 1);
        Check.same("failed", 'r', post.deliver(0, false));
        // 45 to 55 with the line 1, 63 to 83 with the line 2.
        Check.same("promise", 83, post.promise(0));
        Check.same("late for the old promise, not for this one", false, post.isLate(0));
        post.accept(0, 2222, 1, 2);
        Check.same("promise", 45, post.promise(1));
        Check.same("recall at its origin", 25, post.recall(1));
        Check.same("promise", 25, post.promise(1));
    }

    private static void noPromise() {
        Routepost post = Posts.hubsWith(2, 1);
        post.accept(0, 2222, 1, 1);
        Check.same("promise", -1, post.promise(0));
        post.addLine(0, 1, 5, 5, 5, 1);
        Check.same("a path later", -1, post.promise(0));
        post.pass(10);
        post.scan(0, 1);
        Check.same("recall", -1, post.recall(0));
        Check.same("promise", -1, post.promise(0));
        post.accept(0, 2222, 1, 1);
        Check.same("promise", 20, post.promise(1));
        post.scan(1, 1);
        Check.same("a promise is lost", -1, post.recall(1));
        Check.same("promise", -1, post.promise(1));
        post.pass(120);
        Check.same("isLate", false, post.isLate(1));
    }

    private static void reachedFirst() {
        Routepost post = Posts.hubsWith(3, 1);
        post.addLine(0, 1, 10, 60, 5, 4);
        post.accept(0, 2222, 1, 1);
        post.accept(0, 2222, 1, 1);
        Posts.passTo(post, 15);
        post.scan(0, 1);
        post.scan(1, 1);
        post.scan(1, 2);
        Posts.passTo(post, 100);
        post.scan(1, 1);
        Check.same("reached once", false, post.isLate(0));
        Check.same("reached, left and reached again", false, post.isLate(1));
        Check.same("lateShare", 0.0, post.lateShare());
    }

    private static void reachedAtOnce() {
        Routepost post = Posts.hubsWith(2, 1);
        post.addLine(1, 0, 10, 60, 5, 4);
        post.accept(1, 2222, 1, 2);
        post.accept(0, 1111, 1, 2);
        post.scan(1, 1);
        post.recall(1);
        Check.same("promise there", 0, post.promise(0));
        Check.same("promise on the way back", 15, post.promise(1));
        post.deliver(0, false);
        Check.same("turned back at its origin", 0, post.promise(0));
        Posts.passTo(post, 15);
        Check.same("unscanned, in the last minute", false, post.isLate(1));
        post.pass(1);
        Check.same("it has reached it", false, post.isLate(0));
        Check.same("it hasn't, though it was accepted there", true, post.isLate(1));
    }

    /** The promise is 15. */
    private static Routepost promised() {
        Routepost post = Posts.hubsWith(3, 1);
        post.addLine(0, 1, 10, 60, 5, 4);
        post.accept(0, 2222, 1, 1);
        return post;
    }

    private static void reachedLater() {
        for (int minute = 15; minute <= 17; minute++) {
            Routepost post = promised();
            Posts.passTo(post, minute);
            post.scan(0, 1);
            Check.same("scanned in " + minute, minute > 15, post.isLate(0));
            post.pass(120);
            Check.same("scanned in " + minute, minute > 15, post.isLate(0));
            post.deliver(0, true);
            Check.same("delivered", minute > 15, post.isLate(0));
        }
        Routepost early = promised();
        early.scan(0, 1);
        early.pass(120);
        Check.same("misrouted to its destination", false, early.isLate(0));
        Routepost late = promised();
        late.pass(16);
        late.scan(0, 2);
        late.scan(0, 1);
        Check.same("misrouted there too late", true, late.isLate(0));
    }

    private static void notReached() {
        Routepost post = promised();
        post.accept(2, 2222, 1, 1);
        for (int minute = 0; minute <= 17; minute++) {
            Posts.passTo(post, minute);
            Check.same("isLate in " + minute, minute > 15, post.isLate(0));
            Check.same("lateShare in " + minute, minute > 15 ? 0.5 : 0.0, post.lateShare());
            Check.same("isLate without a promise", false, post.isLate(1));
        }
        Routepost held = promised();
        held.scan(0, 2);
        held.scan(0, 0);
        held.pass(14);
        Check.same("held at its destination", 'h', held.scan(0, 1));
        held.pass(1);
        Check.same("in the minute of the promise", false, held.isLate(0));
        held.pass(1);
        Check.same("it was not scanned there", true, held.isLate(0));
    }
}
