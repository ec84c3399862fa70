/** Sorters that several tests begin with. */
final class Posts {
    private Posts() {
    }

    /** Hub 0 (code 1, cutoff 5), hub 1 (code 2, cutoff 10), hub 2 (code 3, cutoff 3); no lines. */
    static Routepost hubs() {
        Routepost post = new Routepost();
        post.openHub(1, 5);
        post.openHub(2, 10);
        post.openHub(3, 3);
        return post;
    }

    /** The same hubs; line 0 leads from 0 to 1 at 0, 10, 20 and takes 15, with 2 bags. */
    static Routepost line() {
        Routepost post = hubs();
        post.addLine(0, 1, 0, 10, 15, 2);
        return post;
    }

    /** Line 0 as before; line 1 leads from 1 to 2 at 5, 25, 45 and takes 10, with 1 bag. */
    static Routepost chain() {
        Routepost post = line();
        post.addLine(1, 2, 5, 20, 10, 1);
        return post;
    }

    /** The chain, with line 2 back from 2 to 0 at 3, 18, 33 and 20 to go, with 4 bags. */
    static Routepost ring() {
        Routepost post = chain();
        post.addLine(2, 0, 3, 15, 20, 4);
        return post;
    }

    /** The ring with a parcel that has come to hub 1 by line 0 in the minute 25 and isn't scanned there. */
    static Routepost unloaded() {
        Routepost post = ring();
        post.accept(0, 2111, 3, 1);
        post.pass(25);
        return post;
    }

    /** So many hubs with the codes 1, 2, 3 .. and the same cutoff; no lines. */
    static Routepost hubsWith(int count, int cutoff) {
        Routepost post = new Routepost();
        for (int code = 1; code <= count; code++) {
            post.openHub(code, cutoff);
        }
        return post;
    }

    /** An address of a hub of hubsWith. */
    static int addressOf(int hub) {
        return 1111 * (hub + 1);
    }

    /**
     * In the minute 15: parcel 0 is unloaded and not scanned, 1 on a truck, 2 delivered, 3 held, 4 scanned at its
     * destination, 5 scanned elsewhere, 6 a return at its destination, 7 a return elsewhere. Line 2 is closed.
     */
    static Routepost allStates() {
        Routepost post = hubsWith(3, 1);
        post.addLine(0, 1, 10, 10, 5, 4);
        post.addLine(0, 2, 10, 60, 30, 4);
        post.addLine(1, 2, 5, 5, 5, 4);
        post.closeLine(2);
        post.accept(0, 2222, 1, 1);
        post.accept(0, 3333, 1, 1);
        post.accept(0, 1111, 1, 1);
        post.deliver(2, true);
        post.accept(0, 1111, 1, 2);
        post.deliver(3, false);
        post.deliver(3, false);
        post.accept(0, 1111, 1, 1);
        post.pass(15);
        post.accept(0, 2222, 1, 1);
        post.accept(2, 1111, 1, 1);
        post.recall(6);
        post.accept(0, 2222, 1, 1);
        post.scan(7, 2);
        post.recall(7);
        return post;
    }

    /** The same with 6 hubs, 12 lines and 40 parcels. */
    static Routepost allStatesAndFull() {
        Routepost post = allStates();
        for (int code = 4; code <= 6; code++) {
            post.openHub(code, 1);
        }
        while (post.lines() < 12) {
            post.addLine(3, 4, 0, 60, 60, 1);
        }
        while (post.parcels() < 40) {
            post.accept(5, 4444, 9, 2);
        }
        return post;
    }

    static void passTo(Routepost post, int minute) {
        while (post.minute() < minute) {
            post.pass(Math.min(120, minute - post.minute()));
        }
    }
}
