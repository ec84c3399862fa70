/** Sorters that several tests begin with. */
final class Posts {
    private Posts() {
    }

    /** Hub 0 (code 1, cutoff 5), hub 1 (code 2, cutoff 10), hub 2 (code 3, cutoff 3); no lines. */
    static Routepost hubs() {
        Routepost post = new Routepost();
        post.openHub(1, 5);
        post.openHub(2, 10);
        post.openHub(3, 3);
        return post;
    }

    /** The same hubs; line 0 leads from 0 to 1 at 0, 10, 20 and takes 15, with 2 bags. */
    static Routepost line() {
        Routepost post = hubs();
        post.addLine(0, 1, 0, 10, 15, 2);
        return post;
    }

    /** Line 0 as before; line 1 leads from 1 to 2 at 5, 25, 45 and takes 10, with 1 bag. */
    static Routepost chain() {
        Routepost post = line();
        post.addLine(1, 2, 5, 20, 10, 1);
        return post;
    }

    /** The chain, with line 2 back from 2 to 0 at 3, 18, 33 and 20 to go, with 4 bags. */
    static Routepost ring() {
        Routepost post = chain();
        post.addLine(2, 0, 3, 15, 20, 4);
        return post;
    }

    /** The ring with a parcel that has come to hub 1 by line 0 in the minute 25 and isn't scanned there. */
    static Routepost unloaded() {
        Routepost post = ring();
        post.accept(0, 2111, 3, 1);
        post.pass(25);
        return post;
    }

    static void passTo(Routepost post, int minute) {
        while (post.minute() < minute) {
            post.pass(Math.min(120, minute - post.minute()));
        }
    }
}
