import java.util.ArrayList;
import java.util.List;
import java.util.function.Consumer;

/** Calls that a sorter has to refuse in the state of a model. */
final class Refusals {
    record Refusal(String what, Class<?> kind, Consumer<Routepost> call) {
    }

    private final Model model;
    private final List<Refusal> found = new ArrayList<>();

    private Refusals(Model model) {
        this.model = model;
    }

    static List<Refusal> of(Model model) {
        Refusals refusals = new Refusals(model);
        refusals.ofHubsAndLines();
        refusals.ofAcceptance();
        for (int parcel = 0; parcel < model.parcels(); parcel++) {
            refusals.ofParcel(parcel);
        }
        refusals.ofNoParcel(-1);
        refusals.ofNoParcel(model.parcels());
        return refusals.found;
    }

    private void add(String what, Class<?> kind, Consumer<Routepost> call) {
        found.add(new Refusal(what, kind, call));
    }

    private void ofHubsAndLines() {
        int hubs = model.hubs();
        int lines = model.lines();
        add("openHub, no code", Check.ARGUMENT, post -> post.openHub(10, 5));
        add("openHub, no cutoff", Check.ARGUMENT, post -> post.openHub(8, 0));
        if (hubs == 6) {
            add("openHub, 6 hubs", Check.STATE, post -> post.openHub(8, 5));
        }
        add("addLine, no hub", Check.NO_SUCH, post -> post.addLine(hubs, 0, 0, 5, 1, 1));
        if (hubs >= 2) {
            add("addLine, one hub", Check.ARGUMENT, post -> post.addLine(1, 1, 0, 5, 1, 1));
            add("addLine, bags", Check.ARGUMENT, post -> post.addLine(0, 1, 0, 5, 1, 5));
        }
        if (lines == 12) {
            add("addLine, 12 lines", Check.STATE, post -> post.addLine(0, 1, 0, 5, 1, 4));
        }
        add("closeLine, no line", Check.NO_SUCH, post -> post.closeLine(lines));
        for (int line = 0; line < lines; line++) {
            int closed = line;
            if (!model.isOpen(line)) {
                add("closeLine, closed", Check.STATE, post -> post.closeLine(closed));
            }
        }
        add("pass(0)", Check.ARGUMENT, post -> post.pass(0));
        add("pass(121)", Check.ARGUMENT, post -> post.pass(121));
    }

    private void ofAcceptance() {
        int hubs = model.hubs();
        add("accept, no hub", Check.NO_SUCH, post -> post.accept(hubs, 1111, 1, 1));
        if (hubs == 0) {
            return;
        }
        add("accept, no address", Check.ARGUMENT, post -> post.accept(0, 1011, 1, 1));
        add("accept, no volume", Check.ARGUMENT, post -> post.accept(0, 1111, 10, 1));
        add("accept, no service", Check.ARGUMENT, post -> post.accept(0, 1111, 1, 3));
        add("accept, no hub for it", Check.STATE, post -> post.accept(0, 9999, 1, 1));
        if (model.parcels() == 40) {
            add("accept, 40 parcels", Check.STATE, post -> post.accept(0, 1111, 1, 1));
        }
    }

    private void ofParcel(int parcel) {
        char state = model.state(parcel);
        int hubs = model.hubs();
        add("scan, no hub", Check.NO_SUCH, post -> post.scan(parcel, hubs));
        if (state == 'd' || state == 'h') {
            int hub = model.at(parcel);
            add("scan, " + state, Check.STATE, post -> post.scan(parcel, hub));
        }
        if (state != 's' || model.at(parcel) != model.destination(parcel)) {
            add("deliver, " + state, Check.STATE, post -> post.deliver(parcel, true));
            add("deliver, not taken, " + state, Check.STATE, post -> post.deliver(parcel, false));
        }
        if (state != 's' || model.isReturn(parcel)) {
            add("recall, " + state, Check.STATE, post -> post.recall(parcel));
        }
    }

    private void ofNoParcel(int parcel) {
        add("scan, no parcel", Check.NO_SUCH, post -> post.scan(parcel, 0));
        add("deliver, no parcel", Check.NO_SUCH, post -> post.deliver(parcel, false));
        add("recall, no parcel", Check.NO_SUCH, post -> post.recall(parcel));
    }
}
