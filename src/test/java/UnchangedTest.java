import java.util.Random;

/**
 * "A method that throws an exception changes nothing", also nothing that only a later call would show: of sorters
 * with the same calls, one gets refused calls ahead of each of them, one is asked all questions, and one is left alone.
 */
final class UnchangedTest {
    private static final int RUNS = 12;
    private static final int CALLS = 200;

    private final Model model = new Model();
    private final Draw draw;
    private final Routepost refusing = new Routepost();
    private final Routepost asked = new Routepost();
    private final Routepost alone = new Routepost();

    private UnchangedTest(long seed) {
        draw = new Draw(new Random(seed), model);
    }

    static void run() {
        for (int i = 0; i < RUNS; i++) {
            int seed = 1000 + i;
            Check.test("refused calls and questions change nothing, run " + seed, () -> new UnchangedTest(seed).compare());
        }
    }

    private void compare() {
        for (int i = 0; i < CALLS; i++) {
            refuseAll();
            if (i % 5 == 0) {
                Answers.of(asked);
            }
            String name = draw.name(i);
            Object[] arguments = draw.arguments(name);
            String want = Answers.answer(alone, name, arguments);
            Check.same(name + " after refused calls", want, Answers.answer(refusing, name, arguments));
            Check.same(name + " after questions", want, Answers.answer(asked, name, arguments));
            Answers.answer(model, name, arguments);
        }
        String want = Answers.of(alone);
        Check.same("all answers after refused calls", true, want.equals(Answers.of(refusing)));
        Check.same("all answers after questions", true, want.equals(Answers.of(asked)));
    }

    private void refuseAll() {
        for (Refusals.Refusal refusal : Refusals.of(model)) {
            Check.same(refusal.what(), refusal.kind().getName(), Check.outcome(() -> {
                refusal.call().accept(refusing);
                return "nothing";
            }));
        }
    }
}
