import java.util.function.Consumer;
import java.util.function.Predicate;
import java.util.function.Supplier;
import java.util.function.ToIntFunction;

/**
 * A war that is made twice alike. One of the two gets a call that the document refuses; then both must answer alike:
 * at once, on the way through the phases that follow, and on the way back.
 */
final class Twins {
    // So many are asked of one object at most, and the making of it has some left of its 512.
    private static final int MOST_ASKED = 450;

    private final Check check;
    private final String title;
    private final int size;
    private final Supplier<SheetWar> maker;

    Twins(Check check, String title, int size, Supplier<SheetWar> maker) {
        this.check = check;
        this.title = title;
        this.size = size;
        this.maker = maker;
    }

    void refusesArgument(String call, Consumer<SheetWar> run) {
        SheetWar asked = maker.get();
        check.refusesArgument(about(call), () -> run.accept(asked));
        isAsUntouched(call, asked);
    }

    void refusesState(String call, Consumer<SheetWar> run) {
        SheetWar asked = maker.get();
        check.refusesState(about(call), () -> run.accept(asked));
        isAsUntouched(call, asked);
    }

    void answers(String call, int due, ToIntFunction<SheetWar> run) {
        SheetWar asked = maker.get();
        check.due(about(call), run.applyAsInt(asked), due);
        isAsUntouched(call, asked);
    }

    void answersNo(String call, Predicate<SheetWar> run) {
        SheetWar asked = maker.get();
        check.due(about(call), run.test(asked), false);
        isAsUntouched(call, asked);
    }

    /** That the same call, with what was wrong put right, is not refused. */
    void allows(String call, Consumer<SheetWar> run) {
        SheetWar asked = maker.get();
        check.refusesNothing(about(call), () -> run.accept(asked));
        check.due(about(call) + " is seen", storyOf(asked).equals(storyOf(maker.get())), false);
    }

    private String about(String call) {
        return title + ": " + call;
    }

    private void isAsUntouched(String call, SheetWar asked) {
        check.due(about(call) + " changes nothing", storyOf(asked).equals(storyOf(maker.get())), true);
    }

    private String storyOf(SheetWar war) {
        Story story = new Story(war, size);
        story.tell();
        check.due(about("calls"), story.asked() <= MOST_ASKED, true);
        return story.toString();
    }
}
