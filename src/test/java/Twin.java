import java.util.ArrayList;
import java.util.List;

/**
 * Two offices with the same past. The one is refused a call that the other never hears of; then both
 * are asked and led on in the same way. If they differ anywhere, the refused call changed something.
 */
final class Twin {
    /** What is done with an office; several ways lead on, each from a new pair. */
    interface Deed {
        void on(AcreOffice office);
    }

    private interface Way {
        void on(AcreOffice office, List<String> story);
    }

    private static final Way[] WAYS = {
        Twin::backAsFarAsItGoes, Twin::backToTheSnapshot, Twin::carriedOut, Twin::goneOn,
    };

    private Twin() {
    }

    static void refuses(String what, Class<?> due, Deed past, Deed call) {
        for (Way way : WAYS) {
            AcreOffice one = new AcreOffice();
            AcreOffice other = new AcreOffice();
            past.on(one);
            past.on(other);
            Check.same(what, Check.thrownBy(() -> call.on(one)), due.getName());
            Check.same(what + " (changes nothing)", storyOf(one, way), storyOf(other, way));
        }
    }

    private static String storyOf(AcreOffice x, Way way) {
        List<String> story = new ArrayList<>();
        story.add(Check.stateOf(x));
        way.on(x, story);
        return story.toString();
    }

    private static void backAsFarAsItGoes(AcreOffice x, List<String> story) {
        story.add("recorded " + x.recordedStates());
        while (x.recordedStates() > 0) {
            story.add("left " + x.undo() + " " + shortStateOf(x));
        }
    }

    private static void backToTheSnapshot(AcreOffice x, List<String> story) {
        story.add(Check.thrownBy(() -> story.add("fields " + x.restoreSnapshot())));
        story.add(Check.stateOf(x) + " recorded " + x.recordedStates());
    }

    private static void carriedOut(AcreOffice x, List<String> story) {
        story.add("error " + x.textError());
        story.add(Check.thrownBy(() -> story.add("impossible " + x.impossibleOrder())));
        story.add(Check.thrownBy(() -> story.add("orders " + x.carryOut())));
        story.add(Check.stateOf(x) + " recorded " + x.recordedStates() + " text " + x.clearText());
    }

    /** A text that lost a character, or got one, has another first error when it grows. */
    private static void goneOn(AcreOffice x, List<String> story) {
        story.add(Check.thrownBy(() -> story.add("length " + x.type(';'))));
        story.add(Check.thrownBy(() -> story.add("length " + x.type('b'))));
        story.add("error " + x.textError());
        story.add(Check.thrownBy(() -> story.add("legs " + x.takeBack())));
        story.add(Check.thrownBy(() -> story.add("legs " + x.addLeg(3, -4, 5))));
        story.add(Check.thrownBy(() -> story.add("legs " + x.setOrigin(8, 9))));
        story.add(Check.thrownBy(() -> story.add("field " + x.keep())));
        story.add(Check.thrownBy(() -> story.add("fields " + x.giveUp(0))));
        story.add("fields " + x.takeSnapshot());
        story.add(Check.stateOf(x) + " recorded " + x.recordedStates());
    }

    /** What tells one recorded state from another in few calls. */
    private static String shortStateOf(AcreOffice x) {
        return x.legs() + " " + x.traverseLength() + " " + x.errorEast() + " " + x.errorNorth() + " "
            + x.adjustedEast(0) + " " + x.adjustedNorth(0) + " " + x.fields() + " " + x.twiceAreaOfAll()
            + " " + x.largestField();
    }
}
