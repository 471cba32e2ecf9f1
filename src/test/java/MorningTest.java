import java.util.function.Supplier;

/** Promises 7 and 9 to 11: pins, and the best allocation by two ways. */
public final class MorningTest {
    private static final int NONE = Stablingroad.NONE;
    private static final int DOOR = Stablingroad.DOOR;
    private static final int TOILET = Stablingroad.TOILET;

    private static final Check check = new Check();

    private MorningTest() {}

    public static void main(String[] args) {
        pin();
        weightsAndOrder();
        onlyOnesThatFit();
        sixAndSix();
        homing();
        homingBehindLack();
        homingByTheClocks();
        pins();
        anewFirst();
        homingOfTheFirst();
        askingChangesNothing();
        lack();
        check.end("MorningTest");
    }

    /** What is due for each diagram; by all allocations only where the document has it. */
    private static void allocated(String what, Stablingroad x, int... due) {
        for (int d = 0; d < due.length; d++) {
            check.same("9: " + what + ", diagram " + d, x.allocation(d), due[d]);
            if (due.length <= 4) {
                check.same("10: " + what + ", diagram " + d, x.allocationAnew(d), due[d]);
            }
        }
    }

    private static void pin() {
        Stablingroad x = new Stablingroad();
        x.unit(0, 0);
        x.unit(2, 0);
        x.diagram(0, 1, 10, 0, 1);
        x.diagram(1, 0, 10, 0, 1);
        check.same("7: not pinned", x.pin(0, 1), NONE);
        check.same("7: pinned before", x.pin(0, 0), 1);
        check.same("7: the same once more", x.pin(0, 0), 0);
        check.same("7: each diagram has its own", x.pin(1, 0), NONE);
        x.day();
        check.same("7: pins stay", x.pin(0, NONE), 0);
        check.same("7: pinned no more", x.pin(0, NONE), NONE);
    }

    private static void weightsAndOrder() {
        Stablingroad x = new Stablingroad();
        x.diagram(0, 1, 100, 0, 1);
        allocated("no units", x, NONE);
        x.unit(0, 0);
        allocated("one", x, 0);
        x.diagram(0, 1, 100, 0, 2);
        allocated("the greater weight", x, NONE, 0);
        x.diagram(0, 1, 100, 0, 2);
        allocated("of equal weights the first", x, NONE, 0, NONE);
        x.unit(1, 0);
        allocated("one elsewhere", x, NONE, 0, NONE);
        x.unit(0, 0);
        allocated("the heavy ones", x, NONE, 0, 2);
        x.diagram(0, 1, 100, 0, 3);
        allocated("the heaviest and the first", x, NONE, 0, NONE, 2);
        x.unit(0, 0);
        x.unit(0, 0);
        allocated("one for each", x, 0, 2, 3, 4);
    }

    private static void onlyOnesThatFit() {
        Stablingroad x = new Stablingroad();
        for (int u = 0; u < 3; u++) {
            x.unit(0, 0);
        }
        x.list(TOILET, 9, 0);
        x.list(DOOR, 9, 1);
        x.fault(0, TOILET, 0, 0);
        x.fault(1, DOOR, 0, 0);
        x.diagram(0, 0, 10, 2, 5);
        x.diagram(0, 0, 10, 1, 5);
        x.diagram(0, 0, 10, 0, 5);
        allocated("each the only one that fits", x, 2, 1, 0);
        x.diagram(0, 0, 10, 2, 6);
        allocated("the heavier one of the line 2", x, NONE, 1, 0, 2);
    }

    private static void sixAndSix() {
        Stablingroad x = new Stablingroad();
        for (int u = 0; u < 6; u++) {
            x.unit(u % 2, 0);
        }
        for (int d = 0; d < 6; d++) {
            x.diagram(1 - d % 2, 2, 10, d < 3 ? 2 : 0, 1 + d);
        }
        allocated("by depots", x, 1, 0, 3, 2, 5, 4);
        x.list(TOILET, 9, 0);
        x.fault(0, TOILET, 0, 0);
        x.fault(1, TOILET, 0, 0);
        allocated("by depots and faults", x, 3, 2, 5, 0, 1, 4);
        x.fault(3, TOILET, 0, 0);
        allocated("the least weight goes without", x, NONE, 2, 5, 0, 1, 4);
    }

    private static void homing() {
        Stablingroad x = Depots.withSoon(2, 1);
        check.same("9: soon", x.about(1, 4), 1);
        check.same("9: not soon", x.about(0, 4), 0);
        x.diagram(0, 0, 20, 0, 5);
        x.diagram(0, 1, 20, 0, 5);
        allocated("the soon one home", x, NONE, 1, 0);
        Stablingroad away = Depots.withSoon(2, 1);
        away.diagram(0, 1, 20, 0, 5);
        away.diagram(0, 2, 20, 0, 5);
        allocated("none goes home", away, NONE, 0, 1);
        Stablingroad last = Depots.withSoon(2, 0);
        last.diagram(0, 2, 20, 0, 5);
        last.diagram(0, 0, 20, 0, 5);
        allocated("home with the last diagram", last, NONE, 1, 0);
        Stablingroad two = Depots.withSoon(3, 1, 2);
        two.diagram(0, 0, 20, 0, 5);
        two.diagram(0, 0, 20, 0, 5);
        allocated("two that are soon", two, NONE, NONE, 1, 2);
        Stablingroad choice = Depots.withSoon(3, 1, 2);
        choice.diagram(0, 0, 20, 0, 5);
        choice.diagram(0, 1, 20, 0, 5);
        allocated("the lowest of them", choice, NONE, NONE, 1, 0);
        Stablingroad equal = Depots.withSoon(2, 1);
        equal.diagram(0, 1, 20, 0, 5);
        equal.diagram(0, 0, 20, 0, 5);
        equal.pin(2, 0);
        allocated("home is pinned to another", equal, NONE, 1, 0);
    }

    private static void homingBehindLack() {
        Stablingroad x = Depots.withSoon(1, 0);
        x.diagram(0, 0, 20, 0, 1);
        x.diagram(0, 1, 20, 0, 2);
        allocated("lack before homing", x, NONE, NONE, 0);
        Stablingroad y = Depots.withSoon(1, 0);
        y.diagram(0, 1, 20, 0, 2);
        y.diagram(0, 0, 20, 0, 2);
        allocated("homing before order", y, NONE, NONE, 0);
        Stablingroad two = Depots.withSoon(2, 0, 1);
        two.list(TOILET, 9, 0);
        two.fault(0, TOILET, 0, 0);
        two.diagram(0, 0, 20, 1, 1);
        two.diagram(0, 1, 20, 0, 2);
        allocated("less homing for no lack", two, NONE, NONE, 1, 0);
        Stablingroad pair = Depots.withSoon(2, 0, 1);
        pair.exam(0, 100, 20, 9);
        pair.diagram(0, 0, 20, 0, 1);
        pair.diagram(0, 0, 20, 0, 1);
        pair.diagram(0, 1, 20, 0, 2);
        allocated("a lack of 1 less for a homing of 1 less", pair, NONE, NONE, 0, NONE, 1);
    }

    private static void homingByTheClocks() {
        Stablingroad x = Depots.withSoon(2, 1);
        x.diagram(0, 1, 20, 0, 5);
        x.diagram(0, 0, 20, 0, 5);
        x.diagram(0, 1, 20, 0, 1);
        x.pin(3, 2);
        allocated("in the order already", x, NONE, 0, 1, NONE);
        Stablingroad y = Depots.withSoon(2, 1);
        y.diagram(0, 0, 20, 0, 5);
        y.diagram(0, 1, 20, 0, 5);
        allocated("before the pit", y, NONE, 1, 0);
        y.examine(1, 0);
        allocated("behind the pit", y, NONE, 0, 1);
        y.exam(0, 100, 20, 9);
        y.exam(1, 100, 20, 9);
        allocated("soon for the exam 1", y, NONE, 1, 0);
        y.day();
        check.same("12: ran by the homing", y.ran(1, 1), 1);
        check.same("12: ran by the homing", y.ran(2, 1), 0);
        Stablingroad nearly = Depots.withSoon(2, 1);
        nearly.exam(0, 101, 0, 9);
        nearly.diagram(0, 0, 20, 0, 5);
        nearly.diagram(0, 1, 20, 0, 5);
        allocated("80 of 101 is not soon, though it will be", nearly, NONE, 0, 1);
    }

    private static void pins() {
        Stablingroad x = new Stablingroad();
        for (int u = 0; u < 3; u++) {
            x.unit(0, 0);
        }
        x.unit(1, 0);
        for (int d = 0; d < 3; d++) {
            x.diagram(0, 0, 10, 0, 3 + d);
        }
        allocated("no pins", x, 0, 1, 2);
        x.pin(0, 1);
        allocated("one pin", x, 1, 0, 2);
        x.pin(2, 1);
        allocated("two to the same, the heavier gets it", x, NONE, 0, 1);
        x.pin(1, 1);
        allocated("three to the same", x, NONE, NONE, 1);
        x.pin(2, 3);
        allocated("one to a unit that is elsewhere", x, NONE, 1, NONE);
        x.pin(0, NONE);
        allocated("a free one", x, 0, 1, NONE);
        x.pin(1, NONE);
        allocated("a unit that is pinned goes elsewhere", x, 0, 1, NONE);
        x.pin(2, NONE);
        allocated("no pins any more", x, 0, 1, 2);
    }

    /** By all allocations, without that by parts having been asked before. */
    private static void anewFirst() {
        Stablingroad x = new Stablingroad();
        for (int u = 0; u < 3; u++) {
            x.unit(0, 0);
        }
        for (int d = 0; d < 4; d++) {
            x.diagram(0, 0, 10, 0, 4 - d);
        }
        int[] due = {0, 1, 2, NONE};
        for (int d = 0; d < 4; d++) {
            check.same("10: asked first, diagram " + d, x.allocationAnew(d), due[d]);
        }
        x.fault(0, DOOR, 0, 0);
        x.fault(1, DOOR, 0, 0);
        check.same("10: asked behind a change", x.allocationAnew(0), 2);
        check.same("10: the second goes without", x.allocationAnew(1), NONE);
        x.fault(2, DOOR, 0, 0);
        check.same("10: nothing of before is kept", x.allocationAnew(0), NONE);
    }

    private static void homingOfTheFirst() {
        Stablingroad x = new Stablingroad();
        x.unit(0, 0);
        x.unit(0, 0);
        x.diagram(0, 0, 40, 0, 5);
        x.pin(0, 1);
        x.day();
        x.day();
        x.exam(0, 100, 20, 9);
        x.pin(0, NONE);
        allocated("it alone", x, 1);
        x.diagram(0, 1, 40, 0, 5);
        allocated("the diagram 0 brings it home", x, 1, 0);
    }

    private static void askingChangesNothing() {
        Supplier<Stablingroad> small = Depots.small();
        Stablingroad asked = small.get();
        asked.allocation(0);
        asked.allocationAnew(0);
        asked.lack();
        asked.whyNot(0, 0);
        check.same("9: asking changes nothing", Seen.all(asked), Seen.all(small.get()));
    }

    private static void lack() {
        Stablingroad x = new Stablingroad();
        check.same("11: nothing", x.lack(), 0);
        for (int d = 0; d < 6; d++) {
            x.diagram(0, 0, 10, 0, 100 - d);
        }
        check.same("11: no units", x.lack(), 585);
        for (int u = 0; u < 6; u++) {
            x.unit(u < 4 ? 0 : 1, 0);
        }
        check.same("11: four of six", x.lack(), 96 + 95);
        x.pin(0, 5);
        check.same("11: the heaviest cannot", x.lack(), 100 + 95);
        x.fault(0, DOOR, 0, 0);
        check.same("11: one less", x.lack(), 100 + 96 + 95);
    }
}
