import java.util.NoSuchElementException;

/** Promises 5 (rack), 6 (removeRack), 7 (reagent) and 17 (volume). */
public final class PlacesTest {
    private static final int MIN = Integer.MIN_VALUE;
    private static final int MAX = Integer.MAX_VALUE;
    private static final Check CHECK = new Check();

    public static void main(String[] args) {
        racks();
        wrongRacks();
        takenSlots();
        racksOfOpenOrders();
        reagents();
        reservedReagents();
        wrongVolumes();
        CHECK.end();
    }

    private static void racks() {
        SampleAnalyser x = new SampleAnalyser();
        x.rack(0, 1, 0, 0);
        x.rack(5, 999999, 1, 100000);
        CHECK.due("volume(0, 0)", x.volume(0, 0), 0);
        CHECK.due("volume(0, 5)", x.volume(0, 5), 100000);
        CHECK.due("removeRack(5)", x.removeRack(5), 100000);
        CHECK.refuses("removeRack(5)", NoSuchElementException.class, () -> x.removeRack(5));
        CHECK.refuses("volume(0, 5)", NoSuchElementException.class, () -> x.volume(0, 5));
        CHECK.due("removeRack(0)", x.removeRack(0), 0);
        x.rack(1, 999999, 0, 8);
        CHECK.due("volume(0, 1)", x.volume(0, 1), 8);
    }

    private static void wrongRacks() {
        SampleAnalyser x = new SampleAnalyser();
        x.rack(0, 5, 0, 10);
        for (int wrong : new int[] {-1, 6, MIN, MAX}) {
            CHECK.refusesArgument("rack(" + wrong + ")", () -> x.rack(wrong, 1, 0, 1));
            CHECK.refusesArgument("removeRack(" + wrong + ")", () -> x.removeRack(wrong));
            CHECK.refusesArgument("volume(0, " + wrong + ")", () -> x.volume(0, wrong));
        }
        for (int wrong : new int[] {-1, 0, 1000000, MIN, MAX}) {
            CHECK.refusesArgument("rack of code " + wrong, () -> x.rack(1, wrong, 0, 1));
        }
        for (int wrong : new int[] {-1, 2, MIN, MAX}) {
            CHECK.refusesArgument("rack of kind " + wrong, () -> x.rack(1, 1, wrong, 1));
        }
        for (int wrong : new int[] {-1, 100001, MIN, MAX}) {
            CHECK.refusesArgument("rack of volume " + wrong, () -> x.rack(1, 1, 0, wrong));
            CHECK.refusesArgument("a taken slot, volume " + wrong, () -> x.rack(0, 1, 0, wrong));
        }
        CHECK.refuses("volume(0, 1)", NoSuchElementException.class, () -> x.volume(0, 1));
    }

    private static void takenSlots() {
        SampleAnalyser x = new SampleAnalyser();
        x.rack(0, 5, 0, 10);
        CHECK.refusesState("a taken slot", () -> x.rack(0, 6, 0, 20));
        CHECK.refusesState("the same again", () -> x.rack(0, 5, 0, 20));
        CHECK.refusesState("a code that is in a slot", () -> x.rack(1, 5, 0, 20));
        CHECK.due("volume(0, 0)", x.volume(0, 0), 10);
        x.removeRack(0);
        x.rack(1, 5, 0, 20);
        x.rack(0, 6, 1, 30);
        CHECK.due("volume(0, 0)", x.volume(0, 0), 30);
    }

    private static void racksOfOpenOrders() {
        SampleAnalyser x = new SampleAnalyser();
        Setup.plain(x, 0);
        x.rack(2, 5, 0, 15);
        x.rack(3, 6, 0, 15);
        x.order(5, 0, false);
        CHECK.refusesState("removeRack, waiting", () -> x.removeRack(2));
        CHECK.due("removeRack of another code", x.removeRack(3), 15);
        x.step();
        CHECK.refusesState("removeRack, running", () -> x.removeRack(2));
        Setup.steps(x, 2);
        x.order(5, 0, false);
        x.step();
        CHECK.due("the second order fails", x.state(1, 0), 3);
        CHECK.due("removeRack, released and failed", x.removeRack(2), 5);
    }

    private static void reagents() {
        SampleAnalyser x = new SampleAnalyser();
        x.reagent(0, 0, 0, 0);
        x.reagent(7, 5, 100000, MAX);
        CHECK.due("volume(1, 0)", x.volume(1, 0), 0);
        CHECK.due("volume(2, 0)", x.volume(2, 0), 0);
        CHECK.due("volume(1, 7)", x.volume(1, 7), 100000);
        CHECK.due("volume(2, 7)", x.volume(2, 7), 0);
        x.reagent(7, 1, 3, 1);
        CHECK.due("volume(1, 7) of what came in its place", x.volume(1, 7), 3);
        for (int wrong : new int[] {-1, 8, MIN, MAX}) {
            CHECK.refusesArgument("reagent at " + wrong, () -> x.reagent(wrong, 0, 1, 1));
        }
        for (int wrong : new int[] {-1, 6, MIN, MAX}) {
            CHECK.refusesArgument("reagent of kind " + wrong, () -> x.reagent(1, wrong, 1, 1));
        }
        for (int wrong : new int[] {-1, 100001, MIN, MAX}) {
            CHECK.refusesArgument("reagent of volume " + wrong, () -> x.reagent(1, 0, wrong, 1));
        }
        for (int wrong : new int[] {-1, MIN}) {
            CHECK.refusesArgument("reagent that expires at " + wrong, () -> x.reagent(1, 0, 1, wrong));
        }
        CHECK.refuses("volume(1, 1)", NoSuchElementException.class, () -> x.volume(1, 1));
        CHECK.refuses("volume(2, 1)", NoSuchElementException.class, () -> x.volume(2, 1));
    }

    private static void reservedReagents() {
        SampleAnalyser x = new SampleAnalyser();
        Setup.withReagent(x, 0, 2, 40, 2);
        x.rack(0, 5, 0, 100);
        x.reagent(4, 2, 100, 9);
        x.reagent(5, 3, 100, 9);
        x.order(5, 0, false);
        x.reagent(4, 2, 90, 9);
        x.step();
        CHECK.due("reserved", x.volume(2, 4), 40);
        CHECK.due("not yet taken", x.volume(1, 4), 90);
        CHECK.refusesState("reagent at a reserved one", () -> x.reagent(4, 2, 50, 9));
        CHECK.refusesArgument("reagent at a reserved one, wrong", () -> x.reagent(4, 6, 50, 9));
        x.reagent(5, 1, 50, 9);
        x.step();
        CHECK.due("still reserved", x.volume(2, 4), 40);
        x.step();
        CHECK.due("nothing reserved", x.volume(2, 4), 0);
        CHECK.due("taken", x.volume(1, 4), 50);
        x.reagent(4, 2, 7, 9);
        CHECK.due("volume(1, 4)", x.volume(1, 4), 7);
    }

    private static void wrongVolumes() {
        SampleAnalyser x = new SampleAnalyser();
        for (int wrong : new int[] {-1, 3, MIN, MAX}) {
            CHECK.refusesArgument("volume(" + wrong + ", 0)", () -> x.volume(wrong, 0));
        }
        for (int wrong : new int[] {-1, 8, MIN, MAX}) {
            CHECK.refusesArgument("volume(1, " + wrong + ")", () -> x.volume(1, wrong));
            CHECK.refusesArgument("volume(2, " + wrong + ")", () -> x.volume(2, wrong));
        }
        CHECK.refusesArgument("volume(0, 6)", () -> x.volume(0, 6));
        CHECK.refuses("volume(1, 6)", NoSuchElementException.class, () -> x.volume(1, 6));
    }
}
