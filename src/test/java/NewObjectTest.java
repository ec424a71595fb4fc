import java.util.NoSuchElementException;

/** Promise 1: a new object. */
public final class NewObjectTest {
    public static void main(String[] args) {
        Check check = new Check();
        SampleAnalyser x = new SampleAnalyser();
        check.due("idle()", x.idle(), 0);
        for (int test = 0; test < 4; test++) {
            int t = test;
            check.due("rules(" + t + ")", x.rules(t), 0);
            check.refuses("trend(" + t + ", 0)", IndexOutOfBoundsException.class, () -> x.trend(t, 0));
            check.refusesState("order(1, " + t + ")", () -> x.order(1, t, false));
            check.due("seal(" + t + ")", x.seal(t), false);
        }
        for (int slot = 0; slot < 6; slot++) {
            int s = slot;
            check.refuses("volume(0, " + s + ")", NoSuchElementException.class, () -> x.volume(0, s));
            check.refuses("removeRack(" + s + ")", NoSuchElementException.class, () -> x.removeRack(s));
        }
        for (int position = 0; position < 8; position++) {
            int p = position;
            check.refuses("volume(1, " + p + ")", NoSuchElementException.class, () -> x.volume(1, p));
            check.refuses("volume(2, " + p + ")", NoSuchElementException.class, () -> x.volume(2, p));
        }
        for (int c = 0; c < 10; c++) {
            check.due("cuvette(" + c + ", 0)", x.cuvette(c, 0), -1);
            check.due("cuvette(" + c + ", 1)", x.cuvette(c, 1), 0);
            check.due("cuvette(" + c + ", 2)", x.cuvette(c, 2), 0);
        }
        check.refusesArgument("state(0, 0)", () -> x.state(0, 0));
        check.refuses("host(0)", IndexOutOfBoundsException.class, () -> x.host(0));
        check.due("took(0)", x.took(0), 0);
        x.clock(0);
        check.due("step()", x.step(), -1);
        check.due("idle() behind a step", x.idle(), 1);
        check.end();
    }
}
