import java.util.NoSuchElementException;

/** Promise 1: a new object. */
public final class NewObjectTest {
    public static void main(String[] args) {
        hasNothing();
        textIsEmpty();
        objectsAreApart();
        Check.end();
    }

    private static void hasNothing() {
        PascalMachine machine = new PascalMachine();
        Check.answers("fault of a new object", -1, () -> machine.fault());
        for (int what = 0; what <= 4; what++) {
            int asked = what;
            Check.answers("count " + what + " of a new object", 0, () -> machine.count(asked));
        }
        Check.isThrown("output of a new object", NoSuchElementException.class, () -> machine.output(0));
        Check.isThrown("run of a new object", NoSuchElementException.class, () -> machine.run());
    }

    private static void textIsEmpty() {
        PascalMachine machine = new PascalMachine();
        Check.isThrown("cut of a new object", IllegalArgumentException.class, () -> machine.cut(1));
        Check.isThrown("compile of a new object", IllegalArgumentException.class, () -> machine.compile());
        Check.answers("fault of an empty text", 0, () -> machine.fault());
        Check.answers("append to a new object", 1, () -> machine.append('b', 1));
    }

    private static void objectsAreApart() {
        PascalMachine used = Check.compiled("begin write(1) end.");
        PascalMachine fresh = new PascalMachine();
        Check.answers("run of the used object", 1, () -> used.run());
        Check.isThrown("run of the other object", NoSuchElementException.class, () -> fresh.run());
        Check.answers("text of the other object", 0, () -> fresh.count(4));
    }
}
