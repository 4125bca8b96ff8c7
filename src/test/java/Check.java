/** What the tests have in common: it counts the answers that are not as due. */
final class Check {
    /** A call of the machine; its answer is looked at only where it is due. */
    interface Call {
        long answer();
    }

    private static int wrong = 0;

    private Check() {
    }

    static void equal(String what, long got, long due) {
        if (got != due) {
            report(what, String.valueOf(got), String.valueOf(due));
        }
    }

    static void isTrue(String what, boolean holds) {
        if (!holds) {
            report(what, "no", "yes");
        }
    }

    static void answers(String what, long due, Call call) {
        try {
            equal(what, call.answer(), due);
        } catch (RuntimeException e) {
            report(what, e.getClass().getSimpleName(), String.valueOf(due));
        }
    }

    static void isThrown(String what, Class<? extends RuntimeException> due, Call call) {
        try {
            report(what, String.valueOf(call.answer()), due.getSimpleName());
        } catch (RuntimeException e) {
            if (e.getClass() != due) {
                report(what, e.getClass().getSimpleName(), due.getSimpleName());
            }
        }
    }

    /** A refused call throws what is due, and leaves all that can be asked as it was. */
    static void refused(String what, Class<? extends RuntimeException> due, PascalMachine machine, Call call) {
        String before = state(machine);
        isThrown(what, due, call);
        sameState("state after " + what, machine, before);
    }

    static void sameState(String what, PascalMachine machine, String due) {
        String state = state(machine);
        if (!state.equals(due)) {
            report(what, state, due);
        }
    }

    /** All that can be asked of a machine without changing it: the fault, the counts and the output. */
    static String state(PascalMachine machine) {
        StringBuilder state = new StringBuilder("fault " + machine.fault() + ", counts");
        for (int what = 0; what <= 4; what++) {
            state.append(' ').append(machine.count(what));
        }
        state.append(", output");
        int written = machine.count(0);
        for (int index = 0; index < written; index++) {
            state.append(' ').append(machine.output(index));
        }
        return state.toString();
    }

    /** Puts a text behind the machine's text, eight characters a call. */
    static void put(PascalMachine machine, String text) {
        for (int start = 0; start < text.length(); start += 8) {
            String part = text.substring(start, Math.min(text.length(), start + 8));
            machine.append(packed(part), part.length());
        }
    }

    static long packed(String text) {
        long value = 0;
        for (char c : text.toCharArray()) {
            value = value << 8 | c;
        }
        return value;
    }

    static PascalMachine holding(String text) {
        PascalMachine machine = new PascalMachine();
        put(machine, text);
        return machine;
    }

    /** Puts another text in the place of the machine's. */
    static void replace(PascalMachine machine, String text) {
        machine.cut(machine.count(4));
        put(machine, text);
    }

    static PascalMachine compiled(String text) {
        PascalMachine machine = holding(text);
        try {
            machine.compile();
        } catch (IllegalArgumentException e) {
            report(text, "a fault at " + machine.fault(), "none");
        }
        return machine;
    }

    /** Runs a machine whose run may end with a failure. */
    static void runAnyway(PascalMachine machine) {
        try {
            machine.run();
        } catch (RuntimeException e) {
            return;
        }
    }

    static void end() {
        System.out.println(wrong == 0 ? "all answers are as due" : wrong + " answers are not as due");
        if (wrong != 0) {
            System.exit(1);
        }
    }

    private static void report(String what, String got, String due) {
        wrong++;
        System.out.println(what + ": got " + got + ", due is " + due);
    }
}
