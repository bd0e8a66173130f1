/** What the tests share: it prints each answer that is not the one due, and counts them. */
final class Check {
    interface Call {
        Object make();
    }

    private static int wrong;

    private Check() {
    }

    /** What a call answers: its value's text, or the name of what the class itself throws. */
    static String answer(Call call) {
        try {
            return String.valueOf(call.make());
        } catch (RuntimeException e) {
            String thrower = e.getStackTrace()[0].getClassName();
            String name = e.getClass().getSimpleName();
            return thrower.equals("HousePlans") ? name : name + " of " + thrower;
        }
    }

    static void due(Object due, String what, Call call) {
        String got = answer(call);
        if (!got.equals(String.valueOf(due))) {
            wrong++;
            System.out.println(what + " answered " + got + ", due is " + due);
        }
    }

    /** A call whose arguments name no drawing, permit or print. */
    static void missing(String what, Call call) {
        due("IndexOutOfBoundsException", what, call);
    }

    /** A call with another argument out of range. */
    static void outOfRange(String what, Call call) {
        due("IllegalArgumentException", what, call);
    }

    /** A call that the state forbids. */
    static void forbidden(String what, Call call) {
        due("IllegalStateException", what, call);
    }

    static void end() {
        if (wrong > 0) {
            System.out.println(wrong + " wrong");
            System.exit(1);
        }
    }
}
