/** Counts the answers of one test that are not the ones that are due. */
final class Check {
    interface Call {
        long answer();
    }

    private int asked = 0;
    private int wrong = 0;

    void due(String what, long want, long got) {
        asked++;
        if (got != want) {
            wrong++;
            System.out.println(what + " answered " + got + ", due is " + want);
        }
    }

    void dueDouble(String what, double want, double got) {
        asked++;
        if (Double.compare(got, want) != 0) {
            wrong++;
            System.out.println(what + " answered " + got + ", due is " + want);
        }
    }

    /** The call is to throw just this class (the machine throws classes below it), and to change nothing. */
    void refused(String what, Class<? extends RuntimeException> kind, MoonGate garden, Call call) {
        asked++;
        long before = garden.digest();
        String got;
        try {
            got = "answered " + call.answer();
        } catch (RuntimeException e) {
            got = e.getClass().getSimpleName();
        }
        if (!got.equals(kind.getSimpleName())) {
            wrong++;
            System.out.println(what + ": " + got + ", due is " + kind.getSimpleName());
        }
        if (garden.digest() != before) {
            wrong++;
            System.out.println(what + " changed something");
        }
    }

    void outside(String what, MoonGate garden, Call call) {
        refused(what, IndexOutOfBoundsException.class, garden, call);
    }

    void senseless(String what, MoonGate garden, Call call) {
        refused(what, IllegalArgumentException.class, garden, call);
    }

    void untimely(String what, MoonGate garden, Call call) {
        refused(what, IllegalStateException.class, garden, call);
    }

    void end(String test) {
        if (asked == 0) {
            wrong++;
        }
        System.out.println(test + ": " + asked + " answers asked, " + wrong + " not as due");
        if (wrong != 0) {
            System.exit(1);
        }
    }
}
