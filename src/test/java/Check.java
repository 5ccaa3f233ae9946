/** Counts answers that are not the ones that are due; a test ends with exit code 1 if there was one. */
final class Check {
    private final String test;
    private int checks;
    private int wrong;

    Check(String test) {
        this.test = test;
    }

    void same(String call, long due, long got) {
        checks++;
        if (due != got) {
            tell(call + " answered " + got + ", due is " + due);
        }
    }

    void same(String call, double due, double got) {
        checks++;
        if (Double.compare(due, got) != 0) {
            tell(call + " answered " + got + ", due is " + due);
        }
    }

    void same(String call, String due, String got) {
        checks++;
        if (!due.equals(got)) {
            tell(call + " answered " + got + ", due is " + due);
        }
    }

    void holds(String what, boolean isSo) {
        checks++;
        if (!isSo) {
            tell(what + " does not hold");
        }
    }

    /** The call has to throw exactly this kind of exception, no class below or above it. */
    void fails(String call, Class<? extends RuntimeException> due, Runnable body) {
        checks++;
        try {
            body.run();
            tell(call + " threw nothing, due is " + due.getName());
        } catch (RuntimeException thrown) {
            if (thrown.getClass() != due) {
                tell(call + " threw " + thrown + ", due is " + due.getName());
            }
        }
    }

    void noIndex(String call, Runnable body) {
        fails(call, IndexOutOfBoundsException.class, body);
    }

    void noArgument(String call, Runnable body) {
        fails(call, IllegalArgumentException.class, body);
    }

    void noState(String call, Runnable body) {
        fails(call, IllegalStateException.class, body);
    }

    void end() {
        System.out.println(test + ": " + checks + " checks, " + wrong + " wrong");
        if (wrong > 0 || checks == 0) {
            System.exit(1);
        }
    }

    private void tell(String what) {
        wrong++;
        if (wrong <= 20) {
            System.out.println(test + ": " + what);
        }
    }
}
