/** Counts and prints the answers of one test that are not as they should be. */
final class Check {
    interface Call {
        long answer();
    }

    interface Making {
        EnclosureReferee referee();
    }

    interface Asking {
        long of(EnclosureReferee referee);
    }

    private final String test;
    private int wrong = 0;
    private int checked = 0;

    Check(String test) {
        this.test = test;
    }

    void same(String what, long got, long want) {
        checked++;
        if (got != want) {
            tell(what + " answered " + got + ", due is " + want);
        }
    }

    void same(String what, boolean got, boolean want) {
        same(what, got ? 1 : 0, want ? 1 : 0);
    }

    void same(String what, String got, String want) {
        checked++;
        if (!got.equals(want)) {
            tell(what + " answered " + got + ", due is " + want);
        }
    }

    void same(String what, double got, double want) {
        checked++;
        if (got != want) {
            tell(what + " answered " + got + ", due is " + want);
        }
    }

    /** A subclass of the exception would be another one, so the class must be the very same. */
    void refused(String what, Class<? extends RuntimeException> want, Call call) {
        checked++;
        try {
            tell(what + " answered " + call.answer() + ", due is " + want.getSimpleName());
        } catch (RuntimeException e) {
            if (e.getClass() != want) {
                tell(what + " threw " + e + ", due is " + want.getSimpleName());
            }
        }
    }

    /**
     * "A method that throws an exception or returns an error code leaves the state unchanged": all that can be asked of
     * a referee that refused the call is as it is without the call.
     */
    void leavesAll(String what, Class<? extends RuntimeException> want, Making making, Asking asking) {
        EnclosureReferee asked = making.referee();
        refused(what, want, () -> asking.of(asked));
        same("what " + what + " leaves", State.of(asked), State.of(making.referee()));
    }

    /** The same for a refused round that leaves the report that is due. */
    void leavesReport(String what, String report, Making making, Asking asking) {
        EnclosureReferee asked = making.referee();
        refused(what, UnsupportedOperationException.class, () -> asking.of(asked));
        same("the report of " + what, Boards.report(asked), report);
        same("what " + what + " leaves beside the report", State.butReport(asked), State.butReport(making.referee()));
    }

    private void tell(String text) {
        wrong++;
        if (wrong <= 20) {
            System.out.println(test + ": " + text);
        }
    }

    void end() {
        System.out.println(test + ": " + checked + " checks, " + wrong + " wrong");
        if (wrong != 0) {
            System.exit(1);
        }
    }
}
