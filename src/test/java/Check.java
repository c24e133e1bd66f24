/** Counts and prints the answers that are not the ones that are due. */
final class Check {
    interface Call {
        void run();
    }

    private final String name;
    private int wrong;

    Check(String name) {
        this.name = name;
    }

    void same(String call, long got, long due) {
        if (got != due) {
            wrong("" + call + " answered " + got + ", due is " + due);
        }
    }

    void same(String call, boolean got, boolean due) {
        same(call, got ? 1 : 0, due ? 1 : 0);
    }

    void same(String call, String got, String due) {
        if (!got.equals(due)) {
            wrong(call + "\n  answered " + got + "\n  due is   " + due);
        }
    }

    void noCell(String call, Call made) {
        throwsJust(call, IndexOutOfBoundsException.class, made);
    }

    void outOfRange(String call, Call made) {
        throwsJust(call, IllegalArgumentException.class, made);
    }

    void notNow(String call, Call made) {
        throwsJust(call, IllegalStateException.class, made);
    }

    private void throwsJust(String call, Class<?> due, Call made) {
        Class<?> got = null;
        try {
            made.run();
        } catch (RuntimeException e) {
            got = e.getClass();
        }
        if (got != due) {
            wrong(call + " threw " + (got == null ? "nothing" : got.getName()) + ", due is " + due.getName());
        }
    }

    void wrong(String text) {
        wrong++;
        System.out.println(name + ": " + text);
    }

    void end() {
        if (wrong != 0) {
            System.out.println(name + ": " + wrong + " wrong");
            System.exit(1);
        }
    }

    /** What can be asked of an object without many calls, in one text: some 300 calls. */
    static String stateOf(IceLand x) {
        StringBuilder text = new StringBuilder();
        for (int cell = 0; cell < 12; cell++) {
            text.append("\n  cell ").append(cell).append(':');
            for (int what = 0; what <= 9; what++) {
                text.append(' ').append(x.cellIs(cell, what));
            }
            text.append(" layers");
            for (int year = 0; year <= 2; year++) {
                text.append(' ').append(x.layer(cell, year));
            }
        }
        text.append("\n  totals:");
        for (int what = 0; what <= 5; what++) {
            text.append(' ').append(x.total(what));
        }
        text.append(" anew ").append(x.iceAnew()).append(" floods ").append(x.floods());
        return text.toString();
    }
}
