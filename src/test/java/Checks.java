import java.util.concurrent.Callable;

/** What the tests share: checks that tell what is wrong and go on, and words for common calls. */
final class Checks {
    static final Class<?> INDEX = IndexOutOfBoundsException.class;
    static final Class<?> ARGUMENT = IllegalArgumentException.class;
    static final Class<?> STATE = IllegalStateException.class;

    /** What one test tells of at most: the first wrong answers are those to look at. */
    private static final int MOST_TOLD = 20;

    private static int done;
    private static int wrong;
    private static String test = "";
    private static int toldOfTest;

    private Checks() {
    }

    /** What is found wrong from now on is told with the name of this test. */
    static void begin(String name) {
        test = name.isEmpty() ? "" : name + ": ";
        toldOfTest = 0;
    }

    private static void tell(String found) {
        wrong++;
        toldOfTest++;
        if (toldOfTest <= MOST_TOLD) {
            System.out.println(test + found);
        }
    }

    static void is(String what, long got, long due) {
        done++;
        if (got != due) {
            tell(what + ": answered " + got + ", due is " + due);
        }
    }

    static void is(String what, String got, String due) {
        done++;
        if (!got.equals(due)) {
            tell(what + ": answered [" + got + "], due is [" + due + "]");
        }
    }

    /** A test must check something; an exception that it lets out is told, and the other tests go on. */
    static void isTested(Runnable body) {
        int before = done;
        try {
            body.run();
        } catch (RuntimeException e) {
            tell("threw " + e);
        }
        if (done == before) {
            tell("checked nothing");
        }
    }

    /** The exception must be thrown by a throw of the class's own code, and be of exactly that class. */
    static void fails(String what, Class<?> due, Callable<?> call) {
        done++;
        try {
            Object got = call.call();
            tell(what + ": answered " + got + ", due is " + due.getSimpleName());
        } catch (Exception e) {
            boolean own = e.getStackTrace().length > 0
                    && e.getStackTrace()[0].getClassName().startsWith("InvoiceSmith");
            if (e.getClass() != due || !own) {
                tell(what + ": threw " + e + ", due is " + due.getSimpleName());
            }
        }
    }

    static void end(String name) {
        System.out.println(name + ": " + done + " checks, " + wrong + " wrong");
        if (done == 0 || wrong != 0) {
            System.exit(1);
        }
    }

    /** Packs up to 8 signs as type takes them. */
    static long pack(String signs) {
        long packed = 0;
        for (int i = signs.length() - 1; i >= 0; i--) {
            packed = packed << 8 | signs.charAt(i);
        }
        return packed;
    }

    /** Types a text of any length; returns what the last call answered. */
    static int typeText(InvoiceSmith smith, String text) {
        int size = smith.type(0);
        for (int i = 0; i < text.length(); i += 8) {
            size = smith.type(pack(text.substring(i, Math.min(i + 8, text.length()))));
        }
        return size;
    }

    static int read(InvoiceSmith smith, int template, String text) {
        typeText(smith, text);
        return smith.template(template);
    }

    /** Returns what a new object answers to a text read as its template 0. */
    static int readAlone(String text) {
        return read(new InvoiceSmith(), 0, text);
    }

    static void faults(String text, int place) {
        is("FAULT of " + text, readAlone(text), -1 - place);
    }

    static void parts(String text, int parts) {
        is("PARTs of " + text, readAlone(text), parts);
    }

    /** Returns all that is written, and checks that it is blank behind its end. */
    static String write(InvoiceSmith smith, int invoice, int template) {
        int length = smith.length(invoice, template);
        StringBuilder text = new StringBuilder();
        for (int i = 0; i < length; i++) {
            text.append(smith.written(invoice, template, i));
        }
        is("the sign behind the end", smith.written(invoice, template, length), ' ');
        is("the sign far behind the end", smith.written(invoice, template, Integer.MAX_VALUE), ' ');
        return text.toString();
    }

    static int makeOneLine(InvoiceSmith smith, int client, int kind, int quantity, int price) {
        smith.line(kind, quantity, price);
        return smith.make(client);
    }
}
