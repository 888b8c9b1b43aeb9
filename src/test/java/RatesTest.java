/** Promises 4, 5, 6, 7 and 8: pass, rate, telling, round and client. */
public final class RatesTest {
    private static final int[] NOT_OF_FOUR = {-1, 4, 5, Integer.MIN_VALUE, Integer.MAX_VALUE};

    public static void main(String[] args) {
        passing();
        telling();
        tellingWrong();
        tellingFull();
        rounding();
        clients();
        Checks.end("RatesTest");
    }

    private static void passing() {
        InvoiceSmith smith = new InvoiceSmith();
        Checks.is("least", smith.pass(1), 1);
        Checks.is("most", smith.pass(99), 100);
        for (int days : new int[] {0, -1, 100, Integer.MIN_VALUE, Integer.MAX_VALUE}) {
            Checks.fails("pass " + days, Checks.ARGUMENT, () -> smith.pass(days));
        }
        Checks.is("more", smith.pass(5), 105);
        for (int i = 1; i <= 400; i++) {
            Checks.is("no last day", smith.pass(99), 105 + 99 * i);
        }
        smith.rate(0, 0, 10, 9999);
        Checks.makeOneLine(smith, 0, 0, 1, 100);
        Checks.is("a day behind 9999", smith.invoice(0, 1), 105 + 99 * 400);
        Checks.is("its rate", smith.invoice(0, 4), 10);
    }

    private static void telling() {
        InvoiceSmith smith = new InvoiceSmith();
        Checks.is("first", smith.rate(1, 2, 10, 5), 0);
        Checks.is("the day ahead", smith.telling(1, 2, 4), InvoiceSmith.NONE);
        Checks.is("that day", smith.telling(1, 2, 5), 0);
        Checks.is("the day behind", smith.telling(1, 2, 6), 0);
        Checks.is("the last day", smith.telling(1, 2, 9999), 0);
        Checks.is("other place", smith.telling(2, 2, 5), InvoiceSmith.NONE);
        Checks.is("other kind", smith.telling(1, 1, 5), InvoiceSmith.NONE);
        Checks.is("swapped", smith.telling(2, 1, 5), InvoiceSmith.NONE);
        Checks.is("earlier", smith.rate(1, 2, 20, 3), 1);
        Checks.is("earlier holds ahead", smith.telling(1, 2, 4), 1);
        Checks.is("greatest day wins", smith.telling(1, 2, 5), 0);
        Checks.is("same day", smith.rate(1, 2, 30, 5), 2);
        Checks.is("latest of one day wins", smith.telling(1, 2, 5), 2);
        Checks.is("and later", smith.telling(1, 2, 100), 2);
        Checks.is("later day", smith.rate(1, 2, 0, 100), 3);
        Checks.is("the day ahead of it", smith.telling(1, 2, 99), 2);
        Checks.is("its day", smith.telling(1, 2, 100), 3);
        Checks.is("same day once more", smith.rate(1, 2, 5, 3), 4);
        Checks.is("the day of it", smith.telling(1, 2, 4), 4);
        Checks.is("ahead of all", smith.telling(1, 2, 2), InvoiceSmith.NONE);
        Checks.is("least", smith.rate(0, 0, 0, 0), 5);
        Checks.is("day 0", smith.telling(0, 0, 0), 5);
        Checks.is("most", smith.rate(3, 3, 100, 9999), 6);
        Checks.is("day 9998", smith.telling(3, 3, 9998), InvoiceSmith.NONE);
        Checks.is("day 9999", smith.telling(3, 3, 9999), 6);
    }

    private static void tellingWrong() {
        InvoiceSmith smith = new InvoiceSmith();
        for (int wrong : NOT_OF_FOUR) {
            Checks.fails("rate, place", Checks.INDEX, () -> smith.rate(wrong, 0, 0, 0));
            Checks.fails("rate, kind", Checks.INDEX, () -> smith.rate(0, wrong, 0, 0));
            Checks.fails("rate, kind ahead of the rest", Checks.INDEX, () -> smith.rate(0, wrong, -1, -1));
            Checks.fails("telling, place", Checks.INDEX, () -> smith.telling(wrong, 0, 0));
            Checks.fails("telling, kind", Checks.INDEX, () -> smith.telling(0, wrong, 0));
            Checks.fails("telling, kind ahead of the day", Checks.INDEX, () -> smith.telling(0, wrong, -1));
        }
        for (int wrong : new int[] {-1, 101, Integer.MIN_VALUE, Integer.MAX_VALUE}) {
            Checks.fails("hundredths", Checks.ARGUMENT, () -> smith.rate(0, 0, wrong, 0));
        }
        for (int wrong : new int[] {-1, 10000, Integer.MIN_VALUE, Integer.MAX_VALUE}) {
            Checks.fails("from", Checks.ARGUMENT, () -> smith.rate(0, 0, 0, wrong));
            Checks.fails("day", Checks.ARGUMENT, () -> smith.telling(0, 0, wrong));
        }
        Checks.is("nothing was told", smith.rate(0, 0, 1, 1), 0);
    }

    private static void tellingFull() {
        InvoiceSmith smith = new InvoiceSmith();
        for (int i = 0; i < 60; i++) {
            Checks.is("telling", smith.rate(i % 4, i / 4 % 4, i, i), i);
        }
        Checks.fails("one too many", Checks.STATE, () -> smith.rate(0, 0, 0, 0));
        Checks.fails("wrong ahead of too many", Checks.ARGUMENT, () -> smith.rate(0, 0, 101, 0));
        Checks.fails("no such kind ahead of too many", Checks.INDEX, () -> smith.rate(0, 4, 0, 0));
        Checks.is("the last", smith.telling(3, 2, 59), 59);
        Checks.is("another", smith.telling(0, 0, 9999), 48);
        Checks.is("and another", smith.telling(0, 0, 47), 32);
    }

    private static void rounding() {
        InvoiceSmith smith = new InvoiceSmith();
        Checks.is("at first", smith.round(2, InvoiceSmith.BY_ALL), InvoiceSmith.BY_LINE);
        Checks.is("before", smith.round(2, InvoiceSmith.BY_KIND), InvoiceSmith.BY_ALL);
        Checks.is("another place", smith.round(3, InvoiceSmith.BY_KIND), InvoiceSmith.BY_LINE);
        for (int wrong : NOT_OF_FOUR) {
            Checks.fails("place", Checks.INDEX, () -> smith.round(wrong, 0));
            Checks.fails("place ahead of way", Checks.INDEX, () -> smith.round(wrong, 3));
        }
        for (int wrong : new int[] {-1, 3, Integer.MIN_VALUE, Integer.MAX_VALUE}) {
            Checks.fails("way", Checks.ARGUMENT, () -> smith.round(2, wrong));
        }
        Checks.is("stays", smith.round(2, InvoiceSmith.BY_LINE), InvoiceSmith.BY_KIND);
        smith.client(1, 3);
        Checks.makeOneLine(smith, 1, 0, 1, 1);
        smith.round(3, InvoiceSmith.BY_ALL);
        Checks.makeOneLine(smith, 1, 0, 1, 1);
        Checks.is("way of one made ahead", smith.invoice(0, 7), InvoiceSmith.BY_KIND);
        Checks.is("way of one made from then on", smith.invoice(1, 7), InvoiceSmith.BY_ALL);
    }

    private static void clients() {
        InvoiceSmith smith = new InvoiceSmith();
        Checks.is("at first", smith.client(9, 3), 0);
        Checks.is("before", smith.client(9, 1), 3);
        Checks.is("another client", smith.client(0, 2), 0);
        for (int wrong : new int[] {-1, 10, Integer.MIN_VALUE, Integer.MAX_VALUE}) {
            Checks.fails("client", Checks.INDEX, () -> smith.client(wrong, 0));
        }
        for (int wrong : NOT_OF_FOUR) {
            Checks.fails("place", Checks.INDEX, () -> smith.client(9, wrong));
        }
        Checks.makeOneLine(smith, 9, 0, 1, 1);
        Checks.is("stays", smith.client(9, 3), 1);
        Checks.makeOneLine(smith, 9, 0, 1, 1);
        Checks.is("place of one made ahead", smith.invoice(0, 6), 1);
        Checks.is("place of one made from then on", smith.invoice(1, 6), 3);
    }
}
