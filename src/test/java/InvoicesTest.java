/** Promises 9 to 14: line, strike, make, invoice, taxAnew and used. */
public final class InvoicesTest {
    public static void main(String[] args) {
        drafts();
        draftsWrong();
        strikes();
        making();
        makingWrong();
        roundingWays();
        numbersOfAnInvoice();
        numbersWrong();
        ratesAsKnown();
        greatest();
        Checks.end("InvoicesTest");
    }

    private static void drafts() {
        InvoiceSmith smith = new InvoiceSmith();
        Checks.is("least", smith.line(0, 1, 1), 1);
        Checks.is("most", smith.line(3, 99, 9999), 2);
        for (int i = 3; i <= 6; i++) {
            Checks.is("more", smith.line(1, 2, 3), i);
        }
        Checks.fails("a seventh", Checks.STATE, () -> smith.line(1, 2, 3));
        Checks.fails("wrong ahead of a seventh", Checks.ARGUMENT, () -> smith.line(1, 2, 0));
        Checks.fails("no such kind ahead of a seventh", Checks.INDEX, () -> smith.line(4, 2, 3));
        smith.make(0);
        Checks.is("lines", smith.invoice(0, 2), 6);
        Checks.is("sum", smith.invoice(0, 3), 1 + 99 * 9999 + 4 * 6);
        Checks.is("draft is empty then", smith.line(0, 1, 1), 1);
    }

    private static void draftsWrong() {
        InvoiceSmith smith = new InvoiceSmith();
        for (int wrong : new int[] {-1, 4, Integer.MIN_VALUE, Integer.MAX_VALUE}) {
            Checks.fails("kind", Checks.INDEX, () -> smith.line(wrong, 1, 1));
            Checks.fails("kind ahead of the rest", Checks.INDEX, () -> smith.line(wrong, 0, 0));
        }
        for (int wrong : new int[] {-1, 0, 100, Integer.MIN_VALUE, Integer.MAX_VALUE}) {
            Checks.fails("quantity", Checks.ARGUMENT, () -> smith.line(0, wrong, 1));
        }
        for (int wrong : new int[] {-1, 0, 10000, Integer.MIN_VALUE, Integer.MAX_VALUE}) {
            Checks.fails("price", Checks.ARGUMENT, () -> smith.line(0, 1, wrong));
        }
        Checks.is("nothing was put", smith.line(0, 1, 1), 1);
    }

    private static void strikes() {
        InvoiceSmith smith = new InvoiceSmith();
        Checks.fails("none to strike", Checks.INDEX, () -> smith.strike(0));
        Checks.read(smith, 0, "{*{k}:{q}*{p} *}");
        for (int i = 1; i <= 6; i++) {
            smith.line(i % 4, i, 10 * i);
        }
        for (int wrong : new int[] {-1, 6, Integer.MIN_VALUE, Integer.MAX_VALUE}) {
            Checks.fails("strike", Checks.INDEX, () -> smith.strike(wrong));
        }
        Checks.is("the last", smith.strike(5), 5);
        Checks.fails("the last again", Checks.INDEX, () -> smith.strike(5));
        Checks.is("the first", smith.strike(0), 4);
        Checks.is("one within", smith.strike(1), 3);
        Checks.is("put behind", smith.line(3, 9, 9), 4);
        smith.make(0);
        Checks.is("what is left", Checks.write(smith, 0, 0), "2:2*20 0:4*40 1:5*50 3:9*9 ");
        smith.line(0, 1, 1);
        Checks.is("the only one", smith.strike(0), 0);
        Checks.fails("empty again", Checks.STATE, () -> smith.make(0));
    }

    private static void making() {
        InvoiceSmith smith = new InvoiceSmith();
        for (int i = 0; i < 30; i++) {
            smith.line(0, 1, i + 1);
            Checks.is("make", smith.make(i % 10), i);
            smith.pass(1);
        }
        smith.line(0, 1, 1);
        Checks.fails("one too many", Checks.STATE, () -> smith.make(0));
        Checks.fails("no such client ahead of too many", Checks.INDEX, () -> smith.make(10));
        Checks.is("draft stays", smith.line(0, 1, 1), 2);
        for (int i = 0; i < 30; i++) {
            Checks.is("client", smith.invoice(i, 0), i % 10);
            Checks.is("day", smith.invoice(i, 1), i);
            Checks.is("sum", smith.invoice(i, 3), i + 1);
        }
        Checks.fails("no more", Checks.INDEX, () -> smith.invoice(30, 0));
    }

    private static void makingWrong() {
        InvoiceSmith smith = new InvoiceSmith();
        for (int wrong : new int[] {-1, 10, Integer.MIN_VALUE, Integer.MAX_VALUE}) {
            Checks.fails("client, empty draft", Checks.INDEX, () -> smith.make(wrong));
        }
        Checks.fails("empty draft", Checks.STATE, () -> smith.make(9));
        smith.line(0, 1, 1);
        Checks.fails("client", Checks.INDEX, () -> smith.make(10));
        Checks.is("draft stays", smith.line(0, 1, 1), 2);
        Checks.is("first", smith.make(9), 0);
        Checks.fails("empty again", Checks.STATE, () -> smith.make(9));
        Checks.fails("not made", Checks.INDEX, () -> smith.taxAnew(1));
    }

    private static void taxes(int way, int[][] rates, int[][] lines, int due) {
        InvoiceSmith smith = new InvoiceSmith();
        smith.round(0, way);
        for (int[] rate : rates) {
            smith.rate(0, rate[0], rate[1], 0);
        }
        for (int[] line : lines) {
            smith.line(line[0], line[1], line[2]);
        }
        smith.make(0);
        Checks.is("tax, way " + way, smith.invoice(0, 4), due);
        Checks.is("tax anew, way " + way, smith.taxAnew(0), due);
    }

    private static void roundingWays() {
        int[][] rates = {{0, 15}, {1, 16}};
        int[][] lines = {{0, 1, 3}, {1, 1, 3}, {0, 3, 1}};
        taxes(InvoiceSmith.BY_LINE, rates, lines, 0);
        taxes(InvoiceSmith.BY_KIND, rates, lines, 1);
        taxes(InvoiceSmith.BY_ALL, rates, lines, 1);
        int[][] halves = {{0, 50}, {1, 30}};
        int[][] small = {{0, 1, 1}, {0, 1, 1}, {1, 1, 2}};
        taxes(InvoiceSmith.BY_LINE, halves, small, 3);
        taxes(InvoiceSmith.BY_KIND, halves, small, 2);
        taxes(InvoiceSmith.BY_ALL, halves, small, 2);
        int[][] nearly = {{0, 49}, {3, 1}};
        int[][] two = {{0, 1, 1}, {3, 1, 1}};
        taxes(InvoiceSmith.BY_LINE, nearly, two, 0);
        taxes(InvoiceSmith.BY_KIND, nearly, two, 0);
        taxes(InvoiceSmith.BY_ALL, nearly, two, 1);
        for (int way = 0; way < 3; way++) {
            int[][] one = {{2, 1, 1}};
            taxes(way, new int[][] {{2, 49}}, one, 0);
            taxes(way, new int[][] {{2, 50}}, one, 1);
            taxes(way, new int[][] {{2, 100}}, one, 1);
            taxes(way, new int[0][], one, 0);
        }
        for (int price = 1; price < 400; price += 3) {
            InvoiceSmith smith = new InvoiceSmith();
            smith.rate(0, 0, 50, 0);
            Checks.makeOneLine(smith, 0, 0, 1, price);
            Checks.is("a half is rounded up", smith.invoice(0, 4), (price + 1) / 2);
        }
    }

    private static void numbersOfAnInvoice() {
        InvoiceSmith smith = new InvoiceSmith();
        smith.client(7, 2);
        smith.round(2, InvoiceSmith.BY_KIND);
        smith.rate(2, 1, 10, 0);
        smith.pass(12);
        smith.line(1, 2, 50);
        smith.line(1, 1, 25);
        smith.line(0, 1, 1);
        smith.make(7);
        int[] due = {7, 12, 3, 126, 13, 13, 2, 1};
        for (int what = 0; what < due.length; what++) {
            Checks.is("what " + what, smith.invoice(0, what), due[what]);
        }
        smith.rate(2, 1, 20, 0);
        smith.settle(2);
        Checks.is("taxes as made", smith.invoice(0, 4), 13);
        Checks.is("taxes with notes", smith.invoice(0, 5), 25);
        smith.client(7, 3);
        smith.round(2, InvoiceSmith.BY_ALL);
        smith.pass(1);
        Checks.is("day stays", smith.invoice(0, 1), 12);
        Checks.is("place stays", smith.invoice(0, 6), 2);
        Checks.is("way stays", smith.invoice(0, 7), 1);
    }

    private static void numbersWrong() {
        InvoiceSmith smith = new InvoiceSmith();
        Checks.fails("none yet, wrong what", Checks.INDEX, () -> smith.invoice(0, -1));
        smith.line(0, 1, 1);
        smith.line(0, 1, 1);
        smith.make(0);
        for (int wrong : new int[] {-1, 1, 30, 31, Integer.MIN_VALUE, Integer.MAX_VALUE}) {
            Checks.fails("invoice", Checks.INDEX, () -> smith.invoice(wrong, 0));
            Checks.fails("invoice ahead of what", Checks.INDEX, () -> smith.invoice(wrong, 8));
            Checks.fails("taxAnew", Checks.INDEX, () -> smith.taxAnew(wrong));
            Checks.fails("used, invoice", Checks.INDEX, () -> smith.used(wrong, 0));
        }
        for (int wrong : new int[] {-1, 8, Integer.MIN_VALUE, Integer.MAX_VALUE}) {
            Checks.fails("what", Checks.ARGUMENT, () -> smith.invoice(0, wrong));
        }
        for (int wrong : new int[] {-1, 2, 5, 6, Integer.MIN_VALUE, Integer.MAX_VALUE}) {
            Checks.fails("used, line", Checks.INDEX, () -> smith.used(0, wrong));
        }
        Checks.is("used by none", smith.used(0, 1), InvoiceSmith.NONE);
    }

    private static void ratesAsKnown() {
        InvoiceSmith smith = new InvoiceSmith();
        smith.client(1, 1);
        smith.rate(1, 0, 10, 0);
        smith.rate(1, 1, 20, 5);
        smith.rate(0, 2, 90, 0);
        smith.pass(5);
        smith.line(1, 1, 100);
        smith.line(0, 1, 100);
        smith.line(2, 1, 100);
        smith.line(1, 1, 200);
        smith.make(1);
        Checks.is("taxed", smith.invoice(0, 4), 20 + 10 + 40);
        Checks.is("used 0", smith.used(0, 0), 1);
        Checks.is("used 1", smith.used(0, 1), 0);
        Checks.is("used 2", smith.used(0, 2), InvoiceSmith.NONE);
        Checks.is("used 3", smith.used(0, 3), 1);
        Checks.is("anew, alike", smith.taxAnew(0), 70);
        smith.rate(1, 1, 30, 6);
        Checks.is("told for a later day", smith.taxAnew(0), 70);
        smith.rate(1, 2, 50, 4);
        Checks.is("told for a day gone by", smith.taxAnew(0), 120);
        smith.rate(1, 1, 0, 5);
        Checks.is("told anew for that day", smith.taxAnew(0), 60);
        smith.client(1, 0);
        smith.round(1, InvoiceSmith.BY_ALL);
        smith.pass(1);
        Checks.is("another place now", smith.taxAnew(0), 60);
        Checks.is("taxed still", smith.invoice(0, 4), 70);
        Checks.is("used still", smith.used(0, 0), 1);
        Checks.is("used none still", smith.used(0, 2), InvoiceSmith.NONE);
    }

    private static void greatest() {
        for (int way = 0; way < 3; way++) {
            InvoiceSmith smith = new InvoiceSmith();
            smith.round(0, way);
            smith.rate(0, 3, 100, 0);
            for (int i = 0; i < 6; i++) {
                smith.line(3, 99, 9999);
            }
            smith.make(0);
            Checks.is("greatest sum", smith.invoice(0, 3), 5939406);
            Checks.is("greatest tax", smith.invoice(0, 4), 5939406);
            Checks.read(smith, 0, "{g9}");
            Checks.is("greatest of all", Checks.write(smith, 0, 0), " 11878812");
        }
    }
}
