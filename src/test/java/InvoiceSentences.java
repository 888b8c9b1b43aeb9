/** The sentences on drafts, invoices and their taxes, each with a test of its own. */
final class InvoiceSentences {
    private static final int NONE = InvoiceSmith.NONE;
    private static final int MOST_INVOICES = 30;
    private static final int MOST_LINES = 6;
    private static final int[] NO_CLIENT = {Integer.MIN_VALUE, -1, 10, 11, Integer.MAX_VALUE};

    private InvoiceSentences() {
    }

    static void tell(Document document) {
        drafts(document, "Invoices, notes");
        taxes(document, "Invoices, notes");
        line(document, "Promise 9");
        strike(document, "Promise 10");
        make(document, "Promise 11");
        invoice(document, "Promise 12");
        taxAnew(document, "Promise 13");
        used(document, "Promise 14");
    }

    private static void drafts(Document document, String heading) {
        document.says(heading, "A client, 0 to 9, has a place, 0 at first.", InvoiceSentences::tenClients);
        document.says(heading, "There is a draft of at most 6 lines,", InvoiceSentences::draftOfSix);
        document.says(heading, "each with a kind,", InvoiceSentences::eachWithAKind);
        document.says(heading, "a quantity, 1 to 99,", InvoiceSentences::eachWithAQuantity);
        document.says(heading, "and a price, 1 to 9999;", InvoiceSentences::eachWithAPrice);
        document.says(heading, "its amount is the quantity times the price.", InvoiceSentences::amounts);
        document.says(heading, "An invoice is made of the draft for a client today,", InvoiceSentences::madeToday);
        document.says(heading, "with the place that the client has,", InvoiceSentences::withThePlace);
        document.says(heading, "and the way of rounding that this has:", InvoiceSentences::withTheWay);
        document.says(heading, "numbered from 0, at most 30.", InvoiceSentences::thirtyInvoices);
    }

    private static void taxes(Document document, String heading) {
        document.says(heading, "The tax by some rates of its kinds: by line, of each line its amount times the rate,"
                + " divided by 100,", InvoiceSentences::taxByLine);
        document.says(heading, "a half and more rounded up;", InvoiceSentences::halfAndMore);
        document.says(heading, "by kind, of each kind the sum of the amounts of its lines, likewise;",
                InvoiceSentences::taxByKind);
        document.says(heading, "by all, the sum over all lines of amount times rate, likewise, once.",
                InvoiceSentences::taxByAll);
        document.says(heading, "The tax of a line is always that of it alone, by line.", InvoiceSentences::taxOfALine);
        document.says(heading, "What an invoice taxes is by the rates of its day", InvoiceSentences::ratesOfItsDay);
        document.says(heading, "as they were known when it was made.", InvoiceSentences::asKnownWhenMade);
    }

    private static void line(Document document, String heading) {
        document.says(heading, "Puts a line behind those of the draft.", InvoiceSentences::behindThose);
        document.says(heading, "quantity: 1 to 99", InvoiceSentences::quantityInRange);
        document.says(heading, "price: 1 to 9999", InvoiceSentences::priceInRange);
        document.says(heading, "Returns how many lines it has then.", InvoiceSentences::linesThen);
        document.says(heading, "Throws IndexOutOfBoundsException as told", InvoiceSentences::lineOfNoKind);
        document.says(heading, "Throws IllegalArgumentException if quantity or price is out of range",
                InvoiceSentences::lineOutOfRange);
        document.says(heading, "Throws IllegalStateException if there are 6", InvoiceSentences::seventhLine);
    }

    private static void strike(Document document, String heading) {
        document.says(heading, "Takes a line out of the draft.", InvoiceSentences::takesOut);
        document.says(heading, "line: from 0", InvoiceSentences::strikeFrom0);
        document.says(heading, "Returns how many lines it has then.", InvoiceSentences::linesLeft);
        document.says(heading, "Throws IndexOutOfBoundsException if there is no such line",
                InvoiceSentences::strikeOfNone);
    }

    private static void make(Document document, String heading) {
        document.says(heading, "Makes an invoice of the draft, which is empty then.", InvoiceSentences::emptyThen);
        document.says(heading, "Returns its number.", InvoiceSentences::itsNumber);
        document.says(heading, "Throws IndexOutOfBoundsException as told", InvoiceSentences::makeForNone);
        document.says(heading, "Throws IllegalStateException if the draft is empty,", InvoiceSentences::emptyDraft);
        document.says(heading, "or there are 30", InvoiceSentences::makeTooMany);
    }

    private static void invoice(Document document, String heading) {
        document.says(heading, "Returns a number of an invoice.", InvoiceSentences::numberOfEach);
        document.says(heading, "what: 0 its client,", InvoiceSentences::whatClient);
        document.says(heading, "1 its day,", InvoiceSentences::whatDay);
        document.says(heading, "2 how many lines,", InvoiceSentences::whatLines);
        document.says(heading, "3 the sum of the amounts,", InvoiceSentences::whatSum);
        document.says(heading, "4 what it taxes,", InvoiceSentences::whatTax);
        document.says(heading, "5 what it and its notes tax,", InvoiceSentences::whatTaxWithNotes);
        document.says(heading, "6 its place,", InvoiceSentences::whatPlace);
        document.says(heading, "7 its way of rounding", InvoiceSentences::whatWay);
        document.says(heading, "Throws IndexOutOfBoundsException as told", InvoiceSentences::invoiceOfNone);
        document.says(heading, "Throws IllegalArgumentException if what is out of range",
                InvoiceSentences::whatOutOfRange);
    }

    private static void taxAnew(Document document, String heading) {
        document.says(heading, "Returns the tax of an invoice by the rates of its day,",
                InvoiceSentences::anewByRatesOfItsDay);
        document.says(heading, "as is known now.", InvoiceSentences::anewAsKnownNow);
        document.says(heading, "Throws IndexOutOfBoundsException as told", InvoiceSentences::taxAnewOfNone);
    }

    private static void used(Document document, String heading) {
        document.says(heading, "Returns the telling by which a line of an invoice was taxed.",
                InvoiceSentences::wasTaxedBy);
        document.says(heading, "line: from 0", InvoiceSentences::usedFrom0);
        document.says(heading, "Returns its number; NONE if there was none.", InvoiceSentences::usedOrNone);
        document.says(heading, "Throws IndexOutOfBoundsException as told,", InvoiceSentences::usedOfNone);
        document.says(heading, "or if there is no such line", InvoiceSentences::usedOfNoLine);
    }

    private static InvoiceSmith withDraft(int lines) {
        InvoiceSmith smith = new InvoiceSmith();
        for (int i = 0; i < lines; i++) {
            smith.line(i % 4, i + 1, 10 * (i + 1));
        }
        return smith;
    }

    private static InvoiceSmith withInvoices(int count) {
        InvoiceSmith smith = new InvoiceSmith();
        for (int i = 0; i < count; i++) {
            Checks.makeOneLine(smith, i % 10, 0, 1, i + 1);
        }
        return smith;
    }

    /** Makes the draft an invoice and returns its lines as it is written. */
    private static String lines(InvoiceSmith smith) {
        int invoice = smith.make(0);
        Checks.read(smith, 0, "{*{k}:{q}*{p}={a} *}");
        return Checks.write(smith, invoice, 0);
    }

    /** Makes an invoice of lines, each of 1 times a price, and returns what it taxes. */
    private static int tax(int way, int[] hundredths, int[][] kindsAndPrices) {
        InvoiceSmith smith = new InvoiceSmith();
        smith.round(0, way);
        for (int kind = 0; kind < hundredths.length; kind++) {
            smith.rate(0, kind, hundredths[kind], 0);
        }
        for (int[] line : kindsAndPrices) {
            smith.line(line[0], 1, line[1]);
        }
        int invoice = smith.make(0);
        Checks.is("anew, alike", smith.taxAnew(invoice), smith.invoice(invoice, 4));
        return smith.invoice(invoice, 4);
    }

    // ---- terms: drafts and invoices

    private static void tenClients() {
        InvoiceSmith smith = new InvoiceSmith();
        for (int client = 0; client < 10; client++) {
            Checks.is("its invoice", Checks.makeOneLine(smith, client, 0, 1, 1), client);
            Checks.is("its place in it", smith.invoice(client, 6), 0);
            Checks.is("its place", smith.client(client, 1), 0);
        }
        for (int wrong : NO_CLIENT) {
            Checks.fails("client " + wrong, Checks.INDEX, () -> smith.client(wrong, 0));
            Checks.fails("make " + wrong, Checks.INDEX, () -> smith.make(wrong));
        }
    }

    private static void draftOfSix() {
        InvoiceSmith smith = new InvoiceSmith();
        for (int i = 1; i <= MOST_LINES; i++) {
            Checks.is("line " + i, smith.line(0, 1, i), i);
        }
        Checks.fails("a seventh", Checks.STATE, () -> smith.line(0, 1, 7));
        Checks.is("the six", lines(smith), "0:1*1=1 0:1*2=2 0:1*3=3 0:1*4=4 0:1*5=5 0:1*6=6 ");
        Checks.is("how many", smith.invoice(0, 2), 6);
    }

    private static void eachWithAKind() {
        for (int kind = 0; kind < 4; kind++) {
            InvoiceSmith smith = new InvoiceSmith();
            Checks.is("kind " + kind, smith.line(kind, 1, 1), 1);
            smith.line(3 - kind, 1, 1);
            Checks.is("each its own", lines(smith), kind + ":1*1=1 " + (3 - kind) + ":1*1=1 ");
        }
        Checks.fails("-1", Checks.INDEX, () -> new InvoiceSmith().line(-1, 1, 1));
        Checks.fails("4", Checks.INDEX, () -> new InvoiceSmith().line(4, 1, 1));
    }

    private static void eachWithAQuantity() {
        for (int quantity = 1; quantity <= 99; quantity++) {
            InvoiceSmith smith = new InvoiceSmith();
            smith.line(0, quantity, 3);
            Checks.is("quantity", lines(smith), "0:" + quantity + "*3=" + 3 * quantity + " ");
        }
        Checks.fails("0", Checks.ARGUMENT, () -> new InvoiceSmith().line(0, 0, 3));
        Checks.fails("100", Checks.ARGUMENT, () -> new InvoiceSmith().line(0, 100, 3));
    }

    private static void eachWithAPrice() {
        for (int price : new int[] {1, 2, 9, 10, 999, 1000, 5000, 9998, 9999}) {
            InvoiceSmith smith = new InvoiceSmith();
            smith.line(0, 2, price);
            Checks.is("price", lines(smith), "0:2*" + price + "=" + 2 * price + " ");
        }
        Checks.fails("0", Checks.ARGUMENT, () -> new InvoiceSmith().line(0, 2, 0));
        Checks.fails("10000", Checks.ARGUMENT, () -> new InvoiceSmith().line(0, 2, 10000));
    }

    private static void amounts() {
        int[][] lines = {{1, 1, 1}, {1, 9999, 9999}, {99, 1, 99}, {99, 9999, 989901}, {12, 34, 408}};
        int sum = 0;
        InvoiceSmith smith = new InvoiceSmith();
        for (int[] line : lines) {
            smith.line(0, line[0], line[1]);
            sum += line[2];
        }
        smith.make(0);
        Checks.is("their sum", smith.invoice(0, 3), sum);
        Checks.read(smith, 0, "{*{a},*}");
        Checks.is("each", Checks.write(smith, 0, 0), "1,9999,99,989901,408,");
    }

    private static void madeToday() {
        InvoiceSmith smith = new InvoiceSmith();
        smith.line(2, 3, 4);
        smith.pass(7);
        smith.line(1, 5, 6);
        smith.pass(1);
        smith.make(9);
        smith.pass(1);
        Checks.is("its client", smith.invoice(0, 0), 9);
        Checks.is("the day of the making", smith.invoice(0, 1), 8);
        Checks.is("how many lines", smith.invoice(0, 2), 2);
        Checks.read(smith, 0, "{*{k}:{q}*{p} *}");
        Checks.is("its lines", Checks.write(smith, 0, 0), "2:3*4 1:5*6 ");
    }

    private static void withThePlace() {
        InvoiceSmith smith = new InvoiceSmith();
        for (int place = 3; place >= 0; place--) {
            smith.rate(place, 0, 10 * place, 0);
            smith.client(9, place);
            int invoice = Checks.makeOneLine(smith, 9, 0, 1, 100);
            Checks.is("place " + place, smith.invoice(invoice, 6), place);
            Checks.is("taxed there", smith.invoice(invoice, 4), 10 * place);
        }
        smith.client(9, 2);
        for (int invoice = 0; invoice < 4; invoice++) {
            Checks.is("each keeps its own", smith.invoice(invoice, 6), 3 - invoice);
        }
    }

    private static void withTheWay() {
        InvoiceSmith smith = new InvoiceSmith();
        smith.client(9, 3);
        for (int way = 2; way >= 0; way--) {
            smith.round(3, way);
            smith.round(0, (way + 1) % 3);
            int invoice = Checks.makeOneLine(smith, 9, 0, 1, 100);
            Checks.is("way of its place", smith.invoice(invoice, 7), way);
        }
        for (int invoice = 0; invoice < 3; invoice++) {
            Checks.is("each keeps its own", smith.invoice(invoice, 7), 2 - invoice);
        }
    }

    private static void thirtyInvoices() {
        InvoiceSmith smith = new InvoiceSmith();
        for (int i = 0; i < MOST_INVOICES; i++) {
            Checks.is("invoice " + i, Checks.makeOneLine(smith, 0, 0, 1, i + 1), i);
        }
        smith.line(0, 1, 1);
        Checks.fails("one more", Checks.STATE, () -> smith.make(0));
        for (int i = 0; i < MOST_INVOICES; i++) {
            Checks.is("invoice " + i, smith.invoice(i, 3), i + 1);
        }
        Checks.fails("invoice 30", Checks.INDEX, () -> smith.invoice(30, 0));
    }

    // ---- terms: taxes

    private static void taxByLine() {
        int[] hundredths = {15, 16, 50, 100};
        Checks.is("each line alone", tax(0, hundredths, new int[][] {{0, 3}, {0, 3}, {1, 3}, {1, 3}}), 0);
        Checks.is("each rounded up", tax(0, hundredths, new int[][] {{2, 1}, {2, 1}, {2, 1}}), 3);
        Checks.is("one up, one not", tax(0, hundredths, new int[][] {{0, 3}, {0, 4}}), 1);
        Checks.is("as they are", tax(0, hundredths, new int[][] {{0, 100}, {1, 100}, {2, 100}, {3, 100}}), 181);
        InvoiceSmith smith = new InvoiceSmith();
        smith.rate(0, 3, 100, 0);
        for (int i = 0; i < MOST_LINES; i++) {
            smith.line(3, 99, 9999);
        }
        smith.make(0);
        Checks.is("the greatest", smith.invoice(0, 4), 6 * 989901);
    }

    /** In each way, about a half: 49, 50 and 51 hundredths of 1, and of 3. */
    private static void halfAndMore() {
        for (int way = 0; way < 3; way++) {
            for (int hundredths = 0; hundredths <= 100; hundredths++) {
                int[] rates = {hundredths};
                Checks.is(hundredths + " of 1", tax(way, rates, new int[][] {{0, 1}}), hundredths < 50 ? 0 : 1);
            }
            Checks.is("1.47", tax(way, new int[] {49}, new int[][] {{0, 3}}), 1);
            Checks.is("1.50", tax(way, new int[] {50}, new int[][] {{0, 3}}), 2);
            Checks.is("1.53", tax(way, new int[] {51}, new int[][] {{0, 3}}), 2);
            Checks.is("2.50", tax(way, new int[] {50}, new int[][] {{0, 5}}), 3);
            Checks.is("0.49", tax(way, new int[] {1}, new int[][] {{0, 49}}), 0);
            Checks.is("0.50", tax(way, new int[] {1}, new int[][] {{0, 50}}), 1);
            Checks.is("99.49", tax(way, new int[] {1}, new int[][] {{0, 9949}}), 99);
            Checks.is("99.50", tax(way, new int[] {1}, new int[][] {{0, 9950}}), 100);
        }
    }

    private static void taxByKind() {
        int[] hundredths = {15, 16, 50, 25};
        Checks.is("lines of a kind together", tax(1, hundredths, new int[][] {{0, 2}, {0, 2}}), 1);
        Checks.is("kinds apart", tax(1, hundredths, new int[][] {{0, 3}, {1, 3}}), 0);
        Checks.is("not next to one another", tax(1, hundredths, new int[][] {{0, 2}, {1, 3}, {0, 2}}), 1);
        Checks.is("each kind up", tax(1, hundredths, new int[][] {{2, 1}, {3, 2}, {0, 4}, {1, 4}}), 4);
        Checks.is("once for a kind", tax(1, hundredths, new int[][] {{2, 1}, {2, 1}, {2, 1}}), 2);
        Checks.is("alike rates do not join kinds", tax(1, new int[] {20, 20}, new int[][] {{0, 2}, {1, 2}}), 0);
        InvoiceSmith smith = new InvoiceSmith();
        smith.round(0, 1);
        smith.rate(0, 3, 100, 0);
        for (int i = 0; i < MOST_LINES; i++) {
            smith.line(3, 99, 9999);
        }
        smith.make(0);
        Checks.is("the greatest", smith.invoice(0, 4), 6 * 989901);
    }

    private static void taxByAll() {
        int[] hundredths = {15, 16, 50, 25};
        Checks.is("all together", tax(2, hundredths, new int[][] {{0, 2}, {1, 2}}), 1);
        Checks.is("less than a half", tax(2, hundredths, new int[][] {{0, 2}, {1, 1}}), 0);
        Checks.is("once", tax(2, hundredths, new int[][] {{2, 1}, {3, 2}}), 1);
        Checks.is("a half of all", tax(2, hundredths, new int[][] {{2, 2}, {3, 2}}), 2);
        Checks.is("of six", tax(2, hundredths, new int[][] {{0, 1}, {0, 1}, {1, 1}, {1, 1}, {2, 1}, {3, 1}}), 1);
        InvoiceSmith smith = new InvoiceSmith();
        smith.round(0, 2);
        smith.rate(0, 3, 100, 0);
        for (int i = 0; i < MOST_LINES; i++) {
            smith.line(3, 99, 9999);
        }
        smith.make(0);
        Checks.is("the greatest", smith.invoice(0, 4), 6 * 989901);
    }

    private static void taxOfALine() {
        for (int way = 0; way < 3; way++) {
            InvoiceSmith smith = new InvoiceSmith();
            smith.round(0, way);
            smith.rate(0, 0, 20, 0);
            smith.rate(0, 1, 50, 0);
            int[][] lines = {{0, 2}, {0, 2}, {1, 1}, {1, 1}, {0, 3}, {2, 9}};
            for (int[] line : lines) {
                smith.line(line[0], 1, line[1]);
            }
            smith.make(0);
            Checks.read(smith, 0, "{*{x}*}:{t}");
            String[] due = {"001110:3", "001110:2", "001110:2"};
            Checks.is("way " + way, Checks.write(smith, 0, 0), due[way]);
            smith.rate(0, 0, 100, 0);
            smith.settle(0);
            Checks.is("as known when made", Checks.write(smith, 0, 0), due[way]);
        }
    }

    private static void ratesOfItsDay() {
        InvoiceSmith smith = new InvoiceSmith();
        smith.rate(0, 0, 10, 0);
        smith.rate(0, 0, 20, 5);
        smith.rate(0, 0, 30, 6);
        smith.pass(4);
        smith.line(0, 1, 100);
        smith.pass(1);
        smith.make(0);
        Checks.is("of the day of the making", smith.invoice(0, 4), 20);
        smith.pass(1);
        Checks.is("on a later day", smith.invoice(0, 4), 20);
        Checks.is("one made then", smith.invoice(Checks.makeOneLine(smith, 0, 0, 1, 100), 4), 30);
    }

    private static void asKnownWhenMade() {
        InvoiceSmith smith = new InvoiceSmith();
        smith.rate(0, 0, 10, 0);
        smith.line(0, 1, 100);
        smith.line(1, 1, 100);
        smith.rate(0, 0, 20, 0);
        smith.make(0);
        Checks.is("told between a line and the making", smith.invoice(0, 4), 20);
        smith.rate(0, 0, 30, 0);
        smith.rate(0, 1, 40, 0);
        Checks.is("told then", smith.invoice(0, 4), 20);
        smith.settle(0);
        Checks.is("settled", smith.invoice(0, 4), 20);
        Checks.is("one made then", smith.invoice(Checks.makeOneLine(smith, 0, 0, 1, 100), 4), 30);
    }

    // ---- promise 9

    private static void behindThose() {
        InvoiceSmith smith = withDraft(2);
        smith.strike(0);
        smith.line(3, 9, 8);
        smith.line(0, 1, 1);
        Checks.is("in the order of the calls", lines(smith), "1:2*20=40 3:9*8=72 0:1*1=1 ");
    }

    private static void quantityInRange() {
        InvoiceSmith smith = new InvoiceSmith();
        int[] quantities = {1, 2, 50, 98, 99};
        for (int i = 0; i < quantities.length; i++) {
            Checks.is("quantity " + quantities[i], smith.line(0, quantities[i], 1), i + 1);
        }
        smith.make(0);
        Checks.is("their sum", smith.invoice(0, 3), 250);
    }

    private static void priceInRange() {
        InvoiceSmith smith = new InvoiceSmith();
        int[] prices = {1, 2, 5000, 9998, 9999};
        for (int i = 0; i < prices.length; i++) {
            Checks.is("price " + prices[i], smith.line(0, 1, prices[i]), i + 1);
        }
        smith.make(0);
        Checks.is("their sum", smith.invoice(0, 3), 25000);
    }

    private static void linesThen() {
        InvoiceSmith smith = new InvoiceSmith();
        for (int i = 1; i <= MOST_LINES; i++) {
            Checks.is("line " + i, smith.line(i % 4, 1, 1), i);
        }
        smith.strike(2);
        Checks.is("behind a strike", smith.line(0, 1, 1), 6);
        smith.make(0);
        Checks.is("behind a making", smith.line(0, 1, 1), 1);
    }

    private static void lineOfNoKind() {
        InvoiceSmith smith = withDraft(1);
        for (int wrong : new int[] {Integer.MIN_VALUE, -1, 4, 5, Integer.MAX_VALUE}) {
            Checks.fails("kind " + wrong, Checks.INDEX, () -> smith.line(wrong, 1, 1));
        }
        Checks.is("none was put", lines(smith), "0:1*10=10 ");
    }

    private static void lineOutOfRange() {
        InvoiceSmith smith = withDraft(1);
        for (int wrong : new int[] {Integer.MIN_VALUE, -1, 0, 100, 101, Integer.MAX_VALUE}) {
            Checks.fails("quantity " + wrong, Checks.ARGUMENT, () -> smith.line(0, wrong, 1));
        }
        for (int wrong : new int[] {Integer.MIN_VALUE, -1, 0, 10000, 10001, Integer.MAX_VALUE}) {
            Checks.fails("price " + wrong, Checks.ARGUMENT, () -> smith.line(0, 1, wrong));
        }
        Checks.is("none was put", lines(smith), "0:1*10=10 ");
    }

    private static void seventhLine() {
        InvoiceSmith smith = withDraft(5);
        Checks.is("a sixth", smith.line(3, 99, 9999), 6);
        for (int kind = 0; kind < 4; kind++) {
            int one = kind;
            Checks.fails("a seventh", Checks.STATE, () -> smith.line(one, 1, 1));
        }
        Checks.is("none was put", lines(smith),
                "0:1*10=10 1:2*20=40 2:3*30=90 3:4*40=160 0:5*50=250 3:99*9999=989901 ");
    }

    // ---- promise 10

    /** Each line of each draft. */
    private static void takesOut() {
        String[] all = {"0:1*10=10 ", "1:2*20=40 ", "2:3*30=90 ", "3:4*40=160 ", "0:5*50=250 ", "1:6*60=360 "};
        for (int count = 2; count <= MOST_LINES; count++) {
            for (int struck = 0; struck < count; struck++) {
                StringBuilder due = new StringBuilder();
                for (int i = 0; i < count; i++) {
                    due.append(i == struck ? "" : all[i]);
                }
                InvoiceSmith smith = withDraft(count);
                smith.strike(struck);
                Checks.is("line " + struck + " of " + count, lines(smith), due.toString());
            }
        }
    }

    private static void strikeFrom0() {
        InvoiceSmith smith = withDraft(3);
        Checks.is("0 is the first", smith.strike(0), 2);
        Checks.is("the second is the last then", smith.strike(1), 1);
        Checks.is("what is left", lines(smith), "1:2*20=40 ");
        Checks.is("0 is the only one", withDraft(1).strike(0), 0);
    }

    private static void linesLeft() {
        InvoiceSmith smith = withDraft(MOST_LINES);
        for (int left = 5; left >= 0; left--) {
            Checks.is("left", smith.strike(left / 2), left);
        }
        Checks.is("put anew", smith.line(0, 1, 1), 1);
    }

    private static void strikeOfNone() {
        for (int count = 0; count <= MOST_LINES; count++) {
            InvoiceSmith smith = withDraft(count);
            for (int wrong : new int[] {Integer.MIN_VALUE, -1, count, count + 1, 6, 7, Integer.MAX_VALUE}) {
                Checks.fails(wrong + " of " + count, Checks.INDEX, () -> smith.strike(wrong));
            }
            if (count > 0) {
                Checks.is("none was taken out", smith.strike(0), count - 1);
            }
        }
        InvoiceSmith made = withDraft(2);
        made.make(0);
        Checks.fails("of a draft that was made an invoice", Checks.INDEX, () -> made.strike(0));
    }

    // ---- promise 11

    private static void emptyThen() {
        InvoiceSmith smith = withDraft(MOST_LINES);
        Checks.is("six", smith.make(0), 0);
        Checks.fails("none to strike", Checks.INDEX, () -> smith.strike(0));
        Checks.fails("none to make one of", Checks.STATE, () -> smith.make(0));
        Checks.is("the first one anew", smith.line(2, 7, 7), 1);
        Checks.is("one", smith.make(0), 1);
        Checks.is("the first keeps its lines", smith.invoice(0, 2), 6);
        Checks.is("and their sum", smith.invoice(0, 3), 910);
        Checks.is("the second has its own", smith.invoice(1, 2), 1);
        Checks.is("and their sum", smith.invoice(1, 3), 49);
    }

    private static void itsNumber() {
        InvoiceSmith smith = new InvoiceSmith();
        for (int i = 0; i < MOST_INVOICES; i++) {
            smith.line(0, 1, 1);
            Checks.is("its number", smith.make(i % 3), i);
            Checks.fails("an empty draft", Checks.STATE, () -> smith.make(0));
        }
    }

    private static void makeForNone() {
        InvoiceSmith smith = withDraft(1);
        for (int wrong : NO_CLIENT) {
            Checks.fails("client " + wrong, Checks.INDEX, () -> smith.make(wrong));
        }
        Checks.is("none was made", smith.make(9), 0);
        Checks.is("of the draft", smith.invoice(0, 3), 10);
    }

    private static void emptyDraft() {
        InvoiceSmith smith = new InvoiceSmith();
        Checks.fails("at first", Checks.STATE, () -> smith.make(0));
        smith.line(0, 1, 1);
        smith.strike(0);
        Checks.fails("all struck", Checks.STATE, () -> smith.make(9));
        smith.line(0, 1, 1);
        Checks.is("one line is enough", smith.make(0), 0);
        Checks.fails("made", Checks.STATE, () -> smith.make(0));
        Checks.fails("none was made", Checks.INDEX, () -> smith.invoice(1, 0));
    }

    private static void makeTooMany() {
        InvoiceSmith smith = withInvoices(MOST_INVOICES - 1);
        Checks.is("the thirtieth", Checks.makeOneLine(smith, 9, 3, 99, 9999), 29);
        smith.line(0, 1, 1);
        for (int client = 0; client < 10; client++) {
            int one = client;
            Checks.fails("one too many", Checks.STATE, () -> smith.make(one));
        }
        Checks.is("the draft stays", smith.line(0, 1, 1), 2);
        Checks.fails("none was made", Checks.INDEX, () -> smith.invoice(30, 0));
        Checks.is("the last one stays", smith.invoice(29, 3), 989901);
    }

    // ---- promise 12

    private static void numberOfEach() {
        InvoiceSmith smith = new InvoiceSmith();
        smith.client(7, 2);
        smith.round(2, 1);
        smith.rate(2, 1, 10, 0);
        Checks.makeOneLine(smith, 0, 0, 1, 1);
        smith.pass(12);
        smith.line(1, 2, 50);
        smith.line(1, 1, 25);
        smith.line(0, 1, 1);
        smith.make(7);
        smith.rate(2, 1, 20, 0);
        smith.settle(2);
        int[][] due = {{0, 0, 1, 1, 0, 0, 0, 0}, {7, 12, 3, 126, 13, 25, 2, 1}};
        for (int invoice = 0; invoice < 2; invoice++) {
            for (int what = 0; what < 8; what++) {
                Checks.is("invoice " + invoice + ", " + what, smith.invoice(invoice, what), due[invoice][what]);
            }
        }
    }

    private static void whatClient() {
        InvoiceSmith smith = withInvoices(10);
        for (int client = 0; client < 10; client++) {
            Checks.is("client", smith.invoice(client, 0), client);
        }
    }

    private static void whatDay() {
        InvoiceSmith smith = withInvoices(1);
        smith.pass(99);
        Checks.makeOneLine(smith, 0, 0, 1, 1);
        for (int i = 0; i < 101; i++) {
            smith.pass(99);
        }
        Checks.makeOneLine(smith, 0, 0, 1, 1);
        Checks.is("the first day", smith.invoice(0, 1), 0);
        Checks.is("a later day", smith.invoice(1, 1), 99);
        Checks.is("a day behind 9999", smith.invoice(2, 1), 102 * 99);
    }

    private static void whatLines() {
        for (int count = 1; count <= MOST_LINES; count++) {
            InvoiceSmith smith = withDraft(count);
            smith.make(0);
            smith.line(0, 1, 1);
            Checks.is("lines", smith.invoice(0, 2), count);
        }
    }

    private static void whatSum() {
        int sum = 0;
        for (int count = 1; count <= MOST_LINES; count++) {
            InvoiceSmith smith = withDraft(count);
            smith.make(0);
            smith.line(0, 1, 1);
            sum += 10 * count * count;
            Checks.is("sum", smith.invoice(0, 3), sum);
        }
        Checks.is("the least", withInvoices(1).invoice(0, 3), 1);
        InvoiceSmith greatest = new InvoiceSmith();
        for (int i = 0; i < MOST_LINES; i++) {
            greatest.line(0, 99, 9999);
        }
        greatest.make(0);
        Checks.is("the greatest", greatest.invoice(0, 3), 5939406);
    }

    /** Day 0, 100 at 10 hundredths; told 30 for that day then, and settled. */
    private static InvoiceSmith settled() {
        InvoiceSmith smith = new InvoiceSmith();
        smith.rate(0, 0, 10, 0);
        Checks.makeOneLine(smith, 0, 0, 1, 100);
        smith.rate(0, 0, 30, 0);
        smith.settle(0);
        return smith;
    }

    private static void whatTax() {
        Checks.is("none", withInvoices(1).invoice(0, 4), 0);
        InvoiceSmith smith = settled();
        Checks.is("without its note", smith.invoice(0, 4), 10);
        smith.rate(0, 0, 0, 0);
        Checks.is("as it was made", smith.invoice(0, 4), 10);
    }

    private static void whatTaxWithNotes() {
        Checks.is("none", withInvoices(1).invoice(0, 5), 0);
        InvoiceSmith smith = settled();
        Checks.is("with a debit", smith.invoice(0, 5), 30);
        smith.rate(0, 0, 5, 0);
        Checks.is("not settled", smith.invoice(0, 5), 30);
        smith.settle(0);
        Checks.is("with a credit too", smith.invoice(0, 5), 5);
        smith.rate(0, 0, 0, 0);
        smith.settle(0);
        Checks.is("all given back", smith.invoice(0, 5), 0);
    }

    private static void whatPlace() {
        InvoiceSmith smith = new InvoiceSmith();
        for (int place = 0; place < 4; place++) {
            smith.client(0, place);
            Checks.makeOneLine(smith, 0, 0, 1, 1);
        }
        smith.client(0, 1);
        for (int place = 0; place < 4; place++) {
            Checks.is("place", smith.invoice(place, 6), place);
        }
    }

    private static void whatWay() {
        InvoiceSmith smith = new InvoiceSmith();
        for (int way = 0; way < 3; way++) {
            smith.round(0, way);
            Checks.makeOneLine(smith, 0, 0, 1, 1);
        }
        smith.round(0, 1);
        for (int way = 0; way < 3; way++) {
            Checks.is("way", smith.invoice(way, 7), way);
        }
    }

    private static void invoiceOfNone() {
        for (int count : new int[] {0, 1, 29, 30}) {
            InvoiceSmith smith = withInvoices(count);
            for (int wrong : new int[] {Integer.MIN_VALUE, -1, count, count + 1, 30, 31, Integer.MAX_VALUE}) {
                for (int what = 0; what < 8; what++) {
                    int one = what;
                    Checks.fails(wrong + " of " + count, Checks.INDEX, () -> smith.invoice(wrong, one));
                }
            }
        }
    }

    private static void whatOutOfRange() {
        InvoiceSmith smith = withInvoices(MOST_INVOICES);
        for (int wrong : new int[] {Integer.MIN_VALUE, -1, 8, 9, Integer.MAX_VALUE}) {
            Checks.fails("what " + wrong, Checks.ARGUMENT, () -> smith.invoice(0, wrong));
            Checks.fails("what " + wrong, Checks.ARGUMENT, () -> smith.invoice(29, wrong));
        }
    }

    // ---- promise 13

    private static void anewByRatesOfItsDay() {
        InvoiceSmith smith = new InvoiceSmith();
        smith.client(1, 2);
        smith.pass(5);
        smith.line(0, 1, 100);
        smith.line(1, 1, 100);
        smith.make(1);
        smith.pass(5);
        Checks.is("none told", smith.taxAnew(0), 0);
        smith.rate(2, 0, 90, 6);
        Checks.is("of the day behind", smith.taxAnew(0), 0);
        smith.rate(2, 0, 10, 4);
        Checks.is("from the day ahead on", smith.taxAnew(0), 10);
        smith.rate(2, 0, 20, 5);
        Checks.is("from its day on", smith.taxAnew(0), 20);
        smith.rate(2, 1, 7, 0);
        Checks.is("of another kind too", smith.taxAnew(0), 27);
        smith.rate(1, 0, 80, 5);
        smith.rate(2, 2, 80, 5);
        Checks.is("of another place, and a kind that it has not", smith.taxAnew(0), 27);
        smith.client(1, 1);
        Checks.is("at the place that it was made with", smith.taxAnew(0), 27);
    }

    private static void anewAsKnownNow() {
        InvoiceSmith smith = settled();
        Checks.is("with what was told for days gone by", smith.taxAnew(0), 30);
        smith.rate(0, 0, 40, 0);
        Checks.is("not settled", smith.taxAnew(0), 40);
        smith.settle(0);
        Checks.is("settled", smith.taxAnew(0), 40);
        smith.rate(0, 0, 0, 0);
        Checks.is("nothing", smith.taxAnew(0), 0);
        for (int way = 0; way < 3; way++) {
            InvoiceSmith rounded = new InvoiceSmith();
            rounded.round(0, way);
            rounded.line(0, 1, 2);
            rounded.line(0, 1, 2);
            rounded.line(1, 1, 2);
            rounded.line(1, 1, 2);
            rounded.make(0);
            rounded.round(0, (way + 1) % 3);
            rounded.rate(0, 0, 20, 0);
            rounded.rate(0, 1, 15, 0);
            Checks.is("in its way, " + way, rounded.taxAnew(0), new int[] {0, 2, 1}[way]);
        }
    }

    private static void taxAnewOfNone() {
        for (int count : new int[] {0, 1, 29, 30}) {
            InvoiceSmith smith = withInvoices(count);
            for (int wrong : new int[] {Integer.MIN_VALUE, -1, count, count + 1, 30, 31, Integer.MAX_VALUE}) {
                Checks.fails(wrong + " of " + count, Checks.INDEX, () -> smith.taxAnew(wrong));
            }
        }
    }

    // ---- promise 14

    private static void wasTaxedBy() {
        InvoiceSmith smith = new InvoiceSmith();
        smith.client(1, 1);
        smith.rate(0, 0, 90, 0);
        smith.rate(1, 0, 10, 0);
        smith.rate(1, 1, 20, 0);
        smith.rate(1, 0, 30, 1);
        smith.line(1, 1, 1);
        smith.line(0, 1, 1);
        smith.line(1, 1, 1);
        smith.make(1);
        smith.rate(1, 0, 40, 0);
        smith.rate(1, 1, 50, 0);
        smith.pass(1);
        smith.settle(1);
        int[] due = {2, 1, 2};
        for (int line = 0; line < 3; line++) {
            Checks.is("line " + line, smith.used(0, line), due[line]);
        }
        smith.line(0, 1, 1);
        smith.line(1, 1, 1);
        smith.make(1);
        Checks.is("by the greatest day", smith.used(1, 0), 3);
        Checks.is("by the latest", smith.used(1, 1), 5);
    }

    private static void usedFrom0() {
        InvoiceSmith smith = new InvoiceSmith();
        for (int kind = 0; kind < 4; kind++) {
            smith.rate(0, kind, 1, 0);
        }
        for (int i = 0; i < MOST_LINES; i++) {
            smith.line(3 - i % 4, 1, 1);
        }
        smith.make(0);
        int[] due = {3, 2, 1, 0, 3, 2};
        for (int line = 0; line < MOST_LINES; line++) {
            Checks.is("line " + line, smith.used(0, line), due[line]);
        }
    }

    private static void usedOrNone() {
        InvoiceSmith smith = new InvoiceSmith();
        for (int i = 0; i < 59; i++) {
            smith.rate(0, 0, 1, 1);
        }
        smith.rate(0, 1, 0, 0);
        smith.line(0, 1, 1);
        smith.line(1, 1, 1);
        smith.line(2, 1, 1);
        smith.make(0);
        Checks.is("none that early", smith.used(0, 0), NONE);
        Checks.is("the last one, of 0", smith.used(0, 1), 59);
        Checks.is("none of the kind", smith.used(0, 2), NONE);
        InvoiceSmith then = withInvoices(1);
        then.rate(0, 0, 1, 0);
        Checks.is("there was none", then.used(0, 0), NONE);
        then.settle(0);
        Checks.is("there was none", then.used(0, 0), NONE);
        Checks.makeOneLine(then, 0, 0, 1, 1);
        Checks.is("the first one", then.used(1, 0), 0);
    }

    private static void usedOfNone() {
        for (int count : new int[] {0, 1, 29, 30}) {
            InvoiceSmith smith = withInvoices(count);
            for (int wrong : new int[] {Integer.MIN_VALUE, -1, count, count + 1, 30, 31, Integer.MAX_VALUE}) {
                Checks.fails(wrong + " of " + count, Checks.INDEX, () -> smith.used(wrong, 0));
            }
        }
    }

    private static void usedOfNoLine() {
        for (int count = 1; count <= MOST_LINES; count++) {
            InvoiceSmith smith = withDraft(count);
            smith.make(0);
            smith.line(0, 1, 1);
            for (int wrong : new int[] {Integer.MIN_VALUE, -1, count, count + 1, 6, 7, Integer.MAX_VALUE}) {
                Checks.fails(wrong + " of " + count, Checks.INDEX, () -> smith.used(0, wrong));
            }
        }
    }
}
