/** The sentences on days, rates, ways of rounding and the places of clients, each with a test of its own. */
final class RateSentences {
    private static final int NONE = InvoiceSmith.NONE;
    private static final int LAST_DAY = 9999;
    private static final int MOST_TELLINGS = 60;
    private static final int[] NOT_OF_FOUR = {Integer.MIN_VALUE, -1, 4, 5, Integer.MAX_VALUE};

    private RateSentences() {
    }

    static void tell(Document document) {
        terms(document, "Rates");
        pass(document, "Promise 4");
        rate(document, "Promise 5");
        telling(document, "Promise 6");
        round(document, "Promise 7");
        client(document, "Promise 8");
    }

    private static void terms(Document document, String heading) {
        document.says(heading, "There are the places 0 to 3", RateSentences::fourPlaces);
        document.says(heading, "and the kinds 0 to 3.", RateSentences::fourKinds);
        document.says(heading, "Today is 0 at first.", RateSentences::todayAtFirst);
        document.says(heading, "A rate of a place and a kind, 0 to 100 hundredths,", RateSentences::rateOf0To100);
        document.says(heading, "is told from a day on, which may have gone by;", RateSentences::fromADayOn);
        document.says(heading, "tellings are numbered from 0, at most 60.", RateSentences::sixtyTellings);
        document.says(heading, "The rate of a day, as is known, is that of the telling with the greatest such day",
                RateSentences::greatestDay);
        document.says(heading, "that is not behind it,", RateSentences::notBehind);
        document.says(heading, "of several the latest one;", RateSentences::latestOfSeveral);
        document.says(heading, "0, if there is none.", RateSentences::noRate);
        document.says(heading, "A place rounds by line, 0, as at first, by kind, 1, or by all, 2.",
                RateSentences::waysOfAPlace);
    }

    private static void pass(Document document, String heading) {
        document.says(heading, "Lets days pass.", RateSentences::letsPass);
        document.says(heading, "days: 1 to 99", RateSentences::daysInRange);
        document.says(heading, "Returns today.", RateSentences::returnsToday);
        document.says(heading, "Throws IllegalArgumentException if days is out of range",
                RateSentences::daysOutOfRange);
    }

    private static void rate(Document document, String heading) {
        document.says(heading, "Tells a rate.", RateSentences::tellsARate);
        document.says(heading, "hundredths: 0 to 100", RateSentences::hundredthsInRange);
        document.says(heading, "from: 0 to 9999: the day from which on it is the rate", RateSentences::fromInRange);
        document.says(heading, "Returns the number of the telling.", RateSentences::numberOfTelling);
        document.says(heading, "Throws IndexOutOfBoundsException as told, of place and kind",
                RateSentences::rateOfNone);
        document.says(heading, "Throws IllegalArgumentException if hundredths or from is out of range",
                RateSentences::rateOutOfRange);
        document.says(heading, "Throws IllegalStateException if there are 60", RateSentences::rateTooMany);
    }

    private static void telling(Document document, String heading) {
        document.says(heading, "Returns the telling by which the rate of a day is, as is known now.",
                RateSentences::tellingAsKnownNow);
        document.says(heading, "day: 0 to 9999", RateSentences::dayInRange);
        document.says(heading, "Returns its number; NONE if there is none.", RateSentences::numberOrNone);
        document.says(heading, "Throws IndexOutOfBoundsException as told, of place and kind",
                RateSentences::tellingOfNone);
        document.says(heading, "Throws IllegalArgumentException if day is out of range", RateSentences::dayOutOfRange);
    }

    private static void round(Document document, String heading) {
        document.says(heading, "Tells how a place rounds, for invoices made from now on.",
                RateSentences::roundsFromNowOn);
        document.says(heading, "way: BY_LINE to BY_ALL", RateSentences::wayInRange);
        document.says(heading, "Returns the way before.", RateSentences::wayBefore);
        document.says(heading, "Throws IndexOutOfBoundsException as told", RateSentences::roundOfNone);
        document.says(heading, "Throws IllegalArgumentException if way is out of range", RateSentences::wayOutOfRange);
    }

    private static void client(Document document, String heading) {
        document.says(heading, "Lets a client be of a place, for invoices made from now on.",
                RateSentences::clientFromNowOn);
        document.says(heading, "Returns the place before.", RateSentences::placeBefore);
        document.says(heading, "Throws IndexOutOfBoundsException as told, of both", RateSentences::clientOfNone);
    }

    /** Makes an invoice of 1 times 100, so that its tax is the rate, of a client at a place. */
    private static int taxed(InvoiceSmith smith, int place, int kind) {
        smith.client(0, place);
        int invoice = Checks.makeOneLine(smith, 0, kind, 1, 100);
        return smith.invoice(invoice, 4);
    }

    private static InvoiceSmith full() {
        InvoiceSmith smith = new InvoiceSmith();
        for (int i = 0; i < MOST_TELLINGS; i++) {
            smith.rate(i % 4, i / 4 % 4, i, i);
        }
        return smith;
    }

    // ---- terms

    private static void fourPlaces() {
        for (int place = 0; place < 4; place++) {
            InvoiceSmith smith = new InvoiceSmith();
            Checks.is("rate", smith.rate(place, 0, 7, 0), 0);
            Checks.is("round", smith.round(place, 1), 0);
            Checks.is("client", smith.client(0, place), 0);
            Checks.is("tax", taxed(smith, place, 0), 7);
            for (int other = 0; other < 4; other++) {
                boolean same = other == place;
                Checks.is("telling", smith.telling(other, 0, 0), same ? 0 : NONE);
                Checks.is("way", smith.round(other, 0), same ? 1 : 0);
                Checks.is("owed", smith.owed(other), same ? 7 : 0);
                Checks.is("settle", smith.settle(other), 0);
            }
        }
        InvoiceSmith smith = new InvoiceSmith();
        for (int wrong : NOT_OF_FOUR) {
            Checks.fails("rate", Checks.INDEX, () -> smith.rate(wrong, 0, 0, 0));
            Checks.fails("telling", Checks.INDEX, () -> smith.telling(wrong, 0, 0));
            Checks.fails("round", Checks.INDEX, () -> smith.round(wrong, 0));
            Checks.fails("client", Checks.INDEX, () -> smith.client(0, wrong));
            Checks.fails("settle", Checks.INDEX, () -> smith.settle(wrong));
            Checks.fails("owed", Checks.INDEX, () -> smith.owed(wrong));
        }
    }

    private static void fourKinds() {
        for (int kind = 0; kind < 4; kind++) {
            InvoiceSmith smith = new InvoiceSmith();
            Checks.is("rate", smith.rate(0, kind, 7, 0), 0);
            for (int other = 0; other < 4; other++) {
                Checks.is("telling", smith.telling(0, other, 0), other == kind ? 0 : NONE);
                Checks.is("tax", taxed(smith, 0, other), other == kind ? 7 : 0);
            }
        }
        InvoiceSmith smith = new InvoiceSmith();
        for (int wrong : NOT_OF_FOUR) {
            Checks.fails("rate", Checks.INDEX, () -> smith.rate(0, wrong, 0, 0));
            Checks.fails("telling", Checks.INDEX, () -> smith.telling(0, wrong, 0));
            Checks.fails("line", Checks.INDEX, () -> smith.line(wrong, 1, 1));
        }
    }

    private static void todayAtFirst() {
        InvoiceSmith smith = new InvoiceSmith();
        smith.rate(0, 0, 3, 0);
        smith.rate(0, 0, 9, 1);
        Checks.is("by the rate of day 0", taxed(smith, 0, 0), 3);
        Checks.is("its day", smith.invoice(0, 1), 0);
        Checks.is("then", smith.pass(1), 1);
        Checks.is("by the rate of day 1", taxed(smith, 0, 0), 9);
    }

    private static void rateOf0To100() {
        for (int hundredths = 0; hundredths <= 100; hundredths++) {
            InvoiceSmith smith = new InvoiceSmith();
            Checks.is("told", smith.rate(2, 1, hundredths, 0), 0);
            Checks.is("tax of 100", taxed(smith, 2, 1), hundredths);
            Checks.is("of another kind", taxed(smith, 2, 0), 0);
            Checks.is("of another place", taxed(smith, 1, 1), 0);
        }
    }

    private static void fromADayOn() {
        InvoiceSmith smith = new InvoiceSmith();
        smith.pass(50);
        smith.rate(0, 0, 10, 49);
        Checks.is("a day gone by", taxed(smith, 0, 0), 10);
        smith.rate(0, 0, 20, 50);
        Checks.is("today", taxed(smith, 0, 0), 20);
        smith.rate(0, 0, 30, 51);
        Checks.is("not yet", taxed(smith, 0, 0), 20);
        smith.rate(0, 1, 40, 0);
        Checks.is("the first day", smith.telling(0, 1, 0), 3);
        Checks.is("the first day, and on", taxed(smith, 0, 1), 40);
        smith.pass(1);
        Checks.is("from that day on", taxed(smith, 0, 0), 30);
        Checks.is("an invoice made ahead is reckoned by it", smith.taxAnew(0), 20);
    }

    private static void sixtyTellings() {
        InvoiceSmith smith = new InvoiceSmith();
        for (int i = 0; i < MOST_TELLINGS; i++) {
            Checks.is("in one row for all places and kinds", smith.rate(i % 4, i / 4 % 4, 1, 0), i);
        }
        Checks.fails("no more", Checks.STATE, () -> smith.rate(0, 0, 1, 0));
        Checks.is("the last one", smith.telling(3, 2, 0), 59);
    }

    private static void greatestDay() {
        InvoiceSmith smith = new InvoiceSmith();
        smith.rate(0, 0, 5, 50);
        smith.rate(0, 0, 7, 70);
        smith.rate(0, 0, 6, 60);
        smith.rate(0, 0, 4, 40);
        int[] days = {39, 40, 49, 50, 59, 60, 69, 70, 71, LAST_DAY};
        int[] due = {NONE, 3, 3, 0, 0, 2, 2, 1, 1, 1};
        for (int i = 0; i < days.length; i++) {
            Checks.is("day " + days[i], smith.telling(0, 0, days[i]), due[i]);
        }
        smith.pass(65);
        Checks.is("tax of day 65", taxed(smith, 0, 0), 6);
        smith.pass(5);
        Checks.is("tax of day 70", taxed(smith, 0, 0), 7);
    }

    private static void notBehind() {
        InvoiceSmith smith = new InvoiceSmith();
        smith.rate(0, 0, 10, 0);
        smith.rate(0, 0, 20, 5);
        smith.rate(0, 0, 30, LAST_DAY);
        Checks.is("the first day", smith.telling(0, 0, 0), 0);
        Checks.is("the day ahead", smith.telling(0, 0, 4), 0);
        Checks.is("the day itself", smith.telling(0, 0, 5), 1);
        Checks.is("the day behind", smith.telling(0, 0, 6), 1);
        Checks.is("the last day but one", smith.telling(0, 0, LAST_DAY - 1), 1);
        Checks.is("the last day", smith.telling(0, 0, LAST_DAY), 2);
        smith.pass(4);
        Checks.is("tax of the day ahead", taxed(smith, 0, 0), 10);
        smith.pass(1);
        Checks.is("tax of the day itself", taxed(smith, 0, 0), 20);
    }

    private static void latestOfSeveral() {
        InvoiceSmith smith = new InvoiceSmith();
        smith.rate(0, 0, 10, 5);
        smith.rate(0, 0, 20, 5);
        smith.rate(0, 1, 80, 5);
        smith.rate(1, 0, 90, 5);
        Checks.is("the second", smith.telling(0, 0, 5), 1);
        smith.rate(0, 0, 0, 5);
        Checks.is("the third, of 0", smith.telling(0, 0, 6), 4);
        smith.rate(0, 0, 40, 4);
        Checks.is("one of a smaller day counts less", smith.telling(0, 0, 5), 4);
        smith.rate(0, 0, 50, 0);
        smith.rate(0, 0, 60, 0);
        Checks.is("of day 0", smith.telling(0, 0, 3), 7);
        smith.pass(3);
        Checks.is("tax of day 3", taxed(smith, 0, 0), 60);
        smith.pass(2);
        Checks.is("tax of day 5", taxed(smith, 0, 0), 0);
    }

    private static void noRate() {
        InvoiceSmith smith = new InvoiceSmith();
        smith.rate(1, 0, 10, 0);
        smith.rate(0, 1, 20, 0);
        smith.rate(0, 0, 30, 1);
        Checks.is("of another place, another kind, a later day", taxed(smith, 0, 0), 0);
        Checks.is("anew", smith.taxAnew(0), 0);
        Checks.is("none used", smith.used(0, 0), NONE);
        Checks.is("none told", smith.telling(0, 0, 0), NONE);
        smith.rate(0, 0, 0, 0);
        Checks.is("one of 0 is one", smith.telling(0, 0, 0), 3);
    }

    private static void waysOfAPlace() {
        InvoiceSmith smith = new InvoiceSmith();
        for (int place = 0; place < 4; place++) {
            smith.rate(place, 0, 20, 0);
            smith.rate(place, 1, 20, 0);
            Checks.is("by line at first", taxOfFour(smith, place), 0);
            smith.round(place, 1);
            Checks.is("by kind", taxOfFour(smith, place), 1);
            smith.round(place, 2);
            Checks.is("by all", taxOfFour(smith, place), 2);
            smith.round(place, 0);
            Checks.is("by line", taxOfFour(smith, place), 0);
        }
    }

    /** Amounts of 2, one of kind 0, three of kind 1: at 20 hundredths 0 by line, 1 by kind, 2 by all. */
    private static int taxOfFour(InvoiceSmith smith, int place) {
        smith.client(0, place);
        smith.line(0, 1, 2);
        smith.line(1, 1, 2);
        smith.line(1, 2, 1);
        smith.line(1, 1, 2);
        return smith.invoice(smith.make(0), 4);
    }

    // ---- promise 4

    private static void letsPass() {
        InvoiceSmith smith = new InvoiceSmith();
        taxed(smith, 0, 0);
        smith.pass(2);
        smith.pass(3);
        taxed(smith, 0, 0);
        Checks.is("made ahead", smith.invoice(0, 1), 0);
        Checks.is("made then", smith.invoice(1, 1), 5);
    }

    private static void daysInRange() {
        for (int days = 1; days <= 99; days++) {
            InvoiceSmith smith = new InvoiceSmith();
            Checks.is("from day 0", smith.pass(days), days);
            Checks.is("twice", smith.pass(days), 2 * days);
        }
    }

    private static void returnsToday() {
        InvoiceSmith smith = new InvoiceSmith();
        for (int i = 1; i <= 512; i++) {
            Checks.is("no day is the last one", smith.pass(99), 99 * i);
        }
    }

    private static void daysOutOfRange() {
        InvoiceSmith smith = new InvoiceSmith();
        for (int days : new int[] {Integer.MIN_VALUE, -1, 0, 100, 101, Integer.MAX_VALUE}) {
            Checks.fails("days " + days, Checks.ARGUMENT, () -> smith.pass(days));
        }
        Checks.is("none has passed", smith.pass(1), 1);
    }

    // ---- promise 5

    private static void tellsARate() {
        InvoiceSmith smith = new InvoiceSmith();
        smith.rate(2, 3, 15, 0);
        Checks.is("known", smith.telling(2, 3, 0), 0);
        Checks.is("taxed by", taxed(smith, 2, 3), 15);
        smith.rate(2, 3, 16, 0);
        Checks.is("taxed by the next", taxed(smith, 2, 3), 16);
        Checks.is("the one ahead as it was", smith.invoice(0, 4), 15);
    }

    private static void hundredthsInRange() {
        InvoiceSmith smith = new InvoiceSmith();
        Checks.is("0", smith.rate(0, 0, 0, 0), 0);
        Checks.is("tax", taxed(smith, 0, 0), 0);
        Checks.is("1", smith.rate(0, 0, 1, 0), 1);
        Checks.is("tax", taxed(smith, 0, 0), 1);
        Checks.is("99", smith.rate(0, 0, 99, 0), 2);
        Checks.is("tax", taxed(smith, 0, 0), 99);
        Checks.is("100", smith.rate(0, 0, 100, 0), 3);
        Checks.is("tax", taxed(smith, 0, 0), 100);
    }

    private static void fromInRange() {
        for (int from : new int[] {0, 1, 2, 5000, LAST_DAY - 1, LAST_DAY}) {
            InvoiceSmith smith = new InvoiceSmith();
            Checks.is("from " + from, smith.rate(0, 0, 1, from), 0);
            Checks.is("that day", smith.telling(0, 0, from), 0);
            Checks.is("the last day", smith.telling(0, 0, LAST_DAY), 0);
            if (from > 0) {
                Checks.is("the day ahead", smith.telling(0, 0, from - 1), NONE);
            }
        }
    }

    private static void numberOfTelling() {
        InvoiceSmith smith = new InvoiceSmith();
        Checks.is("the first", smith.rate(3, 3, 100, LAST_DAY), 0);
        Checks.is("the same once more", smith.rate(3, 3, 100, LAST_DAY), 1);
        Checks.is("another place", smith.rate(0, 3, 1, 1), 2);
        Checks.is("another kind", smith.rate(0, 0, 1, 1), 3);
        Checks.fails("refused", Checks.ARGUMENT, () -> smith.rate(0, 0, 101, 1));
        Checks.is("one refused has no number", smith.rate(0, 0, 1, 1), 4);
    }

    private static void rateOfNone() {
        InvoiceSmith smith = new InvoiceSmith();
        for (int wrong : NOT_OF_FOUR) {
            Checks.fails("place " + wrong, Checks.INDEX, () -> smith.rate(wrong, 0, 0, 0));
            Checks.fails("kind " + wrong, Checks.INDEX, () -> smith.rate(0, wrong, 0, 0));
            Checks.fails("kind " + wrong, Checks.INDEX, () -> smith.rate(3, wrong, 100, LAST_DAY));
            Checks.fails("both " + wrong, Checks.INDEX, () -> smith.rate(wrong, wrong, 0, 0));
        }
        Checks.is("none was told", smith.rate(3, 3, 0, 0), 0);
    }

    private static void rateOutOfRange() {
        InvoiceSmith smith = new InvoiceSmith();
        for (int wrong : new int[] {Integer.MIN_VALUE, -1, 101, 102, Integer.MAX_VALUE}) {
            Checks.fails("hundredths " + wrong, Checks.ARGUMENT, () -> smith.rate(0, 0, wrong, 0));
        }
        for (int wrong : new int[] {Integer.MIN_VALUE, -1, LAST_DAY + 1, LAST_DAY + 2, Integer.MAX_VALUE}) {
            Checks.fails("from " + wrong, Checks.ARGUMENT, () -> smith.rate(0, 0, 0, wrong));
        }
        Checks.is("none was told", smith.rate(0, 0, 0, 0), 0);
    }

    private static void rateTooMany() {
        InvoiceSmith smith = full();
        for (int place = 0; place < 4; place++) {
            int one = place;
            Checks.fails("place " + place, Checks.STATE, () -> smith.rate(one, 3 - one, 50, 0));
        }
        for (int i = 0; i < MOST_TELLINGS; i++) {
            Checks.is("the 60 stay", smith.telling(i % 4, i / 4 % 4, i), i);
        }
        InvoiceSmith nearly = new InvoiceSmith();
        for (int i = 0; i < MOST_TELLINGS - 1; i++) {
            nearly.rate(0, 0, 1, 1);
        }
        Checks.is("the sixtieth", nearly.rate(3, 3, 100, LAST_DAY), 59);
        Checks.is("known", nearly.telling(3, 3, LAST_DAY), 59);
    }

    // ---- promise 6

    private static void tellingAsKnownNow() {
        InvoiceSmith smith = new InvoiceSmith();
        Checks.is("ahead of all", smith.telling(1, 1, 5), NONE);
        smith.rate(1, 1, 10, 5);
        Checks.is("the one", smith.telling(1, 1, 5), 0);
        smith.pass(99);
        Checks.is("on a later day", smith.telling(1, 1, 5), 0);
        smith.rate(1, 1, 20, 5);
        Checks.is("told for a day gone by", smith.telling(1, 1, 5), 1);
        smith.rate(1, 1, 30, 3);
        Checks.is("told for an earlier day", smith.telling(1, 1, 5), 1);
        Checks.is("that day", smith.telling(1, 1, 4), 2);
        Checks.is("another place", smith.telling(2, 1, 5), NONE);
        Checks.is("another kind", smith.telling(1, 2, 5), NONE);
    }

    private static void dayInRange() {
        for (int first = 0; first <= LAST_DAY; first += 100) {
            InvoiceSmith smith = new InvoiceSmith();
            smith.rate(0, 0, 1, 0);
            smith.rate(0, 0, 2, LAST_DAY);
            for (int day = first; day < first + 100; day++) {
                Checks.is("day " + day, smith.telling(0, 0, day), day == LAST_DAY ? 1 : 0);
            }
        }
    }

    private static void numberOrNone() {
        InvoiceSmith smith = full();
        for (int i = 0; i < MOST_TELLINGS; i++) {
            Checks.is("its number", smith.telling(i % 4, i / 4 % 4, i), i);
            if (i > 0) {
                int ahead = i < 16 ? NONE : i - 16;
                Checks.is("the day ahead", smith.telling(i % 4, i / 4 % 4, i - 1), ahead);
            }
        }
    }

    private static void tellingOfNone() {
        InvoiceSmith smith = full();
        for (int wrong : NOT_OF_FOUR) {
            Checks.fails("place " + wrong, Checks.INDEX, () -> smith.telling(wrong, 0, 0));
            Checks.fails("kind " + wrong, Checks.INDEX, () -> smith.telling(0, wrong, 0));
            Checks.fails("kind " + wrong, Checks.INDEX, () -> smith.telling(3, wrong, LAST_DAY));
            Checks.fails("both " + wrong, Checks.INDEX, () -> smith.telling(wrong, wrong, 0));
        }
    }

    private static void dayOutOfRange() {
        InvoiceSmith smith = full();
        for (int wrong : new int[] {Integer.MIN_VALUE, -1, LAST_DAY + 1, LAST_DAY + 2, Integer.MAX_VALUE}) {
            Checks.fails("day " + wrong, Checks.ARGUMENT, () -> smith.telling(0, 0, wrong));
            Checks.fails("day " + wrong, Checks.ARGUMENT, () -> new InvoiceSmith().telling(3, 3, wrong));
        }
    }

    // ---- promise 7

    private static void roundsFromNowOn() {
        InvoiceSmith smith = new InvoiceSmith();
        smith.rate(0, 0, 20, 0);
        smith.rate(0, 1, 20, 0);
        int[] due = {0, 1, 2};
        for (int way = 0; way < 3; way++) {
            smith.round(0, way);
            Checks.is("tax", taxOfFour(smith, 0), due[way]);
        }
        for (int way = 0; way < 3; way++) {
            smith.round(0, way);
            for (int made = 0; made < 3; made++) {
                Checks.is("one made ahead keeps its way", smith.invoice(made, 7), made);
                Checks.is("and its tax", smith.invoice(made, 4), due[made]);
                Checks.is("anew too", smith.taxAnew(made), due[made]);
            }
        }
        InvoiceSmith drafted = new InvoiceSmith();
        drafted.line(0, 1, 1);
        drafted.round(0, 2);
        drafted.make(0);
        Checks.is("told between its lines and the making", drafted.invoice(0, 7), 2);
    }

    private static void wayInRange() {
        InvoiceSmith smith = new InvoiceSmith();
        for (int way = InvoiceSmith.BY_LINE; way <= InvoiceSmith.BY_ALL; way++) {
            smith.round(2, way);
            smith.client(1, 2);
            int invoice = Checks.makeOneLine(smith, 1, 0, 1, 1);
            Checks.is("way " + way, smith.invoice(invoice, 7), way);
        }
    }

    private static void wayBefore() {
        InvoiceSmith smith = new InvoiceSmith();
        for (int place = 0; place < 4; place++) {
            Checks.is("at first", smith.round(place, 2), 0);
            Checks.is("the same again", smith.round(place, 2), 2);
            Checks.is("another one", smith.round(place, 1), 2);
            Checks.is("and back", smith.round(place, 0), 1);
            Checks.is("to the first", smith.round(place, 2 - place / 2), 0);
        }
        for (int place = 0; place < 4; place++) {
            Checks.is("each place its own", smith.round(place, 0), 2 - place / 2);
        }
    }

    private static void roundOfNone() {
        InvoiceSmith smith = new InvoiceSmith();
        for (int wrong : NOT_OF_FOUR) {
            Checks.fails("place " + wrong, Checks.INDEX, () -> smith.round(wrong, 2));
        }
        for (int place = 0; place < 4; place++) {
            Checks.is("none was told", smith.round(place, 0), 0);
        }
    }

    private static void wayOutOfRange() {
        InvoiceSmith smith = new InvoiceSmith();
        smith.round(3, 1);
        for (int wrong : new int[] {Integer.MIN_VALUE, -1, 3, 4, Integer.MAX_VALUE}) {
            Checks.fails("way " + wrong, Checks.ARGUMENT, () -> smith.round(3, wrong));
        }
        Checks.is("none was told", smith.round(3, 0), 1);
    }

    // ---- promise 8

    private static void clientFromNowOn() {
        InvoiceSmith smith = new InvoiceSmith();
        smith.rate(1, 0, 10, 0);
        smith.rate(2, 0, 20, 0);
        smith.round(2, 1);
        Checks.makeOneLine(smith, 4, 0, 1, 100);
        smith.client(4, 1);
        Checks.makeOneLine(smith, 4, 0, 1, 100);
        smith.line(0, 1, 100);
        smith.client(4, 2);
        smith.make(4);
        Checks.makeOneLine(smith, 5, 0, 1, 100);
        int[] places = {0, 1, 2, 0};
        int[] taxes = {0, 10, 20, 0};
        int[] ways = {0, 0, 1, 0};
        for (int i = 0; i < 4; i++) {
            Checks.is("place of " + i, smith.invoice(i, 6), places[i]);
            Checks.is("tax of " + i, smith.invoice(i, 4), taxes[i]);
            Checks.is("tax anew of " + i, smith.taxAnew(i), taxes[i]);
            Checks.is("way of " + i, smith.invoice(i, 7), ways[i]);
        }
    }

    private static void placeBefore() {
        InvoiceSmith smith = new InvoiceSmith();
        for (int client = 0; client < 10; client++) {
            Checks.is("at first", smith.client(client, 3), 0);
            Checks.is("the same again", smith.client(client, 3), 3);
            Checks.is("another one", smith.client(client, 0), 3);
            Checks.is("the first", smith.client(client, client % 4), 0);
        }
        for (int client = 0; client < 10; client++) {
            Checks.is("each client its own", smith.client(client, 0), client % 4);
        }
    }

    private static void clientOfNone() {
        InvoiceSmith smith = new InvoiceSmith();
        for (int wrong : new int[] {Integer.MIN_VALUE, -1, 10, 11, Integer.MAX_VALUE}) {
            Checks.fails("client " + wrong, Checks.INDEX, () -> smith.client(wrong, 3));
        }
        for (int wrong : NOT_OF_FOUR) {
            Checks.fails("place " + wrong, Checks.INDEX, () -> smith.client(9, wrong));
            Checks.fails("both " + wrong, Checks.INDEX, () -> smith.client(wrong < 0 ? wrong : 10, wrong));
        }
        for (int client = 0; client < 10; client++) {
            Checks.is("none was told", smith.client(client, 0), 0);
        }
    }
}
