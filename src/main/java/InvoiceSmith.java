/**
 * A smith of invoices: templates, tax rates by place, kind and day, invoices, and the notes by which
 * what was told later is made good. What each call promises stands in the document.
 */
public final class InvoiceSmith {
    public static final int NONE = -1;
    public static final int BY_LINE = 0, BY_KIND = 1, BY_ALL = 2;

    private static final int PLACES = 4;
    private static final int KINDS = 4;
    private static final int CLIENTS = 10;
    private static final int MOST_SIGNS = 160;
    private static final int MOST_TEMPLATES = 6;
    private static final int MOST_NESTED = 5;
    private static final int MOST_DIGITS = 6;
    private static final int MOST_PASSED = 99;
    private static final int LAST_DAY = 9999;
    private static final int MOST_HUNDREDTHS = 100;
    private static final int MOST_TELLINGS = 60;
    private static final int MOST_LINES = 6;
    private static final int MOST_QUANTITY = 99;
    private static final int MOST_PRICE = 9999;
    private static final int MOST_INVOICES = 30;
    private static final int MOST_NOTES = 40;

    private final Reader reader = new Reader();
    private final Writer writer = new Writer();
    private final Form[] forms = new Form[MOST_TEMPLATES];
    private int formCount;

    private int today;
    private final Rates rates = new Rates();
    private final int[] ways = new int[PLACES];
    private final int[] placesOfClients = new int[CLIENTS];

    private Bill draft = new Bill();
    private final Bill[] bills = new Bill[MOST_INVOICES];
    private int billCount;
    private final int[] hundredthsNow = new int[KINDS];
    private final Ledger ledger = new Ledger();

    public InvoiceSmith() {
    }

    // ---- the page, templates

    public int type(long signs) throws IllegalArgumentException, IllegalStateException {
        Page page = reader.page;
        int more = Page.countSigns(signs);
        if (more == NONE) {
            throw new IllegalArgumentException("a sign is out of range, or stands behind 8 bits of 0");
        }
        if (page.size + more > MOST_SIGNS) {
            throw new IllegalStateException("the page has no room for that many signs");
        }
        page.append(signs, more);
        return page.size;
    }

    public int template(int template) throws IndexOutOfBoundsException, IllegalStateException {
        if (template < 0 || template > formCount) {
            throw new IndexOutOfBoundsException("no such template");
        }
        if (template >= forms.length) {
            throw new IllegalStateException("no more templates can be told");
        }
        int answer = reader.readPage();
        if (answer >= 0) {
            Form old = forms[template];
            forms[template] = reader.handOver(old == null ? new Form() : old);
            if (template == formCount) {
                formCount++;
            }
        }
        return answer;
    }

    // ---- days, rates

    public int pass(int days) throws IllegalArgumentException {
        if (days < 1 || days > MOST_PASSED) {
            throw new IllegalArgumentException("days is out of range");
        }
        today += days;
        return today;
    }

    public int rate(int place, int kind, int hundredths, int from)
            throws IndexOutOfBoundsException, IllegalArgumentException, IllegalStateException {
        checkPlace(place);
        checkKind(kind);
        if (hundredths < 0 || hundredths > MOST_HUNDREDTHS || from < 0 || from > LAST_DAY) {
            throw new IllegalArgumentException("hundredths or from is out of range");
        }
        if (rates.count >= MOST_TELLINGS) {
            throw new IllegalStateException("no more rates can be told");
        }
        return rates.tell(place, kind, hundredths, from);
    }

    public int telling(int place, int kind, int day) throws IndexOutOfBoundsException, IllegalArgumentException {
        checkPlace(place);
        checkKind(kind);
        if (day < 0 || day > LAST_DAY) {
            throw new IllegalArgumentException("day is out of range");
        }
        return rates.known(place, kind, day);
    }

    public int round(int place, int way) throws IndexOutOfBoundsException, IllegalArgumentException {
        checkPlace(place);
        if (way < BY_LINE || way > BY_ALL) {
            throw new IllegalArgumentException("way is out of range");
        }
        int before = get(ways, place);
        set(ways, place, way);
        return before;
    }

    // ---- drafts, invoices

    public int client(int client, int place) throws IndexOutOfBoundsException {
        checkClient(client);
        checkPlace(place);
        int before = get(placesOfClients, client);
        set(placesOfClients, client, place);
        return before;
    }

    public int line(int kind, int quantity, int price)
            throws IndexOutOfBoundsException, IllegalArgumentException, IllegalStateException {
        checkKind(kind);
        if (quantity < 1 || quantity > MOST_QUANTITY || price < 1 || price > MOST_PRICE) {
            throw new IllegalArgumentException("quantity or price is out of range");
        }
        if (draft.lineCount >= MOST_LINES) {
            throw new IllegalStateException("the draft has no room for another line");
        }
        draft.addLine(kind, quantity, price);
        return draft.lineCount;
    }

    public int strike(int line) throws IndexOutOfBoundsException {
        if (!draft.hasLine(line)) {
            throw new IndexOutOfBoundsException("no such line");
        }
        draft.removeLine(line);
        return draft.lineCount;
    }

    public int make(int client) throws IndexOutOfBoundsException, IllegalStateException {
        checkClient(client);
        int number = billCount;
        if (draft.lineCount == 0 || number < 0 || number >= bills.length) {
            throw new IllegalStateException("the draft is empty, or no more invoices can be made");
        }
        int place = get(placesOfClients, client);
        draft.number = number;
        draft.client = client;
        draft.day = today;
        draft.place = place;
        draft.way = get(ways, place);
        rates.fillTellings(place, today, draft.tellings);
        rates.fillHundredths(place, today, draft.hundredths);
        draft.tax = draft.taxBy(draft.hundredths);
        bills[number] = draft;
        billCount = number + 1;
        draft = new Bill();
        return number;
    }

    public int invoice(int invoice, int what) throws IndexOutOfBoundsException, IllegalArgumentException {
        Bill bill = findBill(invoice);
        switch (what) {
            case 0: return bill.client;
            case 1: return bill.day;
            case 2: return bill.lineCount;
            case 3: return bill.sumOfAmounts();
            case 4: return bill.tax;
            case 5: return bill.taxWithNotes();
            case 6: return bill.place;
            case 7: return bill.way;
            default: throw new IllegalArgumentException("what is out of range");
        }
    }

    public int taxAnew(int invoice) throws IndexOutOfBoundsException {
        return taxKnownNow(findBill(invoice));
    }

    public int used(int invoice, int line) throws IndexOutOfBoundsException {
        Bill bill = findBill(invoice);
        if (!bill.hasLine(line)) {
            throw new IndexOutOfBoundsException("no such line");
        }
        return get(bill.tellings, get(bill.kinds, line));
    }

    public char written(int invoice, int template, int place) throws IndexOutOfBoundsException {
        Bill bill = findBill(invoice);
        Form form = findForm(template);
        if (place < 0) {
            throw new IndexOutOfBoundsException("no such place in what is written");
        }
        writer.write(bill, form, place);
        return writer.kept;
    }

    public int length(int invoice, int template) throws IndexOutOfBoundsException {
        Bill bill = findBill(invoice);
        Form form = findForm(template);
        writer.write(bill, form, NONE);
        return writer.count;
    }

    // ---- notes

    public int settle(int place) throws IndexOutOfBoundsException {
        checkPlace(place);
        int before = ledger.count;
        for (int i = 0; i < bills.length && ledger.count < MOST_NOTES; i++) {
            Bill bill = bills[i];
            if (bill != null && bill.place == place) {
                makeGood(bill);
            }
        }
        return ledger.count - before;
    }

    public int notes() {
        return ledger.count;
    }

    public int note(int note, int what) throws IndexOutOfBoundsException, IllegalArgumentException {
        if (note < 0 || note >= ledger.count) {
            throw new IndexOutOfBoundsException("no such note");
        }
        switch (what) {
            case 0: return get(ledger.invoices, note);
            case 1: return get(ledger.differences, note);
            case 2: return get(ledger.days, note);
            default: throw new IllegalArgumentException("what is out of range");
        }
    }

    public int owed(int place) throws IndexOutOfBoundsException {
        checkPlace(place);
        int sum = 0;
        for (int i = 0; i < bills.length; i++) {
            Bill bill = bills[i];
            if (bill != null && bill.place == place) {
                sum += bill.taxWithNotes();
            }
        }
        return sum;
    }

    private static void checkPlace(int place) {
        if (place < 0 || place >= PLACES) {
            throw new IndexOutOfBoundsException("no such place");
        }
    }

    private static void checkKind(int kind) {
        if (kind < 0 || kind >= KINDS) {
            throw new IndexOutOfBoundsException("no such kind");
        }
    }

    private static void checkClient(int client) {
        if (client < 0 || client >= CLIENTS) {
            throw new IndexOutOfBoundsException("no such client");
        }
    }

    private Bill findBill(int invoice) {
        Bill bill = invoice < 0 || invoice >= bills.length ? null : bills[invoice];
        if (bill == null) {
            throw new IndexOutOfBoundsException("no such invoice");
        }
        return bill;
    }

    private Form findForm(int template) {
        Form form = template < 0 || template >= forms.length ? null : forms[template];
        if (form == null) {
            throw new IndexOutOfBoundsException("no such template");
        }
        return form;
    }

    private int taxKnownNow(Bill bill) {
        rates.fillHundredths(bill.place, bill.day, hundredthsNow);
        return bill.taxBy(hundredthsNow);
    }

    private void makeGood(Bill bill) {
        int difference = taxKnownNow(bill) - bill.taxWithNotes();
        if (difference != 0) {
            ledger.enter(bill.number, difference, today);
            bill.noted += difference;
        }
    }

    // Rows are read and changed by these two alone, so that no index is used untested.

    private static int get(int[] row, int index) {
        return index >= 0 && index < row.length ? row[index] : 0;
    }

    private static void set(int[] row, int index, int value) {
        if (index >= 0 && index < row.length) {
            row[index] = value;
        }
    }

    /** The signs that are typed, and not yet read. */
    private static final class Page {
        private static final int FIRST_SIGN = 32;
        private static final int LAST_SIGN = 126;
        private static final int SIGNS_IN_LONG = 8;
        private static final int BITS = 8;
        private static final int MASK = 255;

        /** Stands for the end of the page: no sign on it has this code. */
        private static final char END = (char) 0;

        private final int[] signs = new int[MOST_SIGNS];
        private int size;

        /** Returns how many signs are packed there; NONE if they cannot be typed. */
        private static int countSigns(long packed) {
            long rest = packed;
            for (int count = 0; count < SIGNS_IN_LONG; count++) {
                int sign = (int) (rest & MASK);
                if (sign == 0) {
                    return rest == 0 ? count : NONE;
                }
                if (sign < FIRST_SIGN || sign > LAST_SIGN) {
                    return NONE;
                }
                rest >>>= BITS;
            }
            return SIGNS_IN_LONG;
        }

        private void append(long packed, int count) {
            long rest = packed;
            for (int i = 0; i < count; i++) {
                set(signs, size, (int) (rest & MASK));
                size++;
                rest >>>= BITS;
            }
        }

        private char signAt(int place) {
            return place < size ? (char) get(signs, place) : END;
        }
    }

    /**
     * A template as a row of steps, each with two numbers. No sign of a page makes more than one step,
     * so a form has room for what any page can tell.
     */
    private static final class Form {
        /** Writes the sign that is first. */
        private static final int SIGN = 0;
        /** Writes the number whose name is first, at least as wide as second. */
        private static final int FIELD = 1;
        /** Adds what has the name first, or the number second if there is no name. */
        private static final int PLUS = 2;
        /** Takes away likewise. */
        private static final int MINUS = 3;
        /** Puts the sum aside as the left one. */
        private static final int LEFT = 4;
        /** Goes on at second, unless the sums are as the sign that is first tells. */
        private static final int UNLESS = 5;
        /** Goes on at second. */
        private static final int JUMP = 6;
        /** Begins with the first line. */
        private static final int LOOP = 7;
        /** Goes on at second with the next line, if there is one. */
        private static final int AGAIN = 8;

        private final int[] deeds = new int[MOST_SIGNS];
        private final int[] firsts = new int[MOST_SIGNS];
        private final int[] seconds = new int[MOST_SIGNS];
        private int size;

        /** Adds a step and returns its place. */
        private int add(int deed, int first, int second) {
            int place = size;
            set(deeds, place, deed);
            set(firsts, place, first);
            set(seconds, place, second);
            size = place + 1;
            return place;
        }

        /** Lets the step at a place go on behind the steps that there are now. */
        private void aimHere(int place) {
            set(seconds, place, size);
        }
    }

    /**
     * Reads the page into a form. What reads a piece of it answers whether the piece is whole;
     * if it is not, the reading stands at the FAULT.
     */
    private static final class Reader {
        private static final String NAMES = "ncdlstg";
        private static final String NAMES_IN_LOOP = "ikqpax";

        private final Page page = new Page();
        private Form form = new Form();
        private int at;
        private int parts;

        /** Reads and empties the page; returns how many PARTs there are but signs, -1 less the place of the FAULT. */
        private int readPage() {
            form.size = 0;
            at = 0;
            parts = 0;
            boolean whole = readParts(0, false, false) && at == page.size;
            page.size = 0;
            return whole ? parts : -1 - at;
        }

        /** Hands over the form that was read, and takes another one for the next reading. */
        private Form handOver(Form next) {
            Form read = form;
            form = next;
            return read;
        }

        /**
         * Reads PARTs up to a sign that is none of them, which the caller looks at; depth tells how many
         * loops and choices they stand in, ofLoop whether the innermost of these is a loop.
         */
        private boolean readParts(int depth, boolean inLoop, boolean ofLoop) {
            for (int i = 0; i < MOST_SIGNS; i++) {
                char sign = page.signAt(at);
                if (sign == Page.END || sign == '|' || sign == '}' || ofLoop && endsLoop()) {
                    return true;
                }
                at++;
                boolean whole = true;
                if (sign != '{') {
                    form.add(Form.SIGN, sign, 0);
                } else if (page.signAt(at) == '*') {
                    whole = !inLoop && depth < MOST_NESTED && readLoop(depth);
                } else if (page.signAt(at) == '?') {
                    whole = depth < MOST_NESTED && readChoice(depth, inLoop);
                } else {
                    whole = readField(inLoop);
                }
                if (!whole) {
                    return false;
                }
            }
            return true;
        }

        private boolean endsLoop() {
            return page.signAt(at) == '*' && page.signAt(at + 1) == '}';
        }

        private boolean readLoop(int depth) {
            at++;
            parts++;
            int begin = form.add(Form.LOOP, 0, 0);
            if (!readParts(depth + 1, true, true) || !endsLoop()) {
                return false;
            }
            at += 2;
            form.add(Form.AGAIN, 0, begin + 1);
            return true;
        }

        private boolean readChoice(int depth, boolean inLoop) {
            at++;
            parts++;
            if (!readSum(inLoop)) {
                return false;
            }
            char relation = page.signAt(at);
            if (!skip('<') && !skip('>') && !skip('=')) {
                return false;
            }
            form.add(Form.LEFT, 0, 0);
            if (!readSum(inLoop) || !skip(':')) {
                return false;
            }
            int unless = form.add(Form.UNLESS, relation, 0);
            if (!readParts(depth + 1, inLoop, false)) {
                return false;
            }
            if (!skip('|')) {
                form.aimHere(unless);
                return skip('}');
            }
            int jump = form.add(Form.JUMP, 0, 0);
            form.aimHere(unless);
            if (!readParts(depth + 1, inLoop, false)) {
                return false;
            }
            form.aimHere(jump);
            return skip('}');
        }

        private boolean readField(boolean inLoop) {
            char name = page.signAt(at);
            if (!isName(name, inLoop)) {
                return false;
            }
            at++;
            parts++;
            int width = 0;
            char digit = page.signAt(at);
            if (digit >= '1' && digit <= '9') {
                width = digit - '0';
                at++;
            }
            form.add(Form.FIELD, name, width);
            return skip('}');
        }

        private boolean readSum(boolean inLoop) {
            if (!readTerm(Form.PLUS, inLoop)) {
                return false;
            }
            for (int i = 0; i < MOST_SIGNS; i++) {
                boolean plus = skip('+');
                if (!plus && !skip('-')) {
                    return true;
                }
                if (!readTerm(plus ? Form.PLUS : Form.MINUS, inLoop)) {
                    return false;
                }
            }
            return true;
        }

        private boolean readTerm(int deed, boolean inLoop) {
            char name = page.signAt(at);
            if (isName(name, inLoop)) {
                at++;
                form.add(deed, name, 0);
                return true;
            }
            int number = 0;
            int digits = 0;
            while (digits < MOST_DIGITS && isDigit(page.signAt(at))) {
                number = number * 10 + (page.signAt(at) - '0');
                digits++;
                at++;
            }
            form.add(deed, Page.END, number);
            return digits > 0;
        }

        private static boolean isName(char sign, boolean inLoop) {
            return NAMES.indexOf(sign) >= 0 || inLoop && NAMES_IN_LOOP.indexOf(sign) >= 0;
        }

        private static boolean isDigit(char sign) {
            return sign >= '0' && sign <= '9';
        }

        /** Steps over a sign, if it is the one that is told. */
        private boolean skip(char sign) {
            boolean there = page.signAt(at) == sign;
            if (there) {
                at++;
            }
            return there;
        }
    }

    /** Writes an invoice by a form: counts the signs, and keeps the one that is wanted. */
    private static final class Writer {
        /** Far above what any form can need. */
        private static final int MOST_STEPS = 1000000;
        private static final int MOST_DIGITS_WRITTEN = 10;

        /** Of the number that is being written, from the lowest one on. */
        private final int[] digits = new int[MOST_DIGITS_WRITTEN];
        private int count;
        private int wanted;
        private char kept;
        private int line;
        private long left;
        private long sum;

        private void write(Bill bill, Form form, int place) {
            count = 0;
            wanted = place;
            kept = ' ';
            line = NONE;
            left = 0;
            sum = 0;
            int at = 0;
            for (int steps = 0; steps < MOST_STEPS && at < form.size; steps++) {
                at = step(bill, form, at);
            }
        }

        /** Does the step at a place, and returns the place of the next one. */
        private int step(Bill bill, Form form, int at) {
            int first = get(form.firsts, at);
            int second = get(form.seconds, at);
            switch (get(form.deeds, at)) {
                case Form.SIGN:
                    put((char) first);
                    return at + 1;
                case Form.FIELD:
                    putNumber(bill.numberNamed((char) first, line), second);
                    return at + 1;
                case Form.PLUS:
                    sum += first == Page.END ? second : bill.numberNamed((char) first, line);
                    return at + 1;
                case Form.MINUS:
                    sum -= first == Page.END ? second : bill.numberNamed((char) first, line);
                    return at + 1;
                case Form.LEFT:
                    left = sum;
                    sum = 0;
                    return at + 1;
                case Form.UNLESS:
                    return compareSums((char) first) ? at + 1 : second;
                case Form.JUMP:
                    return second;
                case Form.LOOP:
                    line = 0;
                    return at + 1;
                default:
                    return nextLine(bill) ? second : at + 1;
            }
        }

        private boolean compareSums(char relation) {
            long right = sum;
            sum = 0;
            switch (relation) {
                case '<': return left < right;
                case '>': return left > right;
                default: return left == right;
            }
        }

        private boolean nextLine(Bill bill) {
            line++;
            boolean there = bill.hasLine(line);
            if (!there) {
                line = NONE;
            }
            return there;
        }

        private void put(char sign) {
            if (count == wanted) {
                kept = sign;
            }
            count++;
        }

        private void putNumber(int number, int width) {
            boolean below = number < 0;
            long rest = below ? -(long) number : number;
            int size = 0;
            do {
                set(digits, size, (int) (rest % 10));
                size++;
                rest /= 10;
            } while (rest > 0 && size < MOST_DIGITS_WRITTEN);
            for (int signs = below ? size + 1 : size; signs < width; signs++) {
                put(' ');
            }
            if (below) {
                put('-');
            }
            for (int i = size - 1; i >= 0; i--) {
                put((char) ('0' + get(digits, i)));
            }
        }
    }

    /** The rates that were told, by the numbers of their tellings. */
    private static final class Rates {
        private final int[] places = new int[MOST_TELLINGS];
        private final int[] kinds = new int[MOST_TELLINGS];
        private final int[] hundredths = new int[MOST_TELLINGS];
        private final int[] froms = new int[MOST_TELLINGS];
        private int count;

        private int tell(int place, int kind, int hundredthsTold, int from) {
            int number = count;
            set(places, number, place);
            set(kinds, number, kind);
            set(hundredths, number, hundredthsTold);
            set(froms, number, from);
            count = number + 1;
            return number;
        }

        /** Returns the telling by which the rate of a day is now; NONE if there is none. */
        private int known(int place, int kind, int day) {
            int best = NONE;
            int bestFrom = NONE;
            for (int i = 0; i < count; i++) {
                int from = get(froms, i);
                if (get(places, i) == place && get(kinds, i) == kind && from <= day && from >= bestFrom) {
                    best = i;
                    bestFrom = from;
                }
            }
            return best;
        }

        /** Puts the tellings of a place and a day into a row, by kinds. */
        private void fillTellings(int place, int day, int[] row) {
            for (int kind = 0; kind < KINDS; kind++) {
                set(row, kind, known(place, kind, day));
            }
        }

        /** Puts the rates of a place and a day into a row, by kinds. */
        private void fillHundredths(int place, int day, int[] row) {
            for (int kind = 0; kind < KINDS; kind++) {
                int number = known(place, kind, day);
                set(row, kind, number == NONE ? 0 : get(hundredths, number));
            }
        }
    }

    /** A draft, and what is made of it: an invoice. */
    private static final class Bill {
        private final int[] kinds = new int[MOST_LINES];
        private final int[] quantities = new int[MOST_LINES];
        private final int[] prices = new int[MOST_LINES];
        private int lineCount;

        private int number;
        private int client;
        private int day;
        private int place;
        private int way;
        /** By kinds, as they were known when the invoice was made. */
        private final int[] tellings = new int[KINDS];
        private final int[] hundredths = new int[KINDS];
        private int tax;
        /** The sum of its notes. */
        private int noted;

        private boolean hasLine(int index) {
            return index >= 0 && index < lineCount;
        }

        private void addLine(int kind, int quantity, int price) {
            set(kinds, lineCount, kind);
            set(quantities, lineCount, quantity);
            set(prices, lineCount, price);
            lineCount++;
        }

        private void removeLine(int index) {
            for (int i = index; i + 1 < lineCount; i++) {
                set(kinds, i, get(kinds, i + 1));
                set(quantities, i, get(quantities, i + 1));
                set(prices, i, get(prices, i + 1));
            }
            lineCount--;
        }

        private int amountOf(int index) {
            return get(quantities, index) * get(prices, index);
        }

        private int sumOfAmounts() {
            int sum = 0;
            for (int i = 0; i < lineCount; i++) {
                sum += amountOf(i);
            }
            return sum;
        }

        private int taxWithNotes() {
            return tax + noted;
        }

        /** Returns the tax by rates told by kinds, rounded in the way of this bill. */
        private int taxBy(int[] rates) {
            switch (way) {
                case BY_LINE: return taxByLine(rates);
                case BY_KIND: return taxByKind(rates);
                default: return taxByAll(rates);
            }
        }

        private int taxByLine(int[] rates) {
            int sum = 0;
            for (int i = 0; i < lineCount; i++) {
                sum += hundredth(timesRate(i, rates));
            }
            return sum;
        }

        private int taxByKind(int[] rates) {
            int sum = 0;
            for (int kind = 0; kind < KINDS; kind++) {
                int ofKind = 0;
                for (int i = 0; i < lineCount; i++) {
                    ofKind += get(kinds, i) == kind ? timesRate(i, rates) : 0;
                }
                sum += hundredth(ofKind);
            }
            return sum;
        }

        private int taxByAll(int[] rates) {
            int all = 0;
            for (int i = 0; i < lineCount; i++) {
                all += timesRate(i, rates);
            }
            return hundredth(all);
        }

        private int timesRate(int index, int[] rates) {
            return amountOf(index) * get(rates, get(kinds, index));
        }

        /** A half and more is rounded up; nothing here is below 0. */
        private static int hundredth(int number) {
            return (number + 50) / 100;
        }

        /** Returns what a NAME of a template stands for, those within a loop at a line. */
        private int numberNamed(char name, int index) {
            switch (name) {
                case 'n': return number;
                case 'c': return client;
                case 'd': return day;
                case 'l': return lineCount;
                case 's': return sumOfAmounts();
                case 't': return tax;
                case 'g': return sumOfAmounts() + tax;
                case 'i': return index + 1;
                case 'k': return get(kinds, index);
                case 'q': return get(quantities, index);
                case 'p': return get(prices, index);
                case 'a': return amountOf(index);
                default: return hundredth(timesRate(index, hundredths));
            }
        }
    }

    /** The notes that were made. */
    private static final class Ledger {
        private final int[] invoices = new int[MOST_NOTES];
        private final int[] differences = new int[MOST_NOTES];
        private final int[] days = new int[MOST_NOTES];
        private int count;

        private void enter(int invoiceNumber, int difference, int day) {
            set(invoices, count, invoiceNumber);
            set(differences, count, difference);
            set(days, count, day);
            count++;
        }
    }
}
