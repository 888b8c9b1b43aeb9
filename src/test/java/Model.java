import java.util.ArrayList;
import java.util.List;
import java.util.Map;
import java.util.TreeMap;

/**
 * The document told once more, as plainly as can be and without a thought for room: what ModelTest
 * holds the class against. It shares no code and no way of working with it.
 */
final class Model {
    /** A fault in a template, at a place. */
    private static final class Fault extends RuntimeException {
        private static final long serialVersionUID = 1L;
        final int place;

        Fault(int place) {
            this.place = place;
        }
    }

    private interface Part {
        void write(StringBuilder out, Invoice invoice, int line);
    }

    private interface Sum {
        long reckon(Invoice invoice, int line);
    }

    private record Telling(int place, int kind, int hundredths, int from) {
    }

    private record Line(int kind, int quantity, int price) {
        int amount() {
            return quantity * price;
        }
    }

    private record Note(int invoice, int difference, int day) {
    }

    private record Invoice(int number, int client, int day, int place, int way, List<Line> lines, int tax,
            List<Integer> used, List<Integer> rates) {
    }

    private final StringBuilder page = new StringBuilder();
    private final List<List<Part>> templates = new ArrayList<>();
    private final List<Telling> tellings = new ArrayList<>();
    private final int[] ways = new int[4];
    private final int[] places = new int[10];
    private List<Line> draft = new ArrayList<>();
    private final List<Invoice> invoices = new ArrayList<>();
    private final List<Note> notes = new ArrayList<>();
    private int today;

    int templateCount() {
        return templates.size();
    }

    int invoiceCount() {
        return invoices.size();
    }

    private static void index(boolean holds) {
        if (!holds) {
            throw new IndexOutOfBoundsException();
        }
    }

    private static void argument(boolean holds) {
        if (!holds) {
            throw new IllegalArgumentException();
        }
    }

    private static void state(boolean holds) {
        if (!holds) {
            throw new IllegalStateException();
        }
    }

    private static boolean within(int number, int least, int most) {
        return least <= number && number <= most;
    }

    int type(long signs) {
        StringBuilder more = new StringBuilder();
        boolean ended = false;
        for (int i = 0; i < 8; i++) {
            int sign = (int) (signs >> 8 * i & 255);
            if (sign == 0) {
                ended = true;
            } else {
                argument(!ended && within(sign, 32, 126));
                more.append((char) sign);
            }
        }
        state(page.length() + more.length() <= 160);
        return page.append(more).length();
    }

    int template(int template) {
        index(within(template, 0, templates.size()));
        state(template < 6);
        String text = page.toString();
        page.setLength(0);
        Parser parser = new Parser(text);
        try {
            List<Part> parts = parser.parts(new ArrayList<>());
            if (parser.at < text.length()) {
                throw new Fault(parser.at);
            }
            if (template == templates.size()) {
                templates.add(parts);
            } else {
                templates.set(template, parts);
            }
            return parser.count;
        } catch (Fault fault) {
            return -1 - fault.place;
        }
    }

    int pass(int days) {
        argument(within(days, 1, 99));
        return today += days;
    }

    int rate(int place, int kind, int hundredths, int from) {
        index(within(place, 0, 3) && within(kind, 0, 3));
        argument(within(hundredths, 0, 100) && within(from, 0, 9999));
        state(tellings.size() < 60);
        tellings.add(new Telling(place, kind, hundredths, from));
        return tellings.size() - 1;
    }

    private int known(int place, int kind, int day) {
        Map<Integer, Integer> byDay = new TreeMap<>();
        for (int i = 0; i < tellings.size(); i++) {
            Telling telling = tellings.get(i);
            if (telling.place == place && telling.kind == kind && telling.from <= day) {
                byDay.put(-telling.from, i);
            }
        }
        return byDay.isEmpty() ? -1 : byDay.values().iterator().next();
    }

    int telling(int place, int kind, int day) {
        index(within(place, 0, 3) && within(kind, 0, 3));
        argument(within(day, 0, 9999));
        return known(place, kind, day);
    }

    int round(int place, int way) {
        index(within(place, 0, 3));
        argument(within(way, 0, 2));
        int before = ways[place];
        ways[place] = way;
        return before;
    }

    int client(int client, int place) {
        index(within(client, 0, 9) && within(place, 0, 3));
        int before = places[client];
        places[client] = place;
        return before;
    }

    int line(int kind, int quantity, int price) {
        index(within(kind, 0, 3));
        argument(within(quantity, 1, 99) && within(price, 1, 9999));
        state(draft.size() < 6);
        draft.add(new Line(kind, quantity, price));
        return draft.size();
    }

    int strike(int line) {
        index(within(line, 0, draft.size() - 1));
        draft.remove(line);
        return draft.size();
    }

    int make(int client) {
        index(within(client, 0, 9));
        state(!draft.isEmpty() && invoices.size() < 30);
        int place = places[client];
        List<Integer> used = new ArrayList<>();
        List<Integer> rates = new ArrayList<>();
        for (Line line : draft) {
            int known = known(place, line.kind, today);
            used.add(known);
            rates.add(known < 0 ? 0 : tellings.get(known).hundredths);
        }
        int tax = tax(draft, rates, ways[place]);
        invoices.add(new Invoice(invoices.size(), client, today, place, ways[place], draft, tax, used, rates));
        draft = new ArrayList<>();
        return invoices.size() - 1;
    }

    private static int rounded(long hundredths) {
        long whole = hundredths / 100;
        return (int) (hundredths % 100 >= 50 ? whole + 1 : whole);
    }

    private static int tax(List<Line> lines, List<Integer> rates, int way) {
        if (way == 1) {
            Map<Integer, Long> amounts = new TreeMap<>();
            Map<Integer, Integer> ratesOfKinds = new TreeMap<>();
            for (int i = 0; i < lines.size(); i++) {
                amounts.merge(lines.get(i).kind, (long) lines.get(i).amount(), Long::sum);
                ratesOfKinds.put(lines.get(i).kind, rates.get(i));
            }
            int sum = 0;
            for (int kind : amounts.keySet()) {
                sum += rounded(amounts.get(kind) * ratesOfKinds.get(kind));
            }
            return sum;
        }
        int byLine = 0;
        long all = 0;
        for (int i = 0; i < lines.size(); i++) {
            long product = (long) lines.get(i).amount() * rates.get(i);
            byLine += rounded(product);
            all += product;
        }
        return way == 0 ? byLine : rounded(all);
    }

    private static int sum(Invoice invoice) {
        return invoice.lines.stream().mapToInt(Line::amount).sum();
    }

    private int withNotes(Invoice invoice) {
        return invoice.tax
                + notes.stream().filter(n -> n.invoice == invoice.number).mapToInt(Note::difference).sum();
    }

    int invoice(int invoice, int what) {
        index(within(invoice, 0, invoices.size() - 1));
        argument(within(what, 0, 7));
        Invoice one = invoices.get(invoice);
        return new int[] {one.client, one.day, one.lines.size(), sum(one), one.tax, withNotes(one), one.place,
            one.way}[what];
    }

    int taxAnew(int invoice) {
        index(within(invoice, 0, invoices.size() - 1));
        Invoice one = invoices.get(invoice);
        List<Integer> rates = new ArrayList<>();
        for (Line line : one.lines) {
            int known = known(one.place, line.kind, one.day);
            rates.add(known < 0 ? 0 : tellings.get(known).hundredths);
        }
        return tax(one.lines, rates, one.way);
    }

    int used(int invoice, int line) {
        index(within(invoice, 0, invoices.size() - 1));
        Invoice one = invoices.get(invoice);
        index(within(line, 0, one.lines.size() - 1));
        return one.used.get(line);
    }

    private String text(int invoice, int template) {
        index(within(invoice, 0, invoices.size() - 1) && within(template, 0, templates.size() - 1));
        StringBuilder out = new StringBuilder();
        for (Part part : templates.get(template)) {
            part.write(out, invoices.get(invoice), -1);
        }
        return out.toString();
    }

    char written(int invoice, int template, int place) {
        String text = text(invoice, template);
        index(place >= 0);
        return place < text.length() ? text.charAt(place) : ' ';
    }

    int length(int invoice, int template) {
        return text(invoice, template).length();
    }

    int settle(int place) {
        index(within(place, 0, 3));
        int made = 0;
        for (Invoice invoice : invoices) {
            int difference = taxAnew(invoice.number) - withNotes(invoice);
            if (invoice.place == place && difference != 0 && notes.size() < 40) {
                notes.add(new Note(invoice.number, difference, today));
                made++;
            }
        }
        return made;
    }

    int notes() {
        return notes.size();
    }

    int note(int note, int what) {
        index(within(note, 0, notes.size() - 1));
        argument(within(what, 0, 2));
        Note one = notes.get(note);
        return new int[] {one.invoice, one.difference, one.day}[what];
    }

    int owed(int place) {
        index(within(place, 0, 3));
        return invoices.stream().filter(i -> i.place == place).mapToInt(this::withNotes).sum();
    }

    private static long named(char name, Invoice invoice, int line) {
        switch (name) {
            case 'n': return invoice.number;
            case 'c': return invoice.client;
            case 'd': return invoice.day;
            case 'l': return invoice.lines.size();
            case 's': return sum(invoice);
            case 't': return invoice.tax;
            case 'g': return sum(invoice) + invoice.tax;
            case 'i': return line + 1;
            case 'k': return invoice.lines.get(line).kind;
            case 'q': return invoice.lines.get(line).quantity;
            case 'p': return invoice.lines.get(line).price;
            case 'a': return invoice.lines.get(line).amount();
            case 'x': return rounded((long) invoice.lines.get(line).amount() * invoice.rates.get(line));
            default: throw new AssertionError(name);
        }
    }

    /** Reads a template into a tree; what stands open is a list of 'l' for loops and 'c' for choices. */
    private static final class Parser {
        private final String text;
        private int at;
        private int count;

        Parser(String text) {
            this.text = text;
        }

        private boolean sees(String what) {
            return text.startsWith(what, at);
        }

        private void expect(String what) {
            for (int i = 0; i < what.length(); i++) {
                if (!sees(what.substring(i, i + 1))) {
                    throw new Fault(at);
                }
                at++;
            }
        }

        private List<Part> parts(List<Character> open) {
            List<Part> parts = new ArrayList<>();
            boolean ofLoop = !open.isEmpty() && open.get(open.size() - 1) == 'l';
            while (at < text.length() && !sees("|") && !sees("}") && !(ofLoop && sees("*}"))) {
                parts.add(part(open));
            }
            return parts;
        }

        private static List<Character> with(List<Character> open, char more) {
            List<Character> all = new ArrayList<>(open);
            all.add(more);
            return all;
        }

        private Part part(List<Character> open) {
            if (!sees("{")) {
                String sign = text.substring(at, ++at);
                return (out, invoice, line) -> out.append(sign);
            }
            expect("{");
            count++;
            if (sees("*") && !open.contains('l') && open.size() <= 4) {
                expect("*");
                List<Part> parts = parts(with(open, 'l'));
                expect("*}");
                return (out, invoice, line) -> {
                    for (int i = 0; i < invoice.lines.size(); i++) {
                        for (Part part : parts) {
                            part.write(out, invoice, i);
                        }
                    }
                };
            }
            return sees("?") && open.size() <= 4 ? choice(open) : field(open);
        }

        private Part choice(List<Character> open) {
            expect("?");
            Sum left = sum(open);
            char relation = at < text.length() ? text.charAt(at) : 'e';
            expect("<>=".indexOf(relation) >= 0 ? String.valueOf(relation) : "<");
            Sum right = sum(open);
            expect(":");
            List<Part> first = parts(with(open, 'c'));
            List<Part> second = new ArrayList<>();
            if (sees("|")) {
                expect("|");
                second = parts(with(open, 'c'));
            }
            expect("}");
            List<Part> other = second;
            return (out, invoice, line) -> {
                long a = left.reckon(invoice, line);
                long b = right.reckon(invoice, line);
                boolean holds = relation == '<' ? a < b : relation == '>' ? a > b : a == b;
                for (Part part : holds ? first : other) {
                    part.write(out, invoice, line);
                }
            };
        }

        private char name(List<Character> open) {
            String names = open.contains('l') ? "ncdlstgikqpax" : "ncdlstg";
            if (at >= text.length() || names.indexOf(text.charAt(at)) < 0) {
                throw new Fault(at);
            }
            return text.charAt(at++);
        }

        private Part field(List<Character> open) {
            char name = name(open);
            int width = 1;
            if (at < text.length() && text.substring(at, at + 1).matches("[1-9]")) {
                width = Integer.parseInt(text.substring(at, ++at));
            }
            expect("}");
            String format = "%" + width + "d";
            return (out, invoice, line) -> out.append(String.format(format, named(name, invoice, line)));
        }

        private Sum sum(List<Character> open) {
            Sum all = term(open);
            while (sees("+") || sees("-")) {
                boolean plus = sees("+");
                at++;
                Sum before = all;
                Sum next = term(open);
                all = (invoice, line) -> before.reckon(invoice, line)
                        + (plus ? next.reckon(invoice, line) : -next.reckon(invoice, line));
            }
            return all;
        }

        private Sum term(List<Character> open) {
            int begin = at;
            while (at < text.length() && at < begin + 6 && Character.isDigit(text.charAt(at))) {
                at++;
            }
            if (at > begin) {
                long number = Long.parseLong(text.substring(begin, at));
                return (invoice, line) -> number;
            }
            char name = name(open);
            return (invoice, line) -> named(name, invoice, line);
        }
    }
}
