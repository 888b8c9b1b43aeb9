import java.util.Random;
import java.util.concurrent.Callable;

/** Holds the class against the model in runs of calls that are always the same. */
public final class ModelTest {
    private static final int RUNS = 3000;
    private static final int CALLS = 512;
    private static final int KINDS_OF_CALLS = 19;

    private final Random random;
    private final InvoiceSmith smith = new InvoiceSmith();
    private final Model model = new Model();
    private final StringBuilder told = new StringBuilder();
    private int calls;
    private final boolean tidy;
    /** Two kinds of calls that a run makes more of, so that it comes to the limits of some things. */
    private final int[] favoured;
    /** The last place and the last kind: a run of one alone, with rates from the first days on, has many notes. */
    private final int last;

    private ModelTest(long seed) {
        random = new Random(seed);
        tidy = seed % 2 == 0;
        last = seed % 4 == 0 ? 0 : 3;
        favoured = new int[] {random.nextInt(KINDS_OF_CALLS), random.nextInt(KINDS_OF_CALLS)};
    }

    public static void main(String[] args) {
        for (int run = 0; run < RUNS; run++) {
            new ModelTest(run).run(run);
        }
        changeEachSign("a{n2}{*{i}*{?q-1<p+23:{x9}*|{g}**}*}{?s=t:b}*");
        changeEachSign("{?1=1:{?l>2-n:|{*{?k=k:{?a<0:c}}*}}}");
        changeEachSign("{?123456-7890+d<c:{t}|{?0=0:}}{**}");
        Checks.end("ModelTest");
    }

    /** Puts each sign at each place of a whole template, in place of the one there and ahead of it. */
    private static void changeEachSign(String text) {
        for (int place = 0; place <= text.length(); place++) {
            for (char sign = 32; sign <= 126; sign++) {
                String rest = text.substring(place);
                readBoth(text.substring(0, place) + sign + rest);
                readBoth(text.substring(0, place) + sign + (rest.isEmpty() ? "" : rest.substring(1)));
            }
        }
    }

    private static void readBoth(String text) {
        Model model = new Model();
        for (char sign : text.toCharArray()) {
            model.type(sign);
        }
        Checks.is("template [" + text + "]", Checks.readAlone(text), model.template(0));
    }

    private int kindOfCall() {
        return random.nextBoolean() ? favoured[random.nextInt(2)] : random.nextInt(KINDS_OF_CALLS);
    }

    private static String answer(Callable<?> call) {
        try {
            return String.valueOf(call.call());
        } catch (Exception e) {
            return e.getClass().getSimpleName();
        }
    }

    /** Makes a call of both, unless there have been as many as an object is used for. */
    private void both(String what, Callable<?> ofSmith, Callable<?> ofModel) {
        if (calls < CALLS) {
            calls++;
            Checks.is(what, answer(ofSmith), answer(ofModel));
        }
    }

    /** A number from least to most, now and then one beside them. */
    private int some(int least, int most) {
        if (random.nextInt(tidy ? 400 : 40) == 0) {
            int[] beside = {least - 1, most + 1, Integer.MIN_VALUE, Integer.MAX_VALUE};
            return beside[random.nextInt(4)];
        }
        return least + random.nextInt(most - least + 1);
    }

    private void run(int run) {
        while (calls < CALLS) {
            if (random.nextInt(tidy ? 40 : 8) == 0) {
                tellTemplate(run);
            } else {
                call("run " + run + ", call " + calls);
            }
        }
    }

    private void tellTemplate(int run) {
        String text = page();
        for (int i = 0; i < text.length(); i += 8) {
            long signs = Checks.pack(text.substring(i, Math.min(text.length(), i + 8)));
            both("run " + run + ", type", () -> smith.type(signs), () -> model.type(signs));
        }
        int number = some(0, model.templateCount());
        both("run " + run + ", template " + number + " [" + text + "]",
                () -> smith.template(number), () -> model.template(number));
    }

    private String page() {
        told.setLength(0);
        parts(random.nextInt(7), false);
        int changes = random.nextInt(3) == 0 ? 1 + random.nextInt(2) : 0;
        for (int i = 0; i < changes && told.length() > 0; i++) {
            String signs = "{}*|?:<>=+-ngiax0159 ";
            char sign = signs.charAt(random.nextInt(signs.length()));
            int place = random.nextInt(told.length());
            switch (random.nextInt(4)) {
                case 0: told.deleteCharAt(place); break;
                case 1: told.insert(place, sign); break;
                case 2: told.setLength(place); break;
                default: told.setCharAt(place, sign);
            }
        }
        if (told.length() > 160) {
            told.setLength(160);
        }
        return told.toString();
    }

    private void parts(int depth, boolean inLoop) {
        for (int i = random.nextInt(4); i > 0; i--) {
            int what = random.nextInt(depth > 0 ? 8 : 4);
            if (what < 1) {
                told.append("ab *?:".charAt(random.nextInt(6)));
            } else if (what < 4) {
                told.append('{').append(name(inLoop));
                if (random.nextInt(3) == 0) {
                    told.append(1 + random.nextInt(9));
                }
                told.append('}');
            } else if (what < 6 && (!inLoop || random.nextInt(20) == 0)) {
                told.append("{*");
                parts(depth - 1, true);
                told.append("*}");
            } else {
                choice(depth, inLoop);
            }
        }
    }

    private void choice(int depth, boolean inLoop) {
        told.append("{?");
        sum(inLoop);
        told.append("<>=".charAt(random.nextInt(3)));
        sum(inLoop);
        told.append(':');
        parts(depth - 1, inLoop);
        if (random.nextBoolean()) {
            told.append('|');
            parts(depth - 1, inLoop);
        }
        told.append('}');
    }

    private void sum(boolean inLoop) {
        for (int i = random.nextInt(3); i >= 0; i--) {
            if (random.nextInt(3) == 0) {
                told.append(random.nextInt(random.nextBoolean() ? 10 : 1000));
            } else {
                told.append(name(inLoop));
            }
            told.append(i == 0 ? "" : random.nextBoolean() ? "+" : "-");
        }
    }

    private char name(boolean inLoop) {
        String names = inLoop ? "ncdlstgikqpaxikqpax" : "ncdlstg";
        return names.charAt(random.nextInt(names.length()));
    }

    private void call(String run) {
        int invoice = some(0, Math.max(0, model.invoiceCount() - 1));
        int place = some(0, last);
        int kind = some(0, last);
        switch (kindOfCall()) {
            case 0 -> {
                int days = some(1, random.nextBoolean() ? 5 : 99);
                both(run + " pass", () -> smith.pass(days), () -> model.pass(days));
            }
            case 1 -> {
                int hundredths = some(0, 100);
                int from = some(0, last == 0 ? 1 : random.nextBoolean() ? 200 : 9999);
                both(run + " rate", () -> smith.rate(place, kind, hundredths, from),
                        () -> model.rate(place, kind, hundredths, from));
            }
            case 2 -> {
                int day = some(0, random.nextBoolean() ? 200 : 9999);
                both(run + " telling", () -> smith.telling(place, kind, day), () -> model.telling(place, kind, day));
            }
            case 3 -> {
                int way = some(0, 2);
                both(run + " round", () -> smith.round(place, way), () -> model.round(place, way));
            }
            case 4 -> {
                int client = some(0, 9);
                both(run + " client", () -> smith.client(client, place), () -> model.client(client, place));
            }
            case 5, 6, 7 -> {
                int quantity = some(1, random.nextBoolean() ? 3 : 99);
                int price = some(1, random.nextBoolean() ? 9 : 9999);
                both(run + " line", () -> smith.line(kind, quantity, price), () -> model.line(kind, quantity, price));
            }
            case 8 -> {
                int line = some(0, 5);
                both(run + " strike", () -> smith.strike(line), () -> model.strike(line));
            }
            case 9 -> {
                int client = some(0, 9);
                both(run + " make", () -> smith.make(client), () -> model.make(client));
            }
            case 10 -> {
                int what = some(0, 7);
                both(run + " invoice", () -> smith.invoice(invoice, what), () -> model.invoice(invoice, what));
            }
            case 11 -> both(run + " taxAnew", () -> smith.taxAnew(invoice), () -> model.taxAnew(invoice));
            case 12 -> {
                int line = some(0, 5);
                both(run + " used", () -> smith.used(invoice, line), () -> model.used(invoice, line));
            }
            case 13, 14 -> write(run, invoice);
            case 15 -> {
                both(run + " settle", () -> smith.settle(place), () -> model.settle(place));
                both(run + " notes", smith::notes, model::notes);
            }
            case 16 -> both(run + " owed", () -> smith.owed(place), () -> model.owed(place));
            case 17 -> {
                int note = some(0, Math.max(0, model.notes() - 1));
                int what = some(0, 2);
                both(run + " note", () -> smith.note(note, what), () -> model.note(note, what));
            }
            default -> {
                long signs = random.nextInt(3) == 0 ? random.nextLong() >>> 8 * random.nextInt(8) : random.nextInt(127);
                both(run + " type", () -> smith.type(signs), () -> model.type(signs));
            }
        }
    }

    private void write(String run, int invoice) {
        int template = some(0, Math.max(0, model.templateCount() - 1));
        both(run + " length", () -> smith.length(invoice, template), () -> model.length(invoice, template));
        String length = answer(() -> model.length(invoice, template));
        int end = length.startsWith("I") ? 3 : Integer.parseInt(length);
        for (int i = 0; i < 4; i++) {
            int place = some(0, end + 1);
            both(run + " written", () -> smith.written(invoice, template, place),
                    () -> model.written(invoice, template, place));
        }
    }
}
