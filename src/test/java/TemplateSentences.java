import java.util.ArrayList;
import java.util.List;

/** The sentences on the language of templates, each with a test of its own. */
final class TemplateSentences {
    private static final String HEADING = "The page, templates";
    private static final String NAMES = "ncdlstg";
    private static final String NAMES_OF_LOOPS = "ikqpax";
    private static final String TRUE = "{?0=0:";

    private TemplateSentences() {
    }

    static void tell(Document document) {
        parts(document);
        nesting(document);
        sums(document);
        names(document);
    }

    private static void parts(Document document) {
        document.says(HEADING, "A template is PARTs, none or some, each:", TemplateSentences::noneOrSome);
        document.says(HEADING, "any sign but { | }, as it is; or one of:", TemplateSentences::anySign);
        document.says(HEADING, "{ NAME }, or { NAME WIDTH }, a field:", TemplateSentences::field);
        document.says(HEADING, "a number in digits, with - ahead if it is below 0,", TemplateSentences::numberInDigits);
        document.says(HEADING, "and blanks ahead up to the WIDTH,", TemplateSentences::blanksAhead);
        document.says(HEADING, "one digit 1 to 9,", TemplateSentences::widthDigit);
        document.says(HEADING, "if that is more;", TemplateSentences::widthIsMore);
        document.says(HEADING, "{* PARTs *}, a loop:", TemplateSentences::loop);
        document.says(HEADING, "the PARTs once for each line of the invoice, by rising numbers;",
                TemplateSentences::onceForEachLine);
        document.says(HEADING, "none within another one;", TemplateSentences::noLoopWithinAnother);
        document.says(HEADING, "{? SUM REL SUM : PARTs }, or {? SUM REL SUM : PARTs | PARTs }, a choice:",
                TemplateSentences::choice);
        document.says(HEADING, "the first PARTs, if that holds, otherwise the second ones, or nothing;",
                TemplateSentences::firstOrSecond);
        document.says(HEADING, "a REL is <, > or =.", TemplateSentences::relations);
        document.says(HEADING, "Nothing stands between what is told here.", TemplateSentences::nothingBetween);
    }

    private static void nesting(Document document) {
        document.says(HEADING, "Choices and loops are within at most 4 others of both together"
                + " (so five can stand within one another);", TemplateSentences::withinFourOthers);
        document.says(HEADING, "of one that is too deep,", TemplateSentences::tooDeep);
        document.says(HEADING, "and of a loop within a loop, the sign behind its { is at FAULT.",
                TemplateSentences::faultOfLoopWithinLoop);
        document.says(HEADING, "A loop ends at a sign * that is followed by },", TemplateSentences::loopEnds);
        document.says(HEADING, "and stands in its own PARTs, not in those of a choice within it;",
                TemplateSentences::notInAChoice);
        document.says(HEADING, "a * elsewhere is a sign as others.", TemplateSentences::starElsewhere);
    }

    private static void sums(Document document) {
        document.says(HEADING, "SUM = TERM, any number of times + or - and a TERM;", TemplateSentences::sum);
        document.says(HEADING, "TERM = NUMBER, 1 to 6 digits,", TemplateSentences::digits);
        document.says(HEADING, "as long as they come,", TemplateSentences::asLongAsTheyCome);
        document.says(HEADING, "or NAME;", TemplateSentences::nameAsTerm);
        document.says(HEADING, "it is reckoned with longs that go round.", TemplateSentences::greatSums);
    }

    private static void names(Document document) {
        document.says(HEADING, "A NAME is a small letter:", TemplateSentences::smallLetter);
        document.says(HEADING, "n the number of the invoice,", TemplateSentences::numberOfInvoice);
        document.says(HEADING, "c its client,", TemplateSentences::itsClient);
        document.says(HEADING, "d its day,", TemplateSentences::itsDay);
        document.says(HEADING, "l how many lines,", TemplateSentences::howManyLines);
        document.says(HEADING, "s the sum of all amounts, t the tax, g both together;", TemplateSentences::sumAndTax);
        document.says(HEADING, "and within a loop alone:", TemplateSentences::withinALoopAlone);
        document.says(HEADING, "i the number of the line, from 1,", TemplateSentences::numberOfLine);
        document.says(HEADING, "k its kind, q its quantity, p its price, a its amount, x its tax.",
                TemplateSentences::ofTheLine);
        document.says(HEADING, "A FAULT is at the place, from 0, of the first sign that cannot stand there,",
                TemplateSentences::firstSignThatCannot);
        document.says(HEADING, "or at the end of the page, if something is missing.",
                TemplateSentences::somethingMissing);
    }

    /** Invoice 0, of so many lines: their kinds go 0 1 2 3 0 1, their quantities and prices rise. */
    private static InvoiceSmith withLines(int count) {
        InvoiceSmith smith = new InvoiceSmith();
        for (int i = 0; i < count; i++) {
            smith.line(i % 4, i + 2, 10 * (i + 1));
        }
        smith.make(0);
        return smith;
    }

    private static void writes(int lines, String text, String due) {
        InvoiceSmith smith = withLines(lines);
        Checks.read(smith, 0, text);
        Checks.is(text + " of " + lines, Checks.write(smith, 0, 0), due);
    }

    private static void writes(String text, String due) {
        writes(3, text, due);
    }

    // ---- PARTs

    private static void noneOrSome() {
        Checks.parts("", 0);
        writes("", "");
        writes("a", "a");
        writes("{n}", "0");
        writes("a{n}{*b*}{?0=0:c}d", "a0bbbcd");
        writes("{**}{?0=0:}{?0=0:|}{?0=1:|}", "");
        writes("x".repeat(160), "x".repeat(160));
    }

    private static void anySign() {
        for (char sign = 32; sign <= 126; sign++) {
            String text = "a" + sign;
            if (sign == '{') {
                Checks.faults(text, 2);
            } else if (sign == '|' || sign == '}') {
                Checks.faults(text, 1);
            } else {
                writes(text, text);
                writes("{*" + text + ".*}", (text + ".").repeat(3));
                writes("{?0=0:" + text + "|" + text + "}", text);
                writes("{?0=1:" + text + "|" + text + "}", text);
            }
        }
    }

    private static void field() {
        writes("{l}", "3");
        writes("{l2}", " 3");
        Checks.faults("{}", 1);
        Checks.faults("{2}", 1);
        Checks.faults("{l2", 3);
        Checks.faults("{l", 2);
        Checks.faults("{l22}", 3);
        Checks.faults("{lc}", 2);
        Checks.faults("{l2c}", 3);
    }

    /** No number of an invoice is below 0; the noughts in a number, and 0 itself, are digits as others. */
    private static void numberInDigits() {
        int[] prices = {1, 9, 10, 99, 100, 101, 1000, 1001, 9090, 9999};
        for (int price : prices) {
            InvoiceSmith smith = new InvoiceSmith();
            Checks.makeOneLine(smith, 0, 0, 1, price);
            Checks.read(smith, 0, "{s}{t}");
            Checks.is("s and t", Checks.write(smith, 0, 0), price + "0");
        }
        InvoiceSmith greatest = greatest();
        Checks.read(greatest, 0, "{g} {s} {t}");
        Checks.is("the greatest", Checks.write(greatest, 0, 0), "11878812 5939406 5939406");
    }

    private static InvoiceSmith greatest() {
        InvoiceSmith smith = new InvoiceSmith();
        smith.rate(0, 0, 100, 0);
        for (int i = 0; i < 6; i++) {
            smith.line(0, 99, 9999);
        }
        smith.make(0);
        return smith;
    }

    private static void blanksAhead() {
        String[] due = {"120", "120", "120", " 120", "  120", "   120", "    120", "     120", "      120"};
        InvoiceSmith smith = new InvoiceSmith();
        Checks.makeOneLine(smith, 0, 0, 1, 120);
        for (int width = 1; width <= 9; width++) {
            Checks.read(smith, 0, "{s" + width + "}");
            Checks.is("WIDTH " + width, Checks.write(smith, 0, 0), due[width - 1]);
        }
        Checks.read(smith, 0, "<{s5}{n2}>");
        Checks.is("ahead, not behind", Checks.write(smith, 0, 0), "<  120 0>");
    }

    private static void widthDigit() {
        for (char sign = 32; sign <= 126; sign++) {
            if (sign >= '1' && sign <= '9') {
                writes("{l" + sign + "}", " ".repeat(sign - '1') + "3");
            } else if (sign != '}') {
                Checks.faults("{l" + sign + "}", 2);
            }
        }
        Checks.faults("{l10}", 3);
        Checks.faults("{l99}", 3);
        Checks.faults("{l01}", 2);
    }

    private static void widthIsMore() {
        InvoiceSmith smith = greatest();
        String[] due = {"11878812", "11878812", " 11878812"};
        for (int width = 7; width <= 9; width++) {
            Checks.read(smith, 0, "{g" + width + "}");
            Checks.is("WIDTH " + width, Checks.write(smith, 0, 0), due[width - 7]);
        }
        Checks.read(smith, 0, "{g1}");
        Checks.is("the number is not cut", Checks.write(smith, 0, 0), "11878812");
    }

    private static void loop() {
        writes("{**}", "");
        writes("{*a*}", "aaa");
        writes("{*a{i}*}{*b*}", "a1a2a3bbb");
        writes("{?0=0:{*a*}|{*b*}}", "aaa");
        Checks.faults("{*", 2);
        Checks.faults("{*a", 3);
        Checks.faults("{*}", 2);
        Checks.faults("{*a|b*}", 3);
    }

    private static void onceForEachLine() {
        writes(1, "{*{i}:{p} *}", "1:10 ");
        writes(2, "{*{i}:{p} *}", "1:10 2:20 ");
        writes(6, "{*{i}:{p} *}", "1:10 2:20 3:30 4:40 5:50 6:60 ");
        writes(1, "a{*b*}c", "abc");
        writes(6, "a{*b*}c", "abbbbbbc");
        writes(6, "{*{i}*}{*{q}*}", "123456234567");
    }

    private static void noLoopWithinAnother() {
        Checks.faults("{*{*a*}*}", 3);
        Checks.faults("{*{?0=0:{*a*}}*}", 9);
        Checks.faults("{*{?0=0:|{*a*}}*}", 10);
        Checks.faults("{*{?0=0:{?0=0:{*a*}}}*}", 15);
        Checks.parts("{*a*}{*b*}{?0=0:{*c*}|{*d*}}{*e*}", 6);
    }

    private static void choice() {
        writes("{?0=0:a}{?0=1:a}", "a");
        writes("{?0=0:a|b}{?0=1:a|b}", "ab");
        writes("{?0=0:|b}{?0=1:a|}", "");
        Checks.faults("{?", 2);
        Checks.faults("{?0", 3);
        Checks.faults("{?0=", 4);
        Checks.faults("{?0=0", 5);
        Checks.faults("{?0=0:", 6);
        Checks.faults("{?0=0:a|", 8);
        Checks.faults("{?=0:a}", 2);
        Checks.faults("{?0:a}", 3);
        Checks.faults("{?0=:a}", 4);
        Checks.faults("{?0=0}", 5);
        Checks.faults("{?0=0|a}", 5);
        Checks.faults("{?0=0:a|b|c}", 9);
    }

    private static void firstOrSecond() {
        for (int lines = 1; lines <= 6; lines++) {
            boolean holds = lines < 4;
            writes(lines, "{?l<4:a|b}.", holds ? "a." : "b.");
            writes(lines, "{?l<4:a}.", holds ? "a." : ".");
            writes(lines, "{?l<4:|b}.", holds ? "." : "b.");
            writes(lines, "{?l<4:a|}.", holds ? "a." : ".");
        }
        writes("{*{?i<2:a|{?i<3:b|c}}*}", "abc");
        writes("{?1=2:{?1=1:a|b}|{?1=2:c|d}}", "d");
        writes("{?1=1:{?1=2:a|b}|{?1=2:c|d}}", "b");
    }

    private static void relations() {
        writes("{?l<2:<}{?l=2:=}{?l>2:>}", ">");
        writes("{?l<3:<}{?l=3:=}{?l>3:>}", "=");
        writes("{?l<4:<}{?l=4:=}{?l>4:>}", "<");
        for (char sign = 32; sign <= 126; sign++) {
            if ("<>=+-".indexOf(sign) < 0 && (sign < '0' || sign > '9')) {
                Checks.faults("{?0" + sign + "0:a}", 3);
            }
        }
        for (String two : new String[] {"<=", ">=", "<>", "==", "=<", "=>", "<<", ">>", "><"}) {
            Checks.faults("{?0" + two + "0:a}", 4);
        }
    }

    /** A blank that is no PART cannot stand at any of these places. */
    private static void nothingBetween() {
        String[][] ofChoices = {
            {"{", "?l=3:a|b}"}, {"{?", "l=3:a|b}"}, {"{?l", "=3:a|b}"}, {"{?l=", "3:a|b}"}, {"{?l=3", ":a|b}"},
            {"{?l", "+1=3:a|b}"}, {"{?l+", "1=3:a|b}"}, {"{?1", "1=3:a|b}"},
        };
        for (String[] halves : ofChoices) {
            Checks.faults(halves[0] + " " + halves[1], halves[0].length());
        }
        String[][] ofFields = {{"{", "l2}"}, {"{l", "2}"}, {"{l2", "}"}, {"{l", "}"}, {"{", "*a*}"}};
        for (String[] halves : ofFields) {
            Checks.faults(halves[0] + " " + halves[1], halves[0].length());
        }
        Checks.faults("{*a* }", 5);
        writes("{* *}", "   ");
        writes("{?0=0: a | b }", " a ");
    }

    // ---- PARTs within PARTs

    private static String choices(int count, String core) {
        return TRUE.repeat(count) + core + "}".repeat(count);
    }

    private static void withinFourOthers() {
        Checks.parts(choices(5, "a"), 5);
        Checks.parts(choices(5, "{n}"), 6);
        writes(choices(5, "{l}"), "3");
        for (int ahead = 0; ahead < 5; ahead++) {
            String text = choices(ahead, "{*" + choices(4 - ahead, "{i}") + "*}");
            Checks.parts(text, 6);
            writes(text, "123");
        }
        Checks.parts(choices(5, "a") + choices(5, "b"), 10);
        Checks.parts(choices(4, "{?0=0:a}{?0=0:b|c}{*d*}"), 7);
        Checks.parts("{?0=1:|".repeat(5) + "a" + "}".repeat(5), 5);
        writes("{?0=1:|".repeat(5) + "a" + "}".repeat(5), "a");
    }

    private static void tooDeep() {
        int place = 5 * TRUE.length() + 1;
        Checks.faults(choices(6, "a"), place);
        Checks.faults(choices(5, "{*a*}"), place);
        Checks.faults(choices(5, "b{?0=0:a}"), place + 1);
        Checks.faults(choices(5, "b{*a*}"), place + 1);
        Checks.faults(choices(5, "|{?0=0:a}"), place + 1);
        Checks.faults(TRUE.repeat(5) + "{?", place);
        Checks.faults(TRUE.repeat(5) + "{*", place);
        Checks.faults(TRUE.repeat(5) + "{", place);
        for (int ahead = 0; ahead < 5; ahead++) {
            String text = TRUE.repeat(ahead) + "{*" + TRUE.repeat(4 - ahead);
            Checks.faults(text + "{?0=0:a}", text.length() + 1);
            Checks.faults(text + "{*a*}", text.length() + 1);
            Checks.faults(text + "{", text.length() + 1);
        }
        Checks.faults(choices(4, choices(1, "a") + "|" + choices(2, "a")), 4 * 6 + 8 + 1 + 6 + 1);
        Checks.faults("{?0=1:|".repeat(5) + "{?0=0:a}", 5 * 7 + 1);
    }

    private static void faultOfLoopWithinLoop() {
        Checks.faults("{*{*a*}*}", 3);
        Checks.faults("{*{*", 3);
        Checks.faults("{*abc{i}{*a*}*}", 9);
        Checks.faults("{*{?0=0:{*", 9);
        Checks.faults("{*{?0=0:a|b{*c*}}*}", 12);
        Checks.parts("{*{?0=0:a}*}{*b*}", 3);
    }

    private static void loopEnds() {
        writes("{*a*}", "aaa");
        writes("{*a*}b", "aaab");
        writes("{***}", "***");
        writes("{*a**}", "a*a*a*");
        writes("{*a***}", "a**a**a**");
        writes("{*a*b*}", "a*ba*ba*b");
        Checks.faults("{*a*}*}", 6);
        Checks.faults("{*a*}}", 5);
        Checks.faults("{*a*", 4);
        Checks.faults("{*a}", 3);
        Checks.faults("{*a* }", 5);
    }

    private static void notInAChoice() {
        writes("{*{?i=2:*}*}", "*");
        writes("{*{?i=2:a*}b*}", "ba*bb");
        writes("{*{?i=2:*|.*}*}", ".**.*");
        writes("{*{?i>1:{?i=2:*}*}*}", "***");
        Checks.faults("{*{?i=2:*}", 10);
        Checks.faults("{*{?i=2:a|*}", 12);
        Checks.faults("{*{?i=2:a*}*", 12);
        writes("{?0=0:{*a*}*}", "aaa*");
        writes("{?0=0:{*a*}|*}", "aaa");
    }

    private static void starElsewhere() {
        writes("*", "*");
        writes("**", "**");
        writes("a*b*", "a*b*");
        writes("{?0=0:*}", "*");
        writes("{?0=1:*|*a*}", "*a*");
        writes("{**a*}", "*a*a*a");
        writes("{*{i}*{i}*}", "1*12*23*3");
        writes("{*a*}*", "aaa*");
        writes("{n}*{n}", "0*0");
        Checks.faults("*}", 1);
        Checks.faults("*{n*}", 3);
    }

    // ---- SUMs

    private static void sum() {
        writes("{?3=l:y|n}", "y");
        writes("{?1+2=l:y|n}", "y");
        writes("{?9-6=l:y|n}", "y");
        writes("{?9-5-2+1=l:y|n}", "y");
        writes("{?l=9-5-2+1:y|n}", "y");
        writes("{?1-5<0:y|n}", "y");
        writes("{?0>1-5:y|n}", "y");
        writes("{?0-4=1-5:y|n}", "y");
        Checks.parts("{?" + "1+".repeat(75) + "1=76:a}", 1);
        writes("{?" + "1+".repeat(73) + "1=74:y|n}", "y");
        writes("{?0" + "-1".repeat(72) + "+74=2:y|n}", "y");
        writes("{?74=" + "1+".repeat(73) + "1:y|n}", "y");
        Checks.faults("{?+1=1:y}", 2);
        Checks.faults("{?-1=1:y}", 2);
        Checks.faults("{?1+=1:y}", 4);
        Checks.faults("{?1-=1:y}", 4);
        Checks.faults("{?1=+1:y}", 4);
        Checks.faults("{?1=1-:y}", 6);
        Checks.faults("{?1++1=2:y}", 4);
        Checks.faults("{?1+-1=0:y}", 4);
        Checks.faults("{?1*1=1:y}", 3);
    }

    private static void digits() {
        String[] numbers = {"3", "03", "003", "0003", "00003", "000003"};
        for (String number : numbers) {
            writes("{?l=" + number + ":y|n}", "y");
            writes("{?" + number + "=l:y|n}", "y");
        }
        writes("{?999999-999996=l:y|n}", "y");
        writes("{?100000>99999:y|n}", "y");
        Checks.faults("{?=3:y}", 2);
        Checks.faults("{?l=:y}", 4);
        Checks.faults("{?0000003=l:y}", 8);
        Checks.faults("{?1234567=l:y}", 8);
        Checks.faults("{?l=1234567:y}", 10);
        Checks.faults("{?l=1+1234567:y}", 12);
        Checks.faults("{?12345678=l:y}", 8);
    }

    private static void asLongAsTheyCome() {
        writes("{?12=6+6:y|n}", "y");
        writes("{?123456=123455+1:y|n}", "y");
        writes("{?1+23=24:y|n}", "y");
        Checks.faults("{?1 2=3:y}", 3);
        Checks.faults("{?1l=3:y}", 3);
        Checks.faults("{?123456l=3:y}", 8);
        Checks.faults("{?12", 4);
        Checks.faults("{?123456", 8);
    }

    private static void nameAsTerm() {
        for (char name : NAMES.toCharArray()) {
            Checks.parts("{?" + name + "=0+" + name + ":y}", 1);
            writes("{?" + name + "=0+" + name + ":y|n}", "y");
        }
        for (char name : NAMES_OF_LOOPS.toCharArray()) {
            writes("{*{?" + name + "=0+" + name + ":y|n}*}", "yyy");
        }
        Checks.faults("{?ll=3:y}", 3);
        Checks.faults("{?l3=3:y}", 3);
    }

    /** A page has no room for a sum that would go round; these are the greatest and the least. */
    private static void greatSums() {
        InvoiceSmith smith = greatest();
        Checks.read(smith, 0, "{?g" + "+g".repeat(72) + ">999999:y|n}");
        Checks.is("the greatest", Checks.write(smith, 0, 0), "y");
        Checks.read(smith, 0, "{?0" + "-g".repeat(71) + "<0-999999:y|n}");
        Checks.is("the least", Checks.write(smith, 0, 0), "y");
        Checks.read(smith, 0, "{?s" + "+t".repeat(47) + "=g" + "+g".repeat(23) + ":y|n}");
        Checks.is("alike", Checks.write(smith, 0, 0), "y");
        Checks.read(smith, 0, "{?s" + "+t".repeat(47) + "=g" + "+g".repeat(23) + "+1:y|n}");
        Checks.is("less by one", Checks.write(smith, 0, 0), "n");
        Checks.read(smith, 0, "{?999999" + "+999999".repeat(10) + "=g-878823:y|n}");
        Checks.is("eleven times the greatest number", Checks.write(smith, 0, 0), "y");
    }

    // ---- NAMEs

    private static void smallLetter() {
        for (char sign = 32; sign <= 126; sign++) {
            boolean always = NAMES.indexOf(sign) >= 0;
            boolean inLoops = always || NAMES_OF_LOOPS.indexOf(sign) >= 0;
            if (always) {
                Checks.parts("{" + sign + "}", 1);
                Checks.parts("{?0=" + sign + ":}", 1);
            } else if (sign != '*' && sign != '?') {
                Checks.faults("{" + sign + "}", 1);
            }
            if (inLoops) {
                Checks.parts("{*{" + sign + "}*}", 2);
            } else if (sign != '?') {
                Checks.faults("{*{" + sign + "}*}", 3);
            }
            if (!always && (sign < '0' || sign > '9')) {
                Checks.faults("{?" + sign + "=0:}", 2);
                Checks.faults("{?0=" + sign + ":}", 4);
            }
        }
    }

    private static void numberOfInvoice() {
        InvoiceSmith smith = new InvoiceSmith();
        Checks.read(smith, 0, "{n}");
        for (int i = 0; i < 30; i++) {
            Checks.makeOneLine(smith, 5, 0, 1, 1);
        }
        for (int i = 0; i < 30; i++) {
            Checks.is("invoice " + i, Checks.write(smith, i, 0), String.valueOf(i));
        }
    }

    private static void itsClient() {
        InvoiceSmith smith = new InvoiceSmith();
        Checks.read(smith, 0, "{c}");
        for (int client = 9; client >= 0; client--) {
            int invoice = Checks.makeOneLine(smith, client, 0, 1, 1);
            Checks.is("client " + client, Checks.write(smith, invoice, 0), String.valueOf(client));
        }
    }

    private static void itsDay() {
        InvoiceSmith smith = new InvoiceSmith();
        Checks.read(smith, 0, "{d}");
        Checks.makeOneLine(smith, 0, 0, 1, 1);
        smith.pass(99);
        Checks.makeOneLine(smith, 0, 0, 1, 1);
        for (int i = 0; i < 101; i++) {
            smith.pass(99);
        }
        Checks.makeOneLine(smith, 0, 0, 1, 1);
        Checks.is("the first", Checks.write(smith, 0, 0), "0");
        Checks.is("one of two digits", Checks.write(smith, 1, 0), "99");
        Checks.is("one behind 9999", Checks.write(smith, 2, 0), "10098");
    }

    private static void howManyLines() {
        for (int lines = 1; lines <= 6; lines++) {
            writes(lines, "{l}{?l=" + lines + ":y|n}", lines + "y");
        }
    }

    private static void sumAndTax() {
        InvoiceSmith smith = new InvoiceSmith();
        smith.rate(0, 1, 10, 0);
        Checks.makeOneLine(smith, 0, 0, 1, 1);
        smith.line(1, 3, 25);
        smith.line(0, 1, 4);
        smith.make(0);
        Checks.read(smith, 0, "{s},{t},{g}");
        Checks.is("the least", Checks.write(smith, 0, 0), "1,0,1");
        Checks.is("of two lines", Checks.write(smith, 1, 0), "79,8,87");
        InvoiceSmith greatest = greatest();
        Checks.read(greatest, 0, "{s},{t},{g}");
        Checks.is("the greatest", Checks.write(greatest, 0, 0), "5939406,5939406,11878812");
    }

    private static void withinALoopAlone() {
        for (char name : NAMES_OF_LOOPS.toCharArray()) {
            Checks.faults("{" + name + "}", 1);
            Checks.faults("{?" + name + "=0:}", 2);
            Checks.faults("{?0=" + name + ":}", 4);
            Checks.faults("{?0=0:{" + name + "}}", 7);
            Checks.faults("{*a*}{" + name + "}", 6);
            Checks.faults("{?0=0:{*a*}{" + name + "}}", 12);
            Checks.faults("{?0=0:{*a*}|{" + name + "}}", 13);
            Checks.parts("{*{" + name + "}*}", 2);
            Checks.parts("{*{?" + name + "=" + name + ":{" + name + "}|{" + name + "}}{" + name + "}*}", 5);
        }
        for (char name : NAMES.toCharArray()) {
            Checks.parts("{*{" + name + "}*}", 2);
        }
    }

    private static void numberOfLine() {
        writes(1, "{*{i}*}", "1");
        writes(6, "{*{i}*}", "123456");
        writes(6, "{*{?i=1:f|{?i=l:e|.}}*}", "f....e");
        writes(2, "{*{i}*}{*{i}*}", "1212");
    }

    private static void ofTheLine() {
        InvoiceSmith smith = new InvoiceSmith();
        smith.rate(0, 3, 100, 0);
        smith.rate(0, 1, 50, 0);
        smith.line(0, 1, 1);
        smith.line(3, 99, 9999);
        smith.line(1, 3, 5);
        smith.make(0);
        Checks.read(smith, 0, "{*{k},{q},{p},{a},{x};*}");
        Checks.is("each", Checks.write(smith, 0, 0), "0,1,1,1,0;3,99,9999,989901,989901;1,3,5,15,8;");
    }

    // ---- FAULTs

    /** Each sign of a whole template is followed by one that cannot stand there: the FAULT is at that one. */
    private static void firstSignThatCannot() {
        String[][] wrong = {
            {"", "|"}, {"{", "|"}, {"{n", "a"}, {"{n2", "3"}, {"{n2}", "}"}, {"{*", "}"}, {"{*{", "b"},
            {"{*{x", "x"}, {"{*{x}", "|"}, {"{*{x}*}", "|"}, {"{?", "<"}, {"{?n", "n"}, {"{?n+", "+"}, {"{?n+1", "n"},
            {"{?n+1<", ":"}, {"{?n+1<c", "="}, {"{?n+1<c:", "{{"}, {"{?n+1<c:a|", "|"}, {"{?n+1<c:a|b", "|"},
            {"{?n+1<c:a|b}", "}"},
        };
        for (String[] halves : wrong) {
            int place = halves[0].length() + halves[1].length() - 1;
            Checks.faults(halves[0] + halves[1], place);
            Checks.faults(halves[0] + halves[1] + "} and } more { FAULTs |", place);
        }
        Checks.faults("}" + "a".repeat(159), 0);
        Checks.faults("a".repeat(159) + "}", 159);
    }

    /** What is cut off anywhere within its PARTs misses something at the end of the page. */
    private static void somethingMissing() {
        String[] whole = {
            "{n}", "{n9}", "{*a*}", "{*{i2}*{k}*}", "{?n<c:}", "{?12+n-345678=c:a{n}b|{?n>0:c|d}}",
            "{*{?i=1:*}{?i=2:a|*}**}", choices(5, "{n}"),
        };
        List<String> cut = new ArrayList<>();
        for (String text : whole) {
            for (int end = 1; end < text.length(); end++) {
                cut.add(text.substring(0, end));
            }
        }
        for (String text : cut) {
            Checks.faults(text, text.length());
            String full = "a".repeat(160 - text.length()) + text;
            Checks.faults(full, 160);
        }
    }
}
