/** Promises 16 to 20, sentence by sentence, with the words of 'TEXTS'. */
public final class EdgesOfTextsTest {
    private static final long NONE = Check.NONE;
    private static final long LAST_DAY = 364522971;

    public static void main(String[] args) {
        promise16Type();
        promise16Full();
        promise17Pass();
        promise18Clear();
        promise19FieldsStay();
        promise19Refused();
        promise19NothingOfOlderTexts();
        form0Bytes();
        form0Numbers();
        form1Bytes();
        form1SignedYears();
        form1Numbers();
        form2Bytes();
        form2Numbers();
        form3Bytes();
        form3Numbers();
        hours24();
        seconds60();
        form4Bytes();
        form4Parts();
        form5Bytes();
        form6Bytes();
        bytesBeforeNumbers();
        numbersInTheirOrder();
        digitsBehindTheNinth();
        promise20Dates();
        promise20Times();
        promise20Offsets();
        promise20Instants();
        promise20Durations();
        promise20Intervals();
        promise20Refused();
        Check.end();
    }

    private static void promise16Type() {
        MomentTexts x = new MomentTexts();
        Check.due("no bytes of an empty TEXT", 0, () -> x.type(-1, 0));
        Check.due("the lowest byte alone", 1, () -> x.type(0x4142434445464750L, 1));
        Check.due("it is a P: then digits must come", 1, () -> x.read(4));
        Check.due("the lowest first", 3, () -> x.type(0x4131L, 2));
        Check.due("P1 and an A", 2, () -> x.read(4));
        for (int n : new int[] {-1, 9, Integer.MIN_VALUE, Integer.MAX_VALUE}) {
            Check.illegal("n " + n, () -> x.type(0, n));
        }
        Check.due("nothing came", 3, () -> x.type(0, 0));
        Check.due("all eight bytes, the highest too", 11, () -> x.type(0x8041424344454647L, 8));
        Check.due("a number below 0 has bytes too", 19, () -> x.type(-1, 8));
        x.clear();
        Check.text(x, "2024-01");
        Check.due("the eighth byte is a digit", 8, () -> x.type('1', 1));
        Check.due("2024-011 is an ordinal", NONE, () -> x.read(1));
        x.clear();
        Check.due("eight bytes at once", 8, () -> x.type(0x3133303034323032L, 8));
        Check.due("20240031 has no month 0", 4, () -> x.read(1));
        x.clear();
        Check.due("a byte above 127", 1, () -> x.type(0xB2, 1));
        Check.due("is no digit", 0, () -> x.read(2));
    }

    private static void promise16Full() {
        MomentTexts x = new MomentTexts();
        for (int i = 1; i <= 15; i++) {
            Check.due("8 bytes more", 8 * i, () -> x.type(0x3030303030303030L, 8));
        }
        Check.due("121 bytes", Check.UNSUPPORTED, () -> x.type(0, 1));
        Check.due("128 bytes", Check.UNSUPPORTED, () -> x.type(0, 8));
        Check.due("no bytes more of a full TEXT", 120, () -> x.type(0, 0));
        Check.illegal("9 bytes: this comes first", () -> x.type(0, 9));
        Check.illegal("-1 bytes: this comes first", () -> x.type(0, -1));
        Check.due("it still has 120", 120, x::clear);
        Check.text(x, "0".repeat(113));
        Check.due("113 and 8", Check.UNSUPPORTED, () -> x.type(0, 8));
        Check.due("none of the eight came", 113, () -> x.type(0, 0));
        Check.due("113 and 7", 120, () -> x.type(0, 7));
        Check.text(x, "PT1." + "9".repeat(116));
        Check.due("a full TEXT of which more must come", 120, () -> x.read(4));
        Check.text(x, "PT1." + "9".repeat(115) + "S");
        Check.due("a full TEXT that is whole", NONE, () -> x.read(4));
        Check.due("its NANOS", 999999999, () -> x.field(0, 12));
    }

    private static void promise17Pass() {
        MomentTexts x = new MomentTexts();
        Check.text(x, "something");
        Check.due("an empty OUT", 0, x::pass);
        Check.due("the TEXT is empty then", 0, () -> x.type(0, 0));
        x.writeDate(0, 4);
        Check.text(x, "0".repeat(120));
        Check.due("OUT in place of a full TEXT", 10, x::pass);
        Check.due("it is that TEXT", NONE, () -> x.read(1));
        Check.due("once more", 10, x::pass);
        Check.due("not behind the TEXT", 10, () -> x.type(0, 0));
        Check.same("OUT stays", "1970-W01-4", Check.out(x, 10));
        x.clear();
        Check.same("OUT stays when the TEXT is cleared", "1970-W01-4", Check.out(x, 10));
        x.pass();
        x.writeDate(1, 0);
        Check.due("the TEXT stays when OUT is made anew", NONE, () -> x.read(1));
        Check.due("the day that was passed", 0, () -> x.field(0, 2));
    }

    private static void promise18Clear() {
        MomentTexts x = new MomentTexts();
        Check.due("an empty TEXT", 0, x::clear);
        x.type('2', 1);
        Check.due("one byte", 1, x::clear);
        Check.due("then none", 0, x::clear);
        Check.text(x, "2024");
        x.read(1);
        Check.due("four bytes", 4, x::clear);
        Check.due("the fields stay", 3, () -> x.field(0, 1));
        Check.text(x, "2023-366");
        x.clear();
        x.type(0x33323032, 4);
        Check.due("nothing of the older TEXT is left", NONE, () -> x.read(1));
    }

    private static void promise19FieldsStay() {
        MomentTexts x = new MomentTexts();
        read(x, 6, "R3/P1D/2024-01-01T00Z", NONE);
        read(x, 1, "2024x", 4);
        read(x, 1, "2024-13", 5);
        read(x, 6, "R4/P2D/2024-13-01T00Z", 12);
        read(x, 6, "R4/P2D/2024-12-01T00ZZ", 21);
        Check.due("a FAULT: how often stays", 3, () -> x.field(2, 0));
        Check.due("a FAULT: the first part stays", 1, () -> x.field(0, 10));
        Check.due("a FAULT: the second part stays", 19723, () -> x.field(1, 2));
        read(x, 1, "2024", NONE);
        Check.due("a text that is read: how often goes", NONE, () -> x.field(2, 0));
        Check.due("a text that is read: the older first part goes", NONE, () -> x.field(0, 10));
        Check.due("a text that is read: the second part goes", NONE, () -> x.field(1, 2));
        Check.due("the TEXT stays", 4, () -> x.type(0, 0));
        Check.due("it can be read again", NONE, () -> x.read(1));
    }

    private static void promise19Refused() {
        MomentTexts x = new MomentTexts();
        Check.text(x, "2024");
        x.read(1);
        for (int form : new int[] {-1, 7, Integer.MIN_VALUE, Integer.MAX_VALUE}) {
            Check.illegal("form " + form, () -> x.read(form));
        }
        Check.due("the fields stay", 3, () -> x.field(0, 1));
        Check.due("the TEXT stays", 4, x::clear);
    }

    /** What a longer text told is not in the fields of a shorter one that is read behind it. */
    private static void promise19NothingOfOlderTexts() {
        MomentTexts x = new MomentTexts();
        read(x, 3, "-000004-12-31T23:59:58.5-11:30", NONE);
        read(x, 1, "2024", NONE);
        fields(x, 0, 1, 3, 19723);
        read(x, 1, "2024-W52-7", NONE);
        read(x, 1, "2024-W01", NONE);
        fields(x, 0, 1, 5, 19723);
        read(x, 1, "2024-12-31", NONE);
        read(x, 1, "2024-01", NONE);
        fields(x, 0, 1, 4, 19723);
        read(x, 2, "23:59:58.5-11:30", NONE);
        read(x, 2, "12", NONE);
        fields(x, 0, 2, NONE, NONE, 720, 0, 0);
        read(x, 2, "23:59-11:30", NONE);
        read(x, 2, "12+05", NONE);
        fields(x, 0, 2, NONE, NONE, 720, 0, 0, 300, 0);
        read(x, 3, "-000004-W01-1T12", NONE);
        read(x, 0, "2024-01-01T00:00:00Z", NONE);
        fields(x, 0, 0, 0, 19723, 0, 0, 0, 0, 1, 19723L * 86400);
        read(x, 4, "P1Y2M3DT4H5M6.7S", NONE);
        read(x, 4, "PT1S", NONE);
        fields(x, 0, 4, NONE, NONE, NONE, NONE, NONE, NONE, NONE, NONE, 0, 0, 1, 0);
        read(x, 4, "P5W", NONE);
        read(x, 4, "P1M", NONE);
        fields(x, 0, 4, NONE, NONE, NONE, NONE, NONE, NONE, NONE, NONE, 1, 0, 0, 0);
        read(x, 4, "P1.5D", NONE);
        read(x, 4, "P1DT1S", NONE);
        fields(x, 0, 4, NONE, NONE, NONE, NONE, NONE, NONE, NONE, NONE, 0, 1, 1, 0);
        read(x, 5, "-000004-W01-2T23:59:58.5-11:30/20240101T00", NONE);
        fields(x, 1, 3, 0, 19723, 0, 0, 0);
    }

    private static void read(MomentTexts x, int form, String text, long want) {
        Check.text(x, text);
        Check.due("the FAULT of " + text + " as form " + form, want, () -> x.read(form));
    }

    private static void faults(int form, String text, long want) {
        read(new MomentTexts(), form, text, want);
    }

    private static void form0Bytes() {
        faults(0, "2024-01-31T12:34:56Z", NONE);
        faults(0, "2024-01-31t12:34:56z", NONE);
        faults(0, "2024-01-31 12:34:56+00:00", NONE);
        faults(0, "2024-01-31T12:34:56.1-23:59", NONE);
        String whole = "2024-01-31T12:34:56.7+08:09";
        for (int length = 0; length < whole.length(); length++) {
            faults(0, whole.substring(0, length), length);
            faults(0, whole.substring(0, length) + "x", length);
        }
        faults(0, whole + "x", whole.length());
        faults(0, "2024-01-31T12:34:56,7Z", 19);
        faults(0, "2024-01-31T12:34Z", 16);
        faults(0, "2024-01-31T12:34:56+08", 22);
        faults(0, "2024-01-31T12:34:56+0809", 22);
        faults(0, "20240131T12:34:56Z", 4);
        faults(0, "2024-031T12:34:56Z", 7);
        faults(0, "2024-W01-1T12:34:56Z", 5);
        faults(0, "-002024-01-31T12:34:56Z", 0);
        faults(0, "2024-01-31_12:34:56Z", 10);
        faults(0, "2024-01-31  12:34:56Z", 11);
        faults(0, "2024-01-31T12:34:56Z ", 20);
    }

    private static void form0Numbers() {
        faults(0, "0000-01-01T00:00:00Z", NONE);
        faults(0, "9999-12-31T23:59:59Z", NONE);
        faults(0, "2024-00-01T00:00:00Z", 5);
        faults(0, "2024-13-01T00:00:00Z", 5);
        faults(0, "2024-01-00T00:00:00Z", 8);
        faults(0, "2024-01-32T00:00:00Z", 8);
        faults(0, "2024-02-30T00:00:00Z", 8);
        faults(0, "2023-02-29T00:00:00Z", 8);
        faults(0, "1900-02-29T00:00:00Z", 8);
        faults(0, "2000-02-29T00:00:00Z", NONE);
        faults(0, "0000-02-29T00:00:00Z", NONE);
        faults(0, "2024-04-31T00:00:00Z", 8);
        faults(0, "2024-01-01T25:00:00Z", 11);
        faults(0, "2024-01-01T00:60:00Z", 14);
        faults(0, "2024-01-01T00:00:61Z", 17);
        faults(0, "2024-01-01T00:00:00+24:00", 20);
        faults(0, "2024-01-01T00:00:00-24:00", 20);
        faults(0, "2024-01-01T00:00:00+23:60", 23);
        faults(0, "2024-01-01T00:00:00.5+23:60", 25);
    }

    private static void form1Bytes() {
        for (String text : new String[] {"2024", "2024-01", "2024-01-31", "20240131", "2024-366", "2024366",
            "2024-W01", "2024W01", "2024-W01-7", "2024W017"}) {
            faults(1, text, NONE);
            faults(1, text + "T", text.length());
            faults(1, text + " ", text.length());
        }
        faults(1, "", 0);
        faults(1, "2", 1);
        faults(1, "202", 3);
        faults(1, "2024-", 5);
        faults(1, "2024-0", 6);
        faults(1, "2024-01-", 8);
        faults(1, "2024-01-3", 9);
        faults(1, "2024-01-311", 10);
        faults(1, "20241", 5);
        faults(1, "202401", 6);
        faults(1, "20241-01", 5);
        faults(1, "202401-01", 6);
        faults(1, "2024001-", 7);
        faults(1, "202401011", 8);
        faults(1, "2024-0011", 8);
        faults(1, "2024-001-", 8);
        faults(1, "2024-01-W", 8);
        faults(1, "2024-W", 6);
        faults(1, "2024-W0", 7);
        faults(1, "2024-W01-", 9);
        faults(1, "2024-W011", 8);
        faults(1, "2024-W01-11", 10);
        faults(1, "2024W", 5);
        faults(1, "2024W0", 6);
        faults(1, "2024W01-1", 7);
        faults(1, "2024W0111", 8);
        faults(1, "2024-w01", 5);
        faults(1, "2024--01", 5);
        faults(1, "x", 0);
    }

    private static void form1SignedYears() {
        for (String text : new String[] {"+002024", "-002024", "+002024-01", "-002024-01-31", "+002024-366",
            "-000001-W01", "+002024-W01-7", "+000000", "+000000-01-01", "-999999", "+999999"}) {
            faults(1, text, NONE);
        }
        faults(1, "+", 1);
        faults(1, "+00202", 6);
        faults(1, "+2024-01-01", 5);
        faults(1, "+0020240", 7);
        faults(1, "+0020240101", 7);
        faults(1, "+002024001", 7);
        faults(1, "+002024W01", 7);
        faults(1, "+002024W011", 7);
        faults(1, "+002024-0101", 11);
        faults(1, "+002024-W011", 11);
        faults(1, "--02024", 1);
        faults(1, "-000000", 0);
        faults(1, "-000000-01-01", 0);
        faults(1, "-000000-13-01", 0);
        faults(1, "-000000-W54-1", 0);
        faults(1, "-000000-01-01x", 13);
    }

    private static void form1Numbers() {
        faults(1, "2024-00", 5);
        faults(1, "2024-13", 5);
        faults(1, "20241301", 4);
        faults(1, "20240100", 6);
        faults(1, "20240099", 4);
        faults(1, "20240199", 6);
        faults(1, "20241299", 6);
        faults(1, "20249999", 4);
        faults(1, "20230229", 6);
        faults(1, "2024-04-31", 8);
        faults(1, "2024-000", 5);
        faults(1, "2024-367", 5);
        faults(1, "2023-366", 5);
        faults(1, "2023366", 4);
        faults(1, "2024000", 4);
        faults(1, "2020-W53", NONE);
        faults(1, "2021-W53", 6);
        faults(1, "2021W53", 5);
        faults(1, "2020-W54", 6);
        faults(1, "2020-W00", 6);
        faults(1, "2020-W01-0", 9);
        faults(1, "2020-W01-8", 9);
        faults(1, "2020W019", 7);
        faults(1, "2021-W53-8", 6);
        faults(1, "+002023-02-29", 11);
        faults(1, "+002023-366", 8);
        faults(1, "-999999-W01-1", NONE);
        faults(1, "+999999-W52", NONE);
        faults(1, "+999999-W52-5", NONE);
        faults(1, "+999999-W52-6", 0);
        faults(1, "+999999-W52-7", 0);
        faults(1, "+999999-W52-8", 12);
        faults(1, "+999999-W53-6", 9);
        faults(1, "+999999-12-31", NONE);
        faults(1, "-999999-01-01", NONE);
        faults(1, "0000-W01-1", NONE);
        faults(1, "9999-W52-7", NONE);
    }

    private static void form2Bytes() {
        for (String text : new String[] {"12", "12:34", "12:34:56", "1234", "123456"}) {
            for (String part : new String[] {"", ".5", ",5", ".0123456789"}) {
                faults(2, text + part, NONE);
                faults(2, "T" + text + part, NONE);
                faults(2, text + part + "Z", NONE);
                faults(2, text + part + "+01", NONE);
                faults(2, text + part + "-01", NONE);
                int end = text.length() + part.length();
                boolean isColon = text.contains(":");
                boolean isPlain = text.length() > 2 && !isColon;
                faults(2, text + part + "+01:30", isPlain ? end + 3 : NONE);
                faults(2, text + part + "-0130", isColon ? end + 3 : NONE);
                faults(2, text + part + "z", end);
                faults(2, text + part + "+1", end + 2);
                faults(2, text + part + "+", end + 1);
                faults(2, text + part + "ZZ", end + 1);
                faults(2, text + part + "Z+01", end + 1);
            }
            faults(2, text + ".", text.length() + 1);
            faults(2, text + ",Z", text.length() + 1);
            faults(2, text + ".5.5", text.length() + 2);
            faults(2, text + ".5:30", text.length() + 2);
        }
        faults(2, "", 0);
        faults(2, "T", 1);
        faults(2, "t12", 0);
        faults(2, "TT12", 1);
        faults(2, "1", 1);
        faults(2, "123", 3);
        faults(2, "12345", 5);
        faults(2, "1234567", 6);
        faults(2, "12:", 3);
        faults(2, "12:3", 4);
        faults(2, "12:34:", 6);
        faults(2, "12:34:5", 7);
        faults(2, "12:34:56:", 8);
        faults(2, "12:3456", 5);
        faults(2, "1234:56", 4);
        faults(2, "12+01:", 6);
        faults(2, "12+01:3", 7);
        faults(2, "12+013", 6);
        faults(2, "12+01:300", 8);
        faults(2, "12+01300", 7);
    }

    private static void form2Numbers() {
        faults(2, "00", NONE);
        faults(2, "23:59:59", NONE);
        faults(2, "25", 0);
        faults(2, "T25", 1);
        faults(2, "2360", 2);
        faults(2, "23:60", 3);
        faults(2, "T235960", 5);
        faults(2, "23:59:60", 6);
        faults(2, "23:59:60Z", 6);
        faults(2, "23:59:99", 6);
        faults(2, "12+24", 3);
        faults(2, "12-24", 3);
        faults(2, "12+2360", 5);
        faults(2, "12+23:60", 6);
        faults(2, "12+23:59", NONE);
        faults(2, "12-2359", NONE);
    }

    private static void form3Bytes() {
        for (String date : new String[] {"2024-01-31", "2024-031", "2024-W05-3", "-000004-01-31", "+002024-031",
            "+002024-W05-3"}) {
            int end = date.length() + 1;
            faults(3, date + "T12", NONE);
            faults(3, date + "T12:34:56,7+08:09", NONE);
            faults(3, date + "T12:34+08", NONE);
            faults(3, date + "T12+08:09", NONE);
            faults(3, date + "T12.5Z", NONE);
            faults(3, date + "T1234", end + 2);
            faults(3, date + "T12+0809", end + 5);
            faults(3, date + "T12:34+0809", end + 8);
            faults(3, date, end - 1);
            faults(3, date + "T", end);
            faults(3, date + "TT12", end);
            faults(3, date + "t12", end - 1);
            faults(3, date + " 12", end - 1);
        }
        for (String date : new String[] {"20240131", "2024031", "2024W053"}) {
            int end = date.length() + 1;
            faults(3, date + "T12", NONE);
            faults(3, date + "T123456,7+0809", NONE);
            faults(3, date + "T1234+08", NONE);
            faults(3, date + "T12+0809", NONE);
            faults(3, date + "T12.5Z", NONE);
            faults(3, date + "T12:34", end + 2);
            faults(3, date + "T12+08:09", end + 5);
            faults(3, date + "T1234+08:09", end + 7);
        }
        faults(3, "2024T12", 4);
        faults(3, "2024-01T12", 7);
        faults(3, "2024-W01T12", 8);
        faults(3, "2024W01T12", 7);
        faults(3, "+002024T12", 7);
        faults(3, "T12", 0);
    }

    private static void form3Numbers() {
        faults(3, "-000000-01-01T00", 0);
        faults(3, "+999999-W52-6T00", 0);
        faults(3, "2023-02-29T25", 8);
        faults(3, "2023-02-28T25", 11);
        faults(3, "20230228T2360", 11);
        faults(3, "20230228T235960", 13);
        faults(3, "20230228T235959+24", 16);
        faults(3, "20230228T235959+2360", 18);
        faults(3, "+999999-12-31T23:59:59-23:59", NONE);
        faults(3, "-999999-01-01T00:00:00+23:59", NONE);
    }

    private static void hours24() {
        faults(2, "24", NONE);
        faults(2, "24:00", NONE);
        faults(2, "T240000.000Z", NONE);
        faults(2, "24+05:30", NONE);
        faults(2, "24:01", 0);
        faults(2, "T24:01", 1);
        faults(2, "24:60", 0);
        faults(2, "240001", 0);
        faults(2, "24.1", 0);
        faults(2, "24:00.000000001", 0);
        faults(2, "24:00:00.000000001", 0);
        faults(0, "2024-01-31T24:00:00Z", NONE);
        faults(0, "2024-01-31T24:00:00.0+01:00", NONE);
        faults(0, "2024-01-31T24:00:01Z", 11);
        faults(0, "2024-01-31T24:00:00.1Z", 11);
        faults(0, "9999-12-31T24:00:00Z", NONE);
        faults(3, "+999999-12-30T24", NONE);
        faults(3, "+999999-12-31T24", 14);
        faults(3, "+999999-365T24:00:00Z", 12);
        faults(3, "+999999-W52-5T24", 14);
        faults(3, "-999999-01-01T24", NONE);
    }

    private static MomentTexts withLeapDays() {
        MomentTexts x = new MomentTexts();
        x.leap(17166);
        x.leap(LAST_DAY);
        x.leap(-365961662L);
        return x;
    }

    private static void seconds60() {
        read(withLeapDays(), 0, "2016-12-31T23:59:60Z", NONE);
        read(withLeapDays(), 0, "2016-12-31T23:59:60.999999999Z", NONE);
        read(withLeapDays(), 0, "2016-12-31T23:59:61Z", 17);
        read(withLeapDays(), 0, "2016-12-31T23:58:60Z", 17);
        read(withLeapDays(), 0, "2016-12-30T23:59:60Z", 17);
        read(withLeapDays(), 0, "2017-01-01T23:59:60Z", 17);
        read(withLeapDays(), 0, "2017-01-01T00:59:60+01:00", NONE);
        read(withLeapDays(), 0, "2016-12-31T23:59:60+01:00", 17);
        read(withLeapDays(), 0, "2016-12-31T00:00:60-23:59", NONE);
        read(withLeapDays(), 0, "2017-01-01T23:58:60+23:59", NONE);
        read(withLeapDays(), 0, "2016-12-31T23:59:60-00:00", NONE);
        read(withLeapDays(), 3, "2016-12-31T23:59:60", NONE);
        read(withLeapDays(), 3, "20161231T235960,5", NONE);
        read(withLeapDays(), 3, "2017-01-01T00:59:60", 17);
        read(withLeapDays(), 3, "2016-366T23:59:60", NONE);
        read(withLeapDays(), 3, "2016-W52-6T23:59:60", NONE);
        read(withLeapDays(), 2, "23:59:60", 6);
        read(withLeapDays(), 2, "23:59:60Z", 6);
        // The offset can not be: then second 60, which comes before it, is none, whatever it would have been.
        read(withLeapDays(), 0, "2016-12-31T23:59:60+24:00", 17);
        read(withLeapDays(), 0, "2017-01-01T23:59:60+24:00", 17);
        read(withLeapDays(), 0, "2016-12-31T23:59:60+00:60", 17);
        read(withLeapDays(), 0, "2017-01-01T00:59:60+00:60", 17);
        read(withLeapDays(), 0, "2016-12-31T23:59:59+24:00", 20);
        // Minutes that can not be come before it; hours 24 have nothing behind them.
        read(withLeapDays(), 0, "2016-12-31T22:119:60Z", 16);
        read(withLeapDays(), 0, "2016-12-31T22:99:60Z", 14);
        read(withLeapDays(), 0, "2017-01-01T24:00:60+00:01", 11);
        read(withLeapDays(), 3, "+999999-12-31T23:59:60Z", NONE);
        read(withLeapDays(), 3, "+999999-12-31T22:59:60-01:00", NONE);
        read(withLeapDays(), 3, "+999999-12-31T23:59:60-01:00", 20);
        read(withLeapDays(), 3, "-999999-01-01T23:59:60Z", NONE);
        read(withLeapDays(), 3, "-999999-01-01T00:59:60+01:00", 20);
        faults(0, "2016-12-31T23:59:60Z", 17);
    }

    private static void form4Bytes() {
        for (String text : new String[] {"P1Y", "P1M", "P1D", "PT1H", "PT1M", "PT1S", "P1W", "P0D",
            "P1Y2M3DT4H5M6S", "P1YT1S", "P1DT1M", "P123456789D", "P000000000W", "PT1.5H", "PT1,5S", "P1Y1.5D"}) {
            faults(4, text, NONE);
            faults(4, text.substring(0, text.length() - 1), text.length() - 1);
            faults(4, text + "x", text.length());
        }
        faults(4, "", 0);
        faults(4, "P", 1);
        faults(4, "PT", 2);
        faults(4, "P1YT", 4);
        faults(4, "p1D", 0);
        faults(4, "-P1D", 0);
        faults(4, "P-1D", 1);
        faults(4, "P+1D", 1);
        faults(4, "P1234567890D", 10);
        faults(4, "P1M1Y", 4);
        faults(4, "P1D1M", 3);
        faults(4, "P1Y1Y", 4);
        faults(4, "P1D1D", 3);
        faults(4, "PT1M1H", 5);
        faults(4, "PT1S1M", 4);
        faults(4, "PT1H1H", 5);
        faults(4, "P1H", 2);
        faults(4, "P1S", 2);
        faults(4, "PT1D", 3);
        faults(4, "PT1Y", 3);
        faults(4, "PT1W", 3);
        faults(4, "PT1HT1M", 4);
        faults(4, "PTT1M", 2);
        faults(4, "P1YT1D", 5);
        faults(4, "P1W1D", 3);
        faults(4, "P1WT1H", 3);
        faults(4, "P1Y1W", 4);
        faults(4, "P1.5W", 4);
        faults(4, "P1.0W", 4);
        faults(4, "P1.W", 3);
        faults(4, "P.5D", 1);
        faults(4, "PD", 1);
        faults(4, "P1.5.5D", 4);
        faults(4, "P1.5D1", 5);
        faults(4, "P1.5DT1H", 5);
        faults(4, "P1.0Y1M", 5);
        faults(4, "PT1.5H1M", 6);
    }

    private static void form4Parts() {
        faults(4, "P1.5Y", 2);
        faults(4, "P1,5M", 2);
        faults(4, "P12.5Y", 3);
        faults(4, "P1Y2.5M", 4);
        faults(4, "P1.0Y", NONE);
        faults(4, "P1,000M", NONE);
        faults(4, "P1.000000001Y", 2);
        faults(4, "P0.5Y", 2);
        faults(4, "P0.5D", NONE);
    }

    private static void form5Bytes() {
        String moment = "2024-01-31T12:34Z";
        String plain = "20240131T1234Z";
        String duration = "P1DT2H";
        faults(5, moment + "/" + moment, NONE);
        faults(5, moment + "/" + plain, NONE);
        faults(5, plain + "/" + moment, NONE);
        faults(5, moment + "/" + duration, NONE);
        faults(5, duration + "/" + moment, NONE);
        faults(5, duration + "/" + duration, 7);
        faults(5, moment, 17);
        faults(5, moment + "/", 18);
        faults(5, duration, 6);
        faults(5, duration + "/", 7);
        faults(5, moment + "//" + moment, 18);
        faults(5, moment + "--" + moment, 17);
        faults(5, moment + "/" + moment + "/", 35);
        faults(5, moment + "/" + duration + "/" + moment, 24);
        faults(5, "/" + moment, 0);
        faults(5, moment + "/2024-02-01", 28);
        faults(5, moment + "/12:34", 20);
        faults(5, "2024-01-31/" + moment, 10);
        faults(5, moment + "/p1D", 18);
        faults(5, "R1/" + moment + "/" + duration, 0);
        faults(5, "P1W/" + moment, NONE);
        faults(5, moment + "/P1W", NONE);
        faults(5, "P1.5D/" + moment, NONE);
        faults(5, moment + "/P1.5D", NONE);
    }

    private static void form6Bytes() {
        String interval = "P1D/20240131T1234Z";
        faults(6, "R/" + interval, NONE);
        faults(6, "R0/" + interval, NONE);
        faults(6, "R123456789/" + interval, NONE);
        faults(6, "R1234567890/" + interval, 10);
        faults(6, "R-1/" + interval, 1);
        faults(6, "R1" + interval, 2);
        faults(6, "R" + interval, 1);
        faults(6, "r1/" + interval, 0);
        faults(6, interval, 0);
        faults(6, "R", 1);
        faults(6, "R1", 2);
        faults(6, "R1/", 3);
        faults(6, "R1/P1D", 6);
        faults(6, "R1/P1D/P1D", 7);
        faults(6, "R1/" + interval + "/", 21);
    }

    private static void bytesBeforeNumbers() {
        faults(0, "2024-13-32T25:61:61+25:6x", 24);
        faults(1, "2024-13-", 8);
        faults(1, "-000000-", 8);
        faults(2, "25:60:6", 7);
        faults(3, "2024-13-01", 10);
        faults(4, "P1.5Y ", 5);
        faults(5, "2024-13-01T25Z/P1.5Y/", 20);
        faults(5, "P1.5Y/x", 6);
        faults(6, "R1/P1.5Y/20241301T25ZZ", 21);
    }

    private static void numbersInTheirOrder() {
        faults(0, "2024-13-32T25:61:61+25:61", 5);
        faults(0, "2024-12-32T25:61:61+25:61", 8);
        faults(0, "2024-12-31T25:61:61+25:61", 11);
        faults(0, "2024-12-31T23:61:61+25:61", 14);
        faults(0, "2024-12-31T23:59:61+25:61", 17);
        faults(0, "2024-12-31T23:59:59+25:61", 20);
        faults(0, "2024-12-31T23:59:59+23:61", 23);
        faults(5, "2024-12-31T25Z/2024-13-01T25Z", 11);
        faults(5, "2024-12-31T23Z/2024-13-01T25Z", 20);
        faults(5, "2024-12-31T23Z/2024-12-01T25Z", 26);
        faults(5, "2024-12-31T25Z/P1.5Y", 11);
        faults(5, "2024-12-31T23Z/P1.5Y", 17);
        faults(5, "P1.5Y/2024-13-01T25Z", 2);
        faults(5, "P1.5D/2024-13-01T25Z", 11);
        faults(6, "R9/P1.5M/2024-13-01T25Z", 5);
        faults(6, "R9/-000000-01-01T00/P1.5M", 3);
    }

    private static void digitsBehindTheNinth() {
        MomentTexts x = new MomentTexts();
        read(x, 2, "12:00:00.1234567899999", NONE);
        Check.due("nine digits count", 123456789, () -> x.field(0, 5));
        read(x, 2, "12.00000000099", NONE);
        Check.due("nothing of an hour", 0, () -> x.field(0, 5));
        read(x, 2, "12.9999999999", NONE);
        Check.due("nine nines of an hour: NANOS", 999996400, () -> x.field(0, 5));
        Check.due("nine nines of an hour: second", 59, () -> x.field(0, 4));
        Check.due("nine nines of an hour: minute", 779, () -> x.field(0, 3));
        read(x, 2, "24:00.0000000009", NONE);
        read(x, 4, "P1.0000000009Y", NONE);
        read(x, 4, "PT1.0000000019S", NONE);
        Check.due("nine digits of a duration", 1, () -> x.field(0, 12));
        read(x, 4, "P0.00000000001D", NONE);
        Check.due("nothing of a day", 0, () -> x.field(0, 12));
    }

    private static void fields(MomentTexts x, int part, long... want) {
        for (int what = 0; what < 13; what++) {
            int asked = what;
            Check.due("field " + part + " " + what, what < want.length ? want[what] : NONE,
                () -> x.field(part, asked));
        }
    }

    private static void date(String text, long told, long day) {
        MomentTexts x = new MomentTexts();
        read(x, 1, text, NONE);
        fields(x, 0, 1, told, day);
        fields(x, 1);
        fields(x, 2);
    }

    private static void promise20Dates() {
        date("1970-01-01", 0, 0);
        date("19700102", 0, 1);
        date("1970-W01-4", 1, 0);
        date("1970W011", 1, -3);
        date("1970-365", 2, 364);
        date("1970001", 2, 0);
        date("1970", 3, 0);
        date("+001970", 3, 0);
        date("1970-02", 4, 31);
        date("1970-W01", 5, -3);
        date("1970W02", 5, 4);
        date("-000001-12-31", 0, -719529);
        date("-999999", 3, -365961662L);
        date("-999999-W01", 5, -365961662L);
        date("+999999-365", 2, LAST_DAY);
        date("+999999-W52-5", 1, LAST_DAY);
    }

    private static void time(String text, long minute, long second, long nanos) {
        MomentTexts x = new MomentTexts();
        read(x, 2, text, NONE);
        fields(x, 0, 2, NONE, NONE, minute, second, nanos);
        fields(x, 1);
        fields(x, 2);
    }

    private static void promise20Times() {
        time("00", 0, 0, 0);
        time("23:59:59", 1439, 59, 0);
        time("T2359", 1439, 0, 0);
        time("24", 0, 0, 0);
        time("24:00:00.0", 0, 0, 0);
        time("12.5", 750, 0, 0);
        time("12,0125", 720, 45, 0);
        time("12.999999999", 779, 59, 999996400);
        time("12.000000001", 720, 0, 3600);
        time("12:30,5", 750, 30, 0);
        time("12:30.999999999", 750, 59, 999999940);
        time("12:30.000000001", 750, 0, 60);
        time("12:30:15.5", 750, 15, 500000000);
        time("123015,000000001", 750, 15, 1);
        time("23:59:59.999999999", 1439, 59, 999999999);
        time("23.999999999", 1439, 59, 999996400);
    }

    private static void offset(int form, String text, long offset, long told) {
        MomentTexts x = new MomentTexts();
        read(x, form, text, NONE);
        Check.due("the OFFSET of " + text, offset, () -> x.field(0, 6));
        Check.due("how the OFFSET of " + text + " was told", told, () -> x.field(0, 7));
    }

    private static void promise20Offsets() {
        offset(2, "12", NONE, NONE);
        offset(2, "12Z", 0, 1);
        offset(2, "12+00", 0, 0);
        offset(2, "12-00", 0, 2);
        offset(2, "12-0000", 0, 2);
        offset(2, "12:00-00:00", 0, 2);
        offset(2, "12:00+00:00", 0, 0);
        offset(2, "12-01", -60, 0);
        offset(2, "12-00:01", -1, 0);
        offset(2, "12+2359", 1439, 0);
        offset(2, "12-23:59", -1439, 0);
        offset(0, "2024-01-01T00:00:00Z", 0, 1);
        offset(0, "2024-01-01T00:00:00z", 0, 1);
        offset(0, "2024-01-01T00:00:00-00:00", 0, 2);
        offset(0, "2024-01-01T00:00:00+00:00", 0, 0);
        offset(0, "2024-01-01T00:00:00-05:30", -330, 0);
        offset(3, "2024-01-01T00", NONE, NONE);
        offset(3, "20240101T00-0000", 0, 2);
    }

    private static void promise20Instants() {
        MomentTexts x = new MomentTexts();
        x.leap(0);
        read(x, 0, "1970-01-01T23:59:60.5Z", NONE);
        fields(x, 0, 0, 0, 0, 1439, 60, 500000000, 0, 1, 86400);
        read(x, 0, "1970-01-01T24:00:00Z", NONE);
        fields(x, 0, 0, 0, 1, 0, 0, 0, 0, 1, 86401);
        read(x, 3, "1970-01-02T00:30+00:31", NONE);
        fields(x, 0, 3, 0, 1, 30, 0, 0, 31, 0, 86340);
        read(x, 3, "1969-12-31T24:00-00:01", NONE);
        fields(x, 0, 3, 0, 0, 0, 0, 0, -1, 0, 60);
        read(x, 3, "1970-001T12.5Z", NONE);
        fields(x, 0, 3, 2, 0, 750, 0, 0, 0, 1, 45000);
        read(x, 3, "1970-001T12.5", NONE);
        fields(x, 0, 3, 2, 0, 750, 0, 0);
        Check.due("no OFFSET, no instant", NONE, () -> x.field(0, 8));
        read(x, 2, "12Z", NONE);
        Check.due("no day, no instant", NONE, () -> x.field(0, 8));
        read(x, 3, "+999999-12-31T23:59:59Z", NONE);
        Check.due("the last instant", LAST_DAY * 86400 + 86400, () -> x.field(0, 8));
        read(x, 3, "+999999-12-31T23:59:59-00:01", NONE);
        Check.due("an instant of no YEAR", NONE, () -> x.field(0, 8));
        Check.due("its day is told", LAST_DAY, () -> x.field(0, 2));
        read(x, 3, "-999999-01-01T00:00:00Z", NONE);
        Check.due("the first instant", -365961662L * 86400, () -> x.field(0, 8));
        read(x, 3, "-999999-01-01T00:00:59+00:01", NONE);
        Check.due("an instant of no YEAR", NONE, () -> x.field(0, 8));
    }

    private static void duration(String text, long months, long days, long seconds, long nanos) {
        MomentTexts x = new MomentTexts();
        read(x, 4, text, NONE);
        fields(x, 0, 4, NONE, NONE, NONE, NONE, NONE, NONE, NONE, NONE, months, days, seconds, nanos);
        fields(x, 1);
        fields(x, 2);
    }

    private static void promise20Durations() {
        duration("P1Y", 12, 0, 0, 0);
        duration("P1Y1M", 13, 0, 0, 0);
        duration("P12M", 12, 0, 0, 0);
        duration("P1W", 0, 7, 0, 0);
        duration("P999999999W", 0, 6999999993L, 0, 0);
        duration("P999999999Y999999999M", 12999999987L, 0, 0, 0);
        duration("P999999999D", 0, 999999999, 0, 0);
        duration("PT999999999H999999999M999999999S", 0, 0, 3660999996339L, 0);
        duration("P0Y", 0, 0, 0, 0);
        duration("P1.5D", 0, 1, 43200, 0);
        duration("P0.999999999D", 0, 0, 86399, 999913600);
        duration("P0.000000001D", 0, 0, 0, 86400);
        duration("PT1.5H", 0, 0, 5400, 0);
        duration("PT0.000000001H", 0, 0, 0, 3600);
        duration("PT1H1.5M", 0, 0, 3690, 0);
        duration("PT0,999999999M", 0, 0, 59, 999999940);
        duration("PT1.999999999S", 0, 0, 1, 999999999);
        duration("P1.0Y", 12, 0, 0, 0);
        duration("P1Y2M3DT4H5M6.7S", 14, 3, 14706, 700000000);
    }

    private static void promise20Intervals() {
        MomentTexts x = new MomentTexts();
        read(x, 5, "1970-01-01T00:00Z/1970-01-02T24:00-01:00", NONE);
        fields(x, 0, 3, 0, 0, 0, 0, 0, 0, 1, 0);
        fields(x, 1, 3, 0, 2, 0, 0, 0, -60, 0, 172800 + 3600);
        fields(x, 2);
        read(x, 5, "1970W014T12/PT1.5S", NONE);
        fields(x, 0, 3, 1, 0, 720, 0, 0);
        fields(x, 1, 4, NONE, NONE, NONE, NONE, NONE, NONE, NONE, NONE, 0, 0, 1, 500000000);
        read(x, 5, "P2M/1970-001T12,5", NONE);
        fields(x, 0, 4, NONE, NONE, NONE, NONE, NONE, NONE, NONE, NONE, 2, 0, 0, 0);
        fields(x, 1, 3, 2, 0, 750, 0, 0);
        read(x, 6, "R7/P2M/1970-001T12", NONE);
        fields(x, 2, 7);
        Check.due("the form of the first part", 4, () -> x.field(0, 0));
        Check.due("the form of the second part", 3, () -> x.field(1, 0));
        read(x, 6, "R0/P2M/1970-001T12", NONE);
        fields(x, 2, 0);
        read(x, 6, "R/P2M/1970-001T12", NONE);
        fields(x, 2);
        read(x, 6, "R999999999/P2M/1970-001T12", NONE);
        fields(x, 2, 999999999);
    }

    private static void promise20Refused() {
        MomentTexts x = new MomentTexts();
        read(x, 6, "R7/P2M/1970-001T12", NONE);
        for (int none : new int[] {-1, Integer.MIN_VALUE, Integer.MAX_VALUE}) {
            Check.illegal("part " + none, () -> x.field(none, 0));
            Check.illegal("what " + none, () -> x.field(0, none));
        }
        Check.illegal("part 3", () -> x.field(3, 0));
        Check.illegal("part -1 with a large what", () -> x.field(-1, 13));
        for (int part = 0; part < 3; part++) {
            int asked = part;
            Check.illegal("what 13 of part " + part, () -> x.field(asked, 13));
            Check.illegal("what -1 of part " + part, () -> x.field(asked, -1));
        }
        Check.due("the fields stay", 7, () -> x.field(2, 0));
    }
}
