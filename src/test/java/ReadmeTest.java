/** The lines that README.md shows answer what it says. */
public final class ReadmeTest {
    public static void main(String[] args) {
        MomentTexts x = new MomentTexts();
        days(x);
        zones(x);
        textsIn(x);
        textsOut(x);
        Check.end();
    }

    private static void put(MomentTexts x, String text) {
        x.clear();
        for (int i = 0; i < text.length(); i++) {
            x.type(text.charAt(i), 1);
        }
    }

    private static String made(MomentTexts x, int length) {
        StringBuilder text = new StringBuilder();
        for (int i = 0; i < length; i++) {
            text.append((char) x.out(i));
        }
        return text.toString();
    }

    private static void days(MomentTexts x) {
        long easter = x.day(2024, 3, 31);
        Check.same("day", 19813, easter);
        Check.same("easter", easter, x.easter(2024));
        Check.same("its weekday", 7, x.date(easter, 3));
        Check.same("leap", 1, x.leap(x.day(2016, 12, 31)));
    }

    private static void zones(MomentTexts x) {
        long easter = x.day(2024, 3, 31);
        int zone = x.zone(60);
        Check.same("zone", 0, zone);
        put(x, "CET-1CEST,M3.5.0,M10.5.0/3");
        Check.same("rule", Check.NONE, x.rule(zone));
        long noon = x.instant(easter * 1440 + 720, 0);
        Check.same("instant", 1711886401, noon);
        Check.same("offset", 120, x.offset(zone, noon));
        Check.same("skipped", 0, x.local(zone, easter * 1440 + 150, 0, -1));
        Check.same("plus", 1714564801, x.plus(zone, noon, 1, 1));
        Check.same("months between", 1, x.between(zone, noon, noon + 5000000, 0));
        Check.same("days between", 27, x.between(zone, noon, noon + 5000000, 1));
    }

    private static void textsIn(MomentTexts x) {
        put(x, "2016-12-31T23:59:60.5Z");
        Check.same("read", Check.NONE, x.read(0));
        Check.same("its instant", 1483228800, x.field(0, 8));
        put(x, "2016-12-30T23:59:60Z");
        Check.same("a fault", 17, x.read(0));
        Check.same("the fields stay", 1483228800, x.field(0, 8));
    }

    private static void textsOut(MomentTexts x) {
        Check.same("an instant", "2024-03-31T14:00:00.000+02:00", made(x, x.writeInstant(1711886401, 0, 120, 3)));
        Check.same("a duration", "P1Y2M3DT1H1M1.05S", made(x, x.writeDuration(14, 3, 3661, 50000000)));
        Check.same("pass", 17, x.pass());
        Check.same("read again", Check.NONE, x.read(4));
        Check.same("its months", 14, x.field(0, 9));
    }
}
