import java.util.Random;

/** Promises 7 to 9. */
public final class InstantsTest {
    private static final long FIRST_DAY = Model.FIRST_MINUTE / 1440;
    private static final long LAST_DAY = (Model.LAST_MINUTE - 1439) / 1440;

    public static void main(String[] args) {
        told();
        leapDays();
        edges();
        Random random = new Random(2);
        for (int run = 0; run < 240; run++) {
            randomRun(random);
        }
        Check.end();
    }

    private static void told() {
        MomentTexts x = new MomentTexts();
        Check.due("the first instant of 1970", 0, () -> x.instant(0, 0));
        Check.due("a minute before it", -60, () -> x.instant(-1, 0));
        Check.due("leap day -1", 1, () -> x.leap(-1));
        Check.due("its last minute", -61, () -> x.instant(-1, 0));
        Check.due("its second 60", -1, () -> x.instant(-1, 60));
        Check.due("minute 0 stays", 0, () -> x.instant(0, 0));
        Check.due("leap day 0", 2, () -> x.leap(0));
        Check.due("second 60 of day 0", 86400, () -> x.instant(1439, 60));
        Check.due("day 1", 86401, () -> x.instant(1440, 0));
        Check.due("minute of 86400", 1439, () -> x.reading(86400, 0));
        Check.due("second of 86400", 60, () -> x.reading(86400, 1));
        Check.illegal("second 61", () -> x.instant(1439, 61));
        Check.illegal("second 60 of a minute before", () -> x.instant(1438, 60));
        Check.illegal("second 60 of another day", () -> x.instant(2879, 60));
        Check.illegal("second -1", () -> x.instant(0, -1));
        Check.illegal("the least second", () -> x.instant(0, Integer.MIN_VALUE));
        Check.illegal("the most second", () -> x.instant(0, Integer.MAX_VALUE));
        Check.illegal("reading -1", () -> x.reading(0, -1));
        Check.illegal("reading 2", () -> x.reading(0, 2));
    }

    private static void leapDays() {
        MomentTexts x = new MomentTexts();
        for (int i = 0; i < 40; i++) {
            long day = i % 2 == 0 ? i * 1000L : -i * 1000L;
            Check.due("leap day " + day, i + 1, () -> x.leap(day));
            Check.illegal("leap day " + day + " again", () -> x.leap(day));
        }
        Check.due("a leap day too many", Check.UNSUPPORTED, () -> x.leap(7));
        Check.illegal("one of no year, of too many", () -> x.leap(LAST_DAY + 1));
        Check.illegal("one that is one, of too many", () -> x.leap(2000));
        Check.due("they count on", 86400L * 1000 * 1000 + 20, () -> x.instant(1440L * 1000 * 1000, 0));
        Check.due("they count back", -86400L * 1000 * 1000 - 20, () -> x.instant(-1440L * 1000 * 1000, 0));
    }

    private static void edges() {
        MomentTexts x = new MomentTexts();
        Check.illegal("a minute before all", () -> x.instant(Model.FIRST_MINUTE - 1, 0));
        Check.illegal("a minute behind all", () -> x.instant(Model.LAST_MINUTE + 1, 0));
        Check.illegal("the least minute", () -> x.instant(Long.MIN_VALUE, 0));
        Check.illegal("the most minute", () -> x.instant(Long.MAX_VALUE, 0));
        Check.illegal("a day before all", () -> x.leap(FIRST_DAY - 1));
        Check.illegal("a day behind all", () -> x.leap(LAST_DAY + 1));
        Check.illegal("the least day", () -> x.leap(Long.MIN_VALUE));
        Check.illegal("the most day", () -> x.leap(Long.MAX_VALUE));
        long first = Model.FIRST_MINUTE * 60;
        long last = Model.LAST_MINUTE * 60 + 59;
        Check.due("the first instant", first, () -> x.instant(Model.FIRST_MINUTE, 0));
        Check.due("the last instant", last, () -> x.instant(Model.LAST_MINUTE, 59));
        Check.due("its minute", Model.FIRST_MINUTE, () -> x.reading(first, 0));
        Check.due("the last one's minute", Model.LAST_MINUTE, () -> x.reading(last, 0));
        Check.illegal("an instant before all", () -> x.reading(first - 1, 0));
        Check.illegal("an instant behind all", () -> x.reading(last + 1, 0));
        Check.illegal("the least instant", () -> x.reading(Long.MIN_VALUE, 0));
        Check.illegal("the most instant", () -> x.reading(Long.MAX_VALUE, 1));
        x.leap(FIRST_DAY);
        x.leap(LAST_DAY);
        Check.due("the first instant then", Model.FIRST_MINUTE, () -> x.reading(first - 1, 0));
        Check.illegal("the one before it", () -> x.reading(first - 2, 0));
        Check.due("the last second then", 60, () -> x.reading(last + 1, 1));
        Check.illegal("the one behind it", () -> x.reading(last + 2, 1));
    }

    private static void randomRun(Random random) {
        MomentTexts x = new MomentTexts();
        Model model = new Model();
        int leaps = random.nextInt(41);
        for (int i = 0; i < leaps; i++) {
            long day = random.nextInt(80) - 40;
            boolean isNew = model.leaps.add(day);
            Check.due("leap " + day, isNew ? model.leaps.size() : Check.ILLEGAL, () -> x.leap(day));
        }
        for (int i = 0; i < 100; i++) {
            long minute = (random.nextInt(90) - 45) * 1440L + (i % 2 == 0 ? 1439 : random.nextInt(1440));
            int second = i % 3 == 0 ? 60 : random.nextInt(60);
            boolean isOne = second <= model.lastSecond(minute);
            long instant = model.instantOf(minute, second);
            String name = "second " + second + " of minute " + minute;
            Check.due(name, isOne ? instant : Check.ILLEGAL, () -> x.instant(minute, second));
            Check.due(name + " back: minute", model.minuteAt(instant), () -> x.reading(instant, 0));
            Check.due(name + " back: second", model.secondAt(instant), () -> x.reading(instant, 1));
        }
    }
}
