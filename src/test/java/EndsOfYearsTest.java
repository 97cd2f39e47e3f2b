import java.time.LocalDate;
import java.util.List;
import java.util.Random;

/**
 * The first and the last days of YEARS, against the model: random zones with changes at and near the very first and
 * last instants, rules with dates at the year's ends, and leap days there.
 */
public final class EndsOfYearsTest {
    private static final int RUNS = 400;
    private static final int QUESTIONS = 18;
    private static final int NEAR_DAYS = 4;

    private final Random random;
    private final boolean isFirst;
    private final MomentTexts x = new MomentTexts();
    private final Model model = new Model();
    private final Model.Zone zone = new Model.Zone();
    private String name;

    private EndsOfYearsTest(Random random, int run) {
        this.random = random;
        isFirst = run % 2 == 0;
        name = "run " + run;
    }

    public static void main(String[] args) {
        Random random = new Random(11);
        for (int run = 0; run < RUNS; run++) {
            EndsOfYearsTest test = new EndsOfYearsTest(random, run);
            test.make(run);
            for (int i = 0; i < QUESTIONS; i++) {
                test.ask();
            }
        }
        Check.end();
    }

    private void make(int run) {
        long endDay = Math.floorDiv(isFirst ? Model.FIRST_MINUTE : Model.LAST_MINUTE, 1440L);
        for (int i = random.nextInt(4); i > 0; i--) {
            long day = endDay + (isFirst ? 1 : -1) * random.nextInt(3);
            if (model.leaps.add(day)) {
                x.leap(day);
            }
        }
        zone.first = offset();
        x.zone(zone.first);
        if (run % 3 != 0) {
            makeChanges();
        }
        if (run % 3 != 1) {
            String rule = rule();
            zone.rule(rule);
            Check.text(x, rule);
            Check.due(rule, Check.NONE, () -> x.rule(0));
            name += " " + rule;
        }
        name += " first " + zone.first + " changes " + zone.instants + zone.offsets + " leaps " + model.leaps + ": ";
    }

    private void makeChanges() {
        long last = Long.MIN_VALUE;
        for (int i = random.nextInt(5); i >= 0; i--) {
            long least = isFirst ? model.first() : model.last() - 100000;
            long instant = last == Long.MIN_VALUE ? least + (random.nextBoolean() ? 0 : random.nextInt(90000))
                : last + 1 + random.nextInt(9000);
            if (!isFirst && random.nextInt(4) == 0) {
                instant = model.last() - random.nextInt(3);
            }
            if (instant <= last || !model.holds(instant)) {
                return;
            }
            int offset = offset();
            zone.instants.add(instant);
            zone.offsets.add(offset);
            x.change(0, instant, offset);
            last = instant;
        }
    }

    private int offset() {
        return random.nextInt(3) == 0 ? random.nextInt(2879) - 1439 : 30 * (random.nextInt(17) - 8);
    }

    private String rule() {
        String names = "AAA" + time();
        return random.nextInt(6) == 0 ? names : names + "BBB" + time() + "," + date() + "," + date();
    }

    private String time() {
        return (random.nextBoolean() ? "-" : "") + (random.nextBoolean() ? random.nextInt(24) : random.nextInt(4))
            + (random.nextInt(3) == 0 ? ":" + (10 + random.nextInt(50)) : "");
    }

    private String date() {
        String[] dates = {"J1", "J2", "0", "1", "J365", "J364", "365", "364", "363", "M1.1." + random.nextInt(7),
            "M12.5." + random.nextInt(7), "J200"};
        String date = dates[random.nextInt(dates.length)];
        return random.nextInt(3) == 0 ? date : date + "/" + random.nextInt(25);
    }

    private long nearInstant() {
        long away = random.nextInt(4) == 0 ? random.nextInt(3) : random.nextInt(NEAR_DAYS * 86400);
        return isFirst ? model.first() + away : model.last() - away;
    }

    private void ask() {
        long instant = nearInstant();
        Check.due(name + "offset at " + instant, model.offsetAt(zone, instant), () -> x.offset(0, instant));
        askNext(instant);
        int days = random.nextInt(9) - 4;
        int months = random.nextInt(3) == 0 ? random.nextInt(5) - 2 : 0;
        Check.due(name + "plus of " + instant + " " + months + " " + days, model.plus(zone, instant, months, days),
            () -> x.plus(0, instant, months, days));
        askLocal();
        askGoal();
        askBetween();
        askText(instant);
    }

    private void askNext(long instant) {
        List<Long> changes = model.changesIn(zone, instant, instant + NEAR_DAYS * 86400);
        long got = Check.answer(() -> x.next(0, instant));
        if (!changes.isEmpty()) {
            Check.same(name + "next of " + instant, changes.get(0), got);
        } else {
            boolean isLater = got == Check.NONE || got > instant + NEAR_DAYS * 86400 && model.holds(got);
            Check.same(name + "no change soon behind " + instant, 1, isLater ? 1 : 0);
        }
    }

    private void askLocal() {
        long minute = (isFirst ? Model.FIRST_MINUTE : Model.LAST_MINUTE) + random.nextInt(3200) - 1600;
        int second = random.nextInt(8) == 0 ? 60 : random.nextInt(60);
        String asked = name + "local " + minute + " " + second;
        if (!Model.holdsMinute(minute)) {
            Check.illegal(asked, () -> x.local(0, minute, second, -1));
            return;
        }
        List<Long> found = model.toldInstantsOf(zone, minute, second);
        Check.due(asked, found.size(), () -> x.local(0, minute, second, -1));
        Check.due(asked + " 0", found.isEmpty() ? Check.NONE : found.get(0), () -> x.local(0, minute, second, 0));
    }

    /** Goes on by days to a local minute that is perhaps skipped, or of no YEAR. */
    private void askGoal() {
        long goal = isFirst ? Model.FIRST_MINUTE + random.nextInt(3000) : Model.LAST_MINUTE - random.nextInt(3000);
        int days = isFirst ? -1 - random.nextInt(3) : 1 + random.nextInt(3);
        for (long start : model.toldInstantsOf(zone, goal - days * 1440L, random.nextInt(60))) {
            Check.due(name + "plus of " + start + " days " + days, model.plus(zone, start, 0, days),
                () -> x.plus(0, start, 0, days));
        }
    }

    private void askBetween() {
        long one = nearInstant();
        long other = nearInstant();
        long from = Math.min(one, other);
        long to = Math.max(one, other);
        boolean isRefused = model.plus(zone, from, 0, 0) == Check.ILLEGAL;
        long[] found = isRefused ? new long[] {Check.ILLEGAL, Check.ILLEGAL, Check.ILLEGAL}
            : model.between(zone, from, to);
        for (int what = 0; what < 3; what++) {
            int asked = what;
            Check.due(name + "between " + from + " " + to + " " + what, found[what],
                () -> x.between(0, from, to, asked));
        }
    }

    /** The instant written by an offset, and the text of that read again. */
    private void askText(long instant) {
        int offset = offset();
        long local = model.minuteAt(instant) + offset;
        String asked = name + "text of " + instant + " by " + offset;
        if (!Model.holdsMinute(local)) {
            Check.illegal(asked, () -> x.writeInstant(instant, 0, offset, 0));
            return;
        }
        LocalDate date = LocalDate.ofEpochDay(Math.floorDiv(local, 1440L));
        long minute = Math.floorMod(local, 1440L);
        int size = Math.abs(offset);
        String text = String.format("%+07d-%02d-%02dT%02d:%02d:%02d%s", date.getYear(), date.getMonthValue(),
            date.getDayOfMonth(), minute / 60, minute % 60, model.secondAt(instant), offset == 0 ? "Z"
            : (offset < 0 ? "-" : "+") + String.format("%02d:%02d", size / 60, size % 60));
        Check.due(asked, text.length(), () -> x.writeInstant(instant, 0, offset, 0));
        Check.same(asked + ", its last byte", text.charAt(text.length() - 1), x.out(text.length() - 1));
        x.pass();
        Check.due(asked + ", read again", Check.NONE, () -> x.read(3));
        Check.due(asked + ", its instant", instant, () -> x.field(0, 8));
    }
}
