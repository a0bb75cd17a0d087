import java.util.ArrayList;

public final class TavernBench {
    public static final int BAD = -1, NO = -2, FULL = -3, NONE = -4;

    private static final int LAST_DAY = 3999;
    private static final int DAY_MINUTES = 1440;
    private static final int LATEST_SHUTTING = 1800;
    private static final int LAST_PLACE = 999;
    private static final int LAST_KIND = 2;
    private static final int FEAST_WEEKDAY = 7;
    private static final int MOST_WORTH = 100000;
    private static final int MOST_WEIGHT = 10;
    private static final int MOST_NEAR = 200;
    private static final int MOST_HEARD = 500;
    private static final int LAST_OFFENCE = 99;

    private static final int MOST_FEASTS = 20;
    private static final int MOST_LAWS = 40;
    private static final int MOST_OBJECTORS = 20;
    private static final int MOST_HOUSES = 30;
    private static final int MOST_EVENTS = 16;
    private static final int MOST_WORTHS = 8;

    private static final int NOTICE_DAYS = 21;
    private static final int BEARABLE_WEIGHT = 10;
    private static final int OFFENCES_THAT_END = 3;
    private static final int OFFENCE_COUNTS_DAYS = 1825;
    private static final int PROTECTED_DAYS = 28;
    private static final int WORTHS_OWED = 3;
    private static final long SEED_FACTOR = 16807L;
    private static final long SEED_MODULUS = 2147483647L;

    private static final int GRANTED = 0, LATE = 1, CROWDED = 2, OBJECTED = 3;
    private static final int REFUSED = -10;

    private static final int OFFENCE = 0, QUASHED = 1, DEATH = 2, TRANSFER = 3;
    private static final int CONDITION = 4, CONDITIONS_GO = 5, SURPLUS = 6;

    private static final int NOT_GRANTED = 0, LICENSED = 1, ENDED = 2, LAPSED = 3, BOUGHT_OUT = 4;

    // Later than every day, so that "from NEVER on" holds on no day.
    private static final int NEVER = 1000000;

    private final ArrayList<Law> laws;
    private final ArrayList<Objector> objectors;
    private final ArrayList<House> houses;
    private final int[] feastDays;
    private final Law shutLaw;
    private int feasts;
    private int near;
    private int heard;
    private int refusedAsks;
    private int visitsInRound;
    private long lastSeed;

    public TavernBench() {
        laws = new ArrayList<Law>();
        objectors = new ArrayList<Objector>();
        houses = new ArrayList<House>();
        feastDays = new int[MOST_FEASTS];
        shutLaw = new Law(0, 0, 0, 0, 0);
        near = 20;
        heard = 100;
        lastSeed = 1;
    }

    public int feast(int day) {
        if (!isDay(day)) {
            return BAD;
        }
        if (isFeast(day)) {
            return NO;
        }
        if (feasts >= feastDays.length) {
            return FULL;
        }
        feastDays[feasts] = day;
        feasts++;
        return feasts;
    }

    public int law(int day, int kind, int weekday, int f, int t) {
        if (!isDay(day) || !isKind(kind) || !isIn(weekday, 0, FEAST_WEEKDAY) || !areHours(f, t)) {
            return BAD;
        }
        if (laws.size() >= MOST_LAWS) {
            return FULL;
        }
        laws.add(new Law(day, kind, weekday, f, t));
        return laws.size();
    }

    public int rule(int what, int v) {
        if (what == 0 && isIn(v, 0, MOST_NEAR)) {
            int before = near;
            near = v;
            return before;
        }
        if (what == 1 && isIn(v, 0, MOST_HEARD)) {
            int before = heard;
            heard = v;
            return before;
        }
        return BAD;
    }

    public int objector(int x, int y, int weight) {
        if (!isPlace(x, y) || !isIn(weight, 1, MOST_WEIGHT)) {
            return BAD;
        }
        if (objectors.size() >= MOST_OBJECTORS) {
            return FULL;
        }
        objectors.add(new Objector(x, y, weight));
        return objectors.size();
    }

    public int ask(int x, int y, int kind, int worth, int notice, int session) {
        if (!isPlace(x, y) || !isKind(kind) || !isWorth(worth)) {
            return BAD;
        }
        if (!isDay(notice) || !isDay(session) || notice > session) {
            return BAD;
        }
        if (houses.size() >= MOST_HOUSES) {
            return FULL;
        }
        int verdict = judge(x, y, notice, session);
        if (verdict != GRANTED) {
            refusedAsks++;
            return REFUSED - verdict;
        }
        houses.add(new House(x, y, kind, session, worth));
        return houses.size() - 1;
    }

    public int event(int house, int day, int kind, int v) {
        House told = houseAt(house);
        if (told == null || !isDay(day) || !isEvent(kind, v)) {
            return BAD;
        }
        if (day < told.granted || !told.mayBeTold(kind, v)) {
            return NO;
        }
        if (told.events.size() >= MOST_EVENTS) {
            return FULL;
        }
        told.tell(day, kind, v);
        return told.events.size();
    }

    public int worth(int house, int day, int w) {
        House valued = houseAt(house);
        if (valued == null || !isDay(day) || !isWorth(w)) {
            return BAD;
        }
        if (valued.worths.size() >= MOST_WORTHS) {
            return FULL;
        }
        valued.worths.add(new Worth(Math.max(day, valued.granted), w));
        return valued.worths.size();
    }

    public int on(int house, int day, int what) {
        House asked = houseAt(house);
        if (asked == null || !isDay(day)) {
            return BAD;
        }
        switch (what) {
            case 0:
                return asked.stateOn(day);
            case 1:
                return asked.offencesCounted(day, day);
            case 2:
                return asked.conditionOn(day);
            case 3:
                return asked.worthOn(day);
            default:
                return BAD;
        }
    }

    public int open(int house, int day, int minute) {
        House asked = houseAt(house);
        if (asked == null || !isDay(day) || !isIn(minute, 0, DAY_MINUTES - 1)) {
            return BAD;
        }
        if (minute < openOverMidnightUntil(asked, day)) {
            return 1;
        }
        return minute >= lawOf(asked.kind, day).from && minute < openTodayUntil(asked, day) ? 1 : 0;
    }

    public int minutes(int house, int day) {
        House asked = houseAt(house);
        if (asked == null || !isDay(day)) {
            return BAD;
        }
        int goesOn = openOverMidnightUntil(asked, day);
        int opensAnew = Math.max(lawOf(asked.kind, day).from, goesOn);
        return goesOn + Math.max(0, openTodayUntil(asked, day) - opensAnew);
    }

    public int lawOn(int kind, int day, int what) {
        if (!isKind(kind) || !isDay(day) || !isIn(what, 0, 1)) {
            return BAD;
        }
        Law inForce = lawOf(kind, day);
        return what == 0 ? inForce.from : inForce.to;
    }

    public int owes(int house, int s) {
        House payer = houseAt(house);
        House surplus = houseAt(s);
        if (payer == null || surplus == null) {
            return BAD;
        }
        int day = surplus.surplusFrom(LAST_DAY);
        if (day == NEVER) {
            return NO;
        }
        if (house == s || !payer.hasLicence(day)) {
            return 0;
        }
        return partOf(house, payer.worthOn(day), day, (long) surplus.worthOn(day) * WORTHS_OWED);
    }

    public int visit(int day) {
        if (!isDay(day)) {
            return BAD;
        }
        if (!anyLicence(day)) {
            return NO;
        }
        if (unvisitedOn(day) == 0) {
            beginRound();
        }
        int unvisited = unvisitedOn(day);
        if (unvisited <= 0) {
            return NO;
        }
        lastSeed = lastSeed * SEED_FACTOR % SEED_MODULUS;
        return visitUnvisited(day, (int) (lastSeed % unvisited));
    }

    public int seed(int v) {
        if (v < 1 || v >= SEED_MODULUS) {
            return BAD;
        }
        lastSeed = v;
        beginRound();
        return 0;
    }

    public int count(int what) {
        switch (what) {
            case 0:
                return houses.size();
            case 1:
                return laws.size();
            case 2:
                return feasts;
            case 3:
                return objectors.size();
            case 4:
                return visitsInRound;
            case 5:
                return refusedAsks;
            default:
                return BAD;
        }
    }

    private static boolean isIn(int number, int least, int most) {
        return number >= least && number <= most;
    }

    private static boolean isDay(int day) {
        return isIn(day, 0, LAST_DAY);
    }

    private static boolean isKind(int kind) {
        return isIn(kind, 0, LAST_KIND);
    }

    private static boolean isPlace(int x, int y) {
        return isIn(x, 0, LAST_PLACE) && isIn(y, 0, LAST_PLACE);
    }

    private static boolean isWorth(int worth) {
        return isIn(worth, 1, MOST_WORTH);
    }

    private static boolean areHours(int from, int to) {
        boolean shut = from == 0 && to == 0;
        return shut || (isIn(from, 0, DAY_MINUTES - 1) && isIn(to, from + 1, LATEST_SHUTTING));
    }

    private static boolean isEvent(int kind, int v) {
        switch (kind) {
            case OFFENCE:
            case QUASHED:
                return isIn(v, 0, LAST_OFFENCE);
            case CONDITION:
                return isIn(v, 0, DAY_MINUTES - 1);
            default:
                return isIn(kind, OFFENCE, SURPLUS);
        }
    }

    private static int squareOfDistance(int x, int y, int otherX, int otherY) {
        return (x - otherX) * (x - otherX) + (y - otherY) * (y - otherY);
    }

    private House houseAt(int number) {
        return number >= 0 && number < houses.size() ? houses.get(number) : null;
    }

    private boolean isFeast(int day) {
        for (int i = 0; i < feasts && i < feastDays.length; i++) {
            if (feastDays[i] == day) {
                return true;
            }
        }
        return false;
    }

    private Law lawOf(int kind, int day) {
        int weekday = isFeast(day) ? FEAST_WEEKDAY : day % 7;
        Law latest = shutLaw;
        for (int i = 0; i < laws.size(); i++) {
            Law law = laws.get(i);
            boolean fits = law.kind == kind && law.weekday == weekday && law.day <= day;
            if (fits && law.day >= latest.day) {
                latest = law;
            }
        }
        return latest;
    }

    private int judge(int x, int y, int notice, int session) {
        if (session - notice < NOTICE_DAYS) {
            return LATE;
        }
        if (isCrowded(x, y, session)) {
            return CROWDED;
        }
        return weightHeard(x, y) > BEARABLE_WEIGHT ? OBJECTED : GRANTED;
    }

    private boolean isCrowded(int x, int y, int day) {
        for (int i = 0; i < houses.size(); i++) {
            House other = houses.get(i);
            if (squareOfDistance(x, y, other.x, other.y) < near * near && other.hasLicence(day)) {
                return true;
            }
        }
        return false;
    }

    private int weightHeard(int x, int y) {
        int weight = 0;
        for (int i = 0; i < objectors.size(); i++) {
            Objector objector = objectors.get(i);
            if (squareOfDistance(x, y, objector.x, objector.y) <= heard * heard) {
                weight += objector.weight;
            }
        }
        return weight;
    }

    private int openOverMidnightUntil(House house, int day) {
        if (day == 0 || house.conditionOn(day) != NONE) {
            return 0;
        }
        if (!house.hasLicence(day) || !house.hasLicence(day - 1)) {
            return 0;
        }
        return Math.max(0, lawOf(house.kind, day - 1).to - DAY_MINUTES);
    }

    private int openTodayUntil(House house, int day) {
        if (!house.hasLicence(day)) {
            return 0;
        }
        int condition = house.conditionOn(day);
        int latest = condition == NONE ? DAY_MINUTES : condition;
        return Math.min(lawOf(house.kind, day).to, latest);
    }

    private int partOf(int number, int worth, int day, long debt) {
        long allWorths = worthOfPayers(day);
        if (allWorths <= 0) {
            return 0;
        }
        long weighed = debt * worth;
        long rest = weighed % allWorths;
        long left = debt;
        int served = 0;
        for (int i = 0; i < houses.size(); i++) {
            House other = houses.get(i);
            if (other.hasLicence(day)) {
                long otherWeighed = debt * other.worthOn(day);
                long otherRest = otherWeighed % allWorths;
                left -= otherWeighed / allWorths;
                if (otherRest > rest || (otherRest == rest && i < number)) {
                    served++;
                }
            }
        }
        return (int) (weighed / allWorths) + (served < left ? 1 : 0);
    }

    private long worthOfPayers(int day) {
        long sum = 0;
        for (int i = 0; i < houses.size(); i++) {
            House house = houses.get(i);
            if (house.hasLicence(day)) {
                sum += house.worthOn(day);
            }
        }
        return sum;
    }

    private boolean anyLicence(int day) {
        for (int i = 0; i < houses.size(); i++) {
            if (houses.get(i).hasLicence(day)) {
                return true;
            }
        }
        return false;
    }

    private int unvisitedOn(int day) {
        int unvisited = 0;
        for (int i = 0; i < houses.size(); i++) {
            House house = houses.get(i);
            if (!house.visited && house.hasLicence(day)) {
                unvisited++;
            }
        }
        return unvisited;
    }

    private int visitUnvisited(int day, int skipped) {
        int toSkip = skipped;
        for (int i = 0; i < houses.size(); i++) {
            House house = houses.get(i);
            if (!house.visited && house.hasLicence(day)) {
                if (toSkip == 0) {
                    house.visited = true;
                    visitsInRound++;
                    return i;
                }
                toSkip--;
            }
        }
        return NO;
    }

    private void beginRound() {
        for (int i = 0; i < houses.size(); i++) {
            houses.get(i).visited = false;
        }
        visitsInRound = 0;
    }

    private static final class Law {
        final int day;
        final int kind;
        final int weekday;
        final int from;
        final int to;

        Law(int day, int kind, int weekday, int from, int to) {
            this.day = day;
            this.kind = kind;
            this.weekday = weekday;
            this.from = from;
            this.to = to;
        }
    }

    private static final class Objector {
        final int x;
        final int y;
        final int weight;

        Objector(int x, int y, int weight) {
            this.x = x;
            this.y = y;
            this.weight = weight;
        }
    }

    private static final class Worth {
        final int day;
        final int amount;

        Worth(int day, int amount) {
            this.day = day;
            this.amount = amount;
        }
    }

    private static final class Event {
        final int day;
        final int kind;
        final int v;
        // Kept on the offence, so that no day asked needs a search for its quashings.
        int quashedFrom;

        Event(int day, int kind, int v) {
            this.day = day;
            this.kind = kind;
            this.v = v;
            quashedFrom = NEVER;
        }
    }

    private static final class House {
        final int x;
        final int y;
        final int kind;
        final int granted;
        final ArrayList<Event> events;
        final ArrayList<Worth> worths;
        boolean visited;

        House(int x, int y, int kind, int granted, int worth) {
            this.x = x;
            this.y = y;
            this.kind = kind;
            this.granted = granted;
            events = new ArrayList<Event>();
            worths = new ArrayList<Worth>();
            worths.add(new Worth(granted, worth));
        }

        boolean mayBeTold(int eventKind, int v) {
            if (eventKind == OFFENCE) {
                return offenceNumbered(v) == null;
            }
            return eventKind != QUASHED || offenceNumbered(v) != null;
        }

        void tell(int day, int eventKind, int v) {
            events.add(new Event(day, eventKind, v));
            Event offence = eventKind == QUASHED ? offenceNumbered(v) : null;
            if (offence != null) {
                offence.quashedFrom = Math.min(offence.quashedFrom, day);
            }
        }

        private Event offenceNumbered(int number) {
            for (int i = 0; i < events.size(); i++) {
                Event event = events.get(i);
                if (event.kind == OFFENCE && event.v == number) {
                    return event;
                }
            }
            return null;
        }

        boolean hasLicence(int day) {
            return stateOn(day) == LICENSED;
        }

        int stateOn(int day) {
            if (day < granted) {
                return NOT_GRANTED;
            }
            int ended = endedFrom(day);
            int lapsed = lapsedFrom(day);
            int surplus = surplusFrom(day);
            int least = Math.min(ended, Math.min(lapsed, surplus));
            if (least == NEVER) {
                return LICENSED;
            }
            if (ended == least) {
                return ENDED;
            }
            return lapsed == least ? LAPSED : BOUGHT_OUT;
        }

        // Three offences that count together end a house on the day of the last of them, so days
        // of offences alone need a look. One that is quashed can only find a later day than that.
        private int endedFrom(int askedDay) {
            int from = NEVER;
            for (int i = 0; i < events.size(); i++) {
                Event event = events.get(i);
                boolean mayEnd = event.kind == OFFENCE && event.day <= askedDay && event.day < from;
                if (mayEnd && offencesCounted(event.day, askedDay) >= OFFENCES_THAT_END) {
                    from = event.day;
                }
            }
            return from;
        }

        // Quashings are looked at by the day asked, which may be later than the day counted on.
        int offencesCounted(int day, int askedDay) {
            int counted = 0;
            for (int i = 0; i < events.size(); i++) {
                Event event = events.get(i);
                boolean counts = event.day >= day - OFFENCE_COUNTS_DAYS && event.day <= day;
                if (counts && event.kind == OFFENCE && event.quashedFrom > askedDay) {
                    counted++;
                }
            }
            return counted;
        }

        private int lapsedFrom(int askedDay) {
            int from = NEVER;
            for (int i = 0; i < events.size(); i++) {
                Event event = events.get(i);
                int unprotected = event.day + PROTECTED_DAYS;
                boolean over = event.kind == DEATH && unprotected <= askedDay;
                if (over && unprotected < from && !isTransferred(event.day, unprotected - 1)) {
                    from = unprotected;
                }
            }
            return from;
        }

        private boolean isTransferred(int firstDay, int lastDay) {
            for (int i = 0; i < events.size(); i++) {
                Event event = events.get(i);
                if (event.kind == TRANSFER && isIn(event.day, firstDay, lastDay)) {
                    return true;
                }
            }
            return false;
        }

        int surplusFrom(int askedDay) {
            int from = NEVER;
            for (int i = 0; i < events.size(); i++) {
                Event event = events.get(i);
                if (event.kind == SURPLUS && event.day <= askedDay) {
                    from = Math.min(from, event.day);
                }
            }
            return from;
        }

        int conditionOn(int askedDay) {
            int latestDay = 0;
            int condition = NONE;
            for (int i = 0; i < events.size(); i++) {
                Event event = events.get(i);
                boolean tells = event.kind == CONDITION || event.kind == CONDITIONS_GO;
                if (tells && isIn(event.day, latestDay, askedDay)) {
                    latestDay = event.day;
                    condition = event.kind == CONDITION ? event.v : NONE;
                }
            }
            return condition;
        }

        int worthOn(int askedDay) {
            int latestDay = 0;
            // Ahead of the grant none is in force, and the worth of the ask stands for it.
            int amount = worths.isEmpty() ? 0 : worths.get(0).amount;
            for (int i = 0; i < worths.size(); i++) {
                Worth worth = worths.get(i);
                if (isIn(worth.day, latestDay, askedDay)) {
                    latestDay = worth.day;
                    amount = worth.amount;
                }
            }
            return amount;
        }
    }
}
