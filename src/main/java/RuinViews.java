/** A machine that ranks ruins by their views. */
public final class RuinViews {
    private static final int MOST_RUINS = 10;
    private static final int MOST_WALLS = 20;
    private static final int MOST_IVY = 12;
    private static final int MOST_GHOSTS = 5;
    private static final int MOST_PRICE = 9;
    private static final int MOST_GUESTS = 40;
    private static final int MOST_TICKETS = 30;
    private static final int MOST_DAYS_SOLD_AHEAD = 30;
    private static final int MOST_DAYS_TO_PASS = 60;
    private static final int MOST_DAYS_TO_SEARCH = 100;
    private static final int DAYS_OF_A_CUT = 40;
    private static final int GUESTS_AT_FIRST = 12;
    private static final int PRICE_OF_A_WALL = 5;
    private static final int DAYS_OF_THE_MOON = 8;
    private static final int FULL_MOON = 4;
    private static final int NO_MOON = 0;
    private static final int FINEST_GRADE = 3;
    private static final int CHOKING_IVY = 10;
    private static final int NONE = -1;
    private static final long DIGEST_START = 2029L;
    private static final long DIGEST_FACTOR = 31L;

    private final Park now = new Park();
    // What would be is tried out in this one, which is made once because a run's objects are counted.
    private final Park ahead = new Park();

    public RuinViews() {
    }

    // ---- ruins

    public int addRuin(int walls, int ivy, int ghosts, int price)
            throws IllegalArgumentException, IllegalStateException {
        if (!isWithin(walls, 1, MOST_WALLS) || !isWithin(ivy, 0, MOST_IVY)
                || !isWithin(ghosts, 0, MOST_GHOSTS) || !isWithin(price, 0, MOST_PRICE)) {
            throw new IllegalArgumentException("walls, ivy, ghosts or price out of bounds");
        }
        if (now.ruins.count >= MOST_RUINS) {
            throw new IllegalStateException("there are 10 ruins");
        }
        return now.ruins.build(walls, ivy, ghosts, price);
    }

    public int cutIvy(int ruin, int ivy) throws IndexOutOfBoundsException, IllegalArgumentException {
        requireRuin(ruin);
        if (!isWithin(ivy, 1, MOST_IVY)) {
            throw new IllegalArgumentException("ivy is not 1 to 12");
        }
        now.ruins.cut(ruin, ivy);
        return now.ruins.ivy[ruin];
    }

    public int prop(int ruin) throws IndexOutOfBoundsException, IllegalStateException {
        requireRuin(ruin);
        if (!now.ruins.stands(ruin) || now.ruins.walls[ruin] >= MOST_WALLS || now.purse < PRICE_OF_A_WALL) {
            throw new IllegalStateException("the ruin has collapsed or has 20 walls, or there are too few coins");
        }
        now.purse -= PRICE_OF_A_WALL;
        now.ruins.walls[ruin]++;
        return now.ruins.walls[ruin];
    }

    public int setPrice(int ruin, int price) throws IndexOutOfBoundsException, IllegalArgumentException {
        requireRuin(ruin);
        if (!isWithin(price, 0, MOST_PRICE)) {
            throw new IllegalArgumentException("price is not 0 to 9");
        }
        int before = now.ruins.price[ruin];
        now.ruins.price[ruin] = price;
        return before;
    }

    // ---- guests and tickets

    public int setGuests(int guests) throws IllegalArgumentException {
        if (!isWithin(guests, 0, MOST_GUESTS)) {
            throw new IllegalArgumentException("guests is not 0 to 40");
        }
        int before = now.guests;
        now.guests = guests;
        return before;
    }

    public int sellTicket(int ruin, int days)
            throws IndexOutOfBoundsException, IllegalArgumentException, IllegalStateException {
        requireRuin(ruin);
        if (!isWithin(days, 0, MOST_DAYS_SOLD_AHEAD)) {
            throw new IllegalArgumentException("days is not 0 to 30");
        }
        if (!now.ruins.stands(ruin) || now.tickets.count >= MOST_TICKETS) {
            throw new IllegalStateException("the ruin has collapsed, or there are 30 tickets");
        }
        int price = now.ruins.price[ruin];
        now.purse += price;
        return now.tickets.issue(ruin, now.day + days, price);
    }

    public int pass(int days) throws IllegalArgumentException {
        requireDaysToPass(days);
        int before = now.purse;
        now.passDays(days);
        return now.purse - before;
    }

    // ---- the machine

    public int day() {
        return now.day;
    }

    public int phase() {
        return Moon.phaseOn(now.day);
    }

    public int brightness() {
        return Moon.brightnessOn(now.day);
    }

    public int daysUntilFullMoon() {
        return Moon.daysUntilFullFrom(now.day);
    }

    public int ruins() {
        return now.ruins.count;
    }

    public int standing() {
        return now.ruins.countStanding();
    }

    public int purse() {
        return now.purse;
    }

    // ---- what ruins are

    public int wallsOf(int ruin) throws IndexOutOfBoundsException {
        requireRuin(ruin);
        return now.ruins.walls[ruin];
    }

    public int ivyOf(int ruin) throws IndexOutOfBoundsException {
        requireRuin(ruin);
        return now.ruins.ivy[ruin];
    }

    public int gradeOf(int ruin) throws IndexOutOfBoundsException {
        requireRuin(ruin);
        return now.ruins.grade(ruin);
    }

    public int ghostsOf(int ruin) throws IndexOutOfBoundsException {
        requireRuin(ruin);
        return now.ruins.ghosts[ruin];
    }

    public boolean hasCollapsed(int ruin) throws IndexOutOfBoundsException {
        requireRuin(ruin);
        return !now.ruins.stands(ruin);
    }

    public int viewOf(int ruin) throws IndexOutOfBoundsException {
        requireRuin(ruin);
        return now.ruins.view(ruin, Moon.brightnessOn(now.day));
    }

    public int rankOf(int ruin) throws IndexOutOfBoundsException {
        requireRuin(ruin);
        now.rankRuins();
        return now.ruins.ranks[ruin];
    }

    public int ruinAt(int rank) throws IndexOutOfBoundsException {
        if (!isWithin(rank, 0, now.ruins.countStanding() - 1)) {
            throw new IndexOutOfBoundsException("rank is not 0 to standing() - 1");
        }
        now.rankRuins();
        return now.ruins.findRank(rank);
    }

    public int guestsOf(int ruin) throws IndexOutOfBoundsException {
        requireRuin(ruin);
        now.rankRuins();
        return now.guestsAtRank(now.ruins.ranks[ruin]);
    }

    // ---- tickets

    public int tickets() {
        return now.tickets.count;
    }

    public int dayOf(int ticket) throws IndexOutOfBoundsException {
        requireTicket(ticket);
        return now.tickets.forDay[ticket];
    }

    public boolean isOpen(int ticket) throws IndexOutOfBoundsException {
        requireTicket(ticket);
        return now.tickets.fate[ticket] == Tickets.OPEN;
    }

    public boolean isPaidBack(int ticket) throws IndexOutOfBoundsException {
        requireTicket(ticket);
        return now.tickets.fate[ticket] == Tickets.PAID_BACK;
    }

    // ---- what would be

    public int viewIn(int ruin, int days) throws IndexOutOfBoundsException, IllegalArgumentException {
        requireRuin(ruin);
        requireDaysToPass(days);
        ahead.ruins.copyFrom(now.ruins);
        ahead.ruins.ageFor(ruin, now.day, days);
        return ahead.ruins.view(ruin, Moon.brightnessOn(now.day + days));
    }

    public int daysUntilCollapse(int ruin) throws IndexOutOfBoundsException {
        requireRuin(ruin);
        ahead.ruins.copyFrom(now.ruins);
        for (int days = 0; days <= MOST_DAYS_TO_SEARCH; days++) {
            if (!ahead.ruins.stands(ruin)) {
                return days;
            }
            ahead.ruins.age(ruin, now.day + days);
        }
        return NONE;
    }

    public int daysUntilFirst(int ruin) throws IndexOutOfBoundsException {
        requireRuin(ruin);
        ahead.ruins.copyFrom(now.ruins);
        for (int days = 0; days <= MOST_DAYS_TO_SEARCH; days++) {
            int today = now.day + days;
            if (ahead.ruins.isFirst(ruin, Moon.brightnessOn(today))) {
                return days;
            }
            ahead.ruins.ageAll(today);
        }
        return NONE;
    }

    public int bestCut(int ruin) throws IndexOutOfBoundsException {
        requireRuin(ruin);
        int brightnessThen = Moon.brightnessOn(now.day + DAYS_OF_A_CUT);
        int best = 0;
        int mostWalls = NONE;
        int greatestView = NONE;
        for (int cut = 0; cut <= MOST_IVY; cut++) {
            ahead.ruins.copyFrom(now.ruins);
            ahead.ruins.cut(ruin, cut);
            ahead.ruins.ageFor(ruin, now.day, DAYS_OF_A_CUT);
            int walls = ahead.ruins.walls[ruin];
            int view = ahead.ruins.view(ruin, brightnessThen);
            if (walls > mostWalls || (walls == mostWalls && view > greatestView)) {
                best = cut;
                mostWalls = walls;
                greatestView = view;
            }
        }
        return best;
    }

    public int purseIn(int days) throws IllegalArgumentException {
        requireDaysToPass(days);
        ahead.copyFrom(now);
        ahead.passDays(days);
        return ahead.purse;
    }

    public double meanView() {
        int standing = now.ruins.countStanding();
        if (standing == 0) {
            return 0.0;
        }
        return (double) now.ruins.sumViews(Moon.brightnessOn(now.day)) / (double) standing;
    }

    public long digest() {
        long d = DIGEST_START;
        d = mix(d, now.day);
        d = mix(d, Moon.brightnessOn(now.day));
        d = mix(d, now.ruins.count);
        d = mix(d, now.ruins.countStanding());
        d = mix(d, now.purse);
        d = mix(d, now.tickets.count);
        return mixTickets(mixRuins(d));
    }

    private long mixRuins(long before) {
        Ruins ruins = now.ruins;
        int brightness = Moon.brightnessOn(now.day);
        now.rankRuins();
        long d = before;
        for (int ruin = 0; ruin < ruins.count; ruin++) {
            d = mix(d, ruins.walls[ruin]);
            d = mix(d, ruins.ivy[ruin]);
            d = mix(d, ruins.ghosts[ruin]);
            d = mix(d, ruins.price[ruin]);
            d = mix(d, ruins.view(ruin, brightness));
            d = mix(d, ruins.ranks[ruin]);
            d = mix(d, now.guestsAtRank(ruins.ranks[ruin]));
        }
        return d;
    }

    private long mixTickets(long before) {
        Tickets tickets = now.tickets;
        long d = before;
        for (int ticket = 0; ticket < tickets.count; ticket++) {
            d = mix(d, tickets.forDay[ticket]);
            d = mix(d, tickets.fate[ticket] == Tickets.OPEN ? 1 : 0);
            d = mix(d, tickets.fate[ticket] == Tickets.PAID_BACK ? 1 : 0);
        }
        return d;
    }

    private static long mix(long d, long x) {
        return d * DIGEST_FACTOR + x;
    }

    private static boolean isWithin(int number, int least, int most) {
        return number >= least && number <= most;
    }

    private void requireRuin(int ruin) {
        if (!now.ruins.has(ruin)) {
            throw new IndexOutOfBoundsException("no such ruin");
        }
    }

    private void requireTicket(int ticket) {
        if (!now.tickets.has(ticket)) {
            throw new IndexOutOfBoundsException("no such ticket");
        }
    }

    private static void requireDaysToPass(int days) {
        if (!isWithin(days, 1, MOST_DAYS_TO_PASS)) {
            throw new IllegalArgumentException("days is not 1 to 60");
        }
    }

    private static final class Moon {
        static int phaseOn(int day) {
            return day % DAYS_OF_THE_MOON;
        }

        static int brightnessOn(int day) {
            int phase = phaseOn(day);
            return phase <= FULL_MOON ? phase : DAYS_OF_THE_MOON - phase;
        }

        // The moon is full in the phase that has the number of its brightness.
        static int daysUntilFullFrom(int day) {
            return (FULL_MOON + DAYS_OF_THE_MOON - phaseOn(day)) % DAYS_OF_THE_MOON;
        }
    }

    /** Ruins as rows of numbers, so that no element can be null; each ruin asked for must be one of them. */
    private static final class Ruins {
        final int[] walls = new int[MOST_RUINS];
        final int[] ivy = new int[MOST_RUINS];
        final int[] ghosts = new int[MOST_RUINS];
        final int[] price = new int[MOST_RUINS];
        // These two hold what the last rankAll found; they are rows here to be used again.
        final int[] merits = new int[MOST_RUINS];
        final int[] ranks = new int[MOST_RUINS];
        int count = 0;

        boolean has(int ruin) {
            return ruin >= 0 && ruin < count;
        }

        int build(int itsWalls, int itsIvy, int itsGhosts, int itsPrice) {
            int ruin = count;
            if (ruin >= MOST_RUINS) {
                return NONE;
            }
            walls[ruin] = itsWalls;
            ivy[ruin] = itsIvy;
            ghosts[ruin] = itsGhosts;
            price[ruin] = itsPrice;
            count++;
            return ruin;
        }

        void copyFrom(Ruins other) {
            System.arraycopy(other.walls, 0, walls, 0, MOST_RUINS);
            System.arraycopy(other.ivy, 0, ivy, 0, MOST_RUINS);
            System.arraycopy(other.ghosts, 0, ghosts, 0, MOST_RUINS);
            System.arraycopy(other.price, 0, price, 0, MOST_RUINS);
            count = other.count;
        }

        boolean stands(int ruin) {
            return has(ruin) && walls[ruin] > 0;
        }

        int countStanding() {
            int standing = 0;
            for (int ruin = 0; ruin < count; ruin++) {
                if (walls[ruin] > 0) {
                    standing++;
                }
            }
            return standing;
        }

        void cut(int ruin, int most) {
            ivy[ruin] = Math.max(0, ivy[ruin] - most);
        }

        int grade(int ruin) {
            int much = ivy[ruin];
            if (much >= CHOKING_IVY) {
                return 1;
            }
            if (much >= 7) {
                return FINEST_GRADE;
            }
            if (much >= 4) {
                return 2;
            }
            return much >= 1 ? 1 : 0;
        }

        int view(int ruin, int brightness) {
            if (walls[ruin] == 0) {
                return 0;
            }
            return 2 * walls[ruin] + 3 * grade(ruin) + ghosts[ruin] * brightness;
        }

        int sumViews(int brightness) {
            int sum = 0;
            for (int ruin = 0; ruin < count; ruin++) {
                sum += view(ruin, brightness);
            }
            return sum;
        }

        // View, price and number are digits of one number, so that a single comparison ranks two ruins.
        int merit(int ruin, int brightness) {
            if (walls[ruin] == 0) {
                return NONE;
            }
            int byPrice = view(ruin, brightness) * (MOST_PRICE + 1) + (MOST_PRICE - price[ruin]);
            return byPrice * MOST_RUINS + (MOST_RUINS - 1 - ruin);
        }

        void rankAll(int brightness) {
            for (int ruin = 0; ruin < count; ruin++) {
                merits[ruin] = merit(ruin, brightness);
            }
            for (int ruin = 0; ruin < count; ruin++) {
                ranks[ruin] = walls[ruin] == 0 ? NONE : countAbove(merits[ruin]);
            }
        }

        int countAbove(int merit) {
            int above = 0;
            for (int ruin = 0; ruin < count; ruin++) {
                if (merits[ruin] > merit) {
                    above++;
                }
            }
            return above;
        }

        int findRank(int rank) {
            for (int ruin = 0; ruin < count; ruin++) {
                if (ranks[ruin] == rank) {
                    return ruin;
                }
            }
            return NONE;
        }

        boolean isFirst(int ruin, int brightness) {
            if (walls[ruin] == 0) {
                return false;
            }
            int own = merit(ruin, brightness);
            for (int other = 0; other < count; other++) {
                if (merit(other, brightness) > own) {
                    return false;
                }
            }
            return true;
        }

        void ageAll(int day) {
            for (int ruin = 0; ruin < count; ruin++) {
                age(ruin, day);
            }
        }

        void ageFor(int ruin, int day, int days) {
            for (int i = 0; i < days; i++) {
                age(ruin, day + i);
            }
        }

        // Ruins age each by itself, so one of them can be followed ahead without the others.
        void age(int ruin, int day) {
            if (walls[ruin] > 0) {
                growIvy(ruin, day);
            }
            moveGhosts(ruin, Moon.brightnessOn(day));
        }

        void growIvy(int ruin, int day) {
            if (day % 3 == 2 && ivy[ruin] < MOST_IVY) {
                ivy[ruin]++;
            }
            if (ivy[ruin] >= CHOKING_IVY) {
                walls[ruin]--;
            }
        }

        void moveGhosts(int ruin, int brightness) {
            boolean collapsed = walls[ruin] == 0;
            if (brightness == FULL_MOON) {
                if (!collapsed && grade(ruin) == FINEST_GRADE && ghosts[ruin] < MOST_GHOSTS) {
                    ghosts[ruin]++;
                }
            } else if (brightness == NO_MOON) {
                if (ghosts[ruin] > 0 && (collapsed || grade(ruin) == 0)) {
                    ghosts[ruin]--;
                }
            }
        }
    }

    /** Tickets as rows of numbers, for the reason that ruins are. */
    private static final class Tickets {
        static final int OPEN = 0;
        static final int USED = 1;
        static final int PAID_BACK = 2;

        final int[] forRuin = new int[MOST_TICKETS];
        final int[] forDay = new int[MOST_TICKETS];
        final int[] paid = new int[MOST_TICKETS];
        final int[] fate = new int[MOST_TICKETS];
        int count = 0;

        boolean has(int ticket) {
            return ticket >= 0 && ticket < count;
        }

        int issue(int ruin, int day, int price) {
            int ticket = count;
            if (ticket >= MOST_TICKETS) {
                return NONE;
            }
            forRuin[ticket] = ruin;
            forDay[ticket] = day;
            paid[ticket] = price;
            fate[ticket] = OPEN;
            count++;
            return ticket;
        }

        void copyFrom(Tickets other) {
            System.arraycopy(other.forRuin, 0, forRuin, 0, MOST_TICKETS);
            System.arraycopy(other.forDay, 0, forDay, 0, MOST_TICKETS);
            System.arraycopy(other.paid, 0, paid, 0, MOST_TICKETS);
            System.arraycopy(other.fate, 0, fate, 0, MOST_TICKETS);
            count = other.count;
        }

        // Answers how many coins are paid back.
        int settle(int day, Ruins ruins) {
            int paidBack = 0;
            for (int ticket = 0; ticket < count; ticket++) {
                if (fate[ticket] != OPEN || forDay[ticket] != day) {
                    continue;
                }
                if (ruins.stands(forRuin[ticket])) {
                    fate[ticket] = USED;
                } else {
                    fate[ticket] = PAID_BACK;
                    paidBack += paid[ticket];
                }
            }
            return paidBack;
        }
    }

    private static final class Park {
        final Ruins ruins = new Ruins();
        final Tickets tickets = new Tickets();
        int day = 0;
        int guests = GUESTS_AT_FIRST;
        int purse = 0;

        void copyFrom(Park other) {
            ruins.copyFrom(other.ruins);
            tickets.copyFrom(other.tickets);
            day = other.day;
            guests = other.guests;
            purse = other.purse;
        }

        void rankRuins() {
            ruins.rankAll(Moon.brightnessOn(day));
        }

        int guestsAtRank(int rank) {
            if (rank < 0) {
                return 0;
            }
            int left = guests;
            for (int i = 0; i < rank; i++) {
                left /= 2;
            }
            return left - left / 2;
        }

        int takings() {
            ruins.rankAll(Moon.brightnessOn(day));
            int coins = 0;
            for (int ruin = 0; ruin < ruins.count; ruin++) {
                coins += guestsAtRank(ruins.ranks[ruin]) * ruins.price[ruin];
            }
            return coins;
        }

        void passDays(int days) {
            for (int i = 0; i < days; i++) {
                purse += takings();
                purse -= tickets.settle(day, ruins);
                ruins.ageAll(day);
                day++;
            }
        }
    }
}
