/** Gardens in a desert that drink from a buried channel, and their books. */
public final class OasisBooks {
    private static final int NONE = -1;

    private static final int NOT_SO_MANY_UNLENT = -2;
    private static final int NOT_THE_TIME = -2;
    private static final int NOT_SO_MANY_COINS = -3;
    private static final int NOT_SO_MANY_PALMS = -3;
    private static final int NOT_SO_MUCH_POLLEN = -4;

    private static final int CYCLE_DAYS = 7;
    private static final int DAY_BOWLS = 720;
    private static final int CYCLE_BOWLS = 5040;
    private static final int YEAR_DAYS = 70;
    private static final int TEN_DAYS = 10;
    private static final int LAST_POLLEN_DATE = 13;
    private static final int HARVEST_DATE = 60;
    private static final int DAY_MOST = 2000;

    private static final int TABLE_AT_FIRST = 200;
    private static final int TABLE_MOST = 400;
    private static final int LENGTH_AT_FIRST = 40;
    private static final int LENGTH_MOST = 90;
    private static final int LENGTH_MORE_MOST = 80;
    private static final int MUD_MOST = 30;
    private static final int DRAW_MOST = 20;
    private static final int RAIN_MOST = 99;

    private static final int OWNERS_MOST = 10;
    private static final int HEIRS_MOST = 4;
    private static final int COINS_MOST = 9999;
    private static final int PALMS_MOST = 200;
    private static final int MALES_MOST = 20;
    private static final int KILOS_MOST = 999;
    private static final int DEALS_MOST = 8;
    private static final int CYCLES_MOST = 20;

    private static final int MOIST_AT_FIRST = 50;
    private static final int MOIST_MORE_MOST = 40;
    private static final int MOIST_MOST = 99;
    private static final int MOIST_TO_LIVE = 15;
    private static final int SALT_MOST = 99;
    private static final int PALM_NEED = 20;
    private static final int PALMS_OF_MALE = 20;

    private static final int OF_MOST = 13;
    private static final int MANY_MOST = 15;
    private static final int OF_LOAN_MOST = 3;
    private static final int OF_SALE_MOST = 2;
    private static final int TRIED_LENGTH_MOST = 20;
    private static final int BEST_DIG_DAYS_MOST = 35;

    private final Oasis now;
    // Made once and used again by each call that asks what would be.
    private final Oasis later;
    private final Oasis atHarvest;

    public OasisBooks() {
        now = new Oasis();
        later = new Oasis();
        atHarvest = new Oasis();
    }

    // ---- what is told

    public int owner(int bowls, int coins, int palms, int males)
            throws IllegalArgumentException, IllegalStateException {
        mustBeRight(isWithin(bowls, 0, CYCLE_BOWLS) && isWithin(coins, 0, COINS_MOST)
                && isWithin(palms, 0, PALMS_MOST) && isWithin(males, 0, MALES_MOST));
        mustBePossible(now.people.hasRoomFor(1) && bowls <= now.people.commonBowls());
        return now.people.addLast(bowls, coins, palms, males);
    }

    public int sell(int from, int to, int bowls, int coins)
            throws IndexOutOfBoundsException, IllegalArgumentException {
        mustLive(from);
        mustLive(to);
        mustBeRight(from != to && isWithin(bowls, 1, CYCLE_BOWLS) && isWithin(coins, 0, COINS_MOST));
        Owner seller = now.people.numbered(from);
        Owner buyer = now.people.numbered(to);
        if (bowls > now.unlentBowls(seller)) {
            return NOT_SO_MANY_UNLENT;
        }
        if (coins > buyer.coins) {
            return NOT_SO_MANY_COINS;
        }
        buyer.payTo(seller, coins);
        seller.bowls -= bowls;
        buyer.bowls += bowls;
        return buyer.bowls;
    }

    public int lend(int from, int to, int bowls, int cycles)
            throws IndexOutOfBoundsException, IllegalArgumentException, IllegalStateException {
        mustLive(from);
        mustLive(to);
        mustBeRight(from != to && isWithin(bowls, 1, CYCLE_BOWLS) && isWithin(cycles, 1, CYCLES_MOST));
        mustBePossible(!now.loans.isFull());
        if (bowls > now.unlentBowls(now.people.numbered(from))) {
            return NOT_SO_MANY_UNLENT;
        }
        now.loans.add(from, to, bowls, cycles);
        return now.loans.count();
    }

    public int die(int owner, int sons, int daughters)
            throws IndexOutOfBoundsException, IllegalArgumentException, IllegalStateException {
        mustLive(owner);
        mustBeRight(isWithin(sons, 0, HEIRS_MOST) && isWithin(daughters, 0, HEIRS_MOST)
                && isWithin(sons + daughters, 1, HEIRS_MOST));
        mustBePossible(now.people.hasRoomFor(sons + daughters));
        return now.leaveToHeirs(owner, sons, daughters);
    }

    public int dig(int length) throws IllegalArgumentException, IllegalStateException {
        mustBeRight(isWithin(length, 1, LENGTH_MORE_MOST));
        mustBePossible(now.channel.length + length <= LENGTH_MOST && now.people.ownedBowls() > 0);
        int cost = (5 + now.channel.length / 10) * length;
        now.people.shareCost(cost);
        now.channel.length += length;
        return cost;
    }

    public int clean(int mud) throws IllegalArgumentException, IllegalStateException {
        mustBeRight(isWithin(mud, 1, MUD_MOST));
        mustBePossible(mud <= now.channel.mud && now.people.ownedBowls() > 0);
        int cost = 3 * mud;
        now.people.shareCost(cost);
        now.channel.mud -= mud;
        return cost;
    }

    public int fall(int mud) throws IllegalArgumentException {
        mustBeRight(isWithin(mud, 1, MUD_MOST));
        now.channel.addMud(mud);
        return now.channel.mud;
    }

    public int pump(int draw) throws IllegalArgumentException {
        mustBeRight(isWithin(draw, 0, DRAW_MOST));
        int before = now.channel.draw;
        now.channel.draw = draw;
        return before;
    }

    public int pollinate(int owner, int palms)
            throws IndexOutOfBoundsException, IllegalArgumentException {
        mustLive(owner);
        mustBeRight(isWithin(palms, 1, PALMS_MOST));
        Owner gardener = now.people.numbered(owner);
        int pollinated = gardener.pollinated + palms;
        if (now.date() > LAST_POLLEN_DATE) {
            return NOT_THE_TIME;
        }
        if (pollinated > gardener.palms) {
            return NOT_SO_MANY_PALMS;
        }
        if (pollinated > gardener.pollenPalms()) {
            return NOT_SO_MUCH_POLLEN;
        }
        gardener.pollinated = pollinated;
        return pollinated;
    }

    public int pollen(int from, int to, int palms)
            throws IndexOutOfBoundsException, IllegalArgumentException {
        mustLive(from);
        mustLive(to);
        mustBeRight(from != to && isWithin(palms, 1, PALMS_MOST));
        Owner seller = now.people.numbered(from);
        Owner buyer = now.people.numbered(to);
        if (palms > buyer.coins) {
            return NOT_SO_MANY_COINS;
        }
        if (palms > seller.pollenPalms() - seller.pollinated) {
            return NOT_SO_MUCH_POLLEN;
        }
        buyer.payTo(seller, palms);
        seller.boughtPollen -= palms;
        buyer.boughtPollen += palms;
        return buyer.pollenPalms();
    }

    public int ahead(int from, int to, int kilos, int coins)
            throws IndexOutOfBoundsException, IllegalArgumentException, IllegalStateException {
        mustLive(from);
        mustLive(to);
        mustBeRight(from != to && isWithin(kilos, 1, KILOS_MOST) && isWithin(coins, 0, COINS_MOST));
        mustBePossible(!now.sales.isFull());
        Owner buyer = now.people.numbered(to);
        if (coins > buyer.coins) {
            return NOT_SO_MANY_COINS;
        }
        buyer.payTo(now.people.numbered(from), coins);
        now.sales.add(from, to, kilos, 0);
        return now.sales.count();
    }

    public int pass(int rain, int days) throws IllegalArgumentException, IllegalStateException {
        mustBeRight(isWithin(rain, 0, RAIN_MOST) && isWithin(days, 1, YEAR_DAYS));
        mustBePossible(now.day + days <= DAY_MOST);
        return now.letDaysGoBy(rain, days);
    }

    // ---- what one asks

    public int of(int owner, int what) throws IndexOutOfBoundsException, IllegalArgumentException {
        mustLive(owner);
        mustBeRight(isWithin(what, 0, OF_MOST));
        return now.askOwner(now.people.numbered(owner), what);
    }

    public int ofBowl(int bowl, int what) throws IndexOutOfBoundsException, IllegalArgumentException {
        mustExist(isWithin(bowl, 0, CYCLE_BOWLS - 1));
        mustBeRight(isWithin(what, 0, 1));
        return what == 0 ? now.people.holderOf(bowl) : now.userOf(bowl);
    }

    public int ofLoan(int loan, int what) throws IndexOutOfBoundsException, IllegalArgumentException {
        mustExist(isWithin(loan, 0, now.loans.count() - 1));
        mustBeRight(isWithin(what, 0, OF_LOAN_MOST));
        return now.loans.get(loan, what);
    }

    public int ofSale(int sale, int what) throws IndexOutOfBoundsException, IllegalArgumentException {
        mustExist(isWithin(sale, 0, now.sales.count() - 1));
        mustBeRight(isWithin(what, 0, OF_SALE_MOST));
        return now.sales.get(sale, what);
    }

    public int many(int what) throws IllegalArgumentException {
        mustBeRight(isWithin(what, 0, MANY_MOST));
        return now.askAll(what);
    }

    public double meanMoist() {
        int living = now.people.countLiving();
        return living > 0 ? (double) now.people.sumOfMoist() / living : 0.0;
    }

    // ---- what would be (nothing is changed)

    public int wouldCome(int owner, int rain, int days)
            throws IndexOutOfBoundsException, IllegalArgumentException {
        mustLive(owner);
        mustBeRight(isWithin(rain, 0, RAIN_MOST) && isWithin(days, 1, YEAR_DAYS));
        imagineLater(rain, days);
        return cameUntilLater(owner);
    }

    public int bestDig(int rain, int days) throws IllegalArgumentException {
        mustBeRight(isWithin(rain, 0, RAIN_MOST) && isWithin(days, 1, BEST_DIG_DAYS_MOST));
        int best = 0;
        int most = NONE;
        for (int more = 0; more <= TRIED_LENGTH_MOST; more++) {
            if (now.channel.length + more <= LENGTH_MOST) {
                later.becomeLike(now);
                later.channel.length += more;
                int came = later.letDaysGoBy(rain, days);
                if (came > most) {
                    most = came;
                    best = more;
                }
            }
        }
        return best;
    }

    public int pumpTakes(int draw, int rain, int days) throws IllegalArgumentException {
        mustBeRight(isWithin(draw, 0, DRAW_MOST) && isWithin(rain, 0, RAIN_MOST)
                && isWithin(days, 1, YEAR_DAYS));
        later.becomeLike(now);
        int cameAsItIs = later.letDaysGoBy(rain, days);
        later.becomeLike(now);
        later.channel.draw = draw;
        return cameAsItIs - later.letDaysGoBy(rain, days);
    }

    public int wouldReap(int owner, int rain)
            throws IndexOutOfBoundsException, IllegalArgumentException {
        mustLive(owner);
        mustBeRight(isWithin(rain, 0, RAIN_MOST));
        imagineHarvest(rain);
        return reapedAtHarvest(owner);
    }

    public long digest() {
        long d = 7803;
        for (int what = 0; what <= MANY_MOST; what++) {
            d = d * 31 + many(what);
        }
        // The DAYS to come are the same for all OWNERS, so they go by once for all of them.
        imagineLater(0, 7);
        imagineHarvest(3);
        d = digestOwners(d);
        for (int bowl = 0; bowl < CYCLE_BOWLS; bowl += DAY_BOWLS) {
            d = d * 31 + ofBowl(bowl, 0);
            d = d * 31 + ofBowl(bowl, 1);
        }
        for (int loan = 0; loan < now.loans.count(); loan++) {
            for (int what = 0; what <= OF_LOAN_MOST; what++) {
                d = d * 31 + ofLoan(loan, what);
            }
        }
        for (int sale = 0; sale < now.sales.count(); sale++) {
            for (int what = 0; what <= OF_SALE_MOST; what++) {
                d = d * 31 + ofSale(sale, what);
            }
        }
        d = d * 31 + bestDig(0, 3);
        return d * 31 + pumpTakes(5, 0, 9);
    }

    private long digestOwners(long before) {
        long d = before;
        for (int owner = 0; owner < OWNERS_MOST; owner++) {
            if (now.people.isLiving(owner)) {
                for (int what = 0; what <= OF_MOST; what++) {
                    d = d * 31 + of(owner, what);
                }
                d = d * 31 + cameUntilLater(owner);
                d = d * 31 + reapedAtHarvest(owner);
            }
        }
        return d;
    }

    private void imagineLater(int rain, int days) {
        later.becomeLike(now);
        later.letDaysGoBy(rain, days);
    }

    private int cameUntilLater(int owner) {
        return later.people.numbered(owner).cameEver - now.people.numbered(owner).cameEver;
    }

    private void imagineHarvest(int rain) {
        atHarvest.becomeLike(now);
        atHarvest.letDaysGoBy(rain, now.daysToHarvest());
    }

    private int reapedAtHarvest(int owner) {
        return atHarvest.people.numbered(owner).reaped;
    }

    private static boolean isWithin(int value, int least, int most) {
        return least <= value && value <= most;
    }

    private static void mustBeRight(boolean right) {
        if (!right) {
            throw new IllegalArgumentException();
        }
    }

    private static void mustBePossible(boolean possible) {
        if (!possible) {
            throw new IllegalStateException();
        }
    }

    private static void mustExist(boolean exists) {
        if (!exists) {
            throw new IndexOutOfBoundsException();
        }
    }

    private void mustLive(int owner) {
        mustExist(now.people.isLiving(owner));
    }

    /** All that the books hold at one time: a copy of it can go ahead in time. */
    private static final class Oasis {
        private final Channel channel = new Channel();
        private final People people = new People();
        private final Deals loans = new Deals();
        private final Deals sales = new Deals();
        private int day;
        private int letOut;
        private int lost;
        private int harvested;

        void becomeLike(Oasis other) {
            channel.becomeLike(other.channel);
            people.becomeLike(other.people);
            loans.becomeLike(other.loans);
            sales.becomeLike(other.sales);
            day = other.day;
            letOut = other.letOut;
            lost = other.lost;
            harvested = other.harvested;
        }

        int date() {
            return day % YEAR_DAYS;
        }

        // On the DATE of a harvest it is over already, so the next one is a YEAR away.
        int daysToHarvest() {
            int days = HARVEST_DATE - date();
            return days > 0 ? days : days + YEAR_DAYS;
        }

        int letDaysGoBy(int rain, int days) {
            int came = 0;
            for (int gone = 0; gone < days; gone++) {
                came += letDayGoBy(rain);
            }
            return came;
        }

        private int letDayGoBy(int rain) {
            day++;
            boolean tenth = date() % TEN_DAYS == 0;
            channel.letDayGoBy(rain, tenth);
            int came = giveWater();
            people.growPalms(tenth);
            if (date() == HARVEST_DATE) {
                harvested += people.reap();
                deliverSales();
            }
            if (day % CYCLE_DAYS == 0) {
                loans.shorten();
            }
            return came;
        }

        private int giveWater() {
            int flow = channel.flow();
            int firstBowl = day % CYCLE_DAYS * DAY_BOWLS;
            int start = 0;
            for (int place = 0; place < people.countLiving(); place++) {
                Owner owner = people.standing(place);
                int end = start + owner.bowls;
                int ownEnd = giveLentWater(owner, end, firstBowl, flow);
                owner.flowing += bowlsOfDay(start, ownEnd, firstBowl) * flow;
                start = end;
            }
            letOut += bowlsOfDay(start, CYCLE_BOWLS, firstBowl) * flow;
            int came = 0;
            for (int place = 0; place < people.countLiving(); place++) {
                Owner user = people.standing(place);
                lost += user.flowing;
                user.takeFlowing(place);
                lost -= user.cameLatest;
                came += user.cameLatest;
            }
            return came;
        }

        // Answers where the BOWLS that this OWNER uses end.
        private int giveLentWater(Owner owner, int end, int firstBowl, int flow) {
            int lentEnd = end;
            for (int loan = 0; loan < loans.count(); loan++) {
                if (loans.get(loan, Deals.FROM) == owner.number) {
                    int lentStart = lentEnd - loans.get(loan, Deals.AMOUNT);
                    Owner user = people.numbered(loans.get(loan, Deals.TO));
                    user.flowing += bowlsOfDay(lentStart, lentEnd, firstBowl) * flow;
                    lentEnd = lentStart;
                }
            }
            return lentEnd;
        }

        private static int bowlsOfDay(int start, int end, int firstBowl) {
            int from = Math.max(start, firstBowl);
            int to = Math.min(end, firstBowl + DAY_BOWLS);
            return Math.max(0, to - from);
        }

        private void deliverSales() {
            for (int sale = 0; sale < sales.count(); sale++) {
                Owner seller = people.numbered(sales.get(sale, Deals.FROM));
                Owner buyer = people.numbered(sales.get(sale, Deals.TO));
                int kilos = sales.get(sale, Deals.AMOUNT);
                int delivered = Math.min(kilos, seller.dates);
                seller.dates -= delivered;
                buyer.dates += delivered;
                seller.payTo(buyer, 2 * (kilos - delivered));
            }
            sales.clear();
        }

        int leaveToHeirs(int owner, int sons, int daughters) {
            Owner dead = people.numbered(owner);
            int firstHeir = people.putHeirsFor(dead, sons + daughters);
            for (int heir = 0; heir < sons + daughters; heir++) {
                people.numbered(firstHeir + heir).inherit(dead, sons, daughters, heir);
            }
            loans.endThoseOf(owner);
            sales.passOn(owner, firstHeir);
            return firstHeir;
        }

        int unlentBowls(Owner owner) {
            return owner.bowls - loans.amountOf(Deals.FROM, owner.number);
        }

        int userOf(int bowl) {
            int holder = people.holderOf(bowl);
            if (holder == NONE) {
                return NONE;
            }
            Owner owner = people.numbered(holder);
            int behind = people.firstBowl(owner) + owner.bowls - 1 - bowl;
            for (int loan = 0; loan < loans.count(); loan++) {
                if (loans.get(loan, Deals.FROM) == holder) {
                    if (behind < loans.get(loan, Deals.AMOUNT)) {
                        return loans.get(loan, Deals.TO);
                    }
                    behind -= loans.get(loan, Deals.AMOUNT);
                }
            }
            return holder;
        }

        int askOwner(Owner owner, int what) {
            switch (what) {
                case 0: return owner.bowls;
                case 1: return owner.coins;
                case 2: return owner.palms;
                case 3: return owner.males;
                case 4: return owner.moist;
                case 5: return owner.salt;
                case 6: return owner.dates;
                case 7: return people.placeOf(owner);
                case 8: return owner.bowls > 0 ? people.firstBowl(owner) : NONE;
                case 9: return unlentBowls(owner) + loans.amountOf(Deals.TO, owner.number);
                case 10: return owner.pollinated;
                case 11: return owner.pollenPalms();
                case 12: return owner.cameLatest;
                case 13: return owner.cameEver;
                default: return NONE;
            }
        }

        int askAll(int what) {
            switch (what) {
                case 0: return day;
                case 1: return date();
                case 2: return channel.table;
                case 3: return channel.flow();
                case 4: return channel.length;
                case 5: return channel.mud;
                case 6: return channel.draw;
                case 7: return people.countLiving();
                case 8: return people.countEver();
                case 9: return people.commonBowls();
                case 10: return loans.count();
                case 11: return sales.count();
                case 12: return letOut;
                case 13: return lost;
                case 14: return harvested;
                case 15: return people.sumOfCoins();
                default: return NONE;
            }
        }
    }

    /** The water under the slope, the channel to it, and the pump. */
    private static final class Channel {
        private int table = TABLE_AT_FIRST;
        private int length = LENGTH_AT_FIRST;
        private int mud;
        private int draw;

        void becomeLike(Channel other) {
            table = other.table;
            length = other.length;
            mud = other.mud;
            draw = other.draw;
        }

        int flow() {
            return Math.max(0, (table + length - 120 - 2 * mud) / 10);
        }

        void letDayGoBy(int rain, boolean tenth) {
            table = Math.max(0, Math.min(TABLE_MOST, table + rain / 3 - flow() - draw));
            if (tenth) {
                addMud(1);
            }
        }

        void addMud(int more) {
            mud = Math.min(MUD_MOST, mud + more);
        }
    }

    /** One OWNER: the place of one who is not yet told, lives, or is dead. */
    private static final class Owner {
        private final int number;
        private boolean lives;
        private int bowls;
        private int coins;
        private int palms;
        private int males;
        private int moist;
        private int salt;
        private int dates;
        private int pollinated;
        // What was bought less what was sold since the latest harvest.
        private int boughtPollen;
        // The litres of this DAY at the head of the channel, ahead of what is LOST.
        private int flowing;
        private int cameLatest;
        private int cameEver;
        // DATES that the latest harvest brought, ahead of what was SOLD AHEAD.
        private int reaped;

        Owner(int itsNumber) {
            number = itsNumber;
        }

        void becomeLike(Owner other) {
            lives = other.lives;
            bowls = other.bowls;
            coins = other.coins;
            palms = other.palms;
            males = other.males;
            moist = other.moist;
            salt = other.salt;
            dates = other.dates;
            pollinated = other.pollinated;
            boughtPollen = other.boughtPollen;
            flowing = other.flowing;
            cameLatest = other.cameLatest;
            cameEver = other.cameEver;
            reaped = other.reaped;
        }

        void settle(int withBowls, int withCoins, int withPalms, int withMales) {
            bowls = withBowls;
            coins = withCoins;
            palms = withPalms;
            males = withMales;
            moist = MOIST_AT_FIRST;
        }

        void inherit(Owner dead, int sons, int daughters, int heir) {
            bowls = partOf(dead.bowls, sons, daughters, heir);
            coins = partOf(dead.coins, sons, daughters, heir);
            palms = partOf(dead.palms, sons, daughters, heir);
            males = partOf(dead.males, sons, daughters, heir);
            dates = partOf(dead.dates, sons, daughters, heir);
            moist = dead.moist;
            salt = dead.salt;
        }

        private static int partOf(int whole, int sons, int daughters, int heir) {
            int parts = 2 * sons + daughters;
            if (parts < 1) {
                return 0;
            }
            int ofSon = Math.floorDiv(2 * whole, parts);
            int ofDaughter = Math.floorDiv(whole, parts);
            int leftOver = whole - sons * ofSon - daughters * ofDaughter;
            return (heir < sons ? ofSon : ofDaughter) + (heir < leftOver ? 1 : 0);
        }

        void payTo(Owner other, int amount) {
            coins -= amount;
            other.coins += amount;
        }

        int pollenPalms() {
            return males * PALMS_OF_MALE + boughtPollen;
        }

        void takeFlowing(int place) {
            cameLatest = flowing * (100 - 2 * place) / 100;
            cameEver += cameLatest;
            flowing = 0;
        }

        void growPalms(boolean tenth) {
            int need = palms * PALM_NEED;
            if (need < 1) {
                return;
            }
            int more = Math.min(MOIST_MORE_MOST, cameLatest * 30 / need);
            moist = Math.max(0, Math.min(MOIST_MOST, moist + more) - 6);
            if (cameLatest > 2 * need) {
                salt = Math.min(SALT_MOST, salt + 1);
            }
            if (tenth && moist < MOIST_TO_LIVE) {
                palms -= palms / 10 + 1;
                pollinated = Math.min(pollinated, palms);
            }
        }

        void reap() {
            reaped = pollinated * moist * (100 - salt) / 1000;
            dates += reaped;
            pollinated = 0;
            boughtPollen = 0;
        }
    }

    /** The OWNERS by their numbers, and the ROW in which the living ones stand. */
    private static final class People {
        private final Owner[] owners = new Owner[OWNERS_MOST];
        private final int[] row = new int[OWNERS_MOST];
        // Answered for a number or a place that nobody has, so that no answer is null.
        private final Owner nobody = new Owner(NONE);
        private int ever;
        private int living;

        People() {
            for (int number = 0; number < owners.length; number++) {
                owners[number] = new Owner(number);
            }
        }

        void becomeLike(People other) {
            for (int number = 0; number < OWNERS_MOST; number++) {
                numbered(number).becomeLike(other.numbered(number));
            }
            living = other.living;
            for (int place = 0; place < living; place++) {
                putAt(place, other.standing(place).number);
            }
            ever = other.ever;
        }

        Owner numbered(int number) {
            return number >= 0 && number < owners.length ? owners[number] : nobody;
        }

        Owner standing(int place) {
            return place >= 0 && place < living && place < row.length ? numbered(row[place]) : nobody;
        }

        private void putAt(int place, int number) {
            if (place >= 0 && place < row.length) {
                row[place] = number;
            }
        }

        boolean isLiving(int number) {
            return numbered(number).lives;
        }

        int countLiving() {
            return living;
        }

        int countEver() {
            return ever;
        }

        boolean hasRoomFor(int more) {
            return ever + more <= OWNERS_MOST;
        }

        int addLast(int bowls, int coins, int palms, int males) {
            int number = ever;
            Owner owner = numbered(number);
            owner.settle(bowls, coins, palms, males);
            owner.lives = true;
            putAt(living, number);
            living++;
            ever++;
            return number;
        }

        // Answers the number of the first heir.
        int putHeirsFor(Owner dead, int heirs) {
            int first = ever;
            int place = placeOf(dead);
            for (int behind = living - 1; behind > place; behind--) {
                putAt(behind + heirs - 1, standing(behind).number);
            }
            for (int heir = 0; heir < heirs; heir++) {
                numbered(first + heir).lives = true;
                putAt(place + heir, first + heir);
            }
            dead.lives = false;
            living += heirs - 1;
            ever += heirs;
            return first;
        }

        int placeOf(Owner owner) {
            for (int place = 0; place < living; place++) {
                if (standing(place) == owner) {
                    return place;
                }
            }
            return NONE;
        }

        int firstBowl(Owner owner) {
            int start = 0;
            for (int place = 0; place < living && standing(place) != owner; place++) {
                start += standing(place).bowls;
            }
            return start;
        }

        int holderOf(int bowl) {
            int end = 0;
            for (int place = 0; place < living; place++) {
                end += standing(place).bowls;
                if (bowl < end) {
                    return standing(place).number;
                }
            }
            return NONE;
        }

        int ownedBowls() {
            int sum = 0;
            for (int place = 0; place < living; place++) {
                sum += standing(place).bowls;
            }
            return sum;
        }

        int commonBowls() {
            return CYCLE_BOWLS - ownedBowls();
        }

        int sumOfCoins() {
            int sum = 0;
            for (int place = 0; place < living; place++) {
                sum += standing(place).coins;
            }
            return sum;
        }

        int sumOfMoist() {
            int sum = 0;
            for (int place = 0; place < living; place++) {
                sum += standing(place).moist;
            }
            return sum;
        }

        void shareCost(int cost) {
            int all = ownedBowls();
            if (all < 1) {
                return;
            }
            int leftOver = cost;
            for (int place = 0; place < living; place++) {
                Owner owner = standing(place);
                int share = cost * owner.bowls / all;
                owner.coins -= share;
                leftOver -= share;
            }
            standing(0).coins -= leftOver;
        }

        void growPalms(boolean tenth) {
            for (int place = 0; place < living; place++) {
                standing(place).growPalms(tenth);
            }
        }

        // Answers the DATES that all have more.
        int reap() {
            int sum = 0;
            for (int place = 0; place < living; place++) {
                standing(place).reap();
                sum += standing(place).reaped;
            }
            return sum;
        }
    }

    /** LOANS, or sales of DATES AHEAD, in the order told: who gives how much to whom. */
    private static final class Deals {
        static final int FROM = 0;
        static final int TO = 1;
        static final int AMOUNT = 2;
        static final int CYCLES = 3;
        private static final int COLUMNS = 4;

        private final int[] cells = new int[DEALS_MOST * COLUMNS];
        private int count;

        void becomeLike(Deals other) {
            count = other.count;
            for (int deal = 0; deal < count; deal++) {
                for (int column = 0; column < COLUMNS; column++) {
                    set(deal, column, other.get(deal, column));
                }
            }
        }

        int get(int deal, int column) {
            int cell = deal * COLUMNS + column;
            return cell >= 0 && cell < cells.length ? cells[cell] : NONE;
        }

        private void set(int deal, int column, int value) {
            int cell = deal * COLUMNS + column;
            if (cell >= 0 && cell < cells.length) {
                cells[cell] = value;
            }
        }

        int count() {
            return count;
        }

        boolean isFull() {
            return count >= DEALS_MOST;
        }

        void add(int from, int to, int amount, int cycles) {
            set(count, FROM, from);
            set(count, TO, to);
            set(count, AMOUNT, amount);
            set(count, CYCLES, cycles);
            count++;
        }

        void clear() {
            count = 0;
        }

        // The sum over those in which this OWNER stands in that column.
        int amountOf(int column, int owner) {
            int sum = 0;
            for (int deal = 0; deal < count; deal++) {
                if (get(deal, column) == owner) {
                    sum += get(deal, AMOUNT);
                }
            }
            return sum;
        }

        void shorten() {
            int kept = 0;
            for (int deal = 0; deal < count; deal++) {
                int cycles = get(deal, CYCLES) - 1;
                set(deal, CYCLES, cycles);
                if (cycles > 0) {
                    moveTo(kept, deal);
                    kept++;
                }
            }
            count = kept;
        }

        void endThoseOf(int owner) {
            int kept = 0;
            for (int deal = 0; deal < count; deal++) {
                if (get(deal, FROM) != owner && get(deal, TO) != owner) {
                    moveTo(kept, deal);
                    kept++;
                }
            }
            count = kept;
        }

        private void moveTo(int target, int deal) {
            for (int column = 0; column < COLUMNS; column++) {
                set(target, column, get(deal, column));
            }
        }

        void passOn(int owner, int heir) {
            for (int deal = 0; deal < count; deal++) {
                if (get(deal, FROM) == owner) {
                    set(deal, FROM, heir);
                }
                if (get(deal, TO) == owner) {
                    set(deal, TO, heir);
                }
            }
        }
    }
}
