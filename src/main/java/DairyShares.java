/**
 * The share register of a dairy cooperative: members with shares and delivered milk, a price by
 * valuation, offers of shares with a first refusal in stages, and motions on which members vote.
 *
 * <p>Every call tests its arguments first and answers an error code before anything has changed.
 * All rows are made by the constructor; no call makes an object.
 */
public final class DairyShares {
    public static final int INVALID_ARGUMENT = -2000000001;
    public static final int ILLEGAL_STATE = -2000000002;
    public static final int CAPACITY_EXCEEDED = -2000000003;
    public static final int NONE = -2000000004;

    private static final int MAX_MEMBERS = 12;
    private static final int MAX_SHARES = 10000;
    private static final int MAX_OFFERS = 20;
    private static final int MAX_MOTIONS = 10;
    private static final int MAX_SURPLUSES = 3;
    private static final int MAX_STATES = 4;

    private static final int MAX_COUNT = 1000;
    private static final int MAX_MILK = 1000000;
    private static final int MIN_LITERS = 100;
    private static final int MAX_LITERS = 10000;
    private static final int MAX_TREASURY_LIMIT = 1000;
    private static final int MAX_BOOKS = 100000000;
    private static final int MAX_SURPLUS = 1000000;
    private static final int MAX_OFFERED = 100000;
    private static final int MAX_DAYS = 60;
    private static final int MAX_QUORUM = 100;

    private static final int STAGE_NEEDY = 0;
    private static final int STAGE_MEMBERS = 1;
    private static final int STAGE_COOPERATIVE = 2;
    private static final int STAGE_CLOSED = 3;

    private static final int TO_TREASURY = 2;
    private static final int TO_BUYER = 3;
    private static final int TAKERS = 4;

    private static final int RULE_ONE = 0;
    private static final int RULE_SHARES = 1;
    private static final int RULE_MILK = 2;
    private static final int RULE_ROOT = 3;

    private static final int KIND_PAR = 0;
    private static final int KIND_CAP = 1;
    private static final int KIND_STAGE_LENGTH = 2;
    private static final int KIND_RETIRE = 3;
    private static final int KIND_DIVIDEND = 4;

    private static final int MOTION_OPEN = 0;
    private static final int MOTION_PASSED = 1;
    private static final int MOTION_FAILED = 2;

    private static final int BALLOT_NONE = 0;
    private static final int BALLOT_FOR = 1;
    private static final int BALLOT_AGAINST = 2;

    private Register now = new Register();

    // Four fields and not an array: keeping and restoring only turns these references round.
    private Register newest = new Register();
    private Register second = new Register();
    private Register third = new Register();
    private Register oldest = new Register();
    private int statesKept = 0;

    private final Split split = new Split();

    public DairyShares() {
    }

    // ---- members and shares

    public int join() {
        if (now.members.count >= MAX_MEMBERS) {
            return CAPACITY_EXCEEDED;
        }
        keepState();
        now.members.count++;
        return now.members.count - 1;
    }

    public int issue(int member, int count) {
        if (!now.members.has(member) || !isWithin(count, 1, MAX_COUNT)) {
            return INVALID_ARGUMENT;
        }
        if (now.countAllShares() + count > MAX_SHARES) {
            return CAPACITY_EXCEEDED;
        }
        keepState();
        now.members.shares[member] += count;
        now.members.account[member] -= (long) now.books.price * count;
        return now.countAllShares();
    }

    public int setMilk(int member, int liters) {
        if (!now.members.has(member) || !isWithin(liters, 0, MAX_MILK)) {
            return INVALID_ARGUMENT;
        }
        keepState();
        int previous = now.members.milk[member];
        now.members.milk[member] = liters;
        return previous;
    }

    public int setLitersPerShare(int liters) {
        if (!isWithin(liters, MIN_LITERS, MAX_LITERS)) {
            return INVALID_ARGUMENT;
        }
        keepState();
        int previous = now.settings.litersPerShare;
        now.settings.litersPerShare = liters;
        return previous;
    }

    public int setTreasuryLimit(int limit) {
        if (!isWithin(limit, 0, MAX_TREASURY_LIMIT)) {
            return INVALID_ARGUMENT;
        }
        keepState();
        int previous = now.settings.treasuryLimit;
        now.settings.treasuryLimit = limit;
        return previous;
    }

    public int memberCount() {
        return now.members.count;
    }

    public int shares(int member) {
        return now.members.has(member) ? now.members.shares[member] : INVALID_ARGUMENT;
    }

    public long account(int member) {
        return now.members.has(member) ? now.members.account[member] : INVALID_ARGUMENT;
    }

    public int requirement(int member) {
        return now.members.has(member) ? now.requirementOf(member) : INVALID_ARGUMENT;
    }

    public int freeShares(int member) {
        return now.members.has(member) ? now.freeSharesOf(member) : INVALID_ARGUMENT;
    }

    public int room(int member) {
        return now.members.has(member) ? now.roomOf(member) : INVALID_ARGUMENT;
    }

    public int allShares() {
        return now.countAllShares();
    }

    public int treasury() {
        return now.treasuryShares;
    }

    // ---- price

    public int setBooks(int assets, int debts) {
        if (!isWithin(assets, 0, MAX_BOOKS) || !isWithin(debts, 0, MAX_BOOKS)) {
            return INVALID_ARGUMENT;
        }
        keepState();
        int previous = now.books.assets - now.books.debts;
        now.books.assets = assets;
        now.books.debts = debts;
        return previous;
    }

    public int addSurplus(int amount) {
        if (!isWithin(amount, -MAX_SURPLUS, MAX_SURPLUS)) {
            return INVALID_ARGUMENT;
        }
        keepState();
        now.books.recordSurplus(amount);
        return now.books.surplusCount;
    }

    public int valuate() {
        int all = now.countAllShares();
        if (all <= 0) {
            return ILLEGAL_STATE;
        }
        keepState();
        now.books.price = Math.max(now.books.valueOfOne(all), now.settings.parValue);
        return now.books.price;
    }

    public int price() {
        return now.books.price;
    }

    public int parValue() {
        return now.settings.parValue;
    }

    // ---- offers

    public int offer(int seller, int buyer, int count, int offered) {
        if (!now.members.has(seller) || !now.members.has(buyer) || seller == buyer) {
            return INVALID_ARGUMENT;
        }
        if (!isWithin(count, 1, MAX_COUNT) || !isWithin(offered, 1, MAX_OFFERED)) {
            return INVALID_ARGUMENT;
        }
        if (count > now.freeSharesOf(seller) || offered < now.settings.parValue) {
            return ILLEGAL_STATE;
        }
        if (now.offers.count >= MAX_OFFERS) {
            return CAPACITY_EXCEEDED;
        }
        keepState();
        int offer = now.offers.add(seller, buyer, count, offered);
        now.offers.beginStage(offer, STAGE_NEEDY, now.settings.stageLength);
        return offer;
    }

    public int claim(int offer, int member, int count) {
        if (!now.offers.has(offer) || !now.members.has(member) || !isWithin(count, 1, MAX_COUNT)) {
            return INVALID_ARGUMENT;
        }
        if (!now.canClaim(offer, member)) {
            return ILLEGAL_STATE;
        }
        keepState();
        now.offers.setClaim(offer, member, count);
        return now.offers.sumOfClaims(offer);
    }

    public int withdraw(int offer) {
        if (!now.offers.has(offer)) {
            return INVALID_ARGUMENT;
        }
        if (!now.offers.isOpen(offer)) {
            return ILLEGAL_STATE;
        }
        keepState();
        now.offers.close(offer);
        return now.offers.remaining[offer];
    }

    public int passDays(int days) {
        if (!isWithin(days, 1, MAX_DAYS)) {
            return INVALID_ARGUMENT;
        }
        keepState();
        int closed = 0;
        for (int d = 0; d < days; d++) {
            closed += now.runDay(split);
        }
        return closed;
    }

    public int offerCount() {
        return now.offers.count;
    }

    public int stage(int offer) {
        return now.offers.has(offer) ? now.offers.stage[offer] : INVALID_ARGUMENT;
    }

    public int remaining(int offer) {
        return now.offers.has(offer) ? now.offers.remaining[offer] : INVALID_ARGUMENT;
    }

    public int daysLeft(int offer) {
        if (!now.offers.has(offer)) {
            return INVALID_ARGUMENT;
        }
        return now.offers.isOpen(offer) ? now.offers.daysLeft[offer] : NONE;
    }

    public int sold(int offer, int to) {
        if (!now.offers.has(offer) || !isWithin(to, 0, TAKERS - 1)) {
            return INVALID_ARGUMENT;
        }
        return now.offers.soldTo(offer, to);
    }

    public int claimOf(int offer, int member) {
        if (!now.offers.has(offer) || !now.members.has(member)) {
            return INVALID_ARGUMENT;
        }
        return now.offers.claimBy(offer, member);
    }

    // ---- motions

    public int setVoting(int rule, int quorum) {
        if (!isWithin(rule, RULE_ONE, RULE_ROOT) || !isWithin(quorum, 0, MAX_QUORUM)) {
            return INVALID_ARGUMENT;
        }
        keepState();
        int previous = now.settings.votingRule;
        now.settings.votingRule = rule;
        now.settings.quorum = quorum;
        return previous;
    }

    public int propose(int kind, int value) {
        if (!isValueOfKind(kind, value)) {
            return INVALID_ARGUMENT;
        }
        if (now.motions.count >= MAX_MOTIONS) {
            return CAPACITY_EXCEEDED;
        }
        keepState();
        return now.motions.add(kind, value);
    }

    public int vote(int motion, int member, int yes) {
        if (!now.motions.has(motion) || !now.members.has(member) || !isWithin(yes, 0, 1)) {
            return INVALID_ARGUMENT;
        }
        if (!now.motions.isOpen(motion)) {
            return ILLEGAL_STATE;
        }
        keepState();
        now.motions.setBallot(motion, member, yes == 1 ? BALLOT_FOR : BALLOT_AGAINST);
        return now.motions.countBallots(motion);
    }

    public int closeMotion(int motion) {
        if (!now.motions.has(motion)) {
            return INVALID_ARGUMENT;
        }
        if (!now.motions.isOpen(motion)) {
            return ILLEGAL_STATE;
        }
        keepState();
        boolean passes = now.passes(motion);
        now.motions.state[motion] = passes ? MOTION_PASSED : MOTION_FAILED;
        if (passes) {
            now.carryOut(now.motions.kind[motion], now.motions.value[motion]);
        }
        return passes ? 1 : 0;
    }

    public int votes(int member) {
        return now.members.has(member) ? now.votesOf(member) : INVALID_ARGUMENT;
    }

    public int motionState(int motion) {
        return now.motions.has(motion) ? now.motions.state[motion] : INVALID_ARGUMENT;
    }

    public int votesFor(int motion) {
        return now.motions.has(motion) ? now.sumOfVotes(motion, BALLOT_FOR) : INVALID_ARGUMENT;
    }

    // ---- history

    public int day() {
        return now.daysPassed;
    }

    public int historySize() {
        return statesKept;
    }

    public int undo() {
        if (statesKept <= 0) {
            return ILLEGAL_STATE;
        }
        Register undone = now;
        now = newest;
        newest = second;
        second = third;
        third = oldest;
        oldest = undone;
        statesKept--;
        return statesKept;
    }

    /** Keeps a copy of the present state as the latest one; the oldest row is written anew. */
    private void keepState() {
        Register free = oldest;
        oldest = third;
        third = second;
        second = newest;
        newest = free;
        newest.copyFrom(now);
        statesKept = Math.min(statesKept + 1, MAX_STATES);
    }

    private static boolean isWithin(int number, int least, int greatest) {
        return number >= least && number <= greatest;
    }

    private static boolean isValueOfKind(int kind, int value) {
        switch (kind) {
            case KIND_PAR:
                return isWithin(value, 1, 1000);
            case KIND_CAP:
                return isWithin(value, 5, 100);
            case KIND_STAGE_LENGTH:
                return isWithin(value, 1, 10);
            case KIND_RETIRE:
                return isWithin(value, 1, 1000);
            case KIND_DIVIDEND:
                return isWithin(value, 1, 100);
            default:
                return false;
        }
    }

    /** Rounds down, also below 0. Of the divisors only the number of surpluses can be 0: their mean is 0 then. */
    private static int quotient(int number, int divisor) {
        return divisor > 0 ? Math.floorDiv(number, divisor) : 0;
    }

    /** The greatest number whose square is at most the given one, which is at most all shares. */
    private static int rootOf(int number) {
        int root = 0;
        while (root < MAX_SHARES && (root + 1) * (root + 1) <= number) {
            root++;
        }
        return root;
    }

    /** The members' rows. A row beyond the count holds nothing but 0. */
    private static final class Members {
        int count = 0;
        final int[] shares = new int[MAX_MEMBERS];
        final int[] milk = new int[MAX_MEMBERS];
        final long[] account = new long[MAX_MEMBERS];

        void copyFrom(Members other) {
            count = other.count;
            System.arraycopy(other.shares, 0, shares, 0, MAX_MEMBERS);
            System.arraycopy(other.milk, 0, milk, 0, MAX_MEMBERS);
            System.arraycopy(other.account, 0, account, 0, MAX_MEMBERS);
        }

        boolean has(int member) {
            return member >= 0 && member < count;
        }
    }

    /** The numbers that a call or a motion sets. */
    private static final class Settings {
        int litersPerShare = 1000;
        int treasuryLimit = 50;
        int parValue = 100;
        int cap = 25;
        int stageLength = 3;
        int votingRule = RULE_ONE;
        int quorum = 50;

        void copyFrom(Settings other) {
            litersPerShare = other.litersPerShare;
            treasuryLimit = other.treasuryLimit;
            parValue = other.parValue;
            cap = other.cap;
            stageLength = other.stageLength;
            votingRule = other.votingRule;
            quorum = other.quorum;
        }
    }

    /** What a valuation looks at, and the price that the latest one found. */
    private static final class Books {
        int assets = 0;
        int debts = 0;
        int price = 100;
        int surplusCount = 0;
        final int[] surpluses = new int[MAX_SURPLUSES];

        void copyFrom(Books other) {
            assets = other.assets;
            debts = other.debts;
            price = other.price;
            surplusCount = other.surplusCount;
            System.arraycopy(other.surpluses, 0, surpluses, 0, MAX_SURPLUSES);
        }

        /** The oldest surplus stands first, so that it is the one that goes. */
        void recordSurplus(int amount) {
            if (surplusCount >= MAX_SURPLUSES) {
                System.arraycopy(surpluses, 1, surpluses, 0, MAX_SURPLUSES - 1);
                surplusCount = MAX_SURPLUSES - 1;
            }
            surpluses[surplusCount] = amount;
            surplusCount++;
        }

        int meanSurplus() {
            int sum = 0;
            for (int s = 0; s < surplusCount; s++) {
                sum += surpluses[s];
            }
            return quotient(sum, surplusCount);
        }

        int valueOfOne(int allShares) {
            int bookValue = quotient(assets - debts, allShares);
            int earningValue = quotient(10 * meanSurplus(), allShares);
            return quotient(3 * bookValue + 2 * earningValue, 5);
        }
    }

    /** The offers' rows: the sales of an offer and its claims stand one behind another. */
    private static final class Offers {
        int count = 0;
        final int[] seller = new int[MAX_OFFERS];
        final int[] buyer = new int[MAX_OFFERS];
        final int[] offered = new int[MAX_OFFERS];
        final int[] remaining = new int[MAX_OFFERS];
        final int[] stage = new int[MAX_OFFERS];
        final int[] daysLeft = new int[MAX_OFFERS];
        final int[] sales = new int[MAX_OFFERS * TAKERS];
        final int[] claims = new int[MAX_OFFERS * MAX_MEMBERS];

        void copyFrom(Offers other) {
            count = other.count;
            System.arraycopy(other.seller, 0, seller, 0, MAX_OFFERS);
            System.arraycopy(other.buyer, 0, buyer, 0, MAX_OFFERS);
            System.arraycopy(other.offered, 0, offered, 0, MAX_OFFERS);
            System.arraycopy(other.remaining, 0, remaining, 0, MAX_OFFERS);
            System.arraycopy(other.stage, 0, stage, 0, MAX_OFFERS);
            System.arraycopy(other.daysLeft, 0, daysLeft, 0, MAX_OFFERS);
            System.arraycopy(other.sales, 0, sales, 0, MAX_OFFERS * TAKERS);
            System.arraycopy(other.claims, 0, claims, 0, MAX_OFFERS * MAX_MEMBERS);
        }

        boolean has(int offer) {
            return offer >= 0 && offer < count;
        }

        boolean isOpen(int offer) {
            return stage[offer] != STAGE_CLOSED;
        }

        int add(int from, int to, int shares, int priceOfOne) {
            int offer = count;
            count++;
            seller[offer] = from;
            buyer[offer] = to;
            remaining[offer] = shares;
            offered[offer] = priceOfOne;
            return offer;
        }

        void beginStage(int offer, int next, int length) {
            stage[offer] = next;
            daysLeft[offer] = length;
            clearClaims(offer);
        }

        /** Takes a day from an open offer and tells whether none is left of its stage. */
        boolean losesLastDay(int offer) {
            daysLeft[offer]--;
            return daysLeft[offer] <= 0;
        }

        void close(int offer) {
            beginStage(offer, STAGE_CLOSED, 0);
        }

        int claimBy(int offer, int member) {
            return claims[offer * MAX_MEMBERS + member];
        }

        void setClaim(int offer, int member, int shares) {
            claims[offer * MAX_MEMBERS + member] = shares;
        }

        void clearClaims(int offer) {
            for (int m = 0; m < MAX_MEMBERS; m++) {
                setClaim(offer, m, 0);
            }
        }

        int sumOfClaims(int offer) {
            int sum = 0;
            for (int m = 0; m < MAX_MEMBERS; m++) {
                sum += claimBy(offer, m);
            }
            return sum;
        }

        int soldTo(int offer, int to) {
            return sales[offer * TAKERS + to];
        }

        void recordSale(int offer, int to, int shares) {
            remaining[offer] -= shares;
            sales[offer * TAKERS + to] += shares;
        }

        int remainingOf(int member) {
            int sum = 0;
            for (int o = 0; o < count; o++) {
                if (isOpen(o) && seller[o] == member) {
                    sum += remaining[o];
                }
            }
            return sum;
        }
    }

    /** The motions' rows: the ballots of a motion stand one behind another. */
    private static final class Motions {
        int count = 0;
        final int[] kind = new int[MAX_MOTIONS];
        final int[] value = new int[MAX_MOTIONS];
        final int[] state = new int[MAX_MOTIONS];
        final int[] ballots = new int[MAX_MOTIONS * MAX_MEMBERS];

        void copyFrom(Motions other) {
            count = other.count;
            System.arraycopy(other.kind, 0, kind, 0, MAX_MOTIONS);
            System.arraycopy(other.value, 0, value, 0, MAX_MOTIONS);
            System.arraycopy(other.state, 0, state, 0, MAX_MOTIONS);
            System.arraycopy(other.ballots, 0, ballots, 0, MAX_MOTIONS * MAX_MEMBERS);
        }

        boolean has(int motion) {
            return motion >= 0 && motion < count;
        }

        boolean isOpen(int motion) {
            return state[motion] == MOTION_OPEN;
        }

        int add(int newKind, int newValue) {
            int motion = count;
            count++;
            kind[motion] = newKind;
            value[motion] = newValue;
            state[motion] = MOTION_OPEN;
            return motion;
        }

        int ballotOf(int motion, int member) {
            return ballots[motion * MAX_MEMBERS + member];
        }

        void setBallot(int motion, int member, int ballot) {
            ballots[motion * MAX_MEMBERS + member] = ballot;
        }

        int countBallots(int motion) {
            int voters = 0;
            for (int m = 0; m < MAX_MEMBERS; m++) {
                if (ballotOf(motion, m) != BALLOT_NONE) {
                    voters++;
                }
            }
            return voters;
        }
    }

    /** One whole state: everything but the history. */
    private static final class Register {
        final Members members = new Members();
        final Settings settings = new Settings();
        final Books books = new Books();
        final Offers offers = new Offers();
        final Motions motions = new Motions();
        int treasuryShares = 0;
        int daysPassed = 0;

        void copyFrom(Register other) {
            members.copyFrom(other.members);
            settings.copyFrom(other.settings);
            books.copyFrom(other.books);
            offers.copyFrom(other.offers);
            motions.copyFrom(other.motions);
            treasuryShares = other.treasuryShares;
            daysPassed = other.daysPassed;
        }

        int countAllShares() {
            int sum = treasuryShares;
            for (int m = 0; m < members.count; m++) {
                sum += members.shares[m];
            }
            return sum;
        }

        int requirementOf(int member) {
            int liters = settings.litersPerShare;
            return quotient(members.milk[member] + liters - 1, liters);
        }

        int freeSharesOf(int member) {
            int bound = requirementOf(member) + offers.remainingOf(member);
            return Math.max(members.shares[member] - bound, 0);
        }

        int roomOf(int member) {
            int limit = quotient(countAllShares() * settings.cap, 100);
            return Math.max(limit - members.shares[member], 0);
        }

        boolean isNeedy(int member) {
            return members.shares[member] < requirementOf(member);
        }

        boolean canClaim(int offer, int member) {
            if (offers.seller[offer] == member) {
                return false;
            }
            switch (offers.stage[offer]) {
                case STAGE_NEEDY:
                    return isNeedy(member);
                case STAGE_MEMBERS:
                    return true;
                default:
                    return false;
            }
        }

        /** Lets one day pass and tells how many offers were closed in it. */
        int runDay(Split split) {
            daysPassed++;
            int closed = 0;
            for (int o = 0; o < offers.count; o++) {
                if (offers.isOpen(o) && offers.losesLastDay(o)) {
                    endStage(o, split);
                    closed += offers.isOpen(o) ? 0 : 1;
                }
            }
            return closed;
        }

        void endStage(int offer, Split split) {
            int ended = offers.stage[offer];
            if (ended == STAGE_COOPERATIVE) {
                sellToTreasury(offer);
                sellToBuyer(offer);
            } else {
                sellToClaimants(offer, ended, split);
            }
            if (ended == STAGE_COOPERATIVE || offers.remaining[offer] <= 0) {
                offers.close(offer);
            } else {
                offers.beginStage(offer, ended + 1, settings.stageLength);
            }
        }

        /** All demands are read before the first sale: rooms count as they are at this moment. */
        void sellToClaimants(int offer, int ended, Split split) {
            for (int m = 0; m < MAX_MEMBERS; m++) {
                split.demand[m] = Math.min(offers.claimBy(offer, m), roomOf(m));
            }
            split.divide(offers.remaining[offer]);
            for (int m = 0; m < MAX_MEMBERS; m++) {
                sellToMember(offer, ended, m, split.part[m], books.price);
            }
        }

        void sellToTreasury(int offer) {
            int allowed = Math.max(settings.treasuryLimit - treasuryShares, 0);
            int taken = Math.min(offers.remaining[offer], allowed);
            treasuryShares += taken;
            takeFromSeller(offer, TO_TREASURY, taken, books.price);
        }

        void sellToBuyer(int offer) {
            int buyer = offers.buyer[offer];
            int taken = Math.min(offers.remaining[offer], roomOf(buyer));
            sellToMember(offer, TO_BUYER, buyer, taken, offers.offered[offer]);
        }

        void sellToMember(int offer, int to, int member, int taken, int priceOfOne) {
            members.shares[member] += taken;
            members.account[member] -= (long) priceOfOne * taken;
            takeFromSeller(offer, to, taken, priceOfOne);
        }

        void takeFromSeller(int offer, int to, int taken, int priceOfOne) {
            int seller = offers.seller[offer];
            members.shares[seller] -= taken;
            members.account[seller] += (long) priceOfOne * taken;
            offers.recordSale(offer, to, taken);
        }

        int votesOf(int member) {
            int owned = members.shares[member];
            if (owned <= 0) {
                return 0;
            }
            switch (settings.votingRule) {
                case RULE_SHARES:
                    return owned;
                case RULE_MILK:
                    return quotient(members.milk[member], 1000) + 1;
                case RULE_ROOT:
                    return rootOf(owned);
                default:
                    return 1;
            }
        }

        int sumOfVotes(int motion, int ballot) {
            int sum = 0;
            for (int m = 0; m < members.count; m++) {
                if (motions.ballotOf(motion, m) == ballot) {
                    sum += votesOf(m);
                }
            }
            return sum;
        }

        boolean passes(int motion) {
            int votesYes = sumOfVotes(motion, BALLOT_FOR);
            int votesNo = sumOfVotes(motion, BALLOT_AGAINST);
            int cast = votesYes + votesNo;
            int all = cast + sumOfVotes(motion, BALLOT_NONE);
            return cast * 100 >= all * settings.quorum && 2 * votesYes > cast;
        }

        void carryOut(int kind, int value) {
            switch (kind) {
                case KIND_PAR:
                    settings.parValue = value;
                    break;
                case KIND_CAP:
                    settings.cap = value;
                    break;
                case KIND_STAGE_LENGTH:
                    settings.stageLength = value;
                    break;
                case KIND_RETIRE:
                    treasuryShares -= Math.min(value, treasuryShares);
                    break;
                case KIND_DIVIDEND:
                    payDividend(value);
                    break;
                default:
                    break;
            }
        }

        /** At most 10000 shares times 1000 times 100: the product stays within an int. */
        void payDividend(int percent) {
            for (int m = 0; m < members.count; m++) {
                int product = members.shares[m] * settings.parValue * percent;
                members.account[m] += quotient(product, 100);
            }
        }
    }

    /** Divides shares among members by their demands; its rows serve every division. */
    private static final class Split {
        final int[] demand = new int[MAX_MEMBERS];
        final int[] part = new int[MAX_MEMBERS];
        final int[] remainder = new int[MAX_MEMBERS];

        void divide(int shares) {
            int all = sumOfDemands();
            if (all <= shares) {
                System.arraycopy(demand, 0, part, 0, MAX_MEMBERS);
                return;
            }
            int left = shares;
            for (int m = 0; m < MAX_MEMBERS; m++) {
                int product = shares * demand[m];
                part[m] = quotient(product, all);
                remainder[m] = product - part[m] * all;
                left -= part[m];
            }
            handOut(left);
        }

        int sumOfDemands() {
            int sum = 0;
            for (int m = 0; m < MAX_MEMBERS; m++) {
                sum += demand[m];
            }
            return sum;
        }

        /** Fewer are left than remainders are above 0: each gets one at most, and has a demand. */
        void handOut(int left) {
            for (int i = 0; i < left; i++) {
                int next = greatestRemainder();
                part[next]++;
                remainder[next] = -1;
            }
        }

        /** The smaller number goes first among equal ones: only a greater one takes its place. */
        int greatestRemainder() {
            int found = 0;
            for (int m = 1; m < MAX_MEMBERS; m++) {
                if (remainder[m] > remainder[found]) {
                    found = m;
                }
            }
            return found;
        }
    }
}
