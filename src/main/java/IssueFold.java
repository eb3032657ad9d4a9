/**
 * A tracker of issues kept at three places. Each place makes events by itself, hears of the others' events by
 * messages, and folds all the events that it knows, in an order that is the same everywhere.
 */
public final class IssueFold {

    public static final int NONE = -1;

    private static final int PLACES = 3;
    private static final int EVENTS_OF_A_PLACE = 16;
    private static final int CODES = PLACES * EVENTS_OF_A_PLACE;
    private static final int USERS = 4;
    private static final int NOBODY = 4;
    private static final int ROLES = 4;
    private static final int STATES = 6;
    private static final int PRIORITIES = 10;
    private static final int MOST_MESSAGES = 6;

    private static final int KINDS = 4;
    private static final int OPEN = 0;
    private static final int MOVE = 1;
    private static final int RANK = 2;
    private static final int OWN = 3;

    private static final int WORKFLOW_LIMIT = 120;
    private static final int QUERY_LIMIT = 40;
    private static final int SHORTEST_RULE = 4;
    private static final int DIGITS = 10;
    private static final int DEEPEST = 6;

    private final Reader workflowReader;
    private final Reader queryReader;
    private final Code question;
    private final Law law;
    private final Log log;
    private final Site[] sites;
    private final Post post;
    private final Finds finds;
    private int illPlace;

    public IssueFold() {
        workflowReader = new Reader(WORKFLOW_LIMIT, false);
        queryReader = new Reader(QUERY_LIMIT, true);
        question = new Code(QUERY_LIMIT);
        law = new Law();
        log = new Log();
        sites = new Site[PLACES];
        for (int place = 0; place < PLACES; place++) {
            sites[place] = new Site();
        }
        post = new Post();
        finds = new Finds();
        illPlace = NONE;
    }

    public boolean write(char c) {
        return workflowReader.append(c);
    }

    public int compile() throws IllegalStateException, IllegalArgumentException {
        if (law.workflow.isThere()) {
            workflowReader.clear();
            throw new IllegalStateException("there is a workflow");
        }
        illPlace = workflowReader.readWorkflow(law.workflow);
        workflowReader.clear();
        if (illPlace != NONE) {
            throw new IllegalArgumentException("the workflow is ill");
        }
        return law.workflow.rules;
    }

    public int place() {
        return illPlace;
    }

    public void role(int user, int role) throws IllegalArgumentException, IllegalStateException {
        if (!isBelow(user, USERS) || !isBelow(role, ROLES)) {
            throw new IllegalArgumentException("no such user or role");
        }
        if (log.total > 0) {
            throw new IllegalStateException("there is an event");
        }
        law.roles[user] = role;
    }

    public void needs(int kind, int role) throws IllegalArgumentException, IllegalStateException {
        if (!isBelow(kind, KINDS) || !isBelow(role, ROLES)) {
            throw new IllegalArgumentException("no such kind or role");
        }
        if (log.total > 0) {
            throw new IllegalStateException("there is an event");
        }
        law.needed[kind] = role;
    }

    public int act(int place, int kind, int user, int issue, int value)
            throws IllegalArgumentException, IllegalStateException, UnsupportedOperationException {
        if (!isBelow(place, PLACES) || !isBelow(user, USERS) || !isValue(kind, value)) {
            throw new IllegalArgumentException("no such place, kind, user or value");
        }
        if (kind != OPEN && !isBelow(issue, CODES)) {
            throw new IllegalArgumentException("no such issue");
        }
        if (!law.workflow.isThere() || log.counts[place] == EVENTS_OF_A_PLACE) {
            throw new IllegalStateException("no workflow, or no room for an event");
        }
        Site site = sites[place];
        int code = log.draft(place, site.time + 1, kind, user, issue, value);
        if (site.fold.skips(code, log, law)) {
            throw new UnsupportedOperationException("it would be skipped");
        }
        log.keepDraft(place);
        site.time++;
        site.counts[place]++;
        // Its stamp is greater than all that the place knows, so it is the last one of the fold.
        site.fold.take(code, log, law);
        return code;
    }

    public int send(int from, int to) throws IllegalArgumentException, IllegalStateException {
        if (!isBelow(from, PLACES) || !isBelow(to, PLACES) || from == to) {
            throw new IllegalArgumentException("no such pair of places");
        }
        if (post.size == MOST_MESSAGES) {
            throw new IllegalStateException("too many messages on their way");
        }
        Message message = post.add();
        return message.fill(from, to, sites[from]);
    }

    public int deliver(int k) {
        if (!isBelow(k, post.size)) {
            return NONE;
        }
        Message message = post.remove(k);
        Site site = sites[message.to];
        int fresh = site.receive(message, log);
        if (fresh > 0) {
            site.fold.rebuild(site.counts, log, law);
        }
        return fresh;
    }

    public boolean lose(int k) {
        if (!isBelow(k, post.size)) {
            return false;
        }
        post.remove(k);
        return true;
    }

    public boolean crash(int place) {
        if (!isBelow(place, PLACES)) {
            return false;
        }
        sites[place].forgetViews();
        return true;
    }

    public boolean ask(char c) {
        return queryReader.append(c);
    }

    public int query(int place) throws IllegalArgumentException {
        finds.clear();
        illPlace = NONE;
        if (!isBelow(place, PLACES)) {
            queryReader.clear();
            throw new IllegalArgumentException("no such place");
        }
        illPlace = queryReader.readQuery(question);
        queryReader.clear();
        if (illPlace != NONE) {
            throw new IllegalArgumentException("the query is ill");
        }
        finds.search(sites[place].fold, question);
        return finds.count;
    }

    public int result(int k) {
        return isBelow(k, finds.count) ? finds.codes[k] : NONE;
    }

    public int issue(int place, int code, int what) {
        if (!isBelow(place, PLACES) || !isBelow(code, CODES)) {
            return NONE;
        }
        Fold fold = sites[place].fold;
        if (!fold.has(code)) {
            return NONE;
        }
        switch (what) {
            case 0: return fold.states[code];
            case 1: return fold.priorities[code];
            case 2: return fold.owners[code];
            case 3: return fold.deeds[code];
            default: return NONE;
        }
    }

    public int event(int code, int what) {
        if (!isBelow(code, CODES) || !isAmong(code, log.counts)) {
            return NONE;
        }
        switch (what) {
            case 0: return log.kinds[code];
            case 1: return log.stamps[code];
            case 2: return log.users[code];
            case 3: return log.issues[code];
            case 4: return log.values[code];
            default: return NONE;
        }
    }

    public int skipped(int place, int code) {
        if (!isBelow(place, PLACES) || !isBelow(code, CODES) || !isAmong(code, sites[place].counts)) {
            return NONE;
        }
        return sites[place].fold.leftOut[code] ? 1 : 0;
    }

    public int known(int place, int origin, int view) {
        if (!isBelow(place, PLACES) || !isBelow(origin, PLACES)) {
            return NONE;
        }
        if (view == NONE) {
            return sites[place].counts[origin];
        }
        if (!isBelow(view, PLACES) || view == place) {
            return NONE;
        }
        return sites[place].views[view][origin];
    }

    public int clock(int place) {
        return isBelow(place, PLACES) ? sites[place].time : NONE;
    }

    public int messages() {
        return post.size;
    }

    private static boolean isBelow(int number, int bound) {
        return number >= 0 && number < bound;
    }

    private static boolean isValue(int kind, int value) {
        switch (kind) {
            case OPEN:
            case RANK: return isBelow(value, PRIORITIES);
            case MOVE: return isBelow(value, STATES);
            case OWN: return isBelow(value, USERS) || value == NOBODY;
            default: return false;
        }
    }

    private static int codeOf(int origin, int number) {
        return origin * EVENTS_OF_A_PLACE + number;
    }

    /** Whether the first so many events of each origin have the one with this code among them. */
    private static boolean isAmong(int code, int[] counts) {
        return code % EVENTS_OF_A_PLACE < counts[code / EVENTS_OF_A_PLACE];
    }

    /**
     * A text that grows by characters and is then read as a workflow or as a query. Reading stops at the first
     * character that can't stand, so where a reading failed, {@code at} is the place at which the text is ill.
     */
    private static final class Reader {
        /** Stands for the character behind the last one: no text can hold it. */
        private static final char END = 0;

        private final char[] letters;
        private final boolean asksQueries;
        private final String facts;
        private int written;
        private int length;
        private int at;

        Reader(int limit, boolean asksQueries) {
            letters = new char[limit];
            this.asksQueries = asksQueries;
            facts = asksQueries ? "pnus" : "pnuro";
        }

        boolean append(char c) {
            if (c < 32 || c > 126 || written == letters.length) {
                return false;
            }
            written++;
            // A blank takes up room, but no place is counted for it.
            if (c != ' ') {
                letters[length] = c;
                length++;
            }
            return true;
        }

        void clear() {
            written = 0;
            length = 0;
        }

        int readWorkflow(Workflow into) {
            at = 0;
            boolean well = readRule(into);
            for (int rules = 1; rules < length && well && at < length; rules++) {
                well = readRule(into);
            }
            if (well) {
                return NONE;
            }
            // Rules that stand before the ill place are no workflow.
            into.clear();
            return at;
        }

        int readQuery(Code into) {
            at = 0;
            into.clear();
            boolean well = length == 0 || readCondition(into, 0) && at == length;
            return well ? NONE : at;
        }

        private boolean readRule(Workflow into) {
            int start = into.code.size;
            int from = readState();
            if (from == NONE || !skip('>')) {
                return false;
            }
            int to = readState();
            if (to == NONE) {
                return false;
            }
            if (skip(':') && !readCondition(into.code, 0)) {
                return false;
            }
            if (!skip(';')) {
                return false;
            }
            into.addRule(from, to, start);
            return true;
        }

        private int readState() {
            int state = peek() - 'A';
            if (!isBelow(state, STATES)) {
                return NONE;
            }
            at++;
            return state;
        }

        /** The depth is the number of ! and ( in which the condition lies. */
        private boolean readCondition(Code into, int depth) {
            if (!readAlternative(into, depth)) {
                return false;
            }
            for (int more = 0; more < length && skip('|'); more++) {
                if (!readAlternative(into, depth)) {
                    return false;
                }
                into.add(Code.OR, 0);
            }
            return true;
        }

        private boolean readAlternative(Code into, int depth) {
            if (!readTest(into, depth)) {
                return false;
            }
            for (int more = 0; more < length && skip('&'); more++) {
                if (!readTest(into, depth)) {
                    return false;
                }
                into.add(Code.AND, 0);
            }
            return true;
        }

        private boolean readTest(Code into, int depth) {
            char first = peek();
            if (first != '!' && first != '(') {
                return readFact(into);
            }
            if (depth >= DEEPEST) {
                return false;
            }
            at++;
            if (first == '(') {
                return readCondition(into, depth + 1) && skip(')');
            }
            if (!readTest(into, depth + 1)) {
                return false;
            }
            into.add(Code.NOT, 0);
            return true;
        }

        private boolean readFact(Code into) {
            char name = peek();
            if (facts.indexOf(name) < 0) {
                return false;
            }
            at++;
            int kind = factKind(name, peek());
            if (kind == NONE) {
                return false;
            }
            if (name == 'n' || name == 'o') {
                into.add(kind, 0);
                return true;
            }
            at++;
            int value = name == 's' ? peek() - 'A' : peek() - '0';
            if (!isBelow(value, name == 's' ? STATES : DIGITS)) {
                return false;
            }
            at++;
            into.add(kind, value);
            return true;
        }

        /** NONE if the sign can't stand behind the name; n and o have none, so that anything may. */
        private int factKind(char name, char sign) {
            if (name == 'n') {
                return Code.UNOWNED;
            }
            if (name == 'o') {
                return Code.OWNED_BY_ACTOR;
            }
            if (name == 'p' && sign == '<') {
                return Code.LESS;
            }
            if (name == 'p' && sign == '>') {
                return Code.GREATER;
            }
            if (sign != '=') {
                return NONE;
            }
            if (name == 'p') {
                return Code.EQUAL;
            }
            if (name == 'r') {
                return Code.ROLE;
            }
            if (name == 's') {
                return Code.STATE;
            }
            return asksQueries ? Code.OWNER : Code.ACTOR;
        }

        private boolean skip(char c) {
            if (peek() != c) {
                return false;
            }
            at++;
            return true;
        }

        private char peek() {
            return at < length ? letters[at] : END;
        }
    }

    /** Conditions with each sign behind what it joins, so that they are weighed in one go from left to right. */
    private static final class Code {
        static final int NOT = 0;
        static final int AND = 1;
        static final int OR = 2;
        static final int LESS = 3;
        static final int EQUAL = 4;
        static final int GREATER = 5;
        static final int UNOWNED = 6;
        static final int ACTOR = 7;
        static final int ROLE = 8;
        static final int OWNED_BY_ACTOR = 9;
        static final int STATE = 10;
        static final int OWNER = 11;

        private final int[] kinds;
        private final int[] values;
        private int size;

        /** No character of a text gives more than one step, so its limit is enough. */
        Code(int limit) {
            kinds = new int[limit];
            values = new int[limit];
        }

        void clear() {
            size = 0;
        }

        void add(int kind, int value) {
            if (size < kinds.length) {
                kinds[size] = kind;
                values[size] = value;
                size++;
            }
        }

        /** Whether the condition from a step up to another one holds; with no steps it does. */
        boolean holds(int start, int end, Subject subject) {
            // The answers that wait to be joined, the latest one in the lowest bit. In each of the seven conditions
            // that may lie in one another two at most wait, so that an int has room.
            int answers = 1;
            for (int step = start; step < end; step++) {
                int latest = answers & 1;
                switch (kinds[step]) {
                    case NOT:
                        answers = answers ^ 1;
                        break;
                    case AND:
                        answers = (answers >> 1) & (latest | ~1);
                        break;
                    case OR:
                        answers = (answers >> 1) | latest;
                        break;
                    default:
                        answers = (answers << 1) | (subject.fits(kinds[step], values[step]) ? 1 : 0);
                }
            }
            return (answers & 1) == 1;
        }
    }

    /** What a condition is asked about: an issue as it is, and in a workflow the user who acts. */
    private static final class Subject {
        private int state;
        private int priority;
        private int owner;
        private int actor;
        private int actorsRole;

        boolean fits(int fact, int value) {
            switch (fact) {
                case Code.LESS: return priority < value;
                case Code.EQUAL: return priority == value;
                case Code.GREATER: return priority > value;
                case Code.UNOWNED: return owner == NOBODY;
                case Code.ACTOR: return actor == value;
                case Code.ROLE: return actorsRole == value;
                case Code.OWNED_BY_ACTOR: return owner == actor;
                case Code.STATE: return state == value;
                case Code.OWNER: return owner == value;
                default: return false;
            }
        }
    }

    /** The rules; there is a workflow as soon as there is a rule. */
    private static final class Workflow {
        private final int[] froms = new int[WORKFLOW_LIMIT / SHORTEST_RULE];
        private final int[] tos = new int[WORKFLOW_LIMIT / SHORTEST_RULE];
        private final int[] starts = new int[WORKFLOW_LIMIT / SHORTEST_RULE];
        private final int[] ends = new int[WORKFLOW_LIMIT / SHORTEST_RULE];
        private final Code code = new Code(WORKFLOW_LIMIT);
        private int rules;

        boolean isThere() {
            return rules > 0;
        }

        void clear() {
            rules = 0;
            code.clear();
        }

        /** The condition of the rule is what the code has from the start on. */
        void addRule(int from, int to, int start) {
            if (rules < froms.length) {
                froms[rules] = from;
                tos[rules] = to;
                starts[rules] = start;
                ends[rules] = code.size;
                rules++;
            }
        }

        int firstState() {
            return froms[0];
        }

        boolean allows(Subject subject, int to) {
            for (int rule = 0; rule < rules; rule++) {
                if (froms[rule] == subject.state && tos[rule] == to
                        && code.holds(starts[rule], ends[rule], subject)) {
                    return true;
                }
            }
            return false;
        }
    }

    /** All that decides, beside the issues themselves, whether an event is skipped. */
    private static final class Law {
        private final Workflow workflow = new Workflow();
        private final int[] roles = new int[USERS];
        private final int[] needed = new int[KINDS];

        boolean permits(int user, int kind) {
            return roles[user] >= needed[kind];
        }
    }

    /** The events of all origins, each in the row of its code. What a place knows of them is told by counts alone. */
    private static final class Log {
        private final int[] kinds = new int[CODES];
        private final int[] stamps = new int[CODES];
        private final int[] users = new int[CODES];
        private final int[] issues = new int[CODES];
        private final int[] values = new int[CODES];
        private final int[] counts = new int[PLACES];
        private int total;

        /** Writes an event where the next one of the origin will be; it isn't there until it is kept. */
        int draft(int origin, int stamp, int kind, int user, int issue, int value) {
            int code = codeOf(origin, counts[origin]);
            kinds[code] = kind;
            stamps[code] = stamp;
            users[code] = user;
            issues[code] = kind == OPEN ? code : issue;
            values[code] = value;
            return code;
        }

        void keepDraft(int origin) {
            counts[origin]++;
            total++;
        }
    }

    /** The issues as a place sees them, each in the row of its code. */
    private static final class Fold {
        private final int[] states = new int[CODES];
        private final int[] priorities = new int[CODES];
        private final int[] owners = new int[CODES];
        private final int[] deeds = new int[CODES];
        private final boolean[] leftOut = new boolean[CODES];
        private final int[] next = new int[PLACES];
        private final Subject subject = new Subject();

        /** OPEN counts as a deed, so an issue without one isn't there. */
        boolean has(int issue) {
            return deeds[issue] > 0;
        }

        Subject lookAt(int issue) {
            subject.state = states[issue];
            subject.priority = priorities[issue];
            subject.owner = owners[issue];
            return subject;
        }

        /** An event that comes late may stand before others, so that all is gone through anew. */
        void rebuild(int[] known, Log log, Law law) {
            for (int issue = 0; issue < CODES; issue++) {
                deeds[issue] = 0;
            }
            for (int origin = 0; origin < PLACES; origin++) {
                next[origin] = 0;
            }
            for (int taken = 0; taken < CODES; taken++) {
                int origin = earliest(known, log);
                if (origin == NONE) {
                    return;
                }
                take(codeOf(origin, next[origin]), log, law);
                next[origin]++;
            }
        }

        /** Within an origin the stamps grow, so only the next events of the origins need to be compared. */
        private int earliest(int[] known, Log log) {
            int best = NONE;
            int bestStamp = 0;
            for (int origin = 0; origin < PLACES; origin++) {
                if (next[origin] < known[origin]) {
                    int stamp = log.stamps[codeOf(origin, next[origin])];
                    if (best == NONE || stamp < bestStamp) {
                        best = origin;
                        bestStamp = stamp;
                    }
                }
            }
            return best;
        }

        void take(int code, Log log, Law law) {
            leftOut[code] = skips(code, log, law);
            if (leftOut[code]) {
                return;
            }
            int issue = log.issues[code];
            int value = log.values[code];
            switch (log.kinds[code]) {
                case OPEN:
                    states[issue] = law.workflow.firstState();
                    priorities[issue] = value;
                    owners[issue] = NOBODY;
                    break;
                case MOVE:
                    states[issue] = value;
                    break;
                case RANK:
                    priorities[issue] = value;
                    break;
                default:
                    owners[issue] = value;
            }
            deeds[issue]++;
        }

        /** Whether an event that comes next in the fold is skipped. */
        boolean skips(int code, Log log, Law law) {
            int kind = log.kinds[code];
            int user = log.users[code];
            if (!law.permits(user, kind)) {
                return true;
            }
            if (kind == OPEN) {
                return false;
            }
            int issue = log.issues[code];
            if (!has(issue)) {
                return true;
            }
            if (kind != MOVE) {
                return false;
            }
            Subject subject = lookAt(issue);
            subject.actor = user;
            subject.actorsRole = law.roles[user];
            return !law.workflow.allows(subject, log.values[code]);
        }
    }

    /** What one place knows: how many events of each origin, and how many of them it thinks the others know. */
    private static final class Site {
        private final int[] counts = new int[PLACES];
        private final int[][] views = new int[PLACES][PLACES];
        private final Fold fold = new Fold();
        private int time;

        /** How many of the events that came are new here. */
        int receive(Message message, Log log) {
            int[] view = views[message.from];
            int fresh = 0;
            for (int origin = 0; origin < PLACES; origin++) {
                int told = message.counts[origin];
                if (told > message.firsts[origin]) {
                    time = Math.max(time, log.stamps[codeOf(origin, told - 1)]);
                }
                // A view never says more than the other place knows, so a message leaves no gap behind what is known.
                if (told > counts[origin]) {
                    fresh += told - counts[origin];
                    counts[origin] = told;
                }
                view[origin] = Math.max(view[origin], told);
            }
            return fresh;
        }

        void forgetViews() {
            for (int place = 0; place < PLACES; place++) {
                for (int origin = 0; origin < PLACES; origin++) {
                    views[place][origin] = 0;
                }
            }
        }
    }

    /** Brings of each origin the events from the first one up to the count, which is what the sender knew. */
    private static final class Message {
        private final int[] firsts = new int[PLACES];
        private final int[] counts = new int[PLACES];
        private int from;
        private int to;

        /** How many events it brings. */
        int fill(int sender, int receiver, Site site) {
            from = sender;
            to = receiver;
            int[] view = site.views[receiver];
            int brought = 0;
            for (int origin = 0; origin < PLACES; origin++) {
                firsts[origin] = view[origin];
                counts[origin] = site.counts[origin];
                brought += counts[origin] - firsts[origin];
            }
            return brought;
        }
    }

    /** The messages on their way, in the order in which they were sent; the rest of the row waits to be used. */
    private static final class Post {
        private final Message[] row = new Message[MOST_MESSAGES];
        private int size;

        Post() {
            for (int k = 0; k < MOST_MESSAGES; k++) {
                row[k] = new Message();
            }
        }

        Message add() {
            size++;
            return row[size - 1];
        }

        Message remove(int k) {
            Message message = row[k];
            size--;
            for (int later = k; later < size; later++) {
                row[later] = row[later + 1];
            }
            row[size] = message;
            return message;
        }
    }

    /** The issues that the latest query found, as they were ordered then. */
    private static final class Finds {
        private final int[] codes = new int[CODES];
        private int count;

        void clear() {
            count = 0;
        }

        void search(Fold fold, Code question) {
            for (int issue = 0; issue < CODES; issue++) {
                if (fold.has(issue) && question.holds(0, question.size, fold.lookAt(issue))) {
                    insert(issue, fold.priorities);
                }
            }
        }

        /** Issues come in the order of their codes, so one goes behind those of its priority. */
        private void insert(int issue, int[] priorities) {
            int spot = count;
            while (spot > 0 && priorities[codes[spot - 1]] < priorities[issue]) {
                codes[spot] = codes[spot - 1];
                spot--;
            }
            codes[spot] = issue;
            count++;
        }
    }
}
