/**
 * The office of games of all nations: who may pass which door, when units begin and how many buses
 * bring their persons, who sleeps where, who gets which medal. ../shared/DOC.md says what it promises;
 * the words in capitals there (PASS, RULE, THE PLAN ..) are meant here, too.
 */
public final class GamesOffice {
    public static final int NONE = -1;

    private static final int DONE = 0;
    private static final int NO_SUCH = 1;
    private static final int NO_ROOM = 2;
    private static final int NOT_SO = 3;
    private static final int NOTHING_THERE = 10;
    private static final int ANOTHER_SORT = 11;
    private static final int PLACE_OUTSIDE = 12;
    private static final int SIZE_BELOW_0 = 13;
    private static final int DOES_NOT_FIT = 14;
    private static final int DIVIDED_BY_0 = 15;
    private static final int NO_PASSING = 20;

    private static final int NATIONS = 8;
    private static final int MOST_HELD = 99;
    private static final int GREATEST_NUMBER = 11;
    private static final int LAST_DAY = 19;
    private static final int LAST_MINUTE = 1439;
    private static final int MINUTES_A_DAY = 1440;
    private static final int LAST_MOMENT = 28799;
    private static final int LONGEST_STEP = 5000;
    private static final int TOLD_OUTSIDE = -2;

    private static final int HALLS = 4;
    private static final int LONGEST_UNIT = 240;
    private static final int LONGEST_REST = 200;
    private static final int MOST_SEATS = 12;
    private static final int MOST_BEDS = 9;
    private static final int MOST_IN_GROUP = 9;
    private static final int MOST_BACKS = 10;

    private static final int SHEETS = 4;
    private static final int MOST_CELLS = 40;
    private static final int GREATEST_CELL = 2000;
    private static final int GREATEST_FORGED = 100;
    private static final int NUMBERS_OF_A_PASS = 4;
    private static final int FORGED_ROW = 6;

    private final Books books;
    private final Books kept;
    private final Planner planner;
    private final Lodging lodging;
    private final Acts acts;
    private final Sheet[] sheets;
    private boolean isKept;
    private int backs;
    private int latest;

    public GamesOffice() {
        books = new Books();
        kept = new Books();
        planner = new Planner();
        lodging = new Lodging();
        acts = new Acts();
        sheets = new Sheet[SHEETS];
        for (int i = 0; i < SHEETS; i++) sheets[i] = new Sheet();
        isKept = false;
        backs = 0;
        latest = DONE;
    }

    public int person(int nation) {
        if (!isNation(nation)) return refused(NO_SUCH);
        if (books.persons.isFull()) return refused(NO_ROOM);
        return done(books.addPerson(nation));
    }

    public int zone(int holds) {
        if (!isWithin(holds, 0, MOST_HELD)) return refused(NO_SUCH);
        if (books.zones.isFull()) return refused(NO_ROOM);
        return done(books.addZone(holds));
    }

    public int door(int from, int to) {
        if (!isPlace(from) || !isPlace(to) || from == to) return refused(NO_SUCH);
        if (books.doors.isFull()) return refused(NO_ROOM);
        return done(books.addDoor(from, to));
    }

    public int pass(int person, int kind, int days, int number) {
        if (!tellsPass(person, kind, days, number)) return refused(NO_SUCH);
        if (books.passes.isFull()) return refused(NO_ROOM);
        return done(books.addPass(person, kind, days, number));
    }

    public int lose(int pass, int from) {
        if (!books.passes.has(pass) || !isMoment(from)) return refused(NO_SUCH);
        if (books.passes.get(pass, Books.LOST_FROM) != NONE) return refused(NOT_SO);
        books.passes.set(pass, Books.LOST_FROM, from);
        books.passes.set(pass, Books.LOST_TOLD, books.moment);
        return done(1);
    }

    public int rule(boolean lets, int kind, int zone, int days, int minutes) {
        if (!Kinds.has(kind) || !books.zones.has(zone)) return refused(NO_SUCH);
        if (!areDays(days) || !areMinutes(minutes)) return refused(NO_SUCH);
        if (books.rules.isFull()) return refused(NO_ROOM);
        return done(books.addRule(lets, kind, zone, days, minutes));
    }

    public int end(int rule) {
        if (!books.rules.has(rule)) return refused(NO_SUCH);
        if (books.rules.get(rule, Books.ENDED_AT) != NONE) return refused(NOT_SO);
        books.rules.set(rule, Books.ENDED_AT, books.moment);
        return done(1);
    }

    public int clock(int n) {
        if (!isWithin(n, 0, LONGEST_STEP)) return refused(NO_SUCH);
        if (!isMoment(books.moment + n)) return refused(NO_ROOM);
        books.moment += n;
        return done(books.moment);
    }

    public int go(int person, int door, int pass) {
        int why = may(person, door, pass);
        if (why == NONE) return refused(NO_SUCH);
        if (why != 0) return refused(NO_PASSING + why);
        Gate.move(books, person, door);
        return done(personTold(person, Books.PLACE));
    }

    public int unit(int hall, int length, int persons, int behind, boolean light) {
        if (!isWithin(hall, 0, HALLS - 1) || !isWithin(length, 1, LONGEST_UNIT)) return refused(NO_SUCH);
        if (!arePersons(persons) || !isBehind(behind)) return refused(NO_SUCH);
        if (books.units.isFull()) return refused(NO_ROOM);
        planner.forget();
        return done(books.addUnit(hall, length, persons, behind, light));
    }

    public int seats(int n) {
        if (!isWithin(n, 1, MOST_SEATS)) return refused(NO_SUCH);
        int before = books.seats;
        books.seats = n;
        return done(before);
    }

    public int room(int beds) {
        if (!isWithin(beds, 1, MOST_BEDS)) return refused(NO_SUCH);
        if (books.rooms.isFull()) return refused(NO_ROOM);
        lodging.forget();
        return done(books.addRoom(beds));
    }

    public int group(int nation, int many, int days) {
        if (!isNation(nation) || !isWithin(many, 1, MOST_IN_GROUP) || !areDays(days)) return refused(NO_SUCH);
        if (books.groups.isFull()) return refused(NO_ROOM);
        lodging.forget();
        return done(books.addGroup(nation, many, days));
    }

    public int result(int row) {
        if (!Podium.tellsResult(row, books.persons.rows())) return refused(NO_SUCH);
        if (books.results.isFull()) return refused(NO_ROOM);
        return done(Podium.add(books.results, row));
    }

    public int strip(int result, int person) {
        if (!Podium.isIn(books.results, result, person)) return refused(NO_SUCH);
        if (Podium.isStripped(books.results, result, person)) return refused(NOT_SO);
        int place = Podium.placeOf(books.results, result, person);
        Podium.take(books.results, result, person);
        return done(place);
    }

    public int image() {
        kept.copyFrom(books);
        isKept = true;
        return done(1);
    }

    public int back() {
        if (backs >= MOST_BACKS) return refused(NO_ROOM);
        if (!isKept) return refused(NOT_SO);
        books.copyFrom(kept);
        planner.forget();
        lodging.forget();
        backs++;
        return done(books.moment);
    }

    public int personTold(int person, int what) {
        if (!books.persons.has(person) || !isWithin(what, Books.NATION, Books.WENT)) return NONE;
        int told = books.persons.get(person, what);
        return what == Books.PLACE && told == NONE ? TOLD_OUTSIDE : told;
    }

    public int zoneTold(int zone, int what) {
        if (!isWithin(what, Books.HOLDS, Books.LEFT)) return NONE;
        return books.zones.get(zone, what);
    }

    public int passTold(int pass, int what) {
        if (!isWithin(what, Books.OWNER, Books.LOST_FROM)) return NONE;
        return books.passes.get(pass, what);
    }

    public int opens(int pass, int door, int moment, int at) {
        if (!books.passes.has(pass) || !books.doors.has(door)) return NONE;
        if (!isMoment(moment) || !isMoment(at)) return NONE;
        return Gate.whyShut(books, pass, door, moment, at);
    }

    public int why(int pass, int zone, int moment, int at) {
        if (!books.passes.has(pass) || !books.zones.has(zone)) return NONE;
        if (!isMoment(moment) || !isMoment(at)) return NONE;
        return Gate.ruleFor(books, pass, zone, moment, at);
    }

    public int may(int person, int door, int pass) {
        if (!books.persons.has(person) || !books.doors.has(door) || !books.passes.has(pass)) return NONE;
        return Gate.whyNot(books, person, door, pass);
    }

    public int begins(int unit) {
        planner.renew(books.units);
        return unit == NONE ? planner.lastEnd() : planner.beginOf(unit);
    }

    public int order(int i) {
        planner.renew(books.units);
        return planner.unitAt(i);
    }

    public int planned(int order, int unit) {
        planner.renew(books.units);
        return planner.beginIn(order, unit);
    }

    public int fleet() {
        planner.renew(books.units);
        return Buses.fewest(books, planner);
    }

    public int rooming(int group) {
        lodging.renew(books);
        return group == NONE ? lodging.bedsByDays() : lodging.roomOf(group);
    }

    public int placed(int result, int i) {
        return Podium.personAt(books.results, result, i);
    }

    public int medals(int nation, int what) {
        if (!isNation(nation) || !isWithin(what, 0, Podium.MEDALS)) return NONE;
        return what == Podium.MEDALS ? Podium.tablePlace(books, nation) : Podium.medalsOf(books, nation, what);
    }

    public int count(int what) {
        switch (what) {
            case 0: return books.persons.rows();
            case 1: return books.zones.rows();
            case 2: return books.doors.rows();
            case 3: return books.passes.rows();
            case 4: return books.rules.rows();
            case 5: return books.moment;
            case 6: return books.units.rows();
            case 7: return books.rooms.rows();
            case 8: return books.groups.rows();
            case 9: return books.results.rows();
            case 10: return books.personsOutside();
            case 11: return books.seats;
            case 12: return acts.bodiesRun();
            default: return NONE;
        }
    }

    public int act(int pass, int act, int x) {
        if (!books.passes.has(pass) || !isWithin(act, 0, Acts.ACTS - 1)) return refused(NO_SUCH);
        return done(acts.run(books.passes, pass, act, x));
    }

    public int trace(int i) {
        return acts.bodyAt(i);
    }

    public int sheet(int sheet, int sort, int n) {
        boolean isTold = sort == NONE || Sheet.isSort(sort) && isWithin(n, 0, MOST_CELLS);
        if (!isSheet(sheet) || !isTold) return refused(NO_SUCH);
        sheets[sheet].remake(sort, n);
        return done(1);
    }

    public int cell(int sheet, int i, int v) {
        if (!isSheet(sheet) || !isWithin(v, -GREATEST_CELL, GREATEST_CELL)) return refused(NO_SUCH);
        if (sheets[sheet].isMissing()) return refused(NOTHING_THERE);
        if (!sheets[sheet].has(i)) return refused(PLACE_OUTSIDE);
        sheets[sheet].set(i, v);
        return done(1);
    }

    public int row(int sheet, int sort, int i) {
        if (!isSheet(sheet) || !Sheet.isSort(sort)) return refused(NO_SUCH);
        if (books.passes.isFull()) return refused(NO_ROOM);
        Sheet from = sheets[sheet];
        int why = from.whyNotOf(sort);
        if (why != DONE) return refused(why);
        if (!from.hasRun(i, NUMBERS_OF_A_PASS)) return refused(PLACE_OUTSIDE);
        int person = from.get(i);
        int kind = from.get(i + 1);
        int days = from.get(i + 2);
        int number = from.get(i + 3);
        if (!tellsPass(person, kind, days, number)) return refused(NOT_SO);
        return done(books.addPass(person, kind, days, number));
    }

    public int forge(int what, int n, int k) {
        if (!isWithin(n, -GREATEST_FORGED, GREATEST_FORGED)) return refused(NO_SUCH);
        if (!isWithin(k, -GREATEST_FORGED, GREATEST_FORGED)) return refused(NO_SUCH);
        switch (what) {
            case 0: return takeForKind(forgedPass(k), Math.floorMod(n, Kinds.KINDS));
            case 1: return n < 0 ? refused(SIZE_BELOW_0) : done(n);
            case 2: return readShort(Math.floorMod(k, SHEETS), n);
            case 3: return copyBytes(Math.floorMod(k, SHEETS), n);
            case 4: return storeAmongDays(forgedPass(k));
            case 5: return n == 0 ? refused(DIVIDED_BY_0) : done(1000 / n);
            case 6: return Math.floorMod(n, 2) == 0 ? refused(NOTHING_THERE) : done(1);
            default: return refused(NO_SUCH);
        }
    }

    public int status() {
        return latest;
    }

    private int done(int answer) {
        latest = DONE;
        return answer;
    }

    private int refused(int why) {
        latest = why;
        return NONE;
    }

    private static boolean isWithin(int value, int least, int most) {
        return value >= least && value <= most;
    }

    private static boolean isNation(int nation) {
        return isWithin(nation, 0, NATIONS - 1);
    }

    private static boolean isMoment(int moment) {
        return isWithin(moment, 0, LAST_MOMENT);
    }

    private static boolean areDays(int days) {
        return days >= 0 && days / 100 <= days % 100 && days % 100 <= LAST_DAY;
    }

    private static boolean areMinutes(int minutes) {
        return minutes >= 0 && minutes / 10000 <= minutes % 10000 && minutes % 10000 <= LAST_MINUTE;
    }

    private static boolean isSheet(int sheet) {
        return isWithin(sheet, 0, SHEETS - 1);
    }

    private boolean isPlace(int place) {
        return place == NONE || books.zones.has(place);
    }

    private boolean arePersons(int bits) {
        return bits >= 0 && bits < 1 << books.persons.rows();
    }

    private boolean isBehind(int behind) {
        if (behind == NONE) return true;
        return behind >= 0 && books.units.has(behind % 10) && behind / 10 <= LONGEST_REST;
    }

    private boolean tellsPass(int person, int kind, int days, int number) {
        if (!books.persons.has(person) || !Kinds.has(kind) || !areDays(days)) return false;
        return isWithin(number, 0, GREATEST_NUMBER) && (kind != Kinds.GUEST || books.persons.has(number));
    }

    private static int forgedPass(int k) {
        return Math.floorMod(k, Books.MOST_PASSES);
    }

    private int takeForKind(int pass, int kind) {
        if (!books.passes.has(pass)) return refused(NOTHING_THERE);
        int itsKind = books.passes.get(pass, Books.KIND);
        return Kinds.isOf(itsKind, kind) ? done(itsKind) : refused(ANOTHER_SORT);
    }

    private int readShort(int sheet, int i) {
        Sheet from = sheets[sheet];
        int why = from.whyNotOf(Sheet.SHORTS);
        if (why != DONE) return refused(why);
        return from.has(i) ? done(from.get(i)) : refused(PLACE_OUTSIDE);
    }

    private int copyBytes(int sheet, int n) {
        Sheet from = sheets[sheet];
        int why = from.whyNotOf(Sheet.BYTES);
        if (why != DONE) return refused(why);
        // the copied ones stand from place n on, n of them
        if (!from.hasRun(1, n) || n + n > FORGED_ROW) return refused(PLACE_OUTSIDE);
        return done(from.sum(1, n));
    }

    private int storeAmongDays(int pass) {
        // an empty place of a row may hold nothing, so a PASS that is not there fits
        if (!books.passes.has(pass)) return done(0);
        int kind = books.passes.get(pass, Books.KIND);
        return Kinds.isOf(kind, Kinds.DAY) ? done(kind) : refused(DOES_NOT_FIT);
    }

    /** Rows of numbers of one width, up to so many. A place that is not there reads as NONE. */
    private static final class Table {
        private final int width;
        private final int most;
        private final int[] cells;
        private int rows;

        Table(int mostRows, int columns) {
            most = Math.max(0, mostRows);
            width = Math.max(1, columns);
            cells = new int[most * width];
            rows = 0;
        }

        int rows() {
            return rows;
        }

        boolean isFull() {
            return rows >= most;
        }

        boolean has(int row) {
            return row >= 0 && row < rows;
        }

        int get(int row, int column) {
            if (row < 0 || row >= rows || column < 0 || column >= width) return NONE;
            return cells[row * width + column];
        }

        void set(int row, int column, int value) {
            if (row < 0 || row >= rows || column < 0 || column >= width) return;
            cells[row * width + column] = value;
        }

        /** A new row of zeros. */
        int add() {
            if (isFull()) return NONE;
            int row = rows;
            rows++;
            for (int column = 0; column < width; column++) set(row, column, 0);
            return row;
        }

        void copyFrom(Table other) {
            if (other == null || other.cells.length != cells.length) return;
            System.arraycopy(other.cells, 0, cells, 0, cells.length);
            rows = other.rows;
        }
    }

    /** All that an IMAGE keeps. */
    private static final class Books {
        static final int MOST_PASSES = 20;

        // of a PERSON, as personTold() counts them
        static final int NATION = 0;
        static final int PLACE = 1;
        static final int PASSES = 2;
        static final int WENT = 3;
        // of a ZONE, as zoneTold() counts them
        static final int HOLDS = 0;
        static final int INSIDE = 1;
        static final int CAME = 2;
        static final int LEFT = 3;
        // of a DOOR
        static final int FROM = 0;
        static final int TO = 1;
        // of a PASS, as passTold() counts them
        static final int OWNER = 0;
        static final int KIND = 1;
        static final int FIRST_DAY = 2;
        static final int FINAL_DAY = 3;
        static final int NUMBER = 4;
        static final int LOST_FROM = 5;
        static final int LOST_TOLD = 6;
        // of a RULE
        static final int LETS = 0;
        static final int RULE_KIND = 1;
        static final int RULE_ZONE = 2;
        static final int DAY_FROM = 3;
        static final int DAY_TO = 4;
        static final int MINUTE_FROM = 5;
        static final int MINUTE_TO = 6;
        static final int TOLD_AT = 7;
        static final int ENDED_AT = 8;
        // of a UNIT
        static final int HALL = 0;
        static final int LENGTH = 1;
        static final int WHO = 2;
        static final int BEHIND = 3;
        static final int REST = 4;
        static final int LIGHT = 5;
        // of a ROOM
        static final int BEDS = 0;
        // of a GROUP
        static final int GUESTS_NATION = 0;
        static final int MANY = 1;
        static final int GUESTS_FROM = 2;
        static final int GUESTS_TO = 3;

        final Table persons;
        final Table zones;
        final Table doors;
        final Table passes;
        final Table rules;
        final Table units;
        final Table rooms;
        final Table groups;
        final Table results;
        int moment;
        int seats;

        Books() {
            persons = new Table(12, 4);
            zones = new Table(6, 4);
            doors = new Table(12, 2);
            passes = new Table(MOST_PASSES, 7);
            rules = new Table(12, 9);
            units = new Table(Planner.MOST_UNITS, 6);
            rooms = new Table(Lodging.MOST_ROOMS, 1);
            groups = new Table(Lodging.MOST_GROUPS, 4);
            results = new Table(10, Podium.MOST_PLACES + 1);
            moment = 0;
            seats = 4;
        }

        void copyFrom(Books other) {
            if (other == null) return;
            persons.copyFrom(other.persons);
            zones.copyFrom(other.zones);
            doors.copyFrom(other.doors);
            passes.copyFrom(other.passes);
            rules.copyFrom(other.rules);
            units.copyFrom(other.units);
            rooms.copyFrom(other.rooms);
            groups.copyFrom(other.groups);
            results.copyFrom(other.results);
            moment = other.moment;
            seats = other.seats;
        }

        int addPerson(int nation) {
            int person = persons.add();
            persons.set(person, NATION, nation);
            persons.set(person, PLACE, NONE);
            return person;
        }

        int addZone(int holds) {
            int zone = zones.add();
            zones.set(zone, HOLDS, holds);
            return zone;
        }

        int addDoor(int from, int to) {
            int door = doors.add();
            doors.set(door, FROM, from);
            doors.set(door, TO, to);
            return door;
        }

        int addPass(int person, int kind, int days, int number) {
            int pass = passes.add();
            passes.set(pass, OWNER, person);
            passes.set(pass, KIND, kind);
            passes.set(pass, FIRST_DAY, days / 100);
            passes.set(pass, FINAL_DAY, days % 100);
            passes.set(pass, NUMBER, number);
            passes.set(pass, LOST_FROM, NONE);
            passes.set(pass, LOST_TOLD, NONE);
            persons.set(person, PASSES, persons.get(person, PASSES) + 1);
            return pass;
        }

        int addRule(boolean lets, int kind, int zone, int days, int minutes) {
            int rule = rules.add();
            rules.set(rule, LETS, lets ? 1 : 0);
            rules.set(rule, RULE_KIND, kind);
            rules.set(rule, RULE_ZONE, zone);
            rules.set(rule, DAY_FROM, days / 100);
            rules.set(rule, DAY_TO, days % 100);
            rules.set(rule, MINUTE_FROM, minutes / 10000);
            rules.set(rule, MINUTE_TO, minutes % 10000);
            rules.set(rule, TOLD_AT, moment);
            rules.set(rule, ENDED_AT, NONE);
            return rule;
        }

        int addUnit(int hall, int length, int who, int behind, boolean light) {
            int unit = units.add();
            units.set(unit, HALL, hall);
            units.set(unit, LENGTH, length);
            units.set(unit, WHO, who);
            units.set(unit, BEHIND, behind == NONE ? NONE : behind % 10);
            units.set(unit, REST, behind == NONE ? 0 : behind / 10);
            units.set(unit, LIGHT, light ? 1 : 0);
            return unit;
        }

        int addRoom(int beds) {
            int room = rooms.add();
            rooms.set(room, BEDS, beds);
            return room;
        }

        int addGroup(int nation, int many, int days) {
            int group = groups.add();
            groups.set(group, GUESTS_NATION, nation);
            groups.set(group, MANY, many);
            groups.set(group, GUESTS_FROM, days / 100);
            groups.set(group, GUESTS_TO, days % 100);
            return group;
        }

        int personsOutside() {
            int outside = 0;
            for (int person = 0; person < persons.rows(); person++) {
                if (persons.get(person, PLACE) == NONE) outside++;
            }
            return outside;
        }
    }

    /** The KINDS of PASSES and which is under which. */
    private static final class Kinds {
        static final int KINDS = 6;
        static final int GUEST = 2;
        static final int DAY = 3;
        static final int UPGRADE = 4;

        private static final int[] ABOVE = {-1, 0, 0, 0, 3, 1};

        static boolean has(int kind) {
            return kind >= 0 && kind < KINDS;
        }

        static int above(int kind) {
            return kind >= 0 && kind < ABOVE.length ? ABOVE[kind] : NONE;
        }

        /** Whether a KIND is another one, or under that (also by others between). */
        static boolean isOf(int kind, int other) {
            int at = kind;
            for (int step = 0; step < KINDS && at != NONE; step++) {
                if (at == other) return true;
                at = above(at);
            }
            return false;
        }
    }

    /** Who comes through which DOOR. */
    private static final class Gate {
        /** Why a PASS does not OPEN a DOOR: 0 .. 5. */
        static int whyShut(Books books, int pass, int door, int moment, int at) {
            if (isLost(books.passes, pass, moment, at)) return 1;
            if (!isOnItsDays(books.passes, pass, moment / MINUTES_A_DAY)) return 2;
            int zone = books.doors.get(door, Books.TO);
            if (zone == NONE) return 0;
            int rule = ruleFor(books, pass, zone, moment, at);
            if (rule == NONE || books.rules.get(rule, Books.LETS) == 0) return 3;
            if (lacksHost(books, pass, zone)) return 4;
            return isCrowded(books, pass, zone) ? 5 : 0;
        }

        private static boolean isLost(Table passes, int pass, int moment, int at) {
            int from = passes.get(pass, Books.LOST_FROM);
            return from != NONE && from <= moment && passes.get(pass, Books.LOST_TOLD) <= at;
        }

        private static boolean isOnItsDays(Table passes, int pass, int day) {
            int first = passes.get(pass, Books.FIRST_DAY);
            boolean isForOneDay = Kinds.isOf(passes.get(pass, Books.KIND), Kinds.DAY);
            int last = isForOneDay ? first : passes.get(pass, Books.FINAL_DAY);
            return isWithin(day, first, last);
        }

        private static boolean lacksHost(Books books, int pass, int zone) {
            if (books.passes.get(pass, Books.KIND) != Kinds.GUEST) return false;
            return books.persons.get(books.passes.get(pass, Books.NUMBER), Books.PLACE) != zone;
        }

        private static boolean isCrowded(Books books, int pass, int zone) {
            if (books.passes.get(pass, Books.KIND) != Kinds.UPGRADE) return false;
            return books.zones.get(zone, Books.INSIDE) > books.zones.get(zone, Books.HOLDS) / 2;
        }

        /** The RULE that decides: the one with the greatest number of those that fit. */
        static int ruleFor(Books books, int pass, int zone, int moment, int at) {
            int kind = books.passes.get(pass, Books.KIND);
            for (int rule = books.rules.rows() - 1; rule >= 0; rule--) {
                if (books.rules.get(rule, Books.RULE_ZONE) != zone) continue;
                if (!Kinds.isOf(kind, books.rules.get(rule, Books.RULE_KIND))) continue;
                if (isInForce(books.rules, rule, at) && fits(books.rules, rule, moment)) return rule;
            }
            return NONE;
        }

        private static boolean isInForce(Table rules, int rule, int at) {
            int ended = rules.get(rule, Books.ENDED_AT);
            return rules.get(rule, Books.TOLD_AT) <= at && (ended == NONE || at < ended);
        }

        private static boolean fits(Table rules, int rule, int moment) {
            int day = moment / MINUTES_A_DAY;
            int minute = moment % MINUTES_A_DAY;
            return isWithin(day, rules.get(rule, Books.DAY_FROM), rules.get(rule, Books.DAY_TO))
                && isWithin(minute, rules.get(rule, Books.MINUTE_FROM), rules.get(rule, Books.MINUTE_TO));
        }

        /** WHY PASSING can't be: 0 .. 8. */
        static int whyNot(Books books, int person, int door, int pass) {
            int shut = whyShut(books, pass, door, books.moment, books.moment);
            if (shut != 0) return shut;
            if (books.passes.get(pass, Books.OWNER) != person) return 6;
            if (books.persons.get(person, Books.PLACE) != books.doors.get(door, Books.FROM)) return 7;
            return isFilled(books.zones, books.doors.get(door, Books.TO)) ? 8 : 0;
        }

        private static boolean isFilled(Table zones, int zone) {
            return zones.has(zone) && zones.get(zone, Books.INSIDE) >= zones.get(zone, Books.HOLDS);
        }

        /** For a PASSING that may be: the PERSON is where the DOOR leads to. */
        static void move(Books books, int person, int door) {
            int from = books.doors.get(door, Books.FROM);
            int to = books.doors.get(door, Books.TO);
            change(books.zones, from, Books.INSIDE, -1);
            change(books.zones, from, Books.LEFT, 1);
            change(books.zones, to, Books.INSIDE, 1);
            change(books.zones, to, Books.CAME, 1);
            change(books.persons, person, Books.WENT, 1);
            books.persons.set(person, Books.PLACE, to);
        }

        private static void change(Table table, int row, int column, int by) {
            table.set(row, column, table.get(row, column) + by);
        }
    }

    /** THE PLAN, worked out only when UNITS have changed. */
    private static final class Planner {
        static final int MOST_UNITS = 6;

        private static final int FIRST_BEGIN = 360;
        private static final int LAST_END = 1440;
        private static final int LAST_LIGHT = 1200;
        private static final int BREATH = 30;

        private final int[] lengths;
        private final int[] lastBegins;
        private final int[] behind;
        private final int[] rests;
        // by two UNITS: the MINUTES between them, or NONE if they may be at once
        private final int[] gaps;
        // the order that is tried, and when its UNITS begin
        private final int[] order;
        private final int[] begins;
        private final int[] bestOrder;
        private final int[] bestBegins;
        private int many;
        private int bestEnd;
        private boolean isFresh;

        Planner() {
            lengths = new int[MOST_UNITS];
            lastBegins = new int[MOST_UNITS];
            behind = new int[MOST_UNITS];
            rests = new int[MOST_UNITS];
            gaps = new int[MOST_UNITS * MOST_UNITS];
            order = new int[MOST_UNITS];
            begins = new int[MOST_UNITS];
            bestOrder = new int[MOST_UNITS];
            bestBegins = new int[MOST_UNITS];
            many = 0;
            bestEnd = NONE;
            isFresh = false;
        }

        void forget() {
            isFresh = false;
        }

        void renew(Table units) {
            if (isFresh) return;
            load(units);
            bestEnd = NONE;
            search(this, 0, 0, 0);
            isFresh = true;
        }

        private void load(Table units) {
            many = Math.min(units.rows(), MOST_UNITS);
            for (int unit = 0; unit < many; unit++) {
                lengths[unit] = units.get(unit, Books.LENGTH);
                lastBegins[unit] = (units.get(unit, Books.LIGHT) == 1 ? LAST_LIGHT : LAST_END) - lengths[unit];
                behind[unit] = units.get(unit, Books.BEHIND);
                rests[unit] = units.get(unit, Books.REST);
                for (int other = 0; other < many; other++) gaps[unit * MOST_UNITS + other] = gap(units, unit, other);
            }
        }

        private static int gap(Table units, int unit, int other) {
            if ((units.get(unit, Books.WHO) & units.get(other, Books.WHO)) != 0) return BREATH;
            return units.get(unit, Books.HALL) == units.get(other, Books.HALL) ? 0 : NONE;
        }

        /**
         * Tries every order, the lesser UNITS first, so that of like ones the one that is found first
         * stays; what ends no earlier than the best one is given up. taken: bits of the UNITS that begin already.
         */
        private static void search(Planner p, int placed, int taken, int end) {
            if (placed >= p.many) {
                p.keep(end);
                return;
            }
            for (int unit = 0; unit < p.many; unit++) {
                int begin = (taken >> unit & 1) == 0 ? p.firstBegin(unit, placed, taken) : NONE;
                if (begin == NONE) continue;
                p.order[placed] = unit;
                p.begins[unit] = begin;
                int last = Math.max(end, begin + p.lengths[unit]);
                if (p.bestEnd == NONE || last < p.bestEnd) search(p, placed + 1, taken | 1 << unit, last);
            }
        }

        private void keep(int end) {
            bestEnd = end;
            for (int i = 0; i < many; i++) {
                bestOrder[i] = order[i];
                bestBegins[i] = begins[i];
            }
        }

        /** The first MINUTE at which a UNIT can begin behind the first ones of the order; NONE: there is none. */
        private int firstBegin(int unit, int placed, int taken) {
            int begin = FIRST_BEGIN;
            int ahead = behind[unit];
            if (ahead >= 0 && ahead < many) {
                if ((taken >> ahead & 1) == 0) return NONE;
                begin = Math.max(begin, begins[ahead] + lengths[ahead] + rests[unit]);
            }
            // none of the others can push it twice
            for (int round = 0; round < placed; round++) begin = pushed(unit, begin, placed);
            return begin <= lastBegins[unit] ? begin : NONE;
        }

        private int pushed(int unit, int begin, int placed) {
            int at = begin;
            for (int i = 0; i < placed; i++) {
                int other = order[i];
                int gap = gaps[unit * MOST_UNITS + other];
                int free = begins[other] + lengths[other] + gap;
                if (gap != NONE && at < free && at + lengths[unit] + gap > begins[other]) at = free;
            }
            return at;
        }

        /** When the last UNIT ends; NONE: there is no PLAN. */
        int lastEnd() {
            return bestEnd;
        }

        int beginOf(int unit) {
            return bestEnd != NONE && unit >= 0 && unit < many ? bestBegins[unit] : NONE;
        }

        int unitAt(int i) {
            return bestEnd != NONE && i >= 0 && i < many ? bestOrder[i] : NONE;
        }

        int beginIn(int digits, int unit) {
            if (digits < 0 || unit < 0 || unit >= many) return NONE;
            int rest = digits;
            int taken = 0;
            for (int placed = 0; placed < many; placed++) {
                int next = rest % MOST_UNITS;
                rest /= MOST_UNITS;
                if (next >= many || (taken >> next & 1) != 0) return NONE;
                int begin = firstBegin(next, placed, taken);
                if (begin == NONE) return NONE;
                order[placed] = next;
                begins[next] = begin;
                taken |= 1 << next;
            }
            return rest == 0 ? begins[unit] : NONE;
        }
    }

    /** The buses that bring PERSONS to THE PLAN's UNITS. */
    private static final class Buses {
        private static final int AHEAD = 20;

        /** As many as are busy at once at most: that is when some bus leaves. */
        static int fewest(Books books, Planner planner) {
            if (planner.lastEnd() == NONE) return NONE;
            int fewest = 0;
            for (int unit = 0; unit < books.units.rows(); unit++) {
                fewest = Math.max(fewest, busyAt(books, planner, leaves(books.units, planner, unit)));
            }
            return fewest;
        }

        private static int busyAt(Books books, Planner planner, int minute) {
            int busy = 0;
            for (int unit = 0; unit < books.units.rows(); unit++) {
                int left = leaves(books.units, planner, unit);
                int isBack = left + 2 * way(books.units, unit);
                if (left <= minute && minute < isBack) busy += trips(books, unit);
            }
            return busy;
        }

        private static int leaves(Table units, Planner planner, int unit) {
            return planner.beginOf(unit) - AHEAD - way(units, unit);
        }

        private static int way(Table units, int unit) {
            return 10 + 5 * units.get(unit, Books.HALL);
        }

        private static int trips(Books books, int unit) {
            int persons = Integer.bitCount(books.units.get(unit, Books.WHO));
            int seats = books.seats;
            return seats > 0 ? (persons + seats - 1) / seats : 0;
        }
    }

    /** THE ROOMING, worked out only when ROOMS or GROUPS have changed. */
    private static final class Lodging {
        static final int MOST_ROOMS = 4;
        static final int MOST_GROUPS = 6;

        private static final int DAYS = 20;

        private final int[] beds;
        private final int[] sizes;
        private final int[] nations;
        private final int[] firsts;
        private final int[] lasts;
        // by ROOM and DAY: the PERSONS there, and their NATION
        private final int[] used;
        private final int[] usedBy;
        // by GROUP: the BEDS by DAYS of it and of all behind it
        private final int[] left;
        private final int[] rooms;
        private final int[] bestRooms;
        private int many;
        private int manyRooms;
        private int best;
        private boolean isFresh;

        Lodging() {
            beds = new int[MOST_ROOMS];
            sizes = new int[MOST_GROUPS];
            nations = new int[MOST_GROUPS];
            firsts = new int[MOST_GROUPS];
            lasts = new int[MOST_GROUPS];
            used = new int[MOST_ROOMS * DAYS];
            usedBy = new int[MOST_ROOMS * DAYS];
            left = new int[MOST_GROUPS + 1];
            rooms = new int[MOST_GROUPS];
            bestRooms = new int[MOST_GROUPS];
            many = 0;
            manyRooms = 0;
            best = NONE;
            isFresh = false;
        }

        void forget() {
            isFresh = false;
        }

        void renew(Books books) {
            if (isFresh) return;
            load(books);
            best = NONE;
            search(this, 0, 0);
            isFresh = true;
        }

        private void load(Books books) {
            manyRooms = Math.min(books.rooms.rows(), MOST_ROOMS);
            for (int room = 0; room < manyRooms; room++) beds[room] = books.rooms.get(room, Books.BEDS);
            many = Math.min(books.groups.rows(), MOST_GROUPS);
            left[many] = 0;
            for (int group = many - 1; group >= 0; group--) {
                sizes[group] = books.groups.get(group, Books.MANY);
                nations[group] = books.groups.get(group, Books.GUESTS_NATION);
                firsts[group] = Math.max(0, books.groups.get(group, Books.GUESTS_FROM));
                lasts[group] = Math.min(DAYS - 1, books.groups.get(group, Books.GUESTS_TO));
                left[group] = left[group + 1] + worth(group);
            }
        }

        private int worth(int group) {
            return sizes[group] * (lasts[group] - firsts[group] + 1);
        }

        /**
         * Tries the lesser ROOMS first and none last, so that of like ones the one that is found first
         * stays; what can't come above the best one is given up.
         */
        private static void search(Lodging l, int group, int sum) {
            if (group > l.many || sum + l.left[group] <= l.best) return;
            if (group == l.many) {
                l.keep(sum);
                return;
            }
            for (int room = 0; room < l.manyRooms; room++) {
                if (!l.fits(group, room)) continue;
                l.put(group, room, l.sizes[group]);
                l.rooms[group] = room;
                search(l, group + 1, sum + l.worth(group));
                l.put(group, room, -l.sizes[group]);
            }
            l.rooms[group] = NONE;
            search(l, group + 1, sum);
        }

        private void keep(int sum) {
            best = sum;
            for (int group = 0; group < many; group++) bestRooms[group] = rooms[group];
        }

        private boolean fits(int group, int room) {
            int free = beds[room] - sizes[group];
            if (free < 0) return false;
            int end = room * DAYS + lasts[group];
            for (int at = room * DAYS + firsts[group]; at <= end; at++) {
                if (used[at] > free || used[at] > 0 && usedBy[at] != nations[group]) return false;
            }
            return true;
        }

        /** Puts so many PERSONS of a GROUP into a ROOM; below 0: takes them out again. */
        private void put(int group, int room, int persons) {
            int end = room * DAYS + lasts[group];
            for (int at = room * DAYS + firsts[group]; at <= end; at++) {
                used[at] += persons;
                usedBy[at] = nations[group];
            }
        }

        int bedsByDays() {
            return best;
        }

        int roomOf(int group) {
            return group >= 0 && group < many ? bestRooms[group] : NONE;
        }
    }

    /** RESULTS: each a row of PERSONS, NONE behind the last one, and the bits of those that are STRIPPED. */
    private static final class Podium {
        static final int MOST_PLACES = 5;
        static final int MEDALS = 3;

        private static final int STRIPPED = MOST_PLACES;
        private static final int BASE = 13;

        static boolean tellsResult(int row, int persons) {
            if (row <= 0) return false;
            int rest = row;
            int seen = 0;
            for (int place = 0; place < MOST_PLACES && rest != 0; place++) {
                int person = rest % BASE - 1;
                if (person < 0 || person >= persons || (seen >> person & 1) != 0) return false;
                seen |= 1 << person;
                rest /= BASE;
            }
            return rest == 0;
        }

        static int add(Table results, int row) {
            int result = results.add();
            int rest = row;
            for (int place = 0; place < MOST_PLACES; place++) {
                results.set(result, place, rest % BASE - 1);
                rest /= BASE;
            }
            return result;
        }

        static boolean isIn(Table results, int result, int person) {
            if (!results.has(result) || person < 0) return false;
            for (int place = 0; place < MOST_PLACES; place++) {
                if (results.get(result, place) == person) return true;
            }
            return false;
        }

        static boolean isStripped(Table results, int result, int person) {
            return (results.get(result, STRIPPED) >> person & 1) != 0;
        }

        static void take(Table results, int result, int person) {
            results.set(result, STRIPPED, results.get(result, STRIPPED) | 1 << person);
        }

        /** The place of a PERSON that is in a RESULT, without STRIPPED ones. */
        static int placeOf(Table results, int result, int person) {
            for (int place = 0; place < MOST_PLACES; place++) {
                if (personAt(results, result, place) == person) return place;
            }
            return NONE;
        }

        static int personAt(Table results, int result, int place) {
            if (!results.has(result) || place < 0) return NONE;
            int better = 0;
            for (int i = 0; i < MOST_PLACES; i++) {
                int person = results.get(result, i);
                if (person == NONE || isStripped(results, result, person)) continue;
                if (better == place) return person;
                better++;
            }
            return NONE;
        }

        static int medalsOf(Books books, int nation, int medal) {
            int many = 0;
            for (int result = 0; result < books.results.rows(); result++) {
                int person = personAt(books.results, result, medal);
                if (person != NONE && books.persons.get(person, Books.NATION) == nation) many++;
            }
            return many;
        }

        static int tablePlace(Books books, int nation) {
            int ahead = 0;
            for (int other = 0; other < NATIONS; other++) {
                if (other != nation && isAhead(books, other, nation)) ahead++;
            }
            return ahead;
        }

        private static boolean isAhead(Books books, int nation, int other) {
            for (int medal = 0; medal < MEDALS; medal++) {
                int more = medalsOf(books, nation, medal) - medalsOf(books, other, medal);
                if (more != 0) return more > 0;
            }
            return nation < other;
        }
    }

    /** ACTS of PASSES, and THE TRACE of the latest one. */
    private static final class Acts {
        static final int ACTS = 4;

        private static final int OPEN = 0;
        private static final int END = 1;
        private static final int COUNT = 2;
        private static final int TELL = 3;
        private static final int MOST_TRACED = 50;
        // the KINDS and ACTS of the document need ten at most
        private static final int DEEPEST = 40;

        // by KIND and ACT: the body, or 0
        private static final int[] BODIES = {
            10, 11, 12, 13,
            20, 0, 0, 21,
            0, 0, 30, 0,
            0, 40, 41, 0,
            50, 51, 0, 0,
            61, 0, 0, 60,
        };

        private final int[] traced;
        private int many;
        private int pass;
        private int kind;
        private int day;
        private int number;

        Acts() {
            traced = new int[MOST_TRACED];
            many = 0;
            pass = 0;
            kind = 0;
            day = 0;
            number = 0;
        }

        int bodiesRun() {
            return many;
        }

        int bodyAt(int i) {
            return i >= 0 && i < many && i < traced.length ? traced[i] : NONE;
        }

        int run(Table passes, int actingPass, int act, int x) {
            many = 0;
            pass = actingPass;
            kind = passes.get(pass, Books.KIND);
            day = passes.get(pass, Books.FIRST_DAY);
            number = passes.get(pass, Books.NUMBER);
            return call(this, kind, act, x, 0);
        }

        private static int bodyOf(int kind, int act) {
            int at = kind * ACTS + act;
            return at >= 0 && at < BODIES.length ? BODIES[at] : 0;
        }

        private void note(int body) {
            if (many >= MOST_TRACED || many >= traced.length) return;
            traced[many] = body;
            many++;
        }

        /** Runs the first body for an ACT from a KIND on upwards. */
        private static int call(Acts a, int from, int act, int x, int depth) {
            if (depth > DEEPEST) return 0;
            int at = from;
            for (int step = 0; step < Kinds.KINDS && at != NONE && bodyOf(at, act) == 0; step++) at = Kinds.above(at);
            if (at == NONE) return 0;
            int body = bodyOf(at, act);
            a.note(body);
            return answer(a, body, Kinds.above(at), x, depth + 1);
        }

        private static int own(Acts a, int act, int x, int depth) {
            return call(a, a.kind, act, x, depth);
        }

        private static int answer(Acts a, int body, int above, int x, int depth) {
            switch (body) {
                case 10: return x + a.day;
                case 11: return own(a, OPEN, x, depth) * 2;
                case 12: return x - a.pass;
                case 13: return own(a, END, x, depth) ^ own(a, COUNT, x, depth);
                case 20: return call(a, above, OPEN, x, depth) + a.number;
                case 21: return call(a, above, TELL, x, depth) - 1;
                case 30: return call(a, above, COUNT, x, depth) * 3;
                case 40: return call(a, above, END, x, depth) + own(a, COUNT, 0, depth);
                case 41: return call(a, above, COUNT, x + a.day, depth);
                case 50: return call(a, above, OPEN, x, depth) ^ a.number;
                case 51: return call(a, above, END, x, depth) - own(a, OPEN, 1, depth);
                case 60: return call(a, above, TELL, x + a.pass, depth);
                case 61: return call(a, above, OPEN, x - a.number, depth);
                default: return 0;
            }
        }
    }

    /** A SHEET: numbers of a sort, or missing. */
    private static final class Sheet {
        static final int BYTES = 0;
        static final int SHORTS = 1;
        static final int INTS = 2;

        private final int[] cells;
        private int sort;
        private int many;

        Sheet() {
            cells = new int[MOST_CELLS];
            sort = NONE;
            many = 0;
        }

        static boolean isSort(int sort) {
            return sort >= BYTES && sort <= INTS;
        }

        void remake(int newSort, int n) {
            sort = newSort;
            many = newSort == NONE ? 0 : Math.max(0, Math.min(n, cells.length));
            for (int i = 0; i < cells.length; i++) cells[i] = 0;
        }

        boolean isMissing() {
            return sort == NONE;
        }

        /** Why it can't be taken for one of a sort, as STATUS tells it. */
        int whyNotOf(int wanted) {
            if (isMissing()) return NOTHING_THERE;
            return sort == wanted ? DONE : ANOTHER_SORT;
        }

        boolean has(int i) {
            return i >= 0 && i < many;
        }

        /** Whether n numbers stand there from a place on; none stand also right behind the last one. */
        boolean hasRun(int from, int n) {
            return from >= 0 && n >= 0 && n <= many && from <= many - n;
        }

        int get(int i) {
            return has(i) ? cells[i] : 0;
        }

        void set(int i, int value) {
            if (has(i)) cells[i] = sort == BYTES ? (byte) value : value;
        }

        int sum(int from, int n) {
            int sum = 0;
            for (int i = 0; i < n && i < MOST_CELLS; i++) sum += get(from + i);
            return sum;
        }
    }
}
