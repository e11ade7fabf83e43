// A roster by fair turns: ../shared/DOC.md tells what each call does, README.md how to use it.
public final class FairTurns {
  public static final int NONE = -1, BAD = -2, STATE = -3, FULL = -4, NOT = -7;

  private static final int PEOPLE = 8, DUTIES = 24, KINDS = 4, RANKS = 4, RULES = 8;
  private static final int TAPE = 150, PAPER = 168, LISTS = 4, ROW = 30;
  private static final int LAST_DAY = 365, MOST_PAST = 999, MOST_DISLIKE = 9, MOST_TURNS = 24;
  private static final int OPEN = -1, NOBODY = -5, NOTHING = -11, BEYOND = -13, BELOW = -14;
  private static final long LEAST_LONG = 1L << 63;
  private static final int CHIEF = 2, GUEST = 3, HOLIDAY = 0, EVE = 1;
  private static final int SPAN = 0, SORT = 1, BEAT = 2;
  private static final int[] BURDENS = {5, 3, 2, 1};
  private static final char[] LETTERS = {'h', 'e', 'n', 'p'};

  private final Book book;
  private final Book kept;
  private boolean isKept;
  private final Loads loads;
  private final Paths paths;
  private final Rings rings;
  private final Tape tape;
  private final Texts texts;
  private final Condition condition;
  private final Paper sheet;
  private final Rows rows;

  public FairTurns() {
    Book newBook = new Book();
    Tape newTape = new Tape();
    book = newBook;
    kept = new Book();
    isKept = false;
    loads = new Loads(newBook);
    paths = new Paths(newBook);
    rings = new Rings(newBook);
    tape = newTape;
    texts = new Texts(newBook, newTape);
    condition = new Condition(newBook, newTape);
    sheet = new Paper();
    rows = new Rows();
  }

  // ---- people

  public int comes(int rank) {
    if (rank < 0 || rank >= RANKS) return NONE;
    if (book.people >= PEOPLE) return FULL;
    return book.addOne(rank);
  }

  public int goes(int one) {
    if (!book.isOne(one)) return NONE;
    if (!book.isHere(one)) return STATE;
    book.leave(one);
    return book.countHere();
  }

  public int past(int one, int kind, int v) {
    if (!book.isOne(one) || !isKind(kind)) return NONE;
    if (v < 0 || v > MOST_PAST) return BAD;
    int was = book.pastOf(one, kind);
    book.putPast(one, kind, v);
    return was;
  }

  public int of(int one, int what) {
    if (!book.isOne(one)) return NONE;
    if (isKindAfter(10, what)) return book.pastOf(one, what - 10);
    if (isKindAfter(20, what)) return book.headOf(one, what - 20);
    if (isKindAfter(30, what)) return book.loadOf(one, what - 30);
    switch (what) {
      case 0: return book.rankOf(one);
      case 1: return book.isHere(one) ? 1 : 0;
      case 2: return book.burdenOf(one);
      case 3: return book.countHeldBy(one);
      case 4: return book.countRulesOf(one);
      default: return NONE;
    }
  }

  public int neutral(int kind) {
    return isKind(kind) ? book.neutralPast(kind) : NONE;
  }

  public int rules(int one) {
    if (!book.isOne(one)) return NONE;
    if (!book.isHere(one)) return STATE;
    texts.readRules(one);
    if (tape.isFaulty()) return faultAnswer();
    int came = texts.giveRules(one);
    book.openWhatMayNotBeHeldBy(one);
    tape.wipe();
    return came;
  }

  public int frees(int one) {
    return book.isOne(one) ? book.dropRules(one) : NONE;
  }

  // ---- duties

  public int duty(int day, int kind) {
    if (!isKind(kind)) return NONE;
    if (day < 0 || day > LAST_DAY) return BAD;
    if (book.duties >= DUTIES) return FULL;
    return book.addDuty(day, kind);
  }

  public int calendar() {
    texts.readCalendar();
    if (tape.isFaulty()) return faultAnswer();
    int came = texts.addDuties();
    tape.wipe();
    return came;
  }

  public int dutyOf(int duty, int what) {
    if (!book.isDuty(duty)) return NONE;
    switch (what) {
      case 0: return book.dayOf(duty);
      case 1: return book.kindOf(duty);
      case 2: return orNobody(book.holderOf(duty));
      case 3: return book.placeOf(duty);
      case 4: return book.countWhoMayHold(duty);
      default: return NONE;
    }
  }

  public int stands(int i) {
    return book.isDuty(i) ? book.dutyAt(i) : NONE;
  }

  public int may(int one, int duty) {
    if (!book.isOne(one) || !book.isDuty(duty)) return NONE;
    return book.mayHold(one, duty) ? 1 : 0;
  }

  public int dislike(int one, int duty, int v) {
    if (!book.isOne(one) || !book.isDuty(duty)) return NONE;
    if (v < 0 || v > MOST_DISLIKE) return BAD;
    int was = book.dislikeOf(one, duty);
    book.putDislike(one, duty, v);
    return was;
  }

  public int hold(int duty, int one) {
    if (!book.isDuty(duty) || !book.isOne(one)) return NONE;
    if (!book.mayHold(one, duty)) return NOT;
    int was = book.holderOf(duty);
    book.putHolder(duty, one);
    return orNobody(was);
  }

  public int open(int duty) {
    if (!book.isDuty(duty)) return NONE;
    int was = book.holderOf(duty);
    if (was == OPEN) return STATE;
    book.putHolder(duty, OPEN);
    return was;
  }

  // ---- sharing out

  public int fill(int kind) {
    if (kind != -1 && !isKind(kind)) return NONE;
    if (kind != -1) return paths.fillKind(kind);
    int filled = 0;
    for (int each = 0; each < KINDS; each++) filled += paths.fillKind(each);
    return filled;
  }

  public int load(int kind, int i) {
    if (!isKind(kind) || i < 0 || i >= book.countHere()) return NONE;
    return loads.placeOfVector(kind, i);
  }

  public int lesser(int kind, int what) {
    if (!isKind(kind) || what < 0 || what > 2) return NONE;
    boolean can = paths.findLesser(kind);
    if (what == 0) return can ? 1 : 0;
    if (!can) return NOBODY;
    return what == 1 ? paths.giver() : paths.taker();
  }

  public int eases(int kind) {
    return isKind(kind) ? paths.easeKind(kind) : NONE;
  }

  public int disliked() {
    int sum = 0;
    for (int duty = 0; duty < book.duties; duty++) sum += book.dislikeOf(book.holderOf(duty), duty);
    return sum;
  }

  public int ring(int what) {
    if (!rings.findBest()) return NOBODY;
    if (what == 0) return rings.gain();
    return what == 1 ? rings.size() : rings.dutyAt(what - 10);
  }

  public int turn(int n) {
    if (n < 1 || n > MOST_TURNS) return BAD;
    int done = 0;
    while (done < n && rings.findBest()) {
      rings.handOn();
      done++;
    }
    return done;
  }

  // ---- years and audits

  public int close() {
    if (book.countOpen() > 0) return STATE;
    book.closeYear();
    return book.year;
  }

  public int audit(int kind, int what) {
    if (!isKind(kind)) return NONE;
    switch (what) {
      case 0: return loads.spread(kind);
      case 1: return loads.envy(kind);
      case 2: return loads.sum(kind);
      default: return NONE;
    }
  }

  public int next(int kind, int i) {
    if (!isKind(kind) || i < 0 || i >= book.countHere()) return NONE;
    return loads.placeOfNext(kind, i);
  }

  public int near() {
    int twos = 0;
    for (int duty = 0; duty < book.duties; duty++) {
      for (int other = duty + 1; other < book.duties; other++) {
        if (book.areClose(duty, other)) twos++;
      }
    }
    return twos;
  }

  public int heaviest() {
    int heaviest = NOBODY;
    for (int one = 0; one < book.people; one++) {
      if (!book.isHere(one)) continue;
      if (heaviest == NOBODY || book.burdenOf(one) > book.burdenOf(heaviest)) heaviest = one;
    }
    return heaviest;
  }

  // ---- texts

  public int feed(int letter) {
    if (letter < 1 || letter > 127) return BAD;
    return tape.add(letter) ? tape.size() : FULL;
  }

  public int clear() {
    return tape.wipe();
  }

  public int pick() {
    int bits = condition.pickDuties();
    if (tape.isFaulty()) return faultAnswer();
    tape.wipe();
    return bits;
  }

  public int openAll() {
    int bits = condition.pickDuties();
    if (tape.isFaulty()) return faultAnswer();
    tape.wipe();
    int opened = 0;
    for (int duty = 0; duty < book.duties; duty++) {
      if ((bits >> duty & 1) == 0 || book.holderOf(duty) == OPEN) continue;
      book.putHolder(duty, OPEN);
      opened++;
    }
    return opened;
  }

  public int judge() {
    if (!readsRoster()) return STATE;
    if (tape.isFaulty()) return faultAnswer();
    tape.wipe();
    int wrong = texts.firstThatMayNotBe();
    return wrong != NONE ? wrong : judgeLoads(texts.planned());
  }

  public int roster() {
    if (!readsRoster()) return STATE;
    if (tape.isFaulty()) return faultAnswer();
    tape.wipe();
    if (texts.firstThatMayNotBe() != NONE) return NOT;
    texts.holdAsPlanned();
    return book.duties - book.countOpen();
  }

  public int spell() {
    return sheet.spellRoster(book);
  }

  public int paper(int i) {
    return sheet.byteAt(i);
  }

  public int told(int what) {
    if (isKindAfter(10, what)) return book.countOfKind(what - 10);
    if (isKindAfter(20, what)) return book.countOpenBy(book.holder, what - 20);
    switch (what) {
      case 0: return book.people;
      case 1: return book.countHere();
      case 2: return book.duties;
      case 3: return book.countOpen();
      case 4: return book.year;
      case 5: return tape.size();
      case 6: return sheet.size();
      case 7: return book.countDays();
      case 8: return book.dayAt(0);
      case 9: return book.dayAt(book.duties - 1);
      default: return NONE;
    }
  }

  // ---- lists

  public int list(int list, int n) {
    if (!rows.isRow(list)) return NONE;
    if (n > ROW) return BAD;
    if (n < 0) return BELOW;
    rows.begin(list, n);
    return 1;
  }

  public int set(int list, int i, int v) {
    if (!rows.isRow(list)) return NONE;
    if (!rows.isHeld(list)) return NOTHING;
    return rows.put(list, i, v) ? 1 : BEYOND;
  }

  public long get(int list, int i) {
    return rows.at(list, i);
  }

  public int lay(int list, int i) {
    if (!rows.isRow(list)) return NONE;
    if (!rows.isHeld(list)) return NOTHING;
    int laid = 0;
    // A place below 0 takes nothing, even though a later duty's place would be there.
    while (i >= 0 && laid < book.duties && rows.put(list, i + laid, book.holderOf(book.dutyAt(laid)))) laid++;
    return laid < book.duties ? BEYOND : laid;
  }

  // ---- the image

  public int image() {
    kept.copyFrom(book);
    isKept = true;
    return book.people;
  }

  public int undo() {
    if (!isKept) return STATE;
    book.copyFrom(kept);
    return book.people;
  }

  // ---- what several calls share

  private static boolean isKind(int kind) {
    return kind >= 0 && kind < KINDS;
  }

  private static boolean isKindAfter(int first, int what) {
    return what >= first && what < first + KINDS;
  }

  private static int orNobody(int holder) {
    return holder == OPEN ? NOBODY : holder;
  }

  private int faultAnswer() {
    int answer = -100 - tape.fault();
    tape.wipe();
    return answer;
  }

  private boolean readsRoster() {
    if (book.duties == 0) {
      tape.wipe();
      return false;
    }
    texts.readRoster();
    return true;
  }

  private int judgeLoads(int[] holders) {
    for (int kind = 0; kind < KINDS; kind++) {
      if (book.countOpenBy(holders, kind) > book.countOpenBy(book.holder, kind)) return 100 + kind;
    }
    for (int kind = 0; kind < KINDS; kind++) {
      int order = loads.compareWithNow(holders, kind);
      if (order != 0) return (order < 0 ? 200 : 300) + kind;
    }
    return NOBODY;
  }

  // What THE IMAGE keeps: people with their rules, duties with their holders, the year.
  private static final class Book {
    int people;
    int duties;
    int year;
    final int[] holder = new int[DUTIES];
    private final int[] rank = new int[PEOPLE];
    private final boolean[] here = new boolean[PEOPLE];
    private final int[] past = new int[PEOPLE * KINDS];
    private final int[] ruleCount = new int[PEOPLE];
    private final int[] ruleSort = new int[PEOPLE * RULES];
    private final int[] ruleFirst = new int[PEOPLE * RULES];
    private final int[] ruleSecond = new int[PEOPLE * RULES];
    private final int[] day = new int[DUTIES];
    private final int[] kind = new int[DUTIES];
    private final int[] standing = new int[DUTIES];
    private final int[] dislikes = new int[PEOPLE * DUTIES];

    boolean isOne(int one) {
      return one >= 0 && one < people && one < PEOPLE;
    }

    boolean isHere(int one) {
      return one >= 0 && one < PEOPLE && here[one];
    }

    boolean isDuty(int duty) {
      return duty >= 0 && duty < duties && duty < DUTIES;
    }

    int countHere() {
      int count = 0;
      for (int one = 0; one < people; one++) {
        if (isHere(one)) count++;
      }
      return count;
    }

    int addOne(int rankOfOne) {
      int one = people;
      if (one < 0 || one >= PEOPLE) return FULL;
      rank[one] = rankOfOne;
      ruleCount[one] = 0;
      for (int each = 0; each < KINDS; each++) past[one * KINDS + each] = neutralPast(each);
      for (int duty = 0; duty < DUTIES; duty++) dislikes[one * DUTIES + duty] = 0;
      here[one] = true;
      people++;
      return one;
    }

    void leave(int one) {
      if (!isOne(one)) return;
      here[one] = false;
      openWhatMayNotBeHeldBy(one);
    }

    void openWhatMayNotBeHeldBy(int one) {
      for (int duty = 0; duty < duties; duty++) {
        if (holderOf(duty) == one && !mayHold(one, duty)) putHolder(duty, OPEN);
      }
    }

    int neutralPast(int ofKind) {
      int sum = 0;
      int count = 0;
      for (int one = 0; one < people; one++) {
        if (!isHere(one)) continue;
        sum += pastOf(one, ofKind);
        count++;
      }
      return count == 0 ? 0 : sum / count;
    }

    int rankOf(int one) {
      return isOne(one) ? rank[one] : NONE;
    }

    int pastOf(int one, int ofKind) {
      return isOne(one) && isKind(ofKind) ? past[one * KINDS + ofKind] : 0;
    }

    void putPast(int one, int ofKind, int value) {
      if (isOne(one) && isKind(ofKind)) past[one * KINDS + ofKind] = value;
    }

    int headOf(int one, int ofKind) {
      if (!isOne(one)) return 0;
      if (rank[one] == GUEST) return 2;
      return rank[one] == CHIEF && (ofKind == HOLIDAY || ofKind == EVE) ? 1 : 0;
    }

    int loadOf(int one, int ofKind) {
      return loadBy(holder, one, ofKind);
    }

    int loadBy(int[] holders, int one, int ofKind) {
      return pastOf(one, ofKind) + headOf(one, ofKind) + countHeld(holders, one, ofKind);
    }

    int countHeld(int[] holders, int one, int ofKind) {
      int count = 0;
      for (int duty = 0; duty < duties && duty < kind.length && duty < holders.length; duty++) {
        if (kind[duty] == ofKind && holders[duty] == one) count++;
      }
      return count;
    }

    int countHeldBy(int one) {
      int count = 0;
      for (int each = 0; each < KINDS; each++) count += countHeld(holder, one, each);
      return count;
    }

    int burdenOf(int one) {
      int burden = 0;
      for (int each = 0; each < KINDS; each++) {
        burden += BURDENS[each] * (pastOf(one, each) + countHeld(holder, one, each));
      }
      return burden;
    }

    int countRulesOf(int one) {
      return isOne(one) ? ruleCount[one] : 0;
    }

    void addRule(int one, int sort, int first, int second) {
      int count = countRulesOf(one);
      if (!isOne(one) || count < 0 || count >= RULES) return;
      int place = one * RULES + count;
      ruleSort[place] = sort;
      ruleFirst[place] = first;
      ruleSecond[place] = second;
      ruleCount[one] = count + 1;
    }

    int dropRules(int one) {
      if (!isOne(one)) return 0;
      int had = ruleCount[one];
      ruleCount[one] = 0;
      return had;
    }

    boolean mayHold(int one, int duty) {
      if (!isHere(one) || !isDuty(duty)) return false;
      for (int rule = 0; rule < ruleCount[one] && rule < RULES; rule++) {
        if (isAgainst(one * RULES + rule, day[duty], kind[duty])) return false;
      }
      return true;
    }

    private boolean isAgainst(int place, int onDay, int ofKind) {
      if (place < 0 || place >= ruleSort.length) return false;
      int first = ruleFirst[place];
      int second = ruleSecond[place];
      switch (ruleSort[place]) {
        case SPAN: return onDay >= first && onDay <= second;
        case SORT: return ofKind == first;
        case BEAT: return first > 0 && onDay % first != second;
        default: return false;
      }
    }

    int countWhoMayHold(int duty) {
      int count = 0;
      for (int one = 0; one < people; one++) {
        if (mayHold(one, duty)) count++;
      }
      return count;
    }

    int addDuty(int onDay, int ofKind) {
      int duty = duties;
      if (duty < 0 || duty >= DUTIES) return FULL;
      day[duty] = onDay;
      kind[duty] = ofKind;
      holder[duty] = OPEN;
      // The newest has the greatest number: it stands behind all of its day.
      int place = duty;
      while (place > 0 && dayAt(place - 1) > onDay) {
        standing[place] = standing[place - 1];
        place--;
      }
      standing[place] = duty;
      duties++;
      return duty;
    }

    int dayOf(int duty) {
      return isDuty(duty) ? day[duty] : NONE;
    }

    int kindOf(int duty) {
      return isDuty(duty) ? kind[duty] : NONE;
    }

    int holderOf(int duty) {
      return isDuty(duty) ? holder[duty] : OPEN;
    }

    void putHolder(int duty, int one) {
      if (isDuty(duty)) holder[duty] = one;
    }

    int dutyAt(int place) {
      return isDuty(place) ? standing[place] : NONE;
    }

    int dayAt(int place) {
      return dayOf(dutyAt(place));
    }

    int placeOf(int duty) {
      for (int place = 0; place < duties; place++) {
        if (dutyAt(place) == duty) return place;
      }
      return NONE;
    }

    int countOfKind(int ofKind) {
      int count = 0;
      for (int duty = 0; duty < duties; duty++) {
        if (kindOf(duty) == ofKind) count++;
      }
      return count;
    }

    int countOpenBy(int[] holders, int ofKind) {
      return countHeld(holders, OPEN, ofKind);
    }

    int countOpen() {
      return countHeldBy(OPEN);
    }

    int countDays() {
      int count = 0;
      for (int place = 0; place < duties; place++) {
        if (place == 0 || dayAt(place) != dayAt(place - 1)) count++;
      }
      return count;
    }

    boolean areClose(int duty, int other) {
      int one = holderOf(duty);
      return one != OPEN && one == holderOf(other) && Math.abs(dayOf(duty) - dayOf(other)) <= 1;
    }

    int dislikeOf(int one, int duty) {
      return isOne(one) && isDuty(duty) ? dislikes[one * DUTIES + duty] : 0;
    }

    void putDislike(int one, int duty, int value) {
      if (isOne(one) && isDuty(duty)) dislikes[one * DUTIES + duty] = value;
    }

    void closeYear() {
      for (int one = 0; one < people; one++) {
        for (int each = 0; each < KINDS; each++) {
          int grown = pastOf(one, each) + countHeld(holder, one, each);
          putPast(one, each, Math.min(grown, MOST_PAST));
        }
      }
      for (int place = 0; place < dislikes.length; place++) dislikes[place] = 0;
      duties = 0;
      year++;
    }

    void copyFrom(Book other) {
      people = other.people;
      duties = other.duties;
      year = other.year;
      for (int one = 0; one < PEOPLE; one++) here[one] = other.here[one];
      copyRow(other.holder, holder);
      copyRow(other.rank, rank);
      copyRow(other.past, past);
      copyRow(other.ruleCount, ruleCount);
      copyRow(other.ruleSort, ruleSort);
      copyRow(other.ruleFirst, ruleFirst);
      copyRow(other.ruleSecond, ruleSecond);
      copyRow(other.day, day);
      copyRow(other.kind, kind);
      copyRow(other.standing, standing);
      copyRow(other.dislikes, dislikes);
    }

    private static void copyRow(int[] from, int[] to) {
      for (int place = 0; place < from.length && place < to.length; place++) to[place] = from[place];
    }
  }

  // Loads of those who are here, in order.
  private static final class Loads {
    private final Book book;
    private final int[] now = new int[PEOPLE];
    private final int[] planned = new int[PEOPLE];
    private final int[] turns = new int[PEOPLE];

    Loads(Book ofBook) {
      book = ofBook;
    }

    int placeOfVector(int kind, int i) {
      int count = makeVector(now, book.holder, kind);
      return i >= 0 && i < count && i < now.length ? now[i] : NONE;
    }

    // Below 0, if the vector by those holders is lesser than now; above 0, if greater.
    int compareWithNow(int[] holders, int kind) {
      int count = makeVector(now, book.holder, kind);
      makeVector(planned, holders, kind);
      for (int place = 0; place < count && place < PEOPLE; place++) {
        if (planned[place] != now[place]) return planned[place] < now[place] ? -1 : 1;
      }
      return 0;
    }

    private int makeVector(int[] row, int[] holders, int kind) {
      int count = 0;
      for (int one = 0; one < book.people && count < row.length; one++) {
        if (!book.isHere(one)) continue;
        insertFalling(row, count, book.loadBy(holders, one, kind));
        count++;
      }
      return count;
    }

    private static void insertFalling(int[] row, int count, int load) {
      if (count < 0 || count >= row.length) return;
      int place = count;
      while (place > 0 && row[place - 1] < load) {
        row[place] = row[place - 1];
        place--;
      }
      row[place] = load;
    }

    int spread(int kind) {
      int count = makeVector(now, book.holder, kind);
      return count > 0 && count <= now.length ? now[0] - now[count - 1] : 0;
    }

    int envy(int kind) {
      int count = makeVector(now, book.holder, kind);
      int twos = 0;
      for (int more = 0; more < count && more < PEOPLE; more++) {
        for (int less = more + 1; less < count && less < PEOPLE; less++) {
          if (now[more] - now[less] >= 2) twos++;
        }
      }
      return twos;
    }

    int sum(int kind) {
      int count = makeVector(now, book.holder, kind);
      int sum = 0;
      for (int place = 0; place < count && place < PEOPLE; place++) sum += now[place];
      return sum;
    }

    int placeOfNext(int kind, int i) {
      int count = 0;
      for (int one = 0; one < book.people && count < PEOPLE; one++) {
        if (!book.isHere(one)) continue;
        insertTurn(count, one, kind);
        count++;
      }
      return i >= 0 && i < count && i < turns.length ? turns[i] : NONE;
    }

    private void insertTurn(int count, int one, int kind) {
      if (count < 0 || count >= turns.length) return;
      int place = count;
      while (place > 0 && isNextAheadOf(one, turns[place - 1], kind)) {
        turns[place] = turns[place - 1];
        place--;
      }
      turns[place] = one;
    }

    // Like ones stay by numbers, as they are inserted by numbers.
    private boolean isNextAheadOf(int one, int other, int kind) {
      int load = book.loadOf(one, kind);
      int otherLoad = book.loadOf(other, kind);
      return load != otherLoad ? load < otherLoad : book.burdenOf(one) < book.burdenOf(other);
    }
  }

  // THE PATH of a kind, and what is shifted along it.
  private static final class Paths {
    // Each easing lessens the sum of the loads' squares; no run comes near so many.
    private static final int MOST_EASINGS = 1000000;

    private final Book book;
    private final int[] met = new int[PEOPLE];
    private final int[] metBy = new int[PEOPLE];
    private final boolean[] isMet = new boolean[PEOPLE];
    private int metCount;
    private int from;
    private int to;

    Paths(Book ofBook) {
      book = ofBook;
      metCount = 0;
      from = NOBODY;
      to = NOBODY;
    }

    int giver() {
      return from;
    }

    int taker() {
      return to;
    }

    int fillKind(int kind) {
      int filled = 0;
      for (int place = 0; place < book.duties; place++) {
        int duty = book.dutyAt(place);
        if (book.kindOf(duty) != kind || book.holderOf(duty) != OPEN) continue;
        forget();
        meetWhoMayHold(duty);
        goOn(kind);
        if (metCount == 0) continue;
        shiftTo(leastMet(kind));
        filled++;
      }
      return filled;
    }

    int easeKind(int kind) {
      int times = 0;
      while (times < MOST_EASINGS && findLesser(kind)) {
        shiftTo(to);
        times++;
      }
      return times;
    }

    // Leaves the path from the giver behind, so that the taker can be shifted to.
    boolean findLesser(int kind) {
      for (int one = 0; one < book.people; one++) {
        if (book.countHeld(book.holder, one, kind) == 0) continue;
        forget();
        meet(one, NONE);
        goOn(kind);
        int least = leastMet(kind);
        if (book.loadOf(least, kind) > book.loadOf(one, kind) - 2) continue;
        from = one;
        to = least;
        return true;
      }
      from = NOBODY;
      to = NOBODY;
      return false;
    }

    private void forget() {
      metCount = 0;
      for (int one = 0; one < PEOPLE; one++) isMet[one] = false;
    }

    private void goOn(int kind) {
      for (int step = 0; step < metCount && step < PEOPLE; step++) {
        for (int duty = 0; duty < book.duties; duty++) {
          if (book.kindOf(duty) == kind && book.holderOf(duty) == met[step]) meetWhoMayHold(duty);
        }
      }
    }

    private void meetWhoMayHold(int duty) {
      for (int one = 0; one < book.people; one++) {
        if (book.mayHold(one, duty)) meet(one, duty);
      }
    }

    private void meet(int one, int byDuty) {
      if (!book.isOne(one) || isMet[one] || metCount < 0 || metCount >= PEOPLE) return;
      isMet[one] = true;
      metBy[one] = byDuty;
      met[metCount] = one;
      metCount++;
    }

    private int leastMet(int kind) {
      int least = NONE;
      for (int step = 0; step < metCount && step < PEOPLE; step++) {
        int one = met[step];
        if (least == NONE || book.loadOf(one, kind) < book.loadOf(least, kind)) least = one;
      }
      return least;
    }

    private void shiftTo(int last) {
      int one = last;
      for (int step = 0; step < PEOPLE && book.isOne(one); step++) {
        int duty = metBy[one];
        if (!book.isDuty(duty)) return;
        int held = book.holderOf(duty);
        book.putHolder(duty, one);
        one = held;
      }
    }
  }

  // BEST RING: rows of held duties of one kind, the least first, each handed on to the holder of the one behind it.
  private static final class Rings {
    private static final int LONGEST = 4;

    private final Book book;
    private final int[] held = new int[DUTIES];
    private final int[] holderBits = new int[DUTIES];
    private final int[] costs = new int[DUTIES * DUTIES];
    private final int[] row = new int[LONGEST];
    private final int[] best = new int[LONGEST];
    private int heldCount;
    private int mostCost;
    private int bestSize;
    private int bestGain;

    Rings(Book ofBook) {
      book = ofBook;
      heldCount = 0;
      mostCost = 0;
      bestSize = 0;
      bestGain = 0;
    }

    int gain() {
      return bestGain;
    }

    int size() {
      return bestSize;
    }

    int dutyAt(int place) {
      return place >= 0 && place < bestSize && place < LONGEST ? best[place] : NONE;
    }

    boolean findBest() {
      bestSize = 0;
      bestGain = 0;
      for (int kind = 0; kind < KINDS; kind++) {
        noteHeld(kind);
        noteCosts();
        for (int first = 0; first < heldCount && first < DUTIES; first++) {
          row[0] = first;
          grow(1, costOf(first, first), holderBits[first]);
        }
      }
      return bestSize > 0;
    }

    private void noteHeld(int kind) {
      heldCount = 0;
      for (int duty = 0; duty < book.duties && heldCount < DUTIES; duty++) {
        int one = book.holderOf(duty);
        if (book.kindOf(duty) != kind || one == OPEN) continue;
        held[heldCount] = duty;
        holderBits[heldCount] = 1 << one;
        heldCount++;
      }
    }

    // What the holder of one dislikes another; NONE: it may not hold it. The rows ask this again and again.
    private void noteCosts() {
      mostCost = 0;
      for (int from = 0; from < heldCount && from < DUTIES; from++) {
        int one = book.holderOf(held[from]);
        for (int to = 0; to < heldCount && to < DUTIES; to++) {
          boolean can = book.mayHold(one, held[to]);
          costs[from * DUTIES + to] = can ? book.dislikeOf(one, held[to]) : NONE;
        }
        mostCost = Math.max(mostCost, costs[from * DUTIES + from]);
      }
    }

    private int costOf(int from, int to) {
      boolean isThere = from >= 0 && from < DUTIES && to >= 0 && to < DUTIES;
      return isThere ? costs[from * DUTIES + to] : NONE;
    }

    // Rows grow in their order, so that of a kind's like rings of one size the first found is the best.
    private void grow(int size, int gain, int holders) {
      if (size < 1 || size > LONGEST) return;
      if (size > 1) tryRing(size, gain);
      // Each more duty gains at most what is disliked most.
      int bound = gain + (LONGEST - size) * mostCost;
      if (size < LONGEST && bound > 0 && bound >= bestGain) growByEach(size, gain, holders);
    }

    private void growByEach(int size, int gain, int holders) {
      if (size < 1 || size >= LONGEST) return;
      int last = row[size - 1];
      for (int more = row[0] + 1; more < heldCount && more < DUTIES; more++) {
        int cost = costOf(more, last);
        if ((holders & holderBits[more]) != 0 || cost == NONE) continue;
        row[size] = more;
        grow(size + 1, gain + costOf(more, more) - cost, holders | holderBits[more]);
      }
    }

    private void tryRing(int size, int gainOfRow) {
      if (size < 2 || size > LONGEST) return;
      int cost = costOf(row[0], row[size - 1]);
      int gain = gainOfRow - cost;
      if (cost == NONE || gain <= 0 || !isBetter(gain, size)) return;
      bestGain = gain;
      bestSize = size;
      for (int place = 0; place < size; place++) best[place] = dutyOfRow(place);
    }

    private boolean isBetter(int gain, int size) {
      if (gain != bestGain) return gain > bestGain;
      return size != bestSize ? size < bestSize : dutyOfRow(0) < best[0];
    }

    private int dutyOfRow(int place) {
      if (place < 0 || place >= LONGEST) return NONE;
      return row[place] >= 0 && row[place] < DUTIES ? held[row[place]] : NONE;
    }

    void handOn() {
      if (bestSize < 2 || bestSize > LONGEST) return;
      int first = book.holderOf(best[0]);
      for (int place = 1; place < bestSize; place++) {
        book.putHolder(best[place - 1], book.holderOf(best[place]));
      }
      book.putHolder(best[bestSize - 1], first);
    }
  }

  // THE TAPE, and what is read from it byte by byte up to the first fault.
  private static final class Tape {
    private static final int MOST_FIGURES = 3;

    private final int[] bytes = new int[TAPE];
    private int size;
    private int at;
    private int fault;

    Tape() {
      size = 0;
      at = 0;
      fault = NONE;
    }

    int size() {
      return size;
    }

    boolean add(int letter) {
      if (size < 0 || size >= TAPE) return false;
      bytes[size] = letter;
      size++;
      return true;
    }

    int wipe() {
      int had = size;
      size = 0;
      return had;
    }

    void start() {
      at = 0;
      fault = NONE;
    }

    int at() {
      return at;
    }

    int fault() {
      return fault;
    }

    boolean isFaulty() {
      return fault != NONE;
    }

    // What is behind a fault is never read, so the first fault is that of the least place.
    void fail(int place) {
      if (fault == NONE) fault = place;
    }

    // 0 behind the last byte: no byte is 0.
    private int byteHere() {
      return at >= 0 && at < size && at < TAPE ? bytes[at] : 0;
    }

    boolean takesIf(int letter) {
      if (fault != NONE || byteHere() != letter) return false;
      at++;
      return true;
    }

    void take(int letter) {
      if (!takesIf(letter)) fail(at);
    }

    void end() {
      if (byteHere() != 0) fail(at);
    }

    // Whether ; and one more part follow; otherwise the text must be at its end.
    boolean takesPart() {
      if (takesIf(';')) return true;
      end();
      return false;
    }

    int takeFigure() {
      int figure = byteHere() - '0';
      if (figure < 0 || figure > 9) {
        fail(at);
        return NONE;
      }
      at++;
      return figure;
    }

    // A number that is missing and one that may not be have the same place: where it begins.
    int takeNumber(int least, int most) {
      int begin = at;
      int number = 0;
      for (int figures = 0; figures < MOST_FIGURES; figures++) {
        int figure = byteHere() - '0';
        if (figure < 0 || figure > 9) break;
        number = number * 10 + figure;
        at++;
      }
      if (at == begin || number < least || number > most) fail(begin);
      return number;
    }

    int takeKind() {
      for (int kind = 0; kind < KINDS; kind++) {
        if (takesIf(LETTERS[kind])) return kind;
      }
      fail(at);
      return NONE;
    }

    // Goes behind all letters a .. z that stand here.
    void passWord() {
      for (int step = 0; step < TAPE && byteHere() >= 'a' && byteHere() <= 'z'; step++) at++;
    }

    boolean isWordFrom(int begin, String word) {
      if (begin < 0 || at > TAPE || at - begin != word.length()) return false;
      for (int place = 0; place < word.length(); place++) {
        if (bytes[begin + place] != word.charAt(place)) return false;
      }
      return true;
    }
  }

  // RULES, CALENDARS and ROSTERS: read whole first, as a text with a fault does nothing.
  private static final class Texts {
    private final Book book;
    private final Tape tape;
    private final int[] sorts = new int[RULES];
    private final int[] firsts = new int[RULES];
    private final int[] seconds = new int[RULES];
    private final int[] days = new int[DUTIES];
    private final int[] kinds = new int[DUTIES];
    private final int[] plan = new int[DUTIES];
    private int count;

    Texts(Book ofBook, Tape ofTape) {
      book = ofBook;
      tape = ofTape;
      count = 0;
    }

    void readRules(int one) {
      int room = RULES - book.countRulesOf(one);
      tape.start();
      for (int part = 0; part < room && part < RULES; part++) {
        readRule(part);
        count = part + 1;
        if (tape.isFaulty() || !tape.takesPart()) return;
      }
      tape.fail(tape.at());
    }

    private void readRule(int place) {
      if (place < 0 || place >= RULES) return;
      if (tape.takesIf('d')) {
        sorts[place] = SPAN;
        firsts[place] = tape.takeNumber(0, LAST_DAY);
        tape.take('-');
        seconds[place] = tape.takeNumber(firsts[place], LAST_DAY);
      } else if (tape.takesIf('k')) {
        sorts[place] = SORT;
        firsts[place] = tape.takeKind();
        seconds[place] = 0;
      } else {
        tape.take('r');
        sorts[place] = BEAT;
        firsts[place] = tape.takeNumber(2, 9);
        tape.take(':');
        seconds[place] = tape.takeNumber(0, firsts[place] - 1);
      }
    }

    int giveRules(int one) {
      for (int place = 0; place < count && place < RULES; place++) {
        book.addRule(one, sorts[place], firsts[place], seconds[place]);
      }
      return count;
    }

    void readCalendar() {
      int room = DUTIES - book.duties;
      tape.start();
      for (int part = 0; part < room && part < DUTIES; part++) {
        days[part] = tape.takeNumber(0, LAST_DAY);
        kinds[part] = tape.takeKind();
        count = part + 1;
        if (tape.isFaulty() || !tape.takesPart()) return;
      }
      tape.fail(tape.at());
    }

    int addDuties() {
      for (int place = 0; place < count && place < DUTIES; place++) book.addDuty(days[place], kinds[place]);
      return count;
    }

    void readRoster() {
      tape.start();
      for (int place = 0; place < book.duties && !tape.isFaulty(); place++) {
        if (place > 0) tape.take(';');
        readHolder(book.dutyAt(place));
      }
      tape.end();
    }

    private void readHolder(int duty) {
      if (!book.isDuty(duty)) return;
      tape.takeNumber(book.dayOf(duty), book.dayOf(duty));
      int letterAt = tape.at();
      if (tape.takeKind() != book.kindOf(duty)) tape.fail(letterAt);
      tape.take('=');
      plan[duty] = OPEN;
      if (tape.takesIf('-')) return;
      int oneAt = tape.at();
      plan[duty] = tape.takeFigure();
      if (!book.isHere(plan[duty])) tape.fail(oneAt);
    }

    int[] planned() {
      return plan;
    }

    int firstThatMayNotBe() {
      for (int place = 0; place < book.duties; place++) {
        int duty = book.dutyAt(place);
        if (!book.isDuty(duty) || plan[duty] == OPEN) continue;
        if (!book.mayHold(plan[duty], duty)) return duty;
      }
      return NONE;
    }

    void holdAsPlanned() {
      for (int duty = 0; duty < book.duties && duty < DUTIES; duty++) book.putHolder(duty, plan[duty]);
    }
  }

  // A CONDITION: read anew for each duty, so that nothing of it need be kept.
  private static final class Condition {
    private static final int DEEPEST = 4, WHO_IF_OPEN = 10, MOST_NUMBER = 999;
    private static final int DAY = 0, KIND = 1, WHO = 2, HELD = 3, DISLIKE = 4, WEEK = 5, WORDS = 6;

    private final Book book;
    private final Tape tape;
    private final int[] values = new int[WORDS];

    Condition(Book ofBook, Tape ofTape) {
      book = ofBook;
      tape = ofTape;
    }

    // Reads once for no duty first, so that a fault is found even if there are none.
    int pickDuties() {
      int bits = 0;
      for (int duty = NONE; duty < book.duties && duty < DUTIES; duty++) {
        noteValues(duty);
        tape.start();
        boolean so = readEither(0);
        tape.end();
        if (tape.isFaulty()) return 0;
        if (so && duty >= 0) bits |= 1 << duty;
      }
      return bits;
    }

    private void noteValues(int duty) {
      int holder = book.holderOf(duty);
      values[DAY] = book.dayOf(duty);
      values[KIND] = book.kindOf(duty);
      values[WHO] = holder == OPEN ? WHO_IF_OPEN : holder;
      values[HELD] = holder == OPEN ? 0 : 1;
      values[DISLIKE] = book.dislikeOf(holder, duty);
      values[WEEK] = book.dayOf(duty) / 7;
    }

    private boolean readEither(int depth) {
      boolean so = readBoth(depth);
      for (int part = 0; part < TAPE && tape.takesIf('|'); part++) {
        boolean other = readBoth(depth);
        so = so || other;
      }
      return so;
    }

    private boolean readBoth(int depth) {
      boolean so = readOne(depth);
      for (int part = 0; part < TAPE && tape.takesIf('&'); part++) {
        boolean other = readOne(depth);
        so = so && other;
      }
      return so;
    }

    private boolean readOne(int depth) {
      if (depth < DEEPEST && tape.takesIf('!')) return !readOne(depth + 1);
      if (depth < DEEPEST && tape.takesIf('(')) {
        boolean so = readEither(depth + 1);
        tape.take(')');
        return so;
      }
      return readComparison();
    }

    private boolean readComparison() {
      int begin = tape.at();
      tape.passWord();
      int word = wordFrom(begin);
      if (word < 0 || word >= WORDS) {
        tape.fail(begin);
        return false;
      }
      if (tape.takesIf('<')) return values[word] < tape.takeNumber(0, MOST_NUMBER);
      if (tape.takesIf('>')) return values[word] > tape.takeNumber(0, MOST_NUMBER);
      if (!tape.takesIf('=')) tape.fail(tape.at());
      return values[word] == tape.takeNumber(0, MOST_NUMBER);
    }

    private int wordFrom(int begin) {
      if (tape.isWordFrom(begin, "day")) return DAY;
      if (tape.isWordFrom(begin, "kind")) return KIND;
      if (tape.isWordFrom(begin, "who")) return WHO;
      if (tape.isWordFrom(begin, "held")) return HELD;
      if (tape.isWordFrom(begin, "dislike")) return DISLIKE;
      return tape.isWordFrom(begin, "week") ? WEEK : NONE;
    }
  }

  // THE PAPER: the latest roster that was spelled.
  private static final class Paper {
    private final int[] bytes = new int[PAPER];
    private int size;

    Paper() {
      size = 0;
    }

    int size() {
      return size;
    }

    int byteAt(int i) {
      return i >= 0 && i < size && i < PAPER ? bytes[i] : NONE;
    }

    int spellRoster(Book book) {
      size = 0;
      for (int place = 0; place < book.duties; place++) {
        if (place > 0) write(';');
        spellDuty(book, book.dutyAt(place));
      }
      return size;
    }

    private void spellDuty(Book book, int duty) {
      int kind = book.kindOf(duty);
      int holder = book.holderOf(duty);
      writeNumber(book.dayOf(duty));
      if (isKind(kind)) write(LETTERS[kind]);
      write('=');
      write(holder == OPEN ? '-' : '0' + holder);
    }

    private void writeNumber(int number) {
      if (number >= 100) write('0' + number / 100);
      if (number >= 10) write('0' + number / 10 % 10);
      write('0' + number % 10);
    }

    private void write(int letter) {
      if (size < 0 || size >= PAPER) return;
      bytes[size] = letter;
      size++;
    }
  }

  // LISTS: rows made once, of which as much is used as is asked for.
  private static final class Rows {
    private final int[] places = new int[LISTS * ROW];
    private final int[] sizes = new int[LISTS];

    Rows() {
      for (int row = 0; row < LISTS; row++) sizes[row] = NONE;
    }

    boolean isRow(int row) {
      return row >= 0 && row < LISTS;
    }

    boolean isHeld(int row) {
      return isRow(row) && sizes[row] != NONE;
    }

    void begin(int row, int size) {
      if (!isRow(row) || size < 0 || size > ROW) return;
      sizes[row] = size;
      for (int place = 0; place < ROW; place++) places[row * ROW + place] = 0;
    }

    private boolean isPlace(int row, int place) {
      return isHeld(row) && place >= 0 && place < sizes[row] && place < ROW;
    }

    boolean put(int row, int place, int value) {
      if (!isPlace(row, place)) return false;
      places[row * ROW + place] = value;
      return true;
    }

    long at(int row, int place) {
      return isPlace(row, place) ? places[row * ROW + place] : LEAST_LONG;
    }
  }
}
