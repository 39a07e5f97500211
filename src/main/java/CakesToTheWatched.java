/** A fete where whoever eats must be watched by somebody who has had none. */
public final class CakesToTheWatched {
  private static final int NO_SUCH = -1;
  private static final int NO_ROOM = -2;
  private static final int NOT_SO = -3;
  private static final int NONE = -4;
  private static final int NOTHING_HELD = -11;
  private static final int OTHER_KIND = -12;
  private static final int NO_PLACE = -13;
  private static final int SIZE_BELOW_0 = -14;
  private static final int NO_FAILURE = -15;
  private static final int FAULT_OF_FORM = -1000;
  private static final int FAULT_OF_SENSE = -2000;
  private static final long LONG_REFUSALS = 1000000000L;

  private static final int MOST_PEOPLE = 8;
  private static final int MOST_FIGURE = 9;
  private static final int MOST_FEELING = 30;
  private static final int MOST_SLICES = 99;
  private static final int MOST_TIMES = 99;
  private static final int MOST_STEP = 999;
  private static final int MOST_PRICE = 31;
  private static final int WISH_OF_BROUGHT = 9;
  private static final int NOT_WATCHED = 9;
  private static final int TRIES = 10;

  private static final int SHELVES = 8;
  private static final int MOST_CELLS = 100;
  private static final int HOLDS_NOTHING = 0;
  private static final int HOLDS_KIND = 1;
  private static final int HOLDS_ROW = 2;
  private static final int BYTES = 0;
  private static final int SHORTS = 1;
  private static final int INTS = 2;
  private static final int LEAST_BYTE = -128;
  private static final int LEAST_SHORT = -32768;
  private static final int LEAST_INT = -2147483648;
  private static final int ALL_BUT_THE_SIGN = 2147483647;

  private static final Kind[] KINDS = Kind.values();

  private final Shelf[] shelves = new Shelf[SHELVES];
  private final Fete now = new Fete();
  private final Fete imageOfAll = new Fete();
  // Whatever is tried without being so yet is tried here, so that no call makes a fete of its own.
  private final Fete trial = new Fete();
  private final Pairing pairing = new Pairing();
  private boolean hasImage;

  /** Nobody, no slices. */
  public CakesToTheWatched() {
    for (int d = 0; d < SHELVES; d++) {
      shelves[d] = new Shelf();
    }
  }

  // ---- the fete as told

  /** The text on a shelf comes, all of it or nothing. */
  public int fete(int d) {
    int refusal = refusalOfRow(d);
    if (refusal != 0) {
      return refusal;
    }
    Shelf text = shelves[d];
    if (text.sort != BYTES) {
      return OTHER_KIND;
    }
    int fault = placeOfBrokenForm(text);
    if (fault >= 0) {
      return FAULT_OF_FORM - fault;
    }
    return tellStatements(text);
  }

  /** One number of one person. */
  public int person(int p, int what) {
    if (!now.isThere(p)) {
      return NO_SUCH;
    }
    Person one = now.people[p];
    switch (what) {
      case 0: return one.kind.number;
      case 1: return one.figure;
      case 2: return one.hunger;
      case 3: return one.wish;
      case 4: return one.eaten;
      case 5: return one.watched;
      case 6: return one.bite;
      case 7: return one.gaze;
      case 8: return one.kind.shyness;
      default: return NO_SUCH;
    }
  }

  /** The one on a shelf is one more. */
  public int comes(int d, int hunger, int wish) {
    if (!isShelf(d) || !isFeeling(hunger) || !isFeeling(wish)) {
      return NO_SUCH;
    }
    int refusal = refusalOfKind(d);
    if (refusal != 0) {
      return refusal;
    }
    int number = now.size;
    Shelf shelf = shelves[d];
    return now.takeIn(shelf.kind, shelf.figure, hunger, wish) ? number : NO_ROOM;
  }

  /** Hunger or wish of one becomes v. */
  public int feels(int p, int what, int v) {
    if (!now.isThere(p) || !isOneOfTwo(what) || !isFeeling(v)) {
      return NO_SUCH;
    }
    Person one = now.people[p];
    int was = what == 0 ? one.hunger : one.wish;
    if (what == 0) {
      one.hunger = v;
    } else {
      one.wish = v;
    }
    return was;
  }

  /** So many slices there are. */
  public int slices(int v) {
    if (!isWithin(v, 0, MOST_SLICES)) {
      return NO_SUCH;
    }
    int were = now.slicesLeft;
    now.slicesLeft = v;
    return were;
  }

  /** A turn. */
  public int eats(int p, int looker) {
    if (!now.areTwo(p, looker)) {
      return NO_SUCH;
    }
    if (!now.mayTurn(p, looker)) {
      return NOT_SO;
    }
    return now.turn(p, looker);
  }

  // ---- who with whom

  /** Joys of a turn, were it now. */
  public int joys(int p, int looker, int what) {
    if (!now.areTwo(p, looker) || !isWithin(what, 0, 2)) {
      return NO_SUCH;
    }
    if (!now.canEat(p, looker)) {
      return NOT_SO;
    }
    if (what == 0) {
      return now.joysOf(p, looker);
    }
    return what == 1 ? now.joyOfEating(p, looker) : now.joyOfLooking(looker);
  }

  /** Those who can eat, or who can look. */
  public int who(int what) {
    if (!isOneOfTwo(what)) {
      return NO_SUCH;
    }
    int bits = 0;
    for (int p = 0; p < now.size; p++) {
      for (int looker = 0; looker < now.size; looker++) {
        if (now.canEat(p, looker)) {
          bits |= 1 << (what == 0 ? p : looker);
        }
      }
    }
    return bits;
  }

  /** The turn with most joys, or these. */
  public int bestPair(int what) {
    if (!isOneOfTwo(what)) {
      return NO_SUCH;
    }
    int best = now.bestTurn();
    if (best < 0 || what == 0) {
      return best;
    }
    return now.joysOf(best / 10, best % 10);
  }

  /** Who looks at one with most joys. */
  public int bestLooker(int p) {
    return now.isThere(p) ? now.bestLookerAt(p) : NO_SUCH;
  }

  /** The best of two turns one behind the other. */
  public int twoTurns(int what) {
    if (!isOneOfTwo(what)) {
      return NO_SUCH;
    }
    int most = 0;
    int first = NONE;
    for (int p = 0; p < now.size; p++) {
      for (int looker = 0; looker < now.size; looker++) {
        if (now.canEat(p, looker)) {
          int joys = joysWithASecond(p, looker);
          if (first < 0 || joys > most) {
            most = joys;
            first = 10 * p + looker;
          }
        }
      }
    }
    return what == 0 ? most : first;
  }

  /** The best pairs all at once. */
  public int pairs(int i) {
    if (i < -1 || i >= now.size) {
      return NO_SUCH;
    }
    pairing.find(now);
    return i < 0 ? pairing.mostJoys : pairing.lookers[i];
  }

  /** The best pair again and again. */
  public int greedily(int n, int what) {
    if (!isWithin(n, 0, 30) || !isOneOfTwo(what)) {
      return NO_SUCH;
    }
    trial.becomes(now);
    int joys = 0;
    int turns = 0;
    int best = trial.bestTurn();
    while (turns < n && best >= 0) {
      joys += trial.turn(best / 10, best % 10);
      turns++;
      best = trial.bestTurn();
    }
    return what == 0 ? joys : turns;
  }

  /** How many can eat at all, or who is left. */
  public int atAll(int what) {
    if (!isOneOfTwo(what)) {
      return NO_SUCH;
    }
    return what == 0 ? howManyEatAtAll() : whoIsLeft();
  }

  /** Whether nobody can eat though there is what for. */
  public int stuck() {
    boolean wanted = now.slicesLeft > 0 && now.allHunger() > 0;
    return wanted && now.bestTurn() < 0 ? 1 : 0;
  }

  /** The kind whose coming makes the best pair's joys most. */
  public int bring(int f) {
    if (!isFigure(f)) {
      return NO_SUCH;
    }
    int best = now.bestTurn();
    int most = best < 0 ? 0 : now.joysOf(best / 10, best % 10);
    int brought = NONE;
    for (int k = 0; k < KINDS.length; k++) {
      int joys = mostJoysWatchedBy(KINDS[k], f);
      if (joys > most) {
        most = joys;
        brought = k;
      }
    }
    return brought;
  }

  /** How many slices still one's hunger. */
  public int feeds(int p) {
    if (!now.isThere(p)) {
      return NO_SUCH;
    }
    Person one = now.people[p];
    return one.bite > 0 ? (one.hunger + one.bite - 1) / one.bite : 0;
  }

  // ---- prices, swaps, throats

  /** How many buy or sell at a price. */
  public int prices(int v, int what) {
    if (!isPrice(v) || !isOneOfTwo(what)) {
      return NO_SUCH;
    }
    return what == 0 ? howManyBuy(v) : howManySell(v);
  }

  /** The least price of a slice that clears. */
  public int clears(int g) {
    if (!isPrice(g)) {
      return NO_SUCH;
    }
    int most = Math.min(now.slicesLeft, howManySell(g));
    for (int v = 0; v <= MOST_PRICE; v++) {
      if (howManyBuy(v) <= most) {
        return v;
      }
    }
    return NONE;
  }

  /** The two told pairs whose lookers had best change places. */
  public int swap(int d) {
    int refusal = refusalOfRow(d);
    if (refusal != 0) {
      return refusal;
    }
    Shelf told = shelves[d];
    if (!arePairsApart(told)) {
      return NO_PLACE;
    }
    int most = 0;
    int best = NONE;
    for (int a = 0; a < told.length / 2; a++) {
      for (int b = a + 1; b < told.length / 2; b++) {
        int gain = gainOfSwap(told, a, b);
        if (gain > most) {
          most = gain;
          best = 10 * a + b;
        }
      }
    }
    return best;
  }

  /** The kinds that it may have been by how hunger fell. */
  public int throat(int d, int h, int f, int what) {
    if (!isShelf(d) || !isFeeling(h) || !isFigure(f) || !isOneOfTwo(what)) {
      return NO_SUCH;
    }
    int refusal = refusalOfRow(d);
    if (refusal != 0) {
      return refusal;
    }
    int bits = 0;
    for (int k = 0; k < KINDS.length; k++) {
      if (hungerFellSo(shelves[d], h, KINDS[k].biteWith(f))) {
        bits |= 1 << k;
      }
    }
    return what == 0 ? bits : Integer.bitCount(bits);
  }

  // ---- the last ones, shares, crowds

  /** Who has the last of n slices, and what to take for it. */
  public int lastOnes(int n, int k, int what) {
    if (!isWithin(n, 0, MOST_SLICES) || !isWithin(k, 1, 9) || !isOneOfTwo(what)) {
      return NO_SUCH;
    }
    // Whoever leaves a multiple of k + 1 can answer each taking so that the next is one again.
    int take = n % (k + 1);
    return what == 1 ? take : Math.min(take, 1);
  }

  /** One's part of the slices by hunger, or what is left over. */
  public int shares(int p) {
    if (p < -1 || p >= now.size) {
      return NO_SUCH;
    }
    if (p >= 0) {
      return shareOf(p);
    }
    int left = now.slicesLeft;
    for (int one = 0; one < now.size; one++) {
      left -= shareOf(one);
    }
    return left;
  }

  /** How likely k pairs or more come together. */
  public long crowd(int n, int t, int k, int part) {
    boolean asTold = isWithin(n, 0, 8) && isWithin(t, 2, 20) && isWithin(k, 0, 4);
    if (!asTold || !isOneOfTwo(part)) {
      return LONG_REFUSALS - NO_SUCH;
    }
    long ways = 0;
    for (int come = 2 * k; come <= n; come++) {
      ways += choices(n, come) * power(t - 1, n - come);
    }
    return partInLeastTerms(ways, power(t, n), part);
  }

  /** Hunger of all in the mean. */
  public long mean(int part) {
    if (!isOneOfTwo(part)) {
      return LONG_REFUSALS - NO_SUCH;
    }
    return partInLeastTerms(now.allHunger(), Math.max(now.size, 1), part);
  }

  /** How many turns there are that nobody has joy of. */
  public int joyless() {
    int twos = 0;
    for (int p = 0; p < now.size; p++) {
      for (int looker = 0; looker < now.size; looker++) {
        if (now.canEat(p, looker) && now.joysOf(p, looker) == 0) {
          twos++;
        }
      }
    }
    return twos;
  }

  /** How many outside a set can look while all in it can eat. */
  public int seen(int set) {
    if (set < 0 || set >= 1 << now.size) {
      return NO_SUCH;
    }
    int lookers = 0;
    for (int p = 0; p < now.size; p++) {
      boolean inSet = (set >> p & 1) == 1;
      if (inSet && !canEatWatchedFromOutside(p, set)) {
        return 0;
      }
      if (!inSet && now.people[p].canLook()) {
        lookers++;
      }
    }
    return lookers;
  }

  // ---- told turns, fetes by seeds

  /** The first told pair that can not be. */
  public int forged(int d) {
    int refusal = refusalOfRow(d);
    if (refusal != 0) {
      return refusal;
    }
    Shelf told = shelves[d];
    if (told.length % 2 != 0) {
      return NO_PLACE;
    }
    trial.becomes(now);
    for (int pair = 0; pair < told.length / 2; pair++) {
      int p = told.at(2 * pair);
      int looker = told.at(2 * pair + 1);
      if (!trial.canEat(p, looker)) {
        return pair;
      }
      trial.turn(p, looker);
    }
    return NONE;
  }

  /** The first told joys that are not those of the best pairs. */
  public int judge(int d) {
    int refusal = refusalOfRow(d);
    if (refusal != 0) {
      return refusal;
    }
    Shelf told = shelves[d];
    int skipped = told.leastNumber();
    trial.becomes(now);
    for (int i = 0; i < told.length; i++) {
      int best = trial.bestTurn();
      int joys = best < 0 ? NONE : trial.turn(best / 10, best % 10);
      boolean so = best >= 0 && joys == told.at(i);
      if (!so && told.at(i) != skipped) {
        return i;
      }
    }
    return NONE;
  }

  /** So many fetes by draws. */
  public int fetes(int n, int z, int what) {
    if (!isWithin(n, 1, 20) || !isOneOfTwo(what)) {
      return NO_SUCH;
    }
    if (now.size == 0) {
      return NOT_SO;
    }
    int seed = z;
    int joys = 0;
    int turns = 0;
    for (int fete = 0; fete < n; fete++) {
      trial.becomes(now);
      for (int attempt = 0; attempt < TRIES; attempt++) {
        seed = nextSeed(seed);
        int p = drawn(seed, now.size);
        seed = nextSeed(seed);
        int looker = drawn(seed, now.size);
        if (trial.canEat(p, looker)) {
          joys += trial.turn(p, looker);
          turns++;
        }
      }
    }
    return what == 0 ? joys : turns;
  }

  // ---- the image, what is told

  /** The image is taken. */
  public int image() {
    imageOfAll.becomes(now);
    hasImage = true;
    return now.step;
  }

  /** All is as it was when the image was taken. */
  public int restore() {
    if (!hasImage) {
      return NOT_SO;
    }
    now.becomes(imageOfAll);
    return now.step;
  }

  /** A number of all. */
  public int count(int what) {
    switch (what) {
      case 0: return now.size;
      case 1: return now.slicesLeft;
      case 2: return now.step;
      case 3: return now.allHunger();
      case 4: return now.allWish();
      case 5: return now.allEaten();
      case 6: return now.whoHasHadNone();
      default: return NO_SUCH;
    }
  }

  // ---- shelves

  /** A shelf gets nothing or a kind with a figure. */
  public int keep(int d, int what, int k, int figure) {
    if (!isShelf(d) || !isOneOfTwo(what)) {
      return NO_SUCH;
    }
    if (what == 0) {
      shelves[d].holds = HOLDS_NOTHING;
      return 0;
    }
    if (!isKind(k) || !isFigure(figure)) {
      return NO_SUCH;
    }
    shelves[d].holdKind(KINDS[k], figure);
    return 0;
  }

  /** A shelf gets a row of zeros. */
  public int row(int d, int sort, int n) {
    if (!isShelf(d) || !isWithin(sort, BYTES, INTS) || n > MOST_CELLS) {
      return NO_SUCH;
    }
    if (n < 0) {
      return SIZE_BELOW_0;
    }
    shelves[d].holdRow(sort, n);
    return 0;
  }

  /** One element of a row becomes v. */
  public int put(int d, int i, int v) {
    int refusal = refusalOfRow(d);
    if (refusal != 0) {
      return refusal;
    }
    Shelf shelf = shelves[d];
    if (!shelf.hasPlace(i)) {
      return NO_PLACE;
    }
    shelf.cells[i] = shelf.lowestBits(v);
    return 0;
  }

  /** One element of a row. */
  public long element(int d, int i) throws IllegalArgumentException, IllegalStateException {
    if (!isShelf(d)) {
      throw new IllegalArgumentException("no such shelf");
    }
    if (refusalOfRow(d) != 0 || !shelves[d].hasPlace(i)) {
      throw new IllegalStateException("no row, or no such place");
    }
    return shelves[d].at(i);
  }

  /** Elements of a row come to another one of its sort. */
  public int copy(int d, int i, int e, int j, int n) {
    if (!isShelf(d) || !isShelf(e)) {
      return NO_SUCH;
    }
    Shelf from = shelves[d];
    Shelf to = shelves[e];
    if (from.holds == HOLDS_NOTHING || to.holds == HOLDS_NOTHING) {
      return NOTHING_HELD;
    }
    if (from.holds != HOLDS_ROW || to.holds != HOLDS_ROW || from.sort != to.sort) {
      return OTHER_KIND;
    }
    if (n < 0 || !from.hasPlaces(i, n) || !to.hasPlaces(j, n)) {
      return NO_PLACE;
    }
    System.arraycopy(from.cells, i, to.cells, j, n);
    return n;
  }

  /** What the one on a shelf costs. */
  public int cost(int d) {
    int refusal = refusalOfKind(d);
    if (refusal != 0) {
      return refusal;
    }
    return shelves[d].kind.costWith(shelves[d].figure);
  }

  /** What is caught when the one on a shelf fails. */
  public int toss(int d) {
    int refusal = refusalOfKind(d);
    if (refusal != 0) {
      return refusal;
    }
    Kind kind = shelves[d].kind;
    int figure = shelves[d].figure;
    try {
      kind.failWith(figure);
      return NO_FAILURE;
    } catch (UnsupportedOperationException ofExpert) {
      return 200 + kind.costWith(figure);
    } catch (IllegalArgumentException ofTaster) {
      return 100 + figure;
    } catch (IllegalStateException ofOther) {
      return figure;
    }
  }

  // ---- ranges and refusals

  private static boolean isWithin(int v, int least, int most) {
    return v >= least && v <= most;
  }

  private static boolean isOneOfTwo(int what) {
    return isWithin(what, 0, 1);
  }

  private static boolean isShelf(int d) {
    return isWithin(d, 0, SHELVES - 1);
  }

  private static boolean isKind(int k) {
    return isWithin(k, 0, KINDS.length - 1);
  }

  private static boolean isFigure(int f) {
    return isWithin(f, 0, MOST_FIGURE);
  }

  private static boolean isFeeling(int v) {
    return isWithin(v, 0, MOST_FEELING);
  }

  private static boolean isPrice(int v) {
    return isWithin(v, 0, MOST_PRICE);
  }

  /** 0 where a row is held. */
  private int refusalOfRow(int d) {
    return refusalUnlessHeld(d, HOLDS_ROW);
  }

  /** 0 where a kind is held. */
  private int refusalOfKind(int d) {
    return refusalUnlessHeld(d, HOLDS_KIND);
  }

  private int refusalUnlessHeld(int d, int wanted) {
    if (!isShelf(d)) {
      return NO_SUCH;
    }
    int holds = shelves[d].holds;
    if (holds == HOLDS_NOTHING) {
      return NOTHING_HELD;
    }
    return holds == wanted ? 0 : OTHER_KIND;
  }

  // ---- the text of a fete

  /** The place of the first byte with which no fete can go on; below 0 if there is none. */
  private static int placeOfBrokenForm(Shelf text) {
    int place = 0;
    do {
      int digits = digitsBehind(text.at(place));
      if (digits < 0) {
        return place;
      }
      for (int k = 1; k <= digits; k++) {
        if (!isWithin(text.at(place + k), '0', '9')) {
          return place + k;
        }
      }
      if (text.at(place + digits + 1) != ';') {
        return place + digits + 1;
      }
      place += digits + 2;
    } while (place < text.length);
    return NONE;
  }

  /** How many digits a statement of this letter has; below 0 if there is no such statement. */
  private static int digitsBehind(int letter) {
    switch (letter) {
      case 'p': return 6;
      case 'c': return 2;
      case 't': return 2;
      case 'h': return 3;
      case 'l': return 3;
      default: return NONE;
    }
  }

  /** How many statements have come, or the fault of the first that can not; the form is whole. */
  private int tellStatements(Shelf text) {
    trial.becomes(now);
    int statements = 0;
    int place = 0;
    while (place < text.length) {
      if (!tellStatement(text, place)) {
        return FAULT_OF_SENSE - place;
      }
      statements++;
      place += Math.max(digitsBehind(text.at(place)), 0) + 2;
    }
    now.becomes(trial);
    return statements;
  }

  private boolean tellStatement(Shelf text, int place) {
    int first = text.digitAt(place + 1);
    int second = text.digitAt(place + 2);
    switch (text.at(place)) {
      case 'p': return tellPerson(first, second, text.twoDigitsAt(place + 3), text.twoDigitsAt(place + 5));
      case 'c': return tellSlices(text.twoDigitsAt(place + 1));
      case 't': return trial.mayTurn(first, second) && trial.turn(first, second) >= 0;
      case 'h': return tellHunger(first, text.twoDigitsAt(place + 2));
      case 'l': return tellWish(first, text.twoDigitsAt(place + 2));
      default: return false;
    }
  }

  private boolean tellPerson(int kind, int figure, int hunger, int wish) {
    boolean inRange = isKind(kind) && isFigure(figure) && isFeeling(hunger) && isFeeling(wish);
    return inRange && trial.takeIn(KINDS[kind], figure, hunger, wish);
  }

  private boolean tellSlices(int slices) {
    if (!isWithin(slices, 0, MOST_SLICES)) {
      return false;
    }
    trial.slicesLeft = slices;
    return true;
  }

  private boolean tellHunger(int p, int hunger) {
    if (!trial.isThere(p) || !isFeeling(hunger)) {
      return false;
    }
    trial.people[p].hunger = hunger;
    return true;
  }

  private boolean tellWish(int p, int wish) {
    if (!trial.isThere(p) || !isFeeling(wish)) {
      return false;
    }
    trial.people[p].wish = wish;
    return true;
  }

  // ---- what the calls above reckon with

  private int joysWithASecond(int p, int looker) {
    trial.becomes(now);
    int joys = trial.turn(p, looker);
    int second = trial.bestTurn();
    return second < 0 ? joys : joys + trial.joysOf(second / 10, second % 10);
  }

  private int howManyEatAtAll() {
    int hungry = 0;
    int lookers = 0;
    boolean oneOnlyLooks = false;
    for (int p = 0; p < now.size; p++) {
      Person one = now.people[p];
      boolean wants = one.hunger > 0 && one.eaten == 0;
      if (wants) {
        hungry++;
      }
      if (one.canLook()) {
        lookers++;
        oneOnlyLooks = oneOnlyLooks || !wants;
      }
    }
    if (lookers == 0) {
      return 0;
    }
    // The last looker stays without, unless one looks who wants nothing.
    int most = oneOnlyLooks ? hungry : hungry - 1;
    return Math.min(most, now.slicesLeft);
  }

  private int whoIsLeft() {
    int left = NONE;
    int least = MOST_FEELING + 1;
    for (int p = 0; p < now.size; p++) {
      Person one = now.people[p];
      if (one.canLook() && one.hunger < least) {
        least = one.hunger;
        left = p;
      }
    }
    return left;
  }

  /** The most joys of a turn watched by one of a kind who has just come; -1 if there is none. */
  private int mostJoysWatchedBy(Kind kind, int figure) {
    if (kind == Kind.BLIND || now.slicesLeft == 0) {
      return -1;
    }
    int looking = Math.min(kind.gazeWith(figure), WISH_OF_BROUGHT);
    int most = -1;
    for (int p = 0; p < now.size; p++) {
      // Nobody has eaten watched by a newcomer, so that nobody is shy.
      if (now.people[p].hunger > 0) {
        most = Math.max(most, now.people[p].stilledHunger() + looking);
      }
    }
    return most;
  }

  private int howManyBuy(int v) {
    int buyers = 0;
    for (int p = 0; p < now.size; p++) {
      Person one = now.people[p];
      if (one.hunger > 0 && one.stilledHunger() >= v) {
        buyers++;
      }
    }
    return buyers;
  }

  private int howManySell(int v) {
    int sellers = 0;
    for (int p = 0; p < now.size; p++) {
      Person one = now.people[p];
      if (one.canLook() && one.stilledWish() < v) {
        sellers++;
      }
    }
    return sellers;
  }

  private boolean arePairsApart(Shelf told) {
    if (told.length % 2 != 0 || told.length > 8) {
      return false;
    }
    int met = 0;
    for (int i = 0; i < told.length; i++) {
      int p = told.at(i);
      if (!now.isThere(p) || (met >> p & 1) == 1) {
        return false;
      }
      met |= 1 << p;
    }
    for (int i = 0; i < told.length; i += 2) {
      if (!now.canEat(told.at(i), told.at(i + 1))) {
        return false;
      }
    }
    return true;
  }

  private int gainOfSwap(Shelf told, int a, int b) {
    int eaterA = told.at(2 * a);
    int lookerA = told.at(2 * a + 1);
    int eaterB = told.at(2 * b);
    int lookerB = told.at(2 * b + 1);
    int before = now.joysOf(eaterA, lookerA) + now.joysOf(eaterB, lookerB);
    return now.joysOf(eaterA, lookerB) + now.joysOf(eaterB, lookerA) - before;
  }

  private static boolean hungerFellSo(Shelf told, int hunger, int bite) {
    int left = hunger;
    for (int i = 0; i < told.length; i++) {
      int fell = Math.min(bite, left);
      if (told.at(i) != fell) {
        return false;
      }
      left -= fell;
    }
    return true;
  }

  private int shareOf(int p) {
    int all = now.allHunger();
    return all > 0 && now.isThere(p) ? now.slicesLeft * now.people[p].hunger / all : 0;
  }

  private boolean canEatWatchedFromOutside(int p, int set) {
    for (int looker = 0; looker < now.size; looker++) {
      if ((set >> looker & 1) == 0 && now.canEat(p, looker)) {
        return true;
      }
    }
    return false;
  }

  private static long choices(int n, int k) {
    long ways = 1;
    for (int i = 1; i <= k; i++) {
      ways = ways * (n - k + i) / i;
    }
    return ways;
  }

  private static long power(int base, int times) {
    long product = 1;
    for (int i = 0; i < times; i++) {
      product *= base;
    }
    return product;
  }

  private static long partInLeastTerms(long above, long below, int part) {
    long common = Math.max(commonDivisor(above, below), 1);
    return (part == 0 ? above : below) / common;
  }

  private static long commonDivisor(long a, long b) {
    long greater = a;
    long divisor = b;
    // A hundred steps are more than the longest run of remainders of two longs.
    for (int i = 0; i < 100 && divisor != 0; i++) {
      long rest = greater % divisor;
      greater = divisor;
      divisor = rest;
    }
    return greater;
  }

  private static int nextSeed(int z) {
    return z * 1103515245 + 12345;
  }

  private static int drawn(int z, int below) {
    return below > 0 ? (z & ALL_BUT_THE_SIGN) / 65536 % below : 0;
  }

  // ---- the classes

  /** What a kind has by itself; what a figure does to it is in the methods. */
  private enum Kind {
    GUEST(0, 3, 2, 0, 4),
    CHILD(1, 5, 1, 1, 3),
    DEACON(2, 3, 4, 1, 4),
    TASTER(3, 1, 2, 0, 10),
    BLIND(4, 3, 0, 0, 2),
    EXPERT(5, 2, 4, 0, 10),
    TWIN(6, 2, 1, 2, 6),
    COW(7, 9, 0, 0, 1);

    final int number;
    final int bite;
    final int gaze;
    final int shyness;
    final int price;

    Kind(int number, int bite, int gaze, int shyness, int price) {
      this.number = number;
      this.bite = bite;
      this.gaze = gaze;
      this.shyness = shyness;
      this.price = price;
    }

    int biteWith(int figure) {
      return this == DEACON ? bite + figure / 2 : bite;
    }

    int gazeWith(int figure) {
      if (this == TASTER) {
        return gaze + figure / 3;
      }
      return this == EXPERT ? gaze + 2 * (figure / 3) : gaze;
    }

    int costWith(int figure) {
      return this == DEACON || this == EXPERT ? price + figure : price;
    }

    /** Comes back only if there is no failure. */
    void failWith(int figure) {
      if (figure == 0 || this == BLIND || this == COW) {
        return;
      }
      if (this == EXPERT) {
        throw new UnsupportedOperationException("an expert's failure");
      }
      if (this == TASTER) {
        throw new IllegalArgumentException("a taster's failure");
      }
      throw new IllegalStateException("a failure");
    }
  }

  /** One of the people. */
  private static final class Person {
    Kind kind = Kind.GUEST;
    int figure;
    // Neither changes once one has come, so that they are reckoned only then.
    int bite;
    int gaze;
    int hunger;
    int wish;
    int eaten;
    int watched;

    void comeAs(Kind ofKind, int withFigure) {
      kind = ofKind;
      figure = withFigure;
      bite = ofKind.biteWith(withFigure);
      gaze = ofKind.gazeWith(withFigure);
      eaten = 0;
      watched = 0;
    }

    void becomes(Person other) {
      kind = other.kind;
      figure = other.figure;
      bite = other.bite;
      gaze = other.gaze;
      hunger = other.hunger;
      wish = other.wish;
      eaten = other.eaten;
      watched = other.watched;
    }

    boolean canLook() {
      return eaten == 0 && kind != Kind.BLIND;
    }

    int stilledHunger() {
      return Math.min(bite, hunger);
    }

    int stilledWish() {
      return Math.min(gaze, wish);
    }
  }

  /** The people, the slices and the step: all that an image holds. */
  private static final class Fete {
    final Person[] people = new Person[MOST_PEOPLE];
    int size;
    int slicesLeft;
    int step;

    Fete() {
      for (int p = 0; p < MOST_PEOPLE; p++) {
        people[p] = new Person();
      }
    }

    void becomes(Fete other) {
      for (int p = 0; p < other.size; p++) {
        people[p].becomes(other.people[p]);
      }
      size = other.size;
      slicesLeft = other.slicesLeft;
      step = other.step;
    }

    boolean isThere(int p) {
      return p >= 0 && p < size;
    }

    boolean areTwo(int p, int other) {
      return isThere(p) && isThere(other) && p != other;
    }

    /** False if there is no room. */
    boolean takeIn(Kind kind, int figure, int hunger, int wish) {
      if (size >= MOST_PEOPLE) {
        return false;
      }
      Person one = people[size];
      one.comeAs(kind, figure);
      one.hunger = hunger;
      one.wish = wish;
      size++;
      return true;
    }

    boolean canEat(int p, int looker) {
      return areTwo(p, looker) && slicesLeft > 0 && people[p].hunger > 0 && people[looker].canLook();
    }

    boolean mayTurn(int p, int looker) {
      return canEat(p, looker) && step < MOST_STEP;
    }

    int joyOfEating(int p, int looker) {
      Person one = people[p];
      return Math.max(one.stilledHunger() - one.kind.shyness * people[looker].watched, 0);
    }

    int joyOfLooking(int looker) {
      return people[looker].stilledWish();
    }

    int joysOf(int p, int looker) {
      return joyOfEating(p, looker) + joyOfLooking(looker);
    }

    /** Joys of a turn that can be, and it is made. */
    int turn(int p, int looker) {
      int joys = joysOf(p, looker);
      Person one = people[p];
      Person other = people[looker];
      one.hunger -= one.stilledHunger();
      other.wish -= other.stilledWish();
      one.eaten = Math.min(one.eaten + 1, MOST_TIMES);
      other.watched = Math.min(other.watched + 1, MOST_TIMES);
      slicesLeft--;
      step++;
      return joys;
    }

    /** 10 who eats and who looks. */
    int bestTurn() {
      int best = NONE;
      int most = -1;
      for (int p = 0; p < size; p++) {
        int looker = bestLookerAt(p);
        if (looker >= 0 && joysOf(p, looker) > most) {
          most = joysOf(p, looker);
          best = 10 * p + looker;
        }
      }
      return best;
    }

    int bestLookerAt(int p) {
      int best = NONE;
      int most = -1;
      for (int looker = 0; looker < size; looker++) {
        if (canEat(p, looker) && joysOf(p, looker) > most) {
          most = joysOf(p, looker);
          best = looker;
        }
      }
      return best;
    }

    int allHunger() {
      int all = 0;
      for (int p = 0; p < size; p++) {
        all += people[p].hunger;
      }
      return all;
    }

    int allWish() {
      int all = 0;
      for (int p = 0; p < size; p++) {
        all += people[p].wish;
      }
      return all;
    }

    int allEaten() {
      int all = 0;
      for (int p = 0; p < size; p++) {
        all += people[p].eaten;
      }
      return all;
    }

    int whoHasHadNone() {
      int bits = 0;
      for (int p = 0; p < size; p++) {
        if (people[p].eaten == 0) {
          bits |= 1 << p;
        }
      }
      return bits;
    }
  }

  /** The best pairs all at once, by the most joys of each set of free people and each number of slices. */
  private static final class Pairing {
    private static final int SETS = 1 << MOST_PEOPLE;

    final int[] lookers = new int[MOST_PEOPLE];
    int mostJoys;
    private final int[] joysOfTwo = new int[MOST_PEOPLE * MOST_PEOPLE];
    private final int[] most = new int[(MOST_PEOPLE / 2 + 1) * SETS];
    private int size;

    void find(Fete fete) {
      size = fete.size;
      readJoys(fete);
      int all = (1 << size) - 1;
      // More slices than twos change nothing.
      int slices = Math.min(fete.slicesLeft, size / 2);
      for (int s = 0; s <= slices; s++) {
        for (int free = 0; free <= all; free++) {
          most[s * SETS + free] = mostOf(s, free);
        }
      }
      mostJoys = most[slices * SETS + all];
      choose(slices, all);
    }

    private void readJoys(Fete fete) {
      for (int p = 0; p < size; p++) {
        for (int looker = 0; looker < size; looker++) {
          int joys = fete.canEat(p, looker) ? fete.joysOf(p, looker) : NONE;
          joysOfTwo[p * MOST_PEOPLE + looker] = joys;
        }
      }
    }

    /** What the smaller sets have is there already. */
    private int mostOf(int slices, int free) {
      if (slices == 0 || free == 0) {
        return 0;
      }
      int one = leastOf(free);
      int rest = free & ~(1 << one);
      int best = most[slices * SETS + rest];
      for (int other = one + 1; other < size; other++) {
        if ((rest >> other & 1) == 1) {
          best = Math.max(best, joysIfPaired(one, other, rest, slices));
          best = Math.max(best, joysIfPaired(other, one, rest, slices));
        }
      }
      return best;
    }

    /** The most joys if p eats watched by looker and those of the rest go on; below 0 if it can not be. */
    private int joysIfPaired(int p, int looker, int rest, int slices) {
      int joys = joysOfTwo[p * MOST_PEOPLE + looker];
      int others = rest & ~(1 << p) & ~(1 << looker);
      return joys < 0 || slices == 0 ? NONE : joys + most[(slices - 1) * SETS + others];
    }

    private int leastOf(int set) {
      int least = 0;
      while (least < MOST_PEOPLE - 1 && (set >> least & 1) == 0) {
        least++;
      }
      return least;
    }

    private void choose(int slices, int all) {
      int free = all;
      int left = slices;
      for (int one = 0; one < size; one++) {
        lookers[one] = NOT_WATCHED;
      }
      for (int one = 0; one < size; one++) {
        if ((free >> one & 1) == 0) {
          continue;
        }
        int looker = firstOther(one, free, left, true);
        int eater = looker >= 0 ? NONE : firstOther(one, free, left, false);
        free &= ~(1 << one);
        if (looker >= 0) {
          lookers[one] = looker;
          free &= ~(1 << looker);
          left--;
        } else if (eater >= 0) {
          lookers[eater] = one;
          free &= ~(1 << eater);
          left--;
        }
      }
    }

    /** The least other with whom one, eating or looking, has a part in the most joys. */
    private int firstOther(int one, int free, int slices, boolean eats) {
      int rest = free & ~(1 << one);
      int wanted = most[slices * SETS + free];
      for (int other = one + 1; other < size; other++) {
        if ((rest >> other & 1) == 1) {
          int joys = eats ? joysIfPaired(one, other, rest, slices) : joysIfPaired(other, one, rest, slices);
          if (joys == wanted) {
            return other;
          }
        }
      }
      return NONE;
    }
  }

  /** A shelf; its cells are used again for each row that it gets. */
  private static final class Shelf {
    final int[] cells = new int[MOST_CELLS];
    int holds = HOLDS_NOTHING;
    Kind kind = Kind.GUEST;
    int figure;
    int sort;
    int length;

    void holdKind(Kind held, int heldFigure) {
      holds = HOLDS_KIND;
      kind = held;
      figure = heldFigure;
    }

    void holdRow(int heldSort, int n) {
      holds = HOLDS_ROW;
      sort = heldSort;
      length = n;
      for (int i = 0; i < MOST_CELLS; i++) {
        cells[i] = 0;
      }
    }

    boolean hasPlace(int i) {
      return i >= 0 && i < length;
    }

    boolean hasPlaces(int i, int n) {
      return i >= 0 && n >= 0 && i <= length && n <= length - i;
    }

    /** Beyond the row -1, which is neither a letter nor a digit nor one of the people. */
    int at(int i) {
      return hasPlace(i) ? cells[i] : -1;
    }

    int digitAt(int i) {
      return at(i) - '0';
    }

    int twoDigitsAt(int i) {
      return 10 * digitAt(i) + digitAt(i + 1);
    }

    int lowestBits(int v) {
      if (sort == BYTES) {
        return (byte) v;
      }
      return sort == SHORTS ? (short) v : v;
    }

    int leastNumber() {
      if (sort == BYTES) {
        return LEAST_BYTE;
      }
      return sort == SHORTS ? LEAST_SHORT : LEAST_INT;
    }
  }
}
