// All that can be asked of an object, in parts: an object answers for 512 calls, those that made it among them.
final class Asked {
  static final int PARTS = 14, OF_THE_PAPER = 5;
  private static final int MOST = 256;

  private final long[] answers = new long[MOST];
  private int count;

  private Asked() {
    count = 0;
  }

  static long[] of(FairTurns x, int part) {
    Asked asked = new Asked();
    asked.ask(x, part);
    return asked.answers;
  }

  private void note(long answer) {
    answers[count] = answer;
    count++;
  }

  private void ask(FairTurns x, int part) {
    switch (part) {
      case 0: people(x); break;
      case 1: duties(x); break;
      case 2: mays(x); break;
      case 3: dislikes(x); break;
      case 4: orders(x); break;
      case OF_THE_PAPER: paper(x); break;
      case 6: lists(x); break;
      case 7: rules(x); break;
      case 8: note(x.pick()); break;
      case 9: note(x.calendar()); break;
      default: note(x.undo()); ask(x, part - 10);
    }
  }

  private void people(FairTurns x) {
    for (int what = 0; what < 24; what++) note(x.told(what));
    for (int one = 0; one < 8; one++) {
      for (int what = 0; what < 5; what++) note(x.of(one, what));
      for (int kind = 0; kind < 4; kind++) {
        for (int tens = 10; tens < 40; tens += 10) note(x.of(one, tens + kind));
      }
    }
    for (int kind = 0; kind < 4; kind++) note(x.neutral(kind));
    note(x.disliked());
    note(x.near());
    note(x.heaviest());
    ring(x);
  }

  private void ring(FairTurns x) {
    note(x.ring(0));
    note(x.ring(1));
    for (int what = 10; what < 14; what++) note(x.ring(what));
  }

  private void duties(FairTurns x) {
    for (int duty = 0; duty < 24; duty++) {
      for (int what = 0; what < 5; what++) note(x.dutyOf(duty, what));
      note(x.stands(duty));
    }
  }

  private void mays(FairTurns x) {
    for (int one = 0; one < 8; one++) {
      for (int duty = 0; duty < 24; duty++) note(x.may(one, duty));
    }
  }

  // What a DISLIKE is can be asked by changing it alone.
  private void dislikes(FairTurns x) {
    for (int one = 0; one < 8; one++) {
      for (int duty = 0; duty < 24; duty++) note(x.dislike(one, duty, 0));
    }
  }

  private void orders(FairTurns x) {
    for (int kind = 0; kind < 4; kind++) {
      for (int i = 0; i < 8; i++) {
        note(x.load(kind, i));
        note(x.next(kind, i));
      }
      for (int what = 0; what < 3; what++) {
        note(x.lesser(kind, what));
        note(x.audit(kind, what));
      }
    }
  }

  private void paper(FairTurns x) {
    note(x.told(6));
    for (int i = 0; i < 168; i++) note(x.paper(i));
  }

  private void lists(FairTurns x) {
    for (int list = 0; list < 4; list++) {
      for (int i = 0; i < 31; i++) note(x.get(list, i));
      note(x.lay(list, 30));
    }
  }

  // RULES show in who may: other duties come for that, as long as there is room.
  private void rules(FairTurns x) {
    for (int day = 0; day < 24; day++) x.duty(day, day % 4);
    mays(x);
  }
}
