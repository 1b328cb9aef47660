import java.util.ArrayList;
import java.util.List;
import java.util.function.ToLongFunction;

/** Part 4 of the terms: in which order STATUS is decided, and what a refused call leaves as it was. */
final class StatusBounds {
    private static final String TWO = Makers.TWO;
    private final Sentences s;

    StatusBounds(Sentences s) {
        this.s = s;
    }

    void all() {
        s.section("part 4");
        first();
        each();
        nothingElse();
        none();
    }

    private void first() {
        s.says("STATUS of a call is the first of these that holds:");
        GluedWords x = Makers.busy();
        s.none("1 ahead of 2", x, x.edge(9, 9), 1);
        s.none("1 ahead of 4", x, x.kinBy(1, 0, 9), 1);
        s.none("1 ahead of 5", x, x.kinBy(0, 2, 9), 1);
        s.none("2 ahead of 4", x, x.swaps(1, 9), 2);
        s.none("4 ahead of 5", x, x.way(0, 3, 99), 4);
        GluedWords full = Makers.full();
        s.none("1 ahead of 3", full, full.take(0, -1), 1);
        s.none("2 ahead of 3", full, full.take(9, 0), 2);
        s.none("3 ahead of 4", full, full.times(0, 3), 3);
        s.none("3 ahead of 5", full, full.spell(0, 1, 0), 3);
        GluedWords fullAndLong = Makers.fullAndLong();
        s.none("3 ahead of 6", fullAndLong, fullAndLong.power(9, 2), 3);
        GluedWords longest = Makers.longest();
        s.none("1 ahead of 6", longest, longest.power(0, 10), 1);
    }

    private void each() {
        s.says("1 a number that can't be (below 0, too, of one that counts).");
        GluedWords x = Makers.busy();
        s.none("load(-1)", x, x.load(-1), 1);
        s.none("many(7)", x, x.many(7), 1);
        s.none("number(0, -1)", x, x.number(0, -1), 1);
        s.none("power(0, -10)", x, x.power(0, -10), 1);
        s.none("having(0, 0)", x, x.having(0, 0), 1);
        s.none("near(0, 100)", x, x.near(0, 100), 1);

        s.says("2 no such VERTEX, EDGE, WORD.");
        s.none("order(2)", x, x.order(2), 2);
        s.none("order(-1)", x, x.order(-1), 2);
        s.none("edge(1, 0)", x, x.edge(1, 0), 2);
        s.none("edge(-1, 0)", x, x.edge(-1, 0), 2);
        s.none("steps(6)", x, x.steps(6), 2);
        s.none("steps(-1)", x, x.steps(-1), 2);
        GluedWords nothing = new GluedWords();
        for (ToLongFunction<GluedWords> call : ofTheFirst()) {
            nothing.many(0);
            s.due("a call, where there is nothing", call.applyAsLong(nothing), -1);
            s.due("its STATUS", nothing.status(), 2);
        }

        s.says("3 one too many.");
        GluedWords full = Makers.full();
        s.none("an eleventh WORD", full, full.turned(0), 3);
        GluedWords marked = Makers.marked();
        s.none("a fourth MARK", marked, marked.mark(), 3);

        s.says("4 it is no LOOP; two that do not fit (the second does not begin where the first ends; of apart(), moves():"
                + " both do not begin at one VERTEX).");
        s.none("length(1)", x, x.length(1), 4);
        s.none("times(1, 0)", x, x.times(1, 0), 4);
        s.good("times(1, 3)", x, x.times(1, 3), 6);
        s.none("apart(1, 3)", x, x.apart(1, 3), 4);
        s.good("apart(1, 0)", x, x.apart(1, 0), 3);
        s.none("moves(3, 1)", x, x.moves(3, 1), 4);
        s.good("moves(0, 1)", x, x.moves(0, 1), 2);

        s.says("5 there is none.");
        s.none("step(2, 0)", x, x.step(2, 0), 5);
        s.none("root(2)", x, x.root(2), 5);
        s.none("twin(0)", x, x.twin(0), 5);

        s.says("6 it would have more than 24 STEPS.");
        GluedWords longest = Makers.longest();
        s.none("times(0, 1)", longest, longest.times(0, 1), 6);
        s.good("times(0, 2)", longest, longest.times(0, 2), 3);

        s.says("9 a FAULT.");
        s.none("a text with a FAULT", x, x.load(17), 9);

        s.says("0 else.");
        GluedWords y = Makers.busy();
        for (ToLongFunction<GluedWords> call : answers()) {
            y.order(99);
            call.applyAsLong(y);
            s.due("STATUS of a call that is answered, behind one that is not", y.status(), 0);
        }
    }

    /** Each call of a VERTEX, an EDGE, a WORD: of the first ones. */
    private static List<ToLongFunction<GluedWords>> ofTheFirst() {
        List<ToLongFunction<GluedWords>> all = new ArrayList<>(List.of(
                x -> x.order(0), x -> x.edge(0, 0), x -> x.word(0, 0), x -> x.number(0, 0), x -> x.step(0, 0), x -> x.take(0, 0),
                x -> x.form(0), x -> x.times(0, 0), x -> x.turned(0), x -> x.power(0, 0), x -> x.core(0), x -> x.spell(0, 0, 0),
                x -> x.drop(0), x -> x.alike(0, 0), x -> x.steps(0), x -> x.length(0), x -> x.orderOf(0), x -> x.kin(0, 0),
                x -> x.kinBy(0, 0, 0), x -> x.kins(0), x -> x.net(0, 0)));
        all.addAll(List.of(
                x -> x.central(0, 0), x -> x.centre(0), x -> x.having(0, 1), x -> x.root(0), x -> x.swaps(0, 0), x -> x.alikes(0),
                x -> x.twin(0), x -> x.apart(0, 0), x -> x.moves(0, 0), x -> x.way(0, 0, 0), x -> x.holds(0, 0), x -> x.axis(0, 0),
                x -> x.ball(0, 0), x -> x.sphere(0, 0), x -> x.listed(0), x -> x.near(0, 0), x -> x.meet(0), x -> x.tell(0)));
        return all;
    }

    /** Each call that has a STATUS, with 0, on an object that is busy. */
    private static List<ToLongFunction<GluedWords>> answers() {
        List<ToLongFunction<GluedWords>> all = new ArrayList<>(List.of(
                x -> x.many(0), x -> x.order(0), x -> x.edge(0, 0), x -> x.word(0, 0), x -> x.number(0, 0), x -> x.step(0, 0),
                x -> x.take(0, 0), x -> x.form(0), x -> x.times(0, 0), x -> x.turned(0), x -> x.drop(6), x -> x.power(0, 2),
                x -> x.drop(6), x -> x.core(0), x -> x.undo(), x -> x.drop(6), x -> x.spell(0, 0, 0), x -> x.mark(), x -> x.back()));
        all.addAll(List.of(
                x -> x.alike(0, 1), x -> x.steps(0), x -> x.length(0), x -> x.orderOf(0), x -> x.kin(0, 2), x -> x.kinBy(0, 0, 0),
                x -> x.kins(0), x -> x.net(0, 0), x -> x.central(0, 0), x -> x.centre(0), x -> x.having(0, 1), x -> x.root(0),
                x -> x.swaps(0, 2), x -> x.alikes(0)));
        all.addAll(List.of(
                x -> x.apart(0, 1), x -> x.moves(0, 1), x -> x.way(0, 1, 0), x -> x.holds(2, 0), x -> x.axis(0, 0),
                x -> x.ball(0, 0), x -> x.sphere(0, 0), x -> x.listed(0), x -> x.near(0, 0), x -> x.meet(0), x -> x.tell(0),
                x -> x.out(0), x -> x.chi(0), x -> x.load(20), x -> x.take(0, 4), x -> x.twin(0)));
        return all;
    }

    /** Each call that has a STATUS, with one or more others than 0; what they answer otherwise is looked at elsewhere. */
    private static List<ToLongFunction<GluedWords>> refusals() {
        List<ToLongFunction<GluedWords>> all = new ArrayList<>(List.of(
                x -> x.load(-1), x -> x.load(701), x -> x.many(7), x -> x.order(7), x -> x.edge(7, 0), x -> x.word(11, 0),
                x -> x.number(11, 0), x -> x.step(11, 0), x -> x.take(7, 0), x -> x.form(11), x -> x.times(1, 1),
                x -> x.turned(11), x -> x.power(1, 2), x -> x.core(1), x -> x.spell(0, 1, 0), x -> x.drop(11)));
        all.addAll(List.of(
                x -> x.alike(0, 11), x -> x.steps(11), x -> x.length(1), x -> x.orderOf(1), x -> x.kin(0, 1),
                x -> x.kinBy(0, 2, 0), x -> x.kins(1), x -> x.net(0, 7), x -> x.central(0, 4), x -> x.centre(7),
                x -> x.having(0, 0), x -> x.root(2), x -> x.swaps(0, 3), x -> x.alikes(11), x -> x.twin(0)));
        all.addAll(List.of(
                x -> x.apart(0, 3), x -> x.moves(0, 3), x -> x.way(0, 3, 0), x -> x.holds(0, 0), x -> x.axis(2, 0),
                x -> x.ball(0, 13), x -> x.sphere(0, 13), x -> x.listed(1), x -> x.near(0, 100), x -> x.meet(7),
                x -> x.tell(11), x -> x.out(99), x -> x.chi(2)));
        return all;
    }

    private void nothingElse() {
        s.says("With another STATUS than 0 a call gives NONE, and changes nothing else"
                + " (but load() with 9 the tape, and what fault() tells).");
        GluedWords x = Makers.busy();
        for (ToLongFunction<GluedWords> call : refusals()) {
            s.due("a refused call", call.applyAsLong(x), -1);
            s.due("it has a STATUS", x.status() == 0 ? 0 : 1, 1);
        }
        s.due("WORDS", x.many(2), 6);
        s.due("ACTS", x.many(3), 3);
        s.due("MARKS", x.many(4), 1);
        s.due("OUT", x.out(20), ';');
        s.due("the FAULT", x.fault(0), 4);
        s.due("the tape", x.feed(0, 0, 0, 0, 0), 40);
        s.none("load(39)", x, x.load(39), 9);
        s.due("the FAULT, another", x.fault(0), 1);
        s.due("its place", x.fault(1), 20);
        s.due("the tape, empty", x.feed(0, 0, 0, 0, 0), 20);
        s.due("WORDS", x.many(2), 6);
        s.due("ACTS", x.many(3), 3);
        s.line(x, 0, "word 0 1 > 0 1 < 0 0;");
    }

    private void none() {
        s.says("status(), feed(), fault() have none.");
        GluedWords x = Check.made(TWO);
        x.order(7);
        x.status();
        s.due("status() behind status()", x.status(), 2);
        x.feed(0, 0, 0, 0, 0);
        s.due("status() behind feed()", x.status(), 2);
        x.fault(0);
        x.fault(3);
        s.due("status() behind fault()", x.status(), 2);
        x.order(0);
        x.fault(3);
        s.due("status() behind fault(3)", x.status(), 0);
        for (int i = 0; i < 36; i++) {
            x.feed(0, 0, 0, 0, 0);
        }
        s.due("status() behind a feed() that gave NONE", x.status(), 0);

        s.says("The constants: NONE = -1: None.");
        s.due("NONE", GluedWords.NONE, -1);
    }
}
