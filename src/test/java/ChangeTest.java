/** Promises 15 to 19: a draft made of the sample, turned, undone, kept and taken back. */
public final class ChangeTest {
    public static void main(String[] args) {
        drafted();
        draftedRefused();
        turned();
        undone();
        eightUndone();
        undoOfEach();
        kept();
        Check.finish();
    }

    private static void drafted() {
        WeaveDraft x = Check.told("draft 7 7 6 6;warp 0 4;row oxoox;row xoxxo;row oxoox");
        Check.due("sample()", x.sample(), 2);
        Check.clothIs("drafted", x, "oxoox xoxxo oxoox");
        Check.due("count(0)", x.count(0), 5);
        Check.due("count(1)", x.count(1), 3);
        Check.due("count(2)", x.count(2), 2);
        Check.due("count(3)", x.count(3), 2);
        int[] shafts = {0, 1, 0, 0, 1};
        for (int i = 0; i < 5; i++) {
            Check.due("end(" + i + ", 0)", x.end(i, 0), shafts[i]);
            Check.due("end(" + i + ", 1)", x.end(i, 1), 0);
        }
        int[] treadles = {0, 1, 0};
        for (int j = 0; j < 3; j++) {
            Check.due("pick(" + j + ", 0)", x.pick(j, 0), treadles[j]);
            Check.due("pick(" + j + ", 1)", x.pick(j, 1), 1);
        }
        Check.due("treadle(0)", x.treadle(0), 2);
        Check.due("treadle(1)", x.treadle(1), 1);
        Check.due("least(4)", x.least(4), 1);
        Check.due("least(0): the sample stays", x.least(0), 3);
        Check.due("undo()", x.undo(), 0);
        Check.due("count(0)", x.count(0), 7);
        Check.due("end(0, 1)", x.end(0, 1), 4);
        WeaveDraft rings = Check.told("row oooooooooooo");
        Check.due("sample()", rings.sample(), 1);
        Check.due("treadle(0)", rings.treadle(0), 0);
        Check.due("count(0)", rings.count(0), 12);
    }

    private static void draftedRefused() {
        WeaveDraft x = new WeaveDraft();
        Check.due("sample() of no rows", x.sample(), WeaveDraft.NOT);
        Check.due("count(14)", x.count(14), 0);
        // seven unlike columns, then six
        Check.tell(x, "row xoxoxox;row xxooxxo;row xxxxooo");
        Check.due("least(2)", x.least(2), 7);
        String was = Check.all(x);
        Check.due("sample() of 7 shafts", x.sample(), WeaveDraft.NOT);
        Check.holds("refused, nothing changes", was.equals(Check.all(x)));
        Check.tell(x, "clear;row xoxoxo;row xxooxx;row xxxxoo");
        Check.due("sample() of 6 shafts", x.sample(), 6);
        // seven unlike rows, then six
        Check.tell(x, "clear;row xxx;row oxx;row xox;row oox;row xxo;row oxo;row xoo");
        Check.due("least(3)", x.least(3), 7);
        Check.due("sample() of 7 treadles", x.sample(), WeaveDraft.NOT);
        Check.tell(x, "clear;row xxx;row oxx;row xox;row oox;row xxo;row oxo");
        Check.due("sample() of 6 treadles", x.sample(), 3);
        Check.due("count(3)", x.count(3), 6);
    }

    private static void turned() {
        WeaveDraft x = Check.told("draft 3 5 2 4;warp 0 7;weft 4 3;tie 0 1;draw 2 1;tread 0 3");
        Check.clothIs("ahead", x, "oxx oxx xoo oxx xxx");
        String was = Check.draftOnly(x);
        Check.due("turn()", x.turn(), 5);
        Check.clothIs("turned", x, "ooxox xxoxx xxoxx");
        int[] counts = {5, 3, 4, 2};
        for (int what = 0; what < 4; what++) {
            Check.due("count(" + what + ")", x.count(what), counts[what]);
        }
        Check.due("end(0, 0)", x.end(0, 0), 3);
        Check.due("end(4, 1)", x.end(4, 1), 3);
        Check.due("end(0, 1)", x.end(0, 1), 1);
        Check.due("pick(0, 1)", x.pick(0, 1), 7);
        Check.due("pick(2, 0)", x.pick(2, 0), 1);
        Check.due("treadle(0)", x.treadle(0), 0b0101);
        Check.due("treadle(1)", x.treadle(1), 0b1011);
        Check.due("treadle(2)", x.treadle(2), WeaveDraft.UNKNOWN);
        Check.due("turn()", x.turn(), 3);
        Check.holds("turned twice it is as it was", was.equals(Check.draftOnly(x)));
        Check.due("count(14)", x.count(14), 2);
    }

    private static void undone() {
        WeaveDraft x = new WeaveDraft();
        x.draw(0, 1);
        x.draw(0, 1);
        Check.due("count(14): also one by which nothing became other", x.count(14), 2);
        x.draw(9, 9);
        x.keep(0);
        x.changed(0, 1);
        x.spool(0);
        Check.due("count(14): only changes of the draft", x.count(14), 2);
        Check.due("undo()", x.undo(), 1);
        Check.due("end(0, 0)", x.end(0, 0), 1);
        Check.due("undo()", x.undo(), 0);
        Check.due("end(0, 0)", x.end(0, 0), 0);
        Check.due("undo()", x.undo(), WeaveDraft.NOT);
        Check.due("measure(0, 0): spools are not undone", x.measure(0, 0), 0);
        Check.due("back(0): what is kept is not undone", x.back(0), 4);
        Check.due("end(0, 0)", x.end(0, 0), 1);
    }

    private static void eightUndone() {
        WeaveDraft x = new WeaveDraft();
        for (int colour = 1; colour <= 9; colour++) {
            x.warp(0, colour);
            Check.due("count(14)", x.count(14), Math.min(colour, 8));
        }
        x.warp(0, 0);
        for (int step = 7; step >= 5; step--) {
            Check.due("undo()", x.undo(), step);
        }
        Check.due("end(0, 1)", x.end(0, 1), 7);
        for (int i = 0; i < 5; i++) {
            x.weft(0, i);
        }
        Check.due("count(14)", x.count(14), 8);
        for (int step = 7; step >= 0; step--) {
            Check.due("undo()", x.undo(), step);
        }
        Check.due("undo() of none", x.undo(), WeaveDraft.NOT);
        Check.due("end(0, 1): the oldest can't be undone any more", x.end(0, 1), 4);
        Check.due("pick(0, 1)", x.pick(0, 1), 1);
    }

    private static void undoOfEach() {
        WeaveDraft x = Check.told("draft 5 3 2 4;row xxo;row oxo;row oox");
        String was = Check.draftOnly(x);
        for (int kind = 0; kind < 7; kind++) {
            switch (kind) {
                case 0: x.draw(1, 0); break;
                case 1: x.tie(2, 1); break;
                case 2: x.tread(2, 3); break;
                case 3: x.warp(4, 6); break;
                case 4: x.weft(2, 6); break;
                case 5: x.sample(); break;
                default: x.turn(); break;
            }
            Check.holds("change " + kind, !was.equals(Check.draftOnly(x)));
            Check.due("undo()", x.undo(), 0);
            Check.holds("change " + kind + " is undone", was.equals(Check.draftOnly(x)));
        }
    }

    private static void kept() {
        WeaveDraft x = Check.told("draft 5 3 2 2;warp 1 2");
        Check.due("keep(-1)", x.keep(-1), WeaveDraft.UNKNOWN);
        Check.due("keep(2)", x.keep(2), WeaveDraft.UNKNOWN);
        Check.due("back(-1)", x.back(-1), WeaveDraft.UNKNOWN);
        Check.due("back(2)", x.back(2), WeaveDraft.UNKNOWN);
        Check.due("back(0)", x.back(0), WeaveDraft.NOT);
        Check.due("keep(0)", x.keep(0), 5);
        Check.due("back(1)", x.back(1), WeaveDraft.NOT);
        String first = Check.draftOnly(x);
        x.turn();
        x.tie(0, 1);
        Check.due("keep(1)", x.keep(1), 3);
        String second = Check.draftOnly(x);
        x.weft(0, 9);
        Check.due("count(14)", x.count(14), 3);
        Check.due("back(0)", x.back(0), 5);
        Check.holds("as it was kept", first.equals(Check.draftOnly(x)));
        Check.due("undo()", x.undo(), WeaveDraft.NOT);
        x.draw(0, 1);
        Check.due("back(1)", x.back(1), 3);
        Check.holds("as it was kept", second.equals(Check.draftOnly(x)));
        x.warp(0, 3);
        Check.due("back(0) once more", x.back(0), 5);
        Check.holds("what is kept does not change with the draft", first.equals(Check.draftOnly(x)));
        x.warp(0, 3);
        Check.due("keep(0) once more", x.keep(0), 5);
        x.warp(0, 4);
        x.back(0);
        Check.due("end(0, 1)", x.end(0, 1), 3);
    }
}
