/** Promises 2 to 5: the text, its fault, and what its clauses do. */
public final class TextTest {
    public static void main(String[] args) {
        letters();
        emptyTexts();
        words();
        blanks();
        numbers();
        boundsByTheDraft();
        rows();
        semicolons();
        clausesDone();
        whatStays();
        whatIsForgotten();
        refusedDraft();
        Check.finish();
    }

    private static void letters() {
        WeaveDraft x = new WeaveDraft();
        Check.due("write(-1)", x.write(-1), WeaveDraft.OUTSIDE);
        Check.due("write(256)", x.write(256), WeaveDraft.OUTSIDE);
        Check.due("write(least)", x.write(Integer.MIN_VALUE), WeaveDraft.OUTSIDE);
        Check.due("write(most)", x.write(Integer.MAX_VALUE), WeaveDraft.OUTSIDE);
        Check.due("write(0)", x.write(0), 1);
        Check.due("write(255)", x.write(255), 2);
        for (int i = 3; i <= 200; i++) {
            Check.due("write(32)", x.write(32), i);
        }
        Check.due("write(32) of a full text", x.write(32), WeaveDraft.FULL);
        Check.due("write(256) of a full text", x.write(256), WeaveDraft.OUTSIDE);
        Check.due("count(15)", x.count(15), 200);
        Check.due("fault()", x.fault(), 0);
        Check.due("erase()", x.erase(), 200);
        Check.due("erase()", x.erase(), 0);
        Check.due("count(15)", x.count(15), 0);
        Check.due("write(97)", x.write(97), 1);
    }

    private static void emptyTexts() {
        WeaveDraft x = new WeaveDraft();
        Check.faultAt(x, "", 0);
        Check.due("draft()", x.draft(), WeaveDraft.NOT);
        Check.faultAt(x, "   ", 3);
        Check.due("draft()", x.draft(), WeaveDraft.NOT);
        Check.due("count(15)", x.count(15), 3);
    }

    private static void words() {
        WeaveDraft x = new WeaveDraft();
        Check.faultAt(x, "clear", WeaveDraft.NONE);
        Check.faultAt(x, "Clear", 0);
        Check.faultAt(x, "clea", 0);
        Check.faultAt(x, "cleare", 0);
        Check.faultAt(x, "clearclear", 0);
        Check.faultAt(x, "clear clear", 6);
        Check.faultAt(x, "clear 1", 6);
        Check.faultAt(x, "clear.", 5);
        Check.faultAt(x, "12 clear", 0);
        Check.faultAt(x, "; clear", 0);
        Check.faultAt(x, "weave 1 2", 0);
        Check.faultAt(x, "draw", 4);
        Check.faultAt(x, "draw x 1", 5);
        Check.faultAt(x, "draw 0, 1", 6);
        Check.faultAt(x, "draw ; 1", 5);
        Check.faultAt(x, "draw -1 0", 5);
        Check.faultAt(x, "\tclear", 0);
        Check.faultAt(x, "clear\n", 5);
        Check.faultAt(x, "clear" + (char) 228, 5);
        Check.faultAt(x, "clea" + (char) 228, 0);
        Check.faultAt(x, "clear" + (char) 0, 5);
        Check.faultAt(x, "clear`", 5);
        Check.faultAt(x, "clear{", 5);
        Check.faultAt(x, "draw 0/", 6);
        Check.faultAt(x, "draw 0:", 6);
    }

    private static void blanks() {
        WeaveDraft x = new WeaveDraft();
        Check.faultAt(x, "  clear  ;  draw  1  1  ", WeaveDraft.NONE);
        Check.faultAt(x, "draw1 1;clear", WeaveDraft.NONE);
        Check.faultAt(x, "draw 11", 5);
        Check.faultAt(x, "draw1", 5);
        Check.faultAt(x, "draw1 1clear", 7);
        Check.faultAt(x, "draw1 ", 6);
        Check.faultAt(x, "rowxo", 0);
        Check.faultAt(x, "row xo1", 6);
        Check.faultAt(x, "cl ear", 0);
    }

    private static void numbers() {
        WeaveDraft x = new WeaveDraft();
        Check.faultAt(x, "draft 12 12 6 6", WeaveDraft.NONE);
        Check.faultAt(x, "draft 01 01 01 01", WeaveDraft.NONE);
        Check.faultAt(x, "draft 001 1 1 1", 6);
        Check.faultAt(x, "draft 1 1 1 006", 12);
        Check.faultAt(x, "draft 0 1 1 1", 6);
        Check.faultAt(x, "draft 1 0 1 1", 8);
        Check.faultAt(x, "draft 1 1 0 1", 10);
        Check.faultAt(x, "draft 1 1 1 0", 12);
        Check.faultAt(x, "draft 1 1 1 00", 12);
        Check.faultAt(x, "draft 13 1 1 1", 6);
        Check.faultAt(x, "draft 1 13 1 1", 8);
        Check.faultAt(x, "draft 1 1 7 1", 10);
        Check.faultAt(x, "draft 1 1 1 7", 12);
        Check.faultAt(x, "draft 1 1 1 1 1", 14);
        Check.faultAt(x, "draft 1 1 1;", 11);
        Check.faultAt(x, "draw 0 99999999999999999999", 7);
        Check.faultAt(x, "warp 3 9", WeaveDraft.NONE);
        Check.faultAt(x, "warp 3 10", 7);
        Check.faultAt(x, "warp 4 0", 5);
        Check.faultAt(x, "weft 3 09", WeaveDraft.NONE);
        Check.faultAt(x, "weft 3 10", 7);
        Check.faultAt(x, "weft 4 0", 5);
    }

    private static void boundsByTheDraft() {
        WeaveDraft x = Check.told("draft 3 5 2 4");
        Check.faultAt(x, "draw 2 1", WeaveDraft.NONE);
        Check.faultAt(x, "draw 3 1", 5);
        Check.faultAt(x, "draw 2 2", 7);
        Check.faultAt(x, "tie 3 1", WeaveDraft.NONE);
        Check.faultAt(x, "tie 4 1", 4);
        Check.faultAt(x, "tie 3 2", 6);
        Check.faultAt(x, "tread 4 3", WeaveDraft.NONE);
        Check.faultAt(x, "tread 5 3", 6);
        Check.faultAt(x, "tread 4 4", 8);
        Check.faultAt(x, "warp 2 9", WeaveDraft.NONE);
        Check.faultAt(x, "warp 3 9", 5);
        Check.faultAt(x, "weft 4 9", WeaveDraft.NONE);
        Check.faultAt(x, "weft 5 9", 5);
        Check.faultAt(x, "draft 12 1 6 1;draw 11 5", WeaveDraft.NONE);
        Check.faultAt(x, "draft 1 1 1 1;draw 1 0", 19);
        Check.faultAt(x, "draw 2 1;draft 2 1 1 1;draw 2 0", 28);
        // only told, not done: the draft is the one that it was
        Check.faultAt(x, "draw 2 1;tie 3 1", WeaveDraft.NONE);
        x.turn();
        Check.faultAt(x, "draw 4 3;tie 1 3;tread 2 1", WeaveDraft.NONE);
        Check.faultAt(x, "tie 2 0", 4);
    }

    private static void rows() {
        WeaveDraft x = new WeaveDraft();
        Check.faultAt(x, "row", 3);
        Check.faultAt(x, "row ;", 4);
        Check.faultAt(x, "row 10", 4);
        Check.faultAt(x, "row x", WeaveDraft.NONE);
        Check.faultAt(x, "row xoxoxoxoxoxo", WeaveDraft.NONE);
        Check.faultAt(x, "row xoxoxoxoxoxox", 4);
        Check.faultAt(x, "row xoy", 4);
        Check.faultAt(x, "row xO", 5);
        Check.faultAt(x, "row xo xo", 7);
        Check.faultAt(x, "row xo;row oxo", 11);
        Check.faultAt(x, "row xo;row o", 11);
        Check.faultAt(x, "row xo;clear;row oxo", WeaveDraft.NONE);
        Check.tell(x, "row xo;row ox");
        Check.faultAt(x, "row xxx", 4);
        Check.faultAt(x, "clear;row xxx", WeaveDraft.NONE);
        Check.faultAt(x, "draft 3 3 1 1;row xxx", 18);
        Check.tell(x, "row xx;row xx;row xx;row xx;row xx;row xx;row xx;row xx;row xx;row oo");
        Check.due("least(0)", x.least(0), 12);
        Check.faultAt(x, "row xx", 0);
        Check.faultAt(x, "row", 0);
        Check.faultAt(x, "draw 0 0; row xxx", 10);
        Check.faultAt(x, "clear;row xxx", WeaveDraft.NONE);
        x = new WeaveDraft();
        String twelve = "row x;row x;row x;row x;row x;row x;row x;row x;row x;row x;row x;row x";
        Check.faultAt(x, twelve, WeaveDraft.NONE);
        Check.faultAt(x, twelve + ";row x", 72);
        Check.faultAt(x, twelve + ";clear;row x", WeaveDraft.NONE);
        Check.due("least(0)", x.least(0), 0);
    }

    private static void semicolons() {
        WeaveDraft x = new WeaveDraft();
        Check.faultAt(x, "clear;", 6);
        Check.faultAt(x, "clear;  ", 8);
        Check.faultAt(x, "clear;;clear", 6);
        Check.faultAt(x, "clear:clear", 5);
        String most = "clear;".repeat(23) + "clear";
        Check.faultAt(x, most, WeaveDraft.NONE);
        Check.faultAt(x, most + ";", 143);
        x = new WeaveDraft();
        Check.faultAt(x, most + " ;clear", 144);
        Check.faultAt(x, most + " clear", 144);
        Check.tell(x, most);
    }

    private static void clausesDone() {
        WeaveDraft x = Check.told("draft 5 3 3 2;draw 4 0;tie 1 1;tie 1 2;tread 2 1;warp 1 9;weft 0 0");
        Check.due("count(0)", x.count(0), 5);
        Check.due("count(1)", x.count(1), 3);
        Check.due("count(2)", x.count(2), 3);
        Check.due("count(3)", x.count(3), 2);
        Check.due("end(3, 0)", x.end(3, 0), 0);
        Check.due("end(4, 0)", x.end(4, 0), 0);
        Check.due("end(2, 0)", x.end(2, 0), 2);
        Check.due("treadle(0)", x.treadle(0), 1);
        Check.due("treadle(1): untied from 1, tied to 2", x.treadle(1), 4);
        Check.due("pick(2, 0)", x.pick(2, 0), 1);
        Check.due("end(1, 1)", x.end(1, 1), 9);
        Check.due("pick(0, 1)", x.pick(0, 1), 0);
        Check.due("pick(1, 1)", x.pick(1, 1), 1);
        Check.due("count(15)", x.count(15), 0);
        Check.clothIs("told", x, "xooxx ooxoo ooxoo");
        Check.tell(x, "draw 0 1;draw 0 2;draw 0 1");
        Check.due("end(0, 0): in their order", x.end(0, 0), 1);
    }

    private static void whatStays() {
        WeaveDraft x = Check.told("draft 3 3 3 3;warp 2 5;tie 0 1;row xo");
        Check.tell(x, "weft 1 7");
        Check.due("end(2, 1)", x.end(2, 1), 5);
        Check.due("treadle(0)", x.treadle(0), 3);
        Check.due("pick(1, 1)", x.pick(1, 1), 7);
        Check.due("least(0)", x.least(0), 1);
        Check.tell(x, "draft 3 3 3 3;row ox");
        Check.due("end(2, 1): as at first", x.end(2, 1), 0);
        Check.due("pick(1, 1): as at first", x.pick(1, 1), 1);
        Check.due("treadle(0): as at first", x.treadle(0), 1);
        Check.due("least(0): the sample stays", x.least(0), 2);
        Check.tell(x, "clear");
        Check.due("least(0)", x.least(0), 0);
        Check.due("least(1)", x.least(1), 0);
        Check.due("sampled(0, 0)", x.sampled(0, 0), WeaveDraft.NONE);
    }

    private static void whatIsForgotten() {
        WeaveDraft x = new WeaveDraft();
        x.draw(0, 1);
        x.keep(0);
        x.keep(1);
        x.spool(0);
        x.wind(0, 5);
        Check.tell(x, "clear");
        Check.due("undo()", x.undo(), WeaveDraft.NOT);
        Check.due("back(0)", x.back(0), WeaveDraft.NOT);
        Check.due("back(1)", x.back(1), WeaveDraft.NOT);
        Check.due("measure(0, 0)", x.measure(0, 0), WeaveDraft.NULL);
        Check.due("count(13)", x.count(13), 0);
        Check.due("end(0, 0): the change stays", x.end(0, 0), 1);
    }

    private static void refusedDraft() {
        WeaveDraft x = Check.told("row xo");
        x.draw(0, 1);
        x.keep(1);
        x.spool(2);
        x.wind(2, 9);
        Check.write(x, "draft 5 5 5 5;warp 0 3;clear;row xxx;row xx");
        String was = Check.all(x);
        Check.due("draft()", x.draft(), WeaveDraft.NOT);
        Check.due("fault()", x.fault(), 41);
        Check.holds("a refused draft() changes nothing", was.equals(Check.all(x)));
        Check.due("back(1)", x.back(1), 4);
    }
}
