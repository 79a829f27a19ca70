/** Promises 10 (readPlan), 12 (type) and 13 (clearText). */
public final class TextsTest {
    private static final Due due = new Due();

    public static void main(String[] args) {
        typing();
        faults();
        plans();
        longTexts();
        due.end();
    }

    private static void typing() {
        KeyGraves x = new KeyGraves();
        due.is("clearText() of nothing", x.clearText(), 0);
        for (int i = 1; i <= 60; i++) {
            due.is("type number " + i, x.type((char) (i * 1000)), i);
            due.is("the length", x.count(12), i);
        }
        due.is("type number 61", x.type('0'), -3);
        due.is("the length stays", x.count(12), 60);
        due.is("no acts", x.count(11), 0);
        due.is("clearText()", x.clearText(), 60);
        due.is("empty", x.count(12), 0);
        due.is("no act still", x.count(11), 0);
        x.setUp(0, false);
        due.is("type", x.type('x'), 1);
        x.undo();
        due.is("undo() leaves the text", x.count(12), 1);
        x.keep();
        x.clearText();
        x.restore();
        due.is("restore() leaves the text", x.count(12), 0);
    }

    private static void fault(String text, int fault) {
        KeyGraves x = new KeyGraves();
        x.plan(2, 3, 4);
        Due.typeAll(x, text);
        due.is("readPlan() of \"" + text + "\"", x.readPlan(), -100 - fault);
        due.is("the plan stays", x.count(8) * 100 + x.planned(0, 2), 104);
        due.is("no act", x.count(11), 1);
        due.is("the text stays", x.count(12), text.length());
    }

    private static void faults() {
        fault("", 0);
        fault("4", 0);
        fault("a", 0);
        fault(" 0-1@5", 0);
        fault("-", 0);
        fault(",", 0);
        fault("0", 1);
        fault("01", 1);
        fault("0@", 1);
        fault("0-", 2);
        fault("0-0@5", 2);
        fault("3-3@5", 2);
        fault("0-4@5", 2);
        fault("0--", 2);
        fault("0-1", 3);
        fault("0-1-", 3);
        fault("0-12", 3);
        fault("0-1@", 4);
        fault("0-1@,", 4);
        fault("0-1@a", 4);
        fault("0-1@-1", 4);
        fault("0-1@00", 5);
        fault("0-1@01", 5);
        fault("0-1@5 ", 5);
        fault("0-1@5;", 5);
        fault("0-1@5-", 5);
        fault("0-1@5@", 5);
        fault("0-1@5/", 5);
        fault("0-1@5:", 5);
        fault("0-1@12345", 8);
        fault("0-1@1234-", 8);
        fault("0-1@5,", 6);
        fault("0-1@5,,", 6);
        fault("0-1@5,4", 6);
        fault("0-1@5,1", 7);
        fault("0-1@5,1-1@5", 8);
        fault("0-1@0,1-0", 9);
        fault("0-1@1234,1-0@", 13);
        fault("0-1@5,1-0@12345,", 14);
        fault("0-1@" + (char) 0x0661, 4);
        fault((char) 0xff10 + "-1@5", 0);
        fault("0-1@5" + (char) 0, 5);
    }

    private static void plans() {
        KeyGraves x = new KeyGraves();
        x.plan(0, 1, 7);
        x.plan(0, 1, 8);
        Due.typeAll(x, "3-0@0");
        due.is("readPlan()", x.readPlan(), 1);
        due.is("an act", x.count(11), 3);
        due.is("the text stays", x.count(12), 5);
        due.is("in place of the plan", x.count(8), 1);
        due.is("its first node", x.planned(0, 0), 3);
        due.is("its second node", x.planned(0, 1), 0);
        due.is("its tick", x.planned(0, 2), 0);
        due.is("no second one", x.planned(1, 0), -5);
        due.is("the same once more", x.readPlan(), 1);
        due.is("an act too", x.count(11), 4);
        Due.typeAll(x, "0-1@9,1-2@10,2-3@987,3-1@9999,2-0@1000");
        due.is("readPlan() of five", x.readPlan(), 5);
        int[] wanted = {0, 1, 9, 1, 2, 10, 2, 3, 987, 3, 1, 9999, 2, 0, 1000};
        for (int i = 0; i < wanted.length; i++) {
            due.is("planned " + i, x.planned(i / 3, i % 3), wanted[i]);
        }
        due.is("undo()", x.undo(), 3);
        due.is("one again", x.count(8), 1);
        due.is("the nodes of it", x.planned(0, 0), 3);
        due.is("added behind", x.plan(1, 2, 3), 2);
    }

    private static void longTexts() {
        KeyGraves x = new KeyGraves();
        StringBuilder text = new StringBuilder("0-1@1");
        for (int i = 2; i <= 9; i++) {
            text.append(",1-2@").append(i);
        }
        text.append(",3-2@10");
        due.is("a text of 60 characters", text.length(), 60);
        Due.typeAll(x, text.toString());
        due.is("readPlan() of ten", x.readPlan(), 10);
        due.is("the last tick", x.planned(9, 2), 10);
        due.is("full", x.plan(0, 1, 2), -3);
        due.is("ten repairs", x.pass(20), 10);
        Due.typeAll(x, text.substring(0, 53) + ",1-2@2,");
        due.is("60 that end too early", x.readPlan(), -160);
    }
}
