import java.nio.charset.StandardCharsets;

/** How WhereShe is used; README.md shows this file, and ReadmeTest looks at what it prints. */
public final class Example {
    private Example() {
    }

    /** Puts a text on the TAPE (which is empty behind each text()), twenty bytes a call. */
    private static void tape(WhereShe x, String text) {
        byte[] bytes = text.getBytes(StandardCharsets.ISO_8859_1);
        for (int i = 0; i < bytes.length; i += 20) {
            int[] n = new int[5];
            for (int j = 0; j < 20 && i + j < bytes.length; j++) {
                n[j / 4] |= (bytes[i + j] & 255) << 24 - j % 4 * 8;
            }
            x.feed(n[0], n[1], n[2], n[3], n[4]);
        }
        x.end(bytes.length);
    }

    private static void show(int answer) {
        System.out.println(answer);
    }

    public static void main(String[] args) {
        WhereShe x = new WhereShe();

        // Scenes: a text comes over the TAPE and becomes one of eight SCENES.
        tape(x, "come 0; come 1; put 0 0 1; snap 0; leave 0; move 1 0 2;");
        show(x.text(0, 0));                    // 6: so many acts has SCENE 0
        show(x.after(0, 0, 0, 0));             // 2: THING 0 is AT BOX 2 in the end
        show(x.after(0, 0, 0, 1));             // 1: WHO 0 THINKS that it is in BOX 1
        show(x.thinks(0, 1, 0, 0));            // 1: WHO 1 THINKS that WHO 0 THINKS so
        show(x.here(0, 0, 0));                 // 0: WHO 0 is not HERE
        tape(x, "come 0; lift 0 7;");
        show(x.text(0, 1));                    // -1: a FAULT; SCENE 1 stays as it was
        show(x.fault(0));                      // 2: there is no such BOX
        show(x.fault(1));                      // 15: the place of it in the text

        // Questions, what the eight RULES say to them, and which of them part which RULES.
        int look = x.question(0, 0, 0, 0, -1);
        int picture = x.question(0, 1, 0, 0, -1);
        show(x.says(look, 0));                 // 2: THERE
        show(x.says(look, 1));                 // 1: HELD, where WHO 0 will look
        show(x.says(picture, 1));              // 1: where THING 0 is in PICTURE 0
        show(x.parted(0, 1));                  // 3: QUESTIONS 0 and 1 part THERE and HELD
        show(x.fewest(1 + 2));                 // 1: QUESTION 0 alone does, too
        tape(x, "come 0; come 1; put 0 0 1;");
        show(x.text(0, 1));                    // 3
        int before = x.question(1, 0, 0, 0, -1);
        show(x.make(before, 1, 3));            // 112: move 1 0 0 would part HELD and PUT
        show(x.need(1, 165));                  // 2: QUESTIONS 0 and 1, answered by HELD

        // Laws of children, chances and answers.
        tape(x, "rule 1 6 when months > 50; rule 0 4; pull 60 - months / 2 when how = 0;");
        show(x.text(1, 0));                    // 3: so many lines has LAW 0
        int old = x.child(0, 60, 3, 0);
        int young = x.child(0, 36, 3, 1);
        show(x.weight(old, look, 0, 1));       // 6: WEIGHT of HELD, asked HOW 0
        show(x.weight(old, look, 0, 8));       // 30: PULL
        show(x.chance(0, old, look, 0, 1));    // 420: of 1000, that BOX 1 is answered
        show(x.chance(0, young, look, 0, 1));  // 0
        x.state(5);
        show(x.ask(old, look, 0));             // 2: by the DRAWS that follow on STATE 5
        show(x.answer(0, 4));                  // 0: the RULE that was drawn
        show(x.answer(0, 5));                  // 0: not PULLED
        show(x.told(old, look, 0, 1));         // 2: so many ANSWERS; this one was told
        show(x.told(old, picture, 0, 1));      // 3
        show(x.told(young, look, 1, 2));       // 4

        // What is counted of the answers.
        show(x.odds(old, 1));                  // 160: of 1000, for HELD
        show(x.odds(old, 8));                  // 1: ITS RULE is HELD
        show(x.pulls(0, 2));                   // 500: SHARE of THERE, asked HOW 0
        show(x.beside(0));                     // 1: one CHILD passes LOOK and PICTURE
        show(x.sorts(1, 8));                   // 1: one of SORT 1 fails
        show(x.curve(10, 1));                  // 1: one RIGHT at 60 to 65 MONTHS
        show(x.curve(-1, 0));                  // 10: TURN
        show(x.score(0));                      // 362
        show(x.score(-1));                     // 0: BEST LAW
        show(x.next(0, 1, old, 0, 0));         // 2: the QUESTION to ask next, by LAWS 0 and 1

        // Babies' eyes, houses, and an image from which all goes on.
        show(x.eyes(300, 900));                // 1: so many rows
        show(x.way(0));                        // 1: LONG
        show(x.house(10, 5));                  // 0: HOUSE 0
        show(x.houses(0));                     // 500: JOINED
        x.image(true);
        x.house(40, 10);
        show(x.houses(0));                     // 300
        x.image(false);
        show(x.houses(0));                     // 500
        show(x.look(2));                       // 4: ANSWERS
    }
}
