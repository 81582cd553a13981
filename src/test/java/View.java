/** All that can be asked of an object, as one text: two objects that differ in an answer differ in it. */
final class View {
    private View() {
    }

    static String of(Face x) {
        StringBuilder text = new StringBuilder();
        int messages = x.messages();
        for (int i = 0; i < messages; i++) {
            text.append("m");
            for (int what = 0; what <= 5; what++) {
                text.append(' ').append(x.message(i, what));
            }
            text.append(';');
        }
        for (int keeper = 0; keeper < 9; keeper++) {
            for (int key = 0; key < 4; key++) {
                text.append('k');
                for (int what = 0; what <= 2; what++) {
                    text.append(' ').append(x.keeper(keeper, key, what));
                }
                text.append(' ').append(x.kept(keeper, key)).append(';');
            }
        }
        for (int asker = 0; asker < 4; asker++) {
            text.append('a');
            for (int what = 0; what <= 3; what++) {
                text.append(' ').append(x.asker(asker, what));
            }
            text.append(';');
        }
        int requests = requests(x);
        for (int r = 0; r < requests; r++) {
            text.append('r');
            for (int what = 0; what <= 3; what++) {
                text.append(' ').append(x.request(r, what));
            }
            text.append(' ').append(x.result(r)).append(';');
        }
        return text.toString();
    }

    static int requests(Face x) {
        for (int r = 0; r <= 200; r++) {
            try {
                x.request(r, 0);
            } catch (IndexOutOfBoundsException e) {
                return r;
            }
        }
        return 201;
    }
}
