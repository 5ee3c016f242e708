/** All that can be seen of a machine. */
final class Look {
    private Look() {
    }

    static String at(TagMachine x) {
        StringBuilder all = new StringBuilder();
        for (int i = -1; i <= 7; i++) {
            all.append(" about ").append(x.about(i));
        }
        for (int i = -1; i <= 5; i++) {
            all.append(" floating ").append(x.floating(i));
            all.append(" general ").append(x.general(i));
            all.append(" tag ").append(x.tag(i));
        }
        for (int i = 0; i <= 13; i++) {
            all.append(" place ").append(x.place(i));
        }
        for (int i = -1; i <= 32; i++) {
            all.append(" word ").append(x.word(i));
        }
        return all.toString();
    }
}
