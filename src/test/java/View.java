/** All that an object shows without a SERVICE, as a text, but for how many REFUSALS there were. */
final class View {
    private View() {
    }

    static String of(WatchServer x) {
        StringBuilder view = new StringBuilder();
        view.append("value ").append(x.value()).append(" acknowledged ").append(x.acknowledged());
        view.append(" status");
        for (int what = 0; what <= 6; what++) {
            view.append(' ').append(x.status(what));
        }
        addSessions(view, x);
        addSubscriptionsAndItems(view, x);
        addMessages(view, x);
        return view.toString();
    }

    private static void addSessions(StringBuilder view, WatchServer x) {
        for (int s = 0; s < 12 && x.mail(s, 0) != -1; s++) {
            view.append(" session ").append(s).append(':');
            for (int what = 0; what <= 4; what++) {
                view.append(' ').append(x.sessionOf(s, what));
            }
            view.append(" mail");
            for (int i = 0; x.mail(s, i) != -9; i++) {
                view.append(' ').append(x.mail(s, i));
            }
        }
    }

    private static void addSubscriptionsAndItems(StringBuilder view, WatchServer x) {
        for (int sub = 0; sub < 20; sub++) {
            if (x.subscription(sub, 0) == -9) {
                continue;
            }
            view.append(" subscription ").append(sub).append(':');
            for (int what = 0; what <= 8; what++) {
                view.append(' ').append(x.subscription(sub, what));
            }
        }
        for (int i = 0; i < 60; i++) {
            if (x.itemOf(i, 0) == -9) {
                continue;
            }
            view.append(" item ").append(i).append(':');
            for (int what = 0; what <= 4; what++) {
                view.append(' ').append(x.itemOf(i, what));
            }
        }
    }

    private static void addMessages(StringBuilder view, WatchServer x) {
        for (int m = 0; m < x.status(6); m++) {
            view.append(" message ").append(m).append(':');
            for (int what = 0; what <= 5; what++) {
                view.append(' ').append(x.message(m, what));
            }
            for (int i = 0; i < x.message(m, 2); i++) {
                view.append(" entry");
                for (int what = 0; what <= 3; what++) {
                    view.append(' ').append(x.entry(m, i, what));
                }
            }
        }
    }
}
