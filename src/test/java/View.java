/** All that can be seen of an object without changing it. */
final class View {
    private View() {
    }

    static String of(CardRights rights) {
        StringBuilder seen = new StringBuilder();
        seen.append("now ").append(rights.now()).append(" uses ").append(rights.uses());
        seen.append(" fewest ").append(rights.fewest()).append(" in");
        for (int person = 0; person < 40 && isPerson(rights, person); person++) {
            seen.append(' ').append(rights.where(person));
        }
        for (int zone = 0; zone < 10; zone++) {
            seen.append(" zone ").append(rights.inside(zone)).append(' ').append(rights.muster(zone, 0));
        }
        seen.append(" against ").append(rights.against()).append(':');
        for (int k = 0; k < Math.min(100, rights.against()); k++) {
            for (int what = 0; what < 4; what++) {
                seen.append(' ').append(rights.found(k, what));
            }
        }
        return seen.toString();
    }

    private static boolean isPerson(CardRights rights, int person) {
        try {
            rights.where(person);
            return true;
        } catch (IllegalArgumentException none) {
            return false;
        }
    }
}
