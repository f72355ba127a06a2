/** What can be seen of a guild, as a text that can be compared. Has no main, so .ci/run does not run it. */
final class Picture {
    private Picture() {
    }

    /** All that changes can change: 54 calls, and 10 for each kettle. */
    static String state(Guild guild) {
        StringBuilder text = new StringBuilder("accounts");
        for (int what = 0; what <= 10; what++) {
            text.append(' ').append(guild.account(what));
        }
        text.append("\n owners");
        for (int pitch = 1; pitch <= 12; pitch++) {
            text.append(' ').append(guild.owner(pitch));
        }
        text.append("\n heats");
        for (int stove = 0; stove < 6; stove++) {
            text.append(' ').append(guild.stoveOf(stove, true));
        }
        for (int member = 0; member < 4; member++) {
            text.append("\n member");
            for (int what = 0; what <= 5; what++) {
                text.append(' ').append(guild.memberOf(member, what));
            }
        }
        int kettles = guild.account(0);
        for (int kettle = 0; kettle < kettles; kettle++) {
            text.append("\n kettle");
            for (int what = 0; what <= 9; what++) {
                text.append(' ').append(guild.kettleOf(kettle, what));
            }
        }
        return text.toString();
    }

    /** What is neither undone nor saved: the line, the length of the text, the reasons. */
    static String rest(Guild guild) {
        return "line " + guild.line() + "\n text " + guild.account(11) + "\n reasons " + reasons(guild);
    }

    static String reasons(Guild guild) {
        StringBuilder text = new StringBuilder();
        for (int depth = 0; depth < 3; depth++) {
            text.append(guild.reason(depth, false)).append(' ').append(guild.reason(depth, true)).append(' ');
        }
        return text.toString();
    }
}
