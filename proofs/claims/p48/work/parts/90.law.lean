theorem law_goal : lawGoal := sorry
