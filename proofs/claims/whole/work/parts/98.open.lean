/-- OPEN: the pure run of the law -/
theorem pu_ok : pu_law := sorry
