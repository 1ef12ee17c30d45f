/-! BY HAND, OVER A TYPED HEAP: looksAt -/
def hq_looks : et_Co := (257, [.inr (.inr (0, 13)), .inl (0, 2)], [(13, 23, 23), (13, 24, 24), (13, 25, 25), (13, 26, 26), (13, 27, 27), (13, 29, 29), (50, 0, 5)], [(.inl none, 0, 0)], 8)
theorem hc_looks : et_cv et_TT hq_looks := by
  sorry
