theorem ft_mv {u u1 v w : RS} (h : FTQ u v) (h3 : rF w 3 = rF v 3) (h7 : rF w 7 = rF v 7) (h8 : rF w 8 = rF v 8) (h9 : rF w 9 = rF v 9) (g17 : rF u1 17 = rF u 17) (g18 : rF u1 18 = rF u 18) (g19 : rF u1 19 = rF u 19) : FTQ u1 w := by
  unfold FTQ
  rw [h3, h7, h8, h9, g17, g18, g19]
  exact h
