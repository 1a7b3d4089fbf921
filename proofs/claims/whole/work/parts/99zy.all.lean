theorem law_all {G : xG} (hL : xLn G ≤ 3072) : Wx G mL_law room_1 (lawF G) 0 0 0 [(0, .ref 0)] [] (fun _ => none, 1) := by
  sorry
