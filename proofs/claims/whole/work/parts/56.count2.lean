/-! QUERIES on both sides: count -/
section QD
variable {X Y : MM}
theorem q_count (hV : ValS Y) (hS : xS X Y 0) (hN : PN X Y 0 0) (hp : X 71 1 = Y 0 7) (hh : X 67 2 = Y 0 3) (a : Int) : ∃ (res : Int) (Y' : MM), fX4_count a X = some res ∧ fX5_count a Y = some (res, Y') ∧ QY Y Y' := by
  obtain ⟨K, k1, k2, k3, k4⟩ := q_plan hV hS hN
  have hVK : ValS K := k2.1.1
  have hRK : RunS K 100 := k2.1.2.1
  have hc := hVK.2.2.2.1
  have hS0 : xS X K 0 := k2.1.2.2.1
  have n4 : X (5 * 0) 4 = K 1 3 := hS0.2.2.2.1
  have n5 : X (5 * 0) 5 = K 1 4 := hS0.2.2.2.2.1
  have one : ¬ (1 : Int) = 0 := by decide
  have hp' : X 71 1 = K 0 7 := by rw [k3.2 7 (by decide)]; exact hp
  have hh' : X 67 2 = K 0 3 := by rw [k3.2 3 (by decide)]; exact hh
  have hb := ycnt_b K 0 1 (K 1 3).toNat 0 0
  have h24 := ycnt_24 K (K 1 3).toNat 0 0 0 (fun i _ h => (k2.2 i (by omega)).2.1)
  have y2 : fX5_in 11 11 13 = some 1 := by rw [p_in]; rfl
  have y3 : fX5_in 12 11 13 = some 1 := by rw [p_in]; rfl
  have y4 : fX5_in 13 11 13 = some 1 := by rw [p_in]; rfl
  unfold fX4_count fX5_count
  rw [bnd_s, k1, bnd_s]
  by_cases h : 0 ≤ a ∧ a ≤ 15
  · rcases (show a = 0 ∨ a = 1 ∨ a = 2 ∨ a = 3 ∨ a = 4 ∨ a = 5 ∨ a = 6 ∨ a = 7 ∨ a = 8 ∨ a = 9 ∨ a = 10 ∨ a = 11 ∨ a = 12 ∨ a = 13 ∨ a = 14 ∨ a = 15 by omega) with rfl | rfl | rfl | rfl | rfl | rfl | rfl | rfl | rfl | rfl | rfl | rfl | rfl | rfl | rfl | rfl
    · refine ⟨K 1 3, K, ?_, ?_, k3⟩
      · rw [if_pos rfl, n4]
      · rw [if_pos rfl, rd_n (i := 3) 3 rfl (by decide), bnd_s]
    · refine ⟨K 1 4, K, ?_, ?_, k3⟩
      · rw [if_neg (by decide), if_pos rfl, n5]
      · rw [if_neg (by decide), if_pos rfl, rd_n (i := 4) 4 rfl (by decide), bnd_s]
    · refine ⟨ycnt K 0 0 (K 1 3).toNat 0 0, K, ?_, ?_, k3⟩
      · rw [if_neg (by decide), if_neg (by decide), if_pos rfl, x_promises k2, bnd_s]
      · rw [if_neg (by decide), if_neg (by decide), if_pos rfl, gd_R (by decide) (by decide), show (2 : Int) - 2 = 0 from rfl, y_withPromise hVK, bnd_s]
    · refine ⟨ycnt K 1 1 (K 1 3).toNat 0 0, K, ?_, ?_, k3⟩
      · rw [if_neg (by decide), if_neg (by decide), if_neg (by decide), if_pos rfl, x_promises k2, bnd_s]
      · rw [if_neg (by decide), if_neg (by decide), if_neg (by decide), if_pos rfl, gd_R (by decide) (by decide), show (3 : Int) - 2 = 1 from rfl, y_withPromise hVK, bnd_s]
    · refine ⟨ycnt K 2 4 (K 1 3).toNat 0 0, K, ?_, ?_, k3⟩
      · rw [if_neg (by decide), if_neg (by decide), if_neg (by decide), if_neg (by decide), if_pos rfl, x_made k2, bnd_s, n4, gd_R (by omega) (by omega), show K 1 3 - ycnt K 0 1 (K 1 3).toNat 0 0 = ycnt K 2 4 (K 1 3).toNat 0 0 by omega]
      · rw [if_neg (by decide), if_neg (by decide), if_neg (by decide), if_neg (by decide), if_pos rfl, y_withPromise hVK, bnd_s]
    · refine ⟨ycnt K 2 2 (K 1 3).toNat 0 0, K, ?_, ?_, k3⟩
      · rw [if_neg (by decide), if_neg (by decide), if_neg (by decide), if_neg (by decide), if_neg (by decide), if_pos rfl, x_promises k2, bnd_s]
      · rw [if_neg (by decide), if_neg (by decide), if_neg (by decide), if_neg (by decide), if_neg (by decide), if_pos rfl, gd_R (by decide) (by decide), show (5 : Int) - 3 = 2 from rfl, y_withPromise hVK, bnd_s]
    · refine ⟨ycnt K 3 3 (K 1 3).toNat 0 0, K, ?_, ?_, k3⟩
      · rw [if_neg (by decide), if_neg (by decide), if_neg (by decide), if_neg (by decide), if_neg (by decide), if_neg (by decide), if_pos rfl, x_promises k2, bnd_s]
      · rw [if_neg (by decide), if_neg (by decide), if_neg (by decide), if_neg (by decide), if_neg (by decide), if_neg (by decide), if_pos rfl, gd_R (by decide) (by decide), show (6 : Int) - 3 = 3 from rfl, y_withPromise hVK, bnd_s]
    · refine ⟨ycnt K 4 4 (K 1 3).toNat 0 0, K, ?_, ?_, k3⟩
      · rw [if_neg (by decide), if_neg (by decide), if_neg (by decide), if_neg (by decide), if_neg (by decide), if_neg (by decide), if_neg (by decide), if_pos rfl, x_promises k2, bnd_s]
      · rw [if_neg (by decide), if_neg (by decide), if_neg (by decide), if_neg (by decide), if_neg (by decide), if_neg (by decide), if_neg (by decide), if_pos rfl, gd_R (by decide) (by decide), show (7 : Int) - 3 = 4 from rfl, y_withPromise hVK, bnd_s]
    · refine ⟨ysum K 15 (K 1 4).toNat 0 0, K, ?_, ?_, k3⟩
      · rw [if_neg (by decide), if_neg (by decide), if_neg (by decide), if_neg (by decide), if_neg (by decide), if_neg (by decide), if_neg (by decide), if_neg (by decide), if_pos rfl, show (1 : Int) = ((1 : Nat) : Int) from rfl, (x_sum k2 (Or.inl ⟨rfl, rfl⟩)).1, bnd_s]
      · rw [if_neg (by decide), if_neg (by decide), if_neg (by decide), if_neg (by decide), if_neg (by decide), if_neg (by decide), if_neg (by decide), if_neg (by decide), if_pos rfl, y_over hVK hRK (Or.inl ⟨rfl, rfl⟩), bnd_s]
    · refine ⟨ysum K 16 (K 1 4).toNat 0 0, K, ?_, ?_, k3⟩
      · rw [if_neg (by decide), if_neg (by decide), if_neg (by decide), if_neg (by decide), if_neg (by decide), if_neg (by decide), if_neg (by decide), if_neg (by decide), if_neg (by decide), if_pos rfl, show (2 : Int) = ((2 : Nat) : Int) from rfl, (x_sum k2 (Or.inr ⟨rfl, rfl⟩)).1, bnd_s]
      · rw [if_neg (by decide), if_neg (by decide), if_neg (by decide), if_neg (by decide), if_neg (by decide), if_neg (by decide), if_neg (by decide), if_neg (by decide), if_neg (by decide), if_pos rfl, y_over hVK hRK (Or.inr ⟨rfl, rfl⟩), bnd_s]
    · refine ⟨ymax K (K 1 4).toNat 0 0, K, ?_, ?_, k3⟩
      · rw [if_neg (by decide), if_neg (by decide), if_neg (by decide), if_neg (by decide), if_neg (by decide), if_neg (by decide), if_neg (by decide), if_neg (by decide), if_neg (by decide), if_neg (by decide), if_pos rfl, x_last k2, bnd_s]
      · rw [if_neg (by decide), if_neg (by decide), if_neg (by decide), if_neg (by decide), if_neg (by decide), if_neg (by decide), if_neg (by decide), if_neg (by decide), if_neg (by decide), if_neg (by decide), if_pos rfl, y_over10 hVK, bnd_s]
    · refine ⟨K 1 0, K, ?_, ?_, k3⟩
      · rw [if_neg (by decide), if_neg (by decide), if_neg (by decide), if_neg (by decide), if_neg (by decide), if_neg (by decide), if_neg (by decide), if_neg (by decide), if_neg (by decide), if_neg (by decide), if_neg (by decide), if_pos rfl, rd_n (i := 0) 0 rfl (by decide), bnd_s, hS0.1]
      · rw [if_neg (by decide), if_neg (by decide), if_neg (by decide), if_neg (by decide), if_neg (by decide), if_neg (by decide), if_neg (by decide), if_neg (by decide), if_neg (by decide), if_neg (by decide), if_neg (by decide), if_pos rfl, y2, bnd_s, if_neg one, show (11 : Int) - 11 = 0 from rfl, rd_n (i := 0) 0 rfl (by decide), bnd_s, bnd_s]
    · refine ⟨K 1 1, K, ?_, ?_, k3⟩
      · rw [if_neg (by decide), if_neg (by decide), if_neg (by decide), if_neg (by decide), if_neg (by decide), if_neg (by decide), if_neg (by decide), if_neg (by decide), if_neg (by decide), if_neg (by decide), if_neg (by decide), if_neg (by decide), if_pos rfl, rd_n (i := 1) 1 rfl (by decide), bnd_s, hS0.2.1]
      · rw [if_neg (by decide), if_neg (by decide), if_neg (by decide), if_neg (by decide), if_neg (by decide), if_neg (by decide), if_neg (by decide), if_neg (by decide), if_neg (by decide), if_neg (by decide), if_neg (by decide), if_neg (by decide), if_pos rfl, y3, bnd_s, if_neg one, show (12 : Int) - 11 = 1 from rfl, rd_n (i := 1) 1 rfl (by decide), bnd_s, bnd_s]
    · refine ⟨K 1 2, K, ?_, ?_, k3⟩
      · rw [if_neg (by decide), if_neg (by decide), if_neg (by decide), if_neg (by decide), if_neg (by decide), if_neg (by decide), if_neg (by decide), if_neg (by decide), if_neg (by decide), if_neg (by decide), if_neg (by decide), if_neg (by decide), if_neg (by decide), if_pos rfl, rd_n (i := 2) 2 rfl (by decide), bnd_s, hS0.2.2.1]
      · rw [if_neg (by decide), if_neg (by decide), if_neg (by decide), if_neg (by decide), if_neg (by decide), if_neg (by decide), if_neg (by decide), if_neg (by decide), if_neg (by decide), if_neg (by decide), if_neg (by decide), if_neg (by decide), if_neg (by decide), if_pos rfl, y4, bnd_s, if_neg one, show (13 : Int) - 11 = 2 from rfl, rd_n (i := 2) 2 rfl (by decide), bnd_s, bnd_s]
    · refine ⟨K 0 7, K, ?_, ?_, k3⟩
      · rw [if_neg (by decide), if_neg (by decide), if_neg (by decide), if_neg (by decide), if_neg (by decide), if_neg (by decide), if_neg (by decide), if_neg (by decide), if_neg (by decide), if_neg (by decide), if_neg (by decide), if_neg (by decide), if_neg (by decide), if_neg (by decide), if_pos rfl, hp']
      · rw [if_neg (by decide), if_neg (by decide), if_neg (by decide), if_neg (by decide), if_neg (by decide), if_neg (by decide), if_neg (by decide), if_neg (by decide), if_neg (by decide), if_neg (by decide), if_neg (by decide), if_neg (by decide), if_neg (by decide), if_neg (by decide), if_pos rfl]
    · refine ⟨K 0 3, K, ?_, ?_, k3⟩
      · rw [if_neg (by decide), if_neg (by decide), if_neg (by decide), if_neg (by decide), if_neg (by decide), if_neg (by decide), if_neg (by decide), if_neg (by decide), if_neg (by decide), if_neg (by decide), if_neg (by decide), if_neg (by decide), if_neg (by decide), if_neg (by decide), if_neg (by decide), if_pos rfl, hh']
      · rw [if_neg (by decide), if_neg (by decide), if_neg (by decide), if_neg (by decide), if_neg (by decide), if_neg (by decide), if_neg (by decide), if_neg (by decide), if_neg (by decide), if_neg (by decide), if_neg (by decide), if_neg (by decide), if_neg (by decide), if_neg (by decide), if_neg (by decide), if_pos rfl]
  · refine ⟨-2, K, ?_, ?_, k3⟩
    · rw [if_neg (by omega), if_neg (by omega), if_neg (by omega), if_neg (by omega), if_neg (by omega), if_neg (by omega), if_neg (by omega), if_neg (by omega), if_neg (by omega), if_neg (by omega), if_neg (by omega), if_neg (by omega), if_neg (by omega), if_neg (by omega), if_neg (by omega), if_neg (by omega)]
    · rw [if_neg (by omega), if_neg (by omega), if_neg (by omega), if_neg (by omega), if_neg (by omega), if_neg (by omega), if_neg (by omega), if_neg (by omega), if_neg (by omega), if_neg (by omega), if_neg (by omega), if_neg (by omega), if_neg (by omega), if_neg (by omega), if_neg (by omega), if_neg (by omega), p_in, bnd_s, if_neg (show ¬ (11 ≤ a ∧ a ≤ 13) by omega), if_pos rfl, bnd_s]
end QD
