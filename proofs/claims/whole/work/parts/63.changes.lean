/-! THE CHANGES, whole, on both sides -/
theorem chg_all {X Y : MM} (hS : Sim X Y) (hR : RQ Y) : ∃ X2 Y2, fX0_note 0 X = some X2 ∧ Sim X2 (stM Y 0 0 0) ∧ fX5_records (stM Y 0 0 0) = some Y2 ∧ RQ Y2 ∧ (∀ c, c ≠ 0 → c ≠ 2 → Y2 c = (stM Y 0 0 0) c) ∧
    ∀ (a : Int) (X4 Y' : MM), 0 ≤ a → (∀ c, 5 ≤ c → X4 c = X2 c) → (∀ c, c ≠ 1 → Y' c = Y2 c) → RG X4 0 (Y' 1) → ∃ X', fX4_changed a X4 = some (a, X') ∧ Sim X' Y' := by
  have h0 : Sim X (stM Y 0 0 0) := Sim_QY hS (QY_st Y)
  have hR0 : RQ (stM Y 0 0 0) := RQ_st hR _ _ (by decide)
  obtain ⟨X2, x1, x2⟩ := sim_note h0.2.2.1
  obtain ⟨o, m, -, o2, -, -, o5, -⟩ := h0.2.2.1
  obtain ⟨Y2, y1, y2, y3⟩ := y_records hR0 o2 o5
  refine ⟨X2, Y2, x1, NT_sim h0 x2, y1, y3, y2.1, fun a X4 Y' ha hX hY hG => ?_⟩
  have hc := NT_c x2
  refine chg_ok ha h0 x2 y2 (fun c h1 _ => hX c h1) (fun c h1 _ => hY c (by omega)) (by rw [hY 0 (by decide)]) hG ?_
  exact PD_fr h0.2.2.2.2 (by rw [hX 71 (by decide), hc 71 (by omega)]) (by rw [hX 72 (by decide), hc 72 (by omega)]) (by rw [hY 0 (by decide), y2.2.1 7 (by decide)]) (by rw [hY 5 (by decide), y2.1 5 (by decide) (by decide)])
section QS
variable {X Y : MM}
theorem q_set (hS : Sim X Y) (hR : RR Y) (a b : Int) : ∃ res X' Y', fX4_set a b X = some (res, X') ∧ fX5_set a b Y = some (res, Y') ∧ Sim X' Y' := by
  obtain ⟨X2, Y2, x1, s2, y1, r2, e1, ch⟩ := chg_all hS (RR_Q hR)
  have one : ¬ (1 : Int) = 0 := by decide
  have g := s2.1
  have e11 : Y2 1 = (stM Y 0 0 0) 1 := e1 1 (by decide) (by decide)
  rw [← e11] at g
  by_cases h : setOk a b
  · obtain ⟨n, rfl⟩ : ∃ n : Nat, a = n := ⟨a.toNat, by omega⟩
    have hn : n < 3 := by omega
    have hx : X2 (5 * 0 + 1) n = Y2 1 n ∧ 0 ≤ Y2 1 n := by
      obtain ⟨v1, v2, v3, -⟩ := RG_V g
      obtain ⟨w1, w2, w3, -⟩ := RG_S g
      rcases (show n = 0 ∨ n = 1 ∨ n = 2 by omega) with rfl | rfl | rfl
      · exact ⟨w1, by omega⟩
      · exact ⟨w2, by omega⟩
      · exact ⟨w3, by omega⟩
    have hG : RG (stM X2 (5 * 0 + 1) n b) 0 ((stM Y2 1 n b) 1) := by
      obtain ⟨v1, v2, v3, -⟩ := RG_V g
      obtain ⟨w1, w2, w3, -⟩ := RG_S g
      refine RG_set g ?_ ?_ ?_ ?_ ?_ ?_ (fun k hk => st_k (by omega)) (fun c _ _ hc => st_cell hc)
      · by_cases e : (0 : Nat) = n
        · rw [← e, st_at]; omega
        · rw [st_k e]; exact v1
      · by_cases e : (1 : Nat) = n
        · rw [← e, st_at]; omega
        · rw [st_k e]; exact v2
      · by_cases e : (2 : Nat) = n
        · rw [← e, st_at]; omega
        · rw [st_k e]; exact v3
      · by_cases e : (0 : Nat) = n
        · rw [← e, st_at, st_at]
        · rw [st_k e, st_k e]; exact w1
      · by_cases e : (1 : Nat) = n
        · rw [← e, st_at, st_at]
        · rw [st_k e, st_k e]; exact w2
      · by_cases e : (2 : Nat) = n
        · rw [← e, st_at, st_at]
        · rw [st_k e, st_k e]; exact w3
    obtain ⟨X', k1, k2⟩ := ch (Y2 1 n) _ _ hx.2 (fun c hc => st_cell (by omega)) (fun c hc => st_cell hc) hG
    refine ⟨Y2 1 n, X', _, ?_, ?_, k2⟩
    · unfold fX4_set
      rw [x1, bnd_s, x_changeSetting X2 h, bnd2_s, hx.1, k1, bnd2_s]
    · unfold fX5_set
      rw [bnd_s, y_isSetting, bnd_s, if_pos h, if_neg one, y1, bnd_s, rd_n n rfl (by omega), bnd_s, wr_n n rfl (by omega) ⟨by omega, by omega⟩, bnd_s]
  · refine ⟨-2, X2, _, ?_, ?_, s2⟩
    · unfold fX4_set
      rw [x1, bnd_s, x_noSetting X2 h, bnd2_s, chg_no (by decide), bnd2_s]
    · unfold fX5_set
      rw [bnd_s, y_isSetting, bnd_s, if_neg h, if_pos rfl]
theorem q_visit (hS : Sim X Y) (hR : RR Y) (a b c d e f : Int) : ∃ res X' Y', fX4_visit a b c d e f X = some (res, X') ∧ fX5_visit a b c d e f Y = some (res, Y') ∧ Sim X' Y' := by
  obtain ⟨X2, Y2, x1, s2, y1, r2, e1, ch⟩ := chg_all hS (RR_Q hR)
  obtain ⟨res, X4, o1, o2⟩ := o_visit s2.1 a b c d e f
  rcases o2 with ⟨h1, h2, h3⟩ | ⟨h1, h2, h3, h4⟩
  · rw [h2] at o1
    refine ⟨res, X2, _, ?_, ?_, s2⟩
    · unfold fX4_visit
      rw [x1, bnd_s, o1, bnd2_s, chg_no h1, bnd2_s]
    · unfold fX5_visit
      rw [bnd_s, h3, bnd_s, if_neg (by omega)]
  · obtain ⟨Z', f1, f2, f3⟩ := h4 Y2 (e1 1 (by decide) (by decide))
    obtain ⟨X', k1, k2⟩ := ch res X4 Z' h1 h3 f2 f3
    refine ⟨res, X', Z', ?_, ?_, k2⟩
    · unfold fX4_visit
      rw [x1, bnd_s, o1, bnd2_s, k1, bnd2_s]
    · unfold fX5_visit
      rw [bnd_s, h2, bnd_s, if_pos rfl, y1, bnd_s, f1, bnd2_s]
theorem q_van (hS : Sim X Y) (hR : RR Y) (a b : Int) : ∃ res X' Y', fX4_van a b X = some (res, X') ∧ fX5_van a b Y = some (res, Y') ∧ Sim X' Y' := by
  obtain ⟨X2, Y2, x1, s2, y1, r2, e1, ch⟩ := chg_all hS (RR_Q hR)
  obtain ⟨res, X4, o1, o2⟩ := o_van s2.1 a b
  rcases o2 with ⟨h1, h2, h3⟩ | ⟨h1, h2, h3, h4⟩
  · rw [h2] at o1
    refine ⟨res, X2, _, ?_, ?_, s2⟩
    · unfold fX4_van
      rw [x1, bnd_s, o1, bnd2_s, chg_no h1, bnd2_s]
    · unfold fX5_van
      rw [bnd_s, h3, bnd_s, if_neg (by omega)]
  · obtain ⟨Z', f1, f2, f3⟩ := h4 Y2 (e1 1 (by decide) (by decide))
    obtain ⟨X', k1, k2⟩ := ch res X4 Z' h1 h3 f2 f3
    refine ⟨res, X', Z', ?_, ?_, k2⟩
    · unfold fX4_van
      rw [x1, bnd_s, o1, bnd2_s, k1, bnd2_s]
    · unfold fX5_van
      rw [bnd_s, h2, bnd_s, if_pos rfl, y1, bnd_s, f1, bnd2_s]
theorem q_load (hS : Sim X Y) (hR : RR Y) (a b m : Int) : ∃ res X' Y', fX4_load a b m X = some (res, X') ∧ fX5_load a b m Y = some (res, Y') ∧ Sim X' Y' := by
  obtain ⟨X2, Y2, x1, s2, y1, r2, e1, ch⟩ := chg_all hS (RR_Q hR)
  obtain ⟨res, X4, o1, o2⟩ := o_load s2.1 a b m
  rcases o2 with ⟨h1, h2, h3⟩ | ⟨h1, h2, hb, h3, h4⟩
  · rw [h2] at o1
    refine ⟨res, X2, _, ?_, ?_, s2⟩
    · unfold fX4_load
      rw [x1, bnd_s, o1, bnd2_s, chg_no h1, bnd2_s]
    · unfold fX5_load
      rw [bnd_s, h3, bnd_s, if_neg (by omega)]
  · obtain ⟨Z', f0, f1, f2, f3⟩ := h4 Y2 (e1 1 (by decide) (by decide))
    obtain ⟨X', k1, k2⟩ := ch res X4 Z' h1 h3 f2 f3
    refine ⟨res, X', Z', ?_, ?_, k2⟩
    · unfold fX4_load
      rw [x1, bnd_s, o1, bnd2_s, k1, bnd2_s]
    · unfold fX5_load
      rw [bnd_s, h2, bnd_s, if_pos rfl, y1, bnd_s, gd_s hb, f0, bnd_s, f1, bnd_s]
theorem q_drop (hS : Sim X Y) (hR : RR Y) (a : Int) : ∃ res X' Y', fX4_drop a X = some (res, X') ∧ fX5_drop a Y = some (res, Y') ∧ Sim X' Y' := by
  obtain ⟨X2, Y2, x1, s2, y1, r2, e1, ch⟩ := chg_all hS (RR_Q hR)
  obtain ⟨res, X4, o1, o2⟩ := o_drop s2.1 a
  rcases o2 with ⟨h1, h2, h5, h3⟩ | ⟨h1, h2, h3, h4⟩
  · rw [h2] at o1
    refine ⟨res, X2, _, ?_, ?_, s2⟩
    · unfold fX4_drop
      rw [x1, bnd_s, o1, bnd2_s, chg_no h1, bnd2_s]
    · unfold fX5_drop
      rw [bnd_s, h3, bnd_s, if_pos rfl, h5]
  · obtain ⟨Z', f1, f2, f3⟩ := h4 Y2 (e1 1 (by decide) (by decide))
    obtain ⟨X', k1, k2⟩ := ch res X4 Z' h1 h3 f2 f3
    refine ⟨res, X', Z', ?_, ?_, k2⟩
    · unfold fX4_drop
      rw [x1, bnd_s, o1, bnd2_s, k1, bnd2_s]
    · unfold fX5_drop
      rw [bnd_s, h2, bnd_s, if_neg (by decide), y1, bnd_s, f1, bnd2_s]
theorem y_L27 {m : Nat} (hm : m ≤ 5) : ∀ (k n j : Nat) (Z : MM), j + k = 153 → k < n → RQ Z → Z 0 3 = m → ∃ Z', fX5_undo_L27 n j Z = some Z' ∧ (∀ c, c ≠ 1 → Z' c = Z c) ∧ (∀ i, j ≤ i → i < 153 → Z' 1 i = Z 2 (153 * m + i)) ∧ (∀ i, i < j → Z' 1 i = Z 1 i) := by
  intro k
  induction k with
  | zero =>
    intro n j Z hk hn hR h3
    obtain ⟨n, rfl⟩ : ∃ q, n = q + 1 := ⟨n - 1, by omega⟩
    exact ⟨Z, by rw [fX5_undo_L27, if_pos (by omega)], fun c _ => rfl, fun i h1 h2 => by omega, fun i _ => rfl⟩
  | succ k ih =>
    intro n j Z hk hn hR h3
    obtain ⟨n, rfl⟩ : ∃ q, n = q + 1 := ⟨n - 1, by omega⟩
    rw [fX5_undo_L27, if_neg (by omega), rd_n (153 * m + j) (by rw [h3]; omega) (by omega), bnd_s, wr_n j rfl (by omega) (hR _ _ (by decide) (by decide)), bnd_s, gd_R (by omega) (by omega)]
    obtain ⟨Z', a1, a2, a4, a5⟩ := ih n (j + 1) (stM Z 1 j (Z 2 (153 * m + j))) (by omega) (by omega) (RQ_st hR _ _ (hR _ _ (by decide) (by decide))) (by rw [st_c (by decide)]; exact h3)
    refine ⟨Z', a1, fun c hc => by rw [a2 c hc, st_cell hc], fun i h1 h2 => ?_, fun i hi => by rw [a5 i (by omega), st_k (by omega)]⟩
    by_cases e : i = j
    · rw [e, a5 _ (by omega), st_at]
    · rw [a4 i (by omega) h2, st_c (by decide)]
theorem y_L35 {m : Nat} (hm : m ≤ 1) : ∀ (k n j : Nat) (Z : MM), j + k = 153 → k < n → RQ Z → ∃ Z', fX5_restore_L35 n m j Z = some Z' ∧ (∀ c, c ≠ 1 → Z' c = Z c) ∧ (∀ i, j ≤ i → i < 153 → Z' 1 i = Z 3 (153 * m + i)) ∧ (∀ i, i < j → Z' 1 i = Z 1 i) := by
  intro k
  induction k with
  | zero =>
    intro n j Z hk hn hR
    obtain ⟨n, rfl⟩ : ∃ q, n = q + 1 := ⟨n - 1, by omega⟩
    exact ⟨Z, by rw [fX5_restore_L35, if_pos (by omega)], fun c _ => rfl, fun i h1 h2 => by omega, fun i _ => rfl⟩
  | succ k ih =>
    intro n j Z hk hn hR
    obtain ⟨n, rfl⟩ : ∃ q, n = q + 1 := ⟨n - 1, by omega⟩
    rw [fX5_restore_L35, if_neg (by omega), rd_n (153 * m + j) (by omega) (by omega), bnd_s, wr_n j rfl (by omega) (hR _ _ (by decide) (by decide)), bnd_s, gd_R (by omega) (by omega)]
    obtain ⟨Z', a1, a2, a4, a5⟩ := ih n (j + 1) (stM Z 1 j (Z 3 (153 * m + j))) (by omega) (by omega) (RQ_st hR _ _ (hR _ _ (by decide) (by decide)))
    refine ⟨Z', a1, fun c hc => by rw [a2 c hc, st_cell hc], fun i h1 h2 => ?_, fun i hi => by rw [a5 i (by omega), st_k (by omega)]⟩
    by_cases e : i = j
    · rw [e, a5 _ (by omega), st_at]
    · rw [a4 i (by omega) h2, st_c (by decide)]
theorem y_L19 {m : Nat} (hm : m ≤ 1) : ∀ (k n j : Nat) (Z : MM), j + k = 153 → k < n → RQ Z → ∃ Z', fX5_save_L19 n m j Z = some Z' ∧ (∀ c, c ≠ 3 → Z' c = Z c) ∧ (∀ i, j ≤ i → i < 153 → Z' 3 (153 * m + i) = Z 1 i) ∧ (∀ i, i < 153 * m + j ∨ 153 * m + 153 ≤ i → Z' 3 i = Z 3 i) := by
  intro k
  induction k with
  | zero =>
    intro n j Z hk hn hR
    obtain ⟨n, rfl⟩ : ∃ q, n = q + 1 := ⟨n - 1, by omega⟩
    exact ⟨Z, by rw [fX5_save_L19, if_pos (by omega)], fun c _ => rfl, fun i h1 h2 => by omega, fun i _ => rfl⟩
  | succ k ih =>
    intro n j Z hk hn hR
    obtain ⟨n, rfl⟩ : ∃ q, n = q + 1 := ⟨n - 1, by omega⟩
    rw [fX5_save_L19, if_neg (by omega), rd_n j rfl (by omega), bnd_s, wr_n (153 * m + j) (by omega) (by omega) (hR _ _ (by decide) (by decide)), bnd_s, gd_R (by omega) (by omega)]
    obtain ⟨Z', a1, a2, a4, a5⟩ := ih n (j + 1) (stM Z 3 (153 * m + j) (Z 1 j)) (by omega) (by omega) (RQ_st hR _ _ (hR _ _ (by decide) (by decide)))
    refine ⟨Z', a1, fun c hc => by rw [a2 c hc, st_cell hc], fun i h1 h2 => ?_, fun i hi => by rw [a5 i (by omega), st_k (by omega)]⟩
    by_cases e : i = j
    · rw [e, a5 _ (by omega), st_at]
    · rw [a4 i (by omega) h2, st_c (by decide)]
theorem wrZ_n {M : MM} {c n : Nat} {i : Int} (k : Nat) (hi : i = k) (h1 : k < n) : wrZ M c n i 1 = some (stM M c k 1) := by
  subst hi
  unfold wrZ
  rw [if_pos ⟨⟨by omega, by omega⟩, Or.inr rfl⟩, Int.toNat_natCast]
theorem q_undo (hS : Sim X Y) (hR : RR Y) : ∃ res X' Y', fX4_undo X = some (res, X') ∧ fX5_undo Y = some (res, Y') ∧ Sim X' Y' := by
  have h0 : Sim X (stM Y 0 0 0) := Sim_QY hS (QY_st Y)
  have hR0 : RQ (stM Y 0 0 0) := RQ_st (RR_Q hR) _ _ (by decide)
  obtain ⟨g, pn, ⟨o, m, o1, o2, o3, o4, o5, o6⟩, sl, pd⟩ := id h0
  by_cases hm : m = 0
  · refine ⟨-5, X, _, ?_, ?_, h0⟩
    · unfold fX4_undo
      rw [if_pos (by omega)]
    · unfold fX5_undo
      rw [bnd_s, if_pos (by omega)]
  · obtain ⟨m, rfl⟩ : ∃ q, m = q + 1 := ⟨m - 1, by omega⟩
    generalize hY1 : stM Y 0 0 0 = Y1 at *
    have hA1 : (stM X 67 2 m) 67 1 = o := by rw [st_k (by decide)]; exact o3
    have hA2 : (stM X 67 2 m) 67 2 = (m : Int) := st_at _ _ _ _
    have e := irem7_add hA1 hA2 (by omega)
    obtain ⟨X2, x1, x2⟩ := x_copy (stM X 67 2 m) (r0 := 0) (r1 := 4 + (o + m) % 7) (by omega)
    have hg := o6 m (by omega)
    have hb := RG_b hg
    obtain ⟨Y2, y1, y2, y3, -⟩ := y_L27 (m := m) (by omega) 153 4000 0 (stM Y1 0 3 m) (by omega) (by omega) (RQ_st hR0 _ _ ⟨by omega, by omega⟩) (st_at _ _ _ _)
    have hX2 : ∀ c, 5 ≤ c → c ≠ 67 → X2 c = X c := fun c h1 h2 => by rw [x2.1 c (by omega), st_cell h2]
    have hG2 : RG X2 0 (Y2 1) := by
      refine RG_same (s := fun b => Y1 2 (153 * m + b)) (same_153 hb.1.2 hb.2.2 (fun b hb => ?_)) (CP_G x2 (RG_X hg (fun c c1 c2 => st_cell (by omega))))
      rw [y3 b (by omega) hb, st_c (by decide)]
    obtain ⟨X', -, p1, -, -, p2, -⟩ := make_plan (r := 0) (p := 0) (RG_V hG2) (RG_S hG2) (by decide) (by decide)
    have hw : ∀ c, 5 ≤ c → (c < 55 ∨ 61 ≤ c) → c ≠ 67 → X' c = X c := fun c h1 h2 h3 => by rw [p2 c (by omega), hX2 c h1 h3]
    have h67 : X' 67 = (stM X 67 2 m) 67 := by rw [p2 67 (by omega), x2.1 67 (by omega)]
    have hY0 : Y2 0 = (stM Y1 0 3 m) 0 := y2 0 (by decide)
    have hYc : ∀ c, 2 ≤ c → Y2 c = Y1 c := fun c hc => by rw [y2 c (by omega), st_cell (by omega)]
    refine ⟨m, X', Y2, ?_, ?_, RG_X hG2 (fun c _ _ => p2 c (by omega)), PN_made (RG_S hG2) p1, ⟨o, m, o1, by omega, by rw [h67]; exact hA1, by rw [h67]; exact hA2, by rw [hY0, st_at], fun k hk => ?_⟩, fun j hj => ?_, ?_⟩
    · unfold fX4_undo fX0_takeBack
      rw [o4, if_neg (by omega), if_neg (by omega), gd_R (by omega) (by omega), bnd_s, show ((m + 1 : Nat) : Int) - 1 = m by omega, e, gd_s (by omega), Int.toNat_natCast, x1, bnd_s, bnd_s, bnd_s, p1, bnd_s, h67, st_at]
    · unfold fX5_undo
      rw [bnd_s, hY1, o5, if_neg (by omega), gd_R (by omega) (by omega), bnd_s, show ((m + 1 : Nat) : Int) - 1 = m by omega, show fX5_undo_L27 4000 0 (stM Y1 0 3 m) = some Y2 from y1, bnd_s, hY0, st_at]
    · rw [hYc 2 (by decide)]
      exact RG_X (o6 k (by omega)) (fun c c1 c2 => hw c (by omega) (by omega) (by omega))
    · rw [hw 70 (by omega) (by omega) (by omega), hYc 4 (by decide), hYc 3 (by decide)]
      obtain ⟨s1, s2⟩ := sl j hj
      exact ⟨s1, s2.imp id (fun q => ⟨q.1, RG_X q.2 (fun c c1 c2 => hw c (by omega) (by omega) (by omega))⟩)⟩
    · exact PD_fr pd (by rw [hw 71 (by omega) (by omega) (by omega)]) (hw 72 (by omega) (by omega) (by omega)) (by rw [hY0, st_k (by decide)]) (hYc 5 (by decide))
theorem q_save (hS : Sim X Y) (hR : RR Y) (a : Int) : ∃ res X' Y', fX4_save a X = some (res, X') ∧ fX5_save a Y = some (res, Y') ∧ Sim X' Y' := by
  have h0 : Sim X (stM Y 0 0 0) := Sim_QY hS (QY_st Y)
  have hR0 : RQ (stM Y 0 0 0) := RQ_st (RR_Q hR) _ _ (by decide)
  have one : ¬ (1 : Int) = 0 := by decide
  unfold fX4_save fX5_save
  by_cases h : 0 ≤ a ∧ a ≤ 1
  · obtain ⟨n, rfl⟩ : ∃ n : Nat, a = n := ⟨a.toNat, by omega⟩
    obtain ⟨g, ⟨X0, X1, a1, a2, a3⟩, ⟨o, m, o1, o2, o3, o4, o5, o6⟩, sl, pd⟩ := id h0
    generalize stM Y 0 0 0 = Y1 at *
    have hb := RG_b g
    obtain ⟨X2, x1, x2⟩ := x_copy X (r0 := 2 + n) (r1 := 0) (by omega)
    obtain ⟨Y2, y1, y2, y3, y4⟩ := y_L19 (m := n) (by omega) 153 4000 0 Y1 (by omega) (by omega) hR0
    have hx : ∀ c, c ≠ 70 → (c < 5 * (2 + n) ∨ 5 * (2 + n) + 5 ≤ c) → (stM X2 70 n 1) c = X c := fun c h1 h2 => by rw [st_cell h1, x2.1 c h2]
    have hy : ∀ c, c ≠ 3 → c ≠ 4 → (stM Y2 4 n 1) c = Y1 c := fun c h1 h2 => by rw [st_cell h2, y2 c h1]
    have r3 : X (5 * 0) 4 = Y1 1 3 := (RG_S g).2.2.2.1
    refine ⟨Y1 1 3, stM X2 70 n 1, stM Y2 4 n 1, ?_, ?_, ?_, ⟨X0, X1, ?_, a2, fun c c1 c2 => ?_⟩, ⟨o, m, o1, o2, ?_, ?_, ?_, fun k hk => ?_⟩, fun j hj => ?_, ?_⟩
    · rw [p_within, bnd_s, if_pos h, if_neg one, gd_s (by omega), Int.toNat_natCast, x1, bnd_s, wrZ_n n rfl (by omega), bnd_s, hx (5 * 0) (by omega) (by omega), r3]
    · rw [bnd_s, p_in, bnd_s, if_pos h, if_neg one, show fX5_save_L19 4000 n 0 Y1 = some Y2 from y1, bnd_s, wrZ_n n rfl (by omega), bnd_s, rd_n (i := 3) 3 rfl (by decide), bnd_s, hy 1 (by decide) (by decide)]
    · rw [hy 1 (by decide) (by decide)]
      exact RG_X g (fun c c1 c2 => hx c (by omega) (by omega))
    · exact xS_1 (hy 1 (by decide) (by decide)) a1
    · rw [hx c (by omega) (by omega)]; exact a3 c c1 c2
    · rw [hx 67 (by omega) (by omega)]; exact o3
    · rw [hx 67 (by omega) (by omega)]; exact o4
    · rw [hy 0 (by decide) (by decide)]; exact o5
    · rw [hy 2 (by decide) (by decide)]
      exact RG_X (o6 k hk) (fun c c1 c2 => hx c (by omega) (by omega))
    · have e3 : ∀ b, (stM Y2 4 n 1) 3 b = Y2 3 b := fun b => st_c (by decide)
      by_cases e : j = n
      · rw [e, st_at, st_at]
        refine ⟨rfl, Or.inr ⟨rfl, RG_same (s := Y1 1) (same_153 hb.1.2 hb.2.2 (fun b hb => ?_)) (RG_X (CP_G x2 g) (fun c c1 c2 => st_cell (by omega)))⟩⟩
        show (stM Y2 4 n 1) 3 (153 * n + b) = Y1 1 b
        rw [e3, y3 b (by omega) hb]
      · obtain ⟨s1, s2⟩ := sl j hj
        rw [st_k e, st_k e, x2.1 70 (by omega), y2 4 (by decide)]
        refine ⟨s1, s2.imp id (fun q => ⟨q.1, ?_⟩)⟩
        have hb2 := RG_b q.2
        refine RG_same (s := fun b => Y1 3 (153 * j + b)) (same_153 hb2.1.2 hb2.2.2 (fun b hb => ?_)) (RG_X q.2 (fun c c1 c2 => hx c (by omega) (by omega)))
        show (stM Y2 4 n 1) 3 (153 * j + b) = Y1 3 (153 * j + b)
        rw [e3, y4 _ (by omega)]
    · exact PD_fr pd (by rw [hx 71 (by omega) (by omega)]) (hx 72 (by omega) (by omega)) (by rw [hy 0 (by decide) (by decide)]) (hy 5 (by decide) (by decide))
  · refine ⟨-2, X, _, ?_, ?_, h0⟩
    · rw [p_within, bnd_s, if_neg h, if_pos rfl]
    · rw [bnd_s, p_in, bnd_s, if_neg h, if_pos rfl]
theorem q_restore (hS : Sim X Y) (hR : RR Y) (a : Int) : ∃ res X' Y', fX4_restore a X = some (res, X') ∧ fX5_restore a Y = some (res, Y') ∧ Sim X' Y' := by
  have h0 : Sim X (stM Y 0 0 0) := Sim_QY hS (QY_st Y)
  have one : ¬ (1 : Int) = 0 := by decide
  unfold fX4_restore fX5_restore
  by_cases h : 0 ≤ a ∧ a ≤ 1
  · obtain ⟨n, rfl⟩ : ∃ n : Nat, a = n := ⟨a.toNat, by omega⟩
    obtain ⟨s1, s2⟩ := h0.2.2.2.1 n (by omega)
    rcases s2 with s2 | ⟨s2, -⟩
    · refine ⟨-5, X, _, ?_, ?_, h0⟩
      · rw [p_within, bnd_s, if_pos h, if_neg one, rd_n n rfl (by omega), bnd_s, s1, s2, if_pos rfl]
      · rw [bnd_s, p_in, bnd_s, if_pos h, if_neg one, rd_n n rfl (by omega), bnd_s, s2, if_pos rfl]
    · obtain ⟨X2, Y2, x1, t2, y1, r2, e1, ch⟩ := chg_all hS (RR_Q hR)
      obtain ⟨-, g⟩ := t2.2.2.2.1 n (by omega)
      have g : RG X2 (2 + n) (fun b => (stM Y 0 0 0) 3 (153 * n + b)) := by
        rcases g with q | q
        · rw [s2] at q; exact absurd q (by decide)
        · exact q.2
      have hb := RG_b g
      obtain ⟨X4, c1, c2⟩ := x_copy X2 (r0 := 0) (r1 := 2 + n) (by omega)
      obtain ⟨Y4, y4, y5, y6, -⟩ := y_L35 (m := n) (by omega) 153 4000 0 Y2 (by omega) (by omega) r2
      have hG : RG X4 0 (Y4 1) := by
        refine RG_same (same_153 hb.1.2 hb.2.2 (fun b hb => ?_)) (CP_G c2 g)
        rw [y6 b (by omega) hb, e1 3 (by decide) (by decide)]
      have hb4 := RG_b hG
      have r3 : X4 (5 * 0) 4 = Y4 1 3 := (RG_S hG).2.2.2.1
      obtain ⟨X', k1, k2⟩ := ch (Y4 1 3) X4 Y4 hb4.1.1 (fun c hc => c2.1 c (by omega)) y5 hG
      refine ⟨Y4 1 3, X', Y4, ?_, ?_, k2⟩
      · rw [p_within, bnd_s, if_pos h, if_neg one, rd_n n rfl (by omega), bnd_s, s1, s2, if_neg one, x1, bnd_s, gd_s (by omega), Int.toNat_natCast, c1, bnd_s, r3, k1, bnd2_s]
      · rw [bnd_s, p_in, bnd_s, if_pos h, if_neg one, rd_n n rfl (by omega), bnd_s, s2, if_neg one, y1, bnd_s, show fX5_restore_L35 4000 n 0 Y2 = some Y4 from y4, bnd_s, rd_n (i := 3) 3 rfl (by decide), bnd_s]
  · refine ⟨-2, X, _, ?_, ?_, h0⟩
    · rw [p_within, bnd_s, if_neg h, if_pos rfl]
    · rw [bnd_s, p_in, bnd_s, if_neg h, if_pos rfl]
end QS
