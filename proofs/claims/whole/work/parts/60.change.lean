/-! A CHANGE on both sides: the state is noted, the road changes, the plan is made anew -/
theorem irem7 : ∀ n : Nat, n < 13 → irem (n : Int) 7 = ((n % 7 : Nat) : Int) := by decide +kernel
theorem irem7_add {x y : Int} {a b : Nat} (hx : x = a) (hy : y = b) (h : a + b < 13) : irem (x + y) 7 = (((a + b) % 7 : Nat) : Int) := by
  rw [hx, hy, show (a : Int) + (b : Int) = ((a + b : Nat) : Int) by omega]
  exact irem7 _ h
/-- what a note leaves -/
def NT (X X2 : MM) : Prop := ∃ o m : Nat, o < 7 ∧ m ≤ 6 ∧ X 67 1 = o ∧ X 67 2 = m ∧ CP X X2 (4 + (o + m) % 7) 0
theorem NT_c {X X2 : MM} (h : NT X X2) : ∀ c, c < 20 ∨ 55 ≤ c → X2 c = X c := by
  obtain ⟨o, m, o1, o2, o3, o4, h, -⟩ := h
  exact fun c hc => h c (by omega)
theorem sim_note {X Y : MM} (h : HR X Y) : ∃ X2, fX0_note 0 X = some X2 ∧ NT X X2 := by
  obtain ⟨o, m, o1, o2, o3, o4, -⟩ := h
  have e := irem7_add o3 o4 (by omega)
  obtain ⟨X2, x1, x2⟩ := x_copy X (r0 := 4 + (o + m) % 7) (r1 := 0) (by omega)
  refine ⟨X2, ?_, o, m, o1, o2, o3, o4, x2⟩
  unfold fX0_note
  rw [e, gd_s (by omega), Int.toNat_natCast, x1, bnd_s]
theorem NT_sim {X X2 Y : MM} (h : Sim X Y) (n : NT X X2) : Sim X2 Y := by
  have hc := NT_c n
  obtain ⟨o', m', -, -, o3', o4', x2, -⟩ := n
  obtain ⟨g, ⟨X0, X1, a1, a2, a3⟩, ⟨o, m, o1, o2, o3, o4, o5, o6⟩, sl, pd⟩ := h
  refine ⟨RG_X g (fun c _ _ => hc c (by omega)), ⟨X0, X1, a1, a2, fun c c1 c2 => by rw [hc c (by omega)]; exact a3 c c1 c2⟩, ⟨o, m, o1, o2, by rw [hc 67 (by omega)]; exact o3, by rw [hc 67 (by omega)]; exact o4, o5, fun k hk => ?_⟩, fun j hj => ?_, PD_fr pd (by rw [hc 71 (by omega)]) (hc 72 (by omega)) rfl rfl⟩
  · have e1 : o' = o := by omega
    have e2 : m' = m := by omega
    rw [e1, e2] at x2
    exact RG_X (o6 k hk) (fun c c1 c2 => x2 c (by omega))
  · rw [hc 70 (by omega)]
    obtain ⟨s1, s2⟩ := sl j hj
    exact ⟨s1, s2.imp id (fun q => ⟨q.1, RG_X q.2 (fun c c1 c2 => hc c (by omega))⟩)⟩
/-- what the reference's record leaves -/
def REC (Y Y2 : MM) : Prop := (∀ c, c ≠ 0 → c ≠ 2 → Y2 c = Y c) ∧ (∀ k, k ≠ 3 → Y2 0 k = Y 0 k) ∧ ∃ m m' : Nat, m ≤ 6 ∧ Y 0 3 = m ∧ Y2 0 3 = ((m' + 1 : Nat) : Int) ∧ (∀ b, b < 153 → Y2 2 (153 * m' + b) = Y 1 b) ∧
  ((m < 6 ∧ m' = m ∧ ∀ k b, k < m → b < 153 → Y2 2 (153 * k + b) = Y 2 (153 * k + b)) ∨ (m = 6 ∧ m' = 5 ∧ ∀ k b, k < 5 → b < 153 → Y2 2 (153 * k + b) = Y 2 (153 * (k + 1) + b)))
/-- numbers in range, but for two cells -/
def RQ (M : MM) : Prop := ∀ c k, c ≠ 0 → c ≠ 17 → inR (M c k)
theorem RR_Q {M : MM} (h : RR M) : RQ M := fun c k _ _ => h c k
theorem RQ_st {M : MM} (h : RQ M) (c k : Nat) {z : Int} (hz : inR z) : RQ (stM M c k z) := by
  intro a b h1 h2
  rw [st_e]
  by_cases q : a = c ∧ b = k
  · rw [if_pos q]; exact hz
  · rw [if_neg q]; exact h a b h1 h2
theorem y_L11 : ∀ (k n j : Nat) (Z : MM), j + k = 765 → k < n → RQ Z → ∃ Z', fX5_records_L11 n j Z = some Z' ∧ (∀ c, c ≠ 2 → Z' c = Z c) ∧ RQ Z' ∧ (∀ i, j ≤ i → i < 765 → Z' 2 i = Z 2 (i + 153)) ∧ (∀ i, i < j ∨ 765 ≤ i → Z' 2 i = Z 2 i) := by
  intro k
  induction k with
  | zero =>
    intro n j Z hk hn hR
    obtain ⟨n, rfl⟩ : ∃ q, n = q + 1 := ⟨n - 1, by omega⟩
    exact ⟨Z, by rw [fX5_records_L11, if_pos (by omega)], fun c _ => rfl, hR, fun i h1 h2 => by omega, fun i _ => rfl⟩
  | succ k ih =>
    intro n j Z hk hn hR
    obtain ⟨n, rfl⟩ : ∃ q, n = q + 1 := ⟨n - 1, by omega⟩
    rw [fX5_records_L11, if_neg (by omega), rd_n (j + 153) (by omega) (by omega), bnd_s, wr_n j rfl (by omega) (hR _ _ (by decide) (by decide)), bnd_s, gd_R (by omega) (by omega)]
    obtain ⟨Z', a1, a2, a3, a4, a5⟩ := ih n (j + 1) (stM Z 2 j (Z 2 (j + 153))) (by omega) (by omega) (RQ_st hR _ _ (hR _ _ (by decide) (by decide)))
    refine ⟨Z', a1, fun c hc => by rw [a2 c hc, st_cell hc], a3, fun i h1 h2 => ?_, fun i hi => by rw [a5 i (by omega), st_k (by omega)]⟩
    by_cases e : i = j
    · rw [e, a5 j (by omega), st_at]
    · rw [a4 i (by omega) h2, st_k (by omega)]
theorem y_L52 {m : Nat} (hm : m ≤ 5) : ∀ (k n j : Nat) (Z : MM), j + k = 153 → k < n → RQ Z → Z 0 3 = m → ∃ Z', fX5_records_L52 n j Z = some Z' ∧ (∀ c, c ≠ 2 → Z' c = Z c) ∧ RQ Z' ∧ (∀ i, j ≤ i → i < 153 → Z' 2 (153 * m + i) = Z 1 i) ∧ (∀ i, i < 153 * m + j ∨ 153 * m + 153 ≤ i → Z' 2 i = Z 2 i) := by
  intro k
  induction k with
  | zero =>
    intro n j Z hk hn hR h3
    obtain ⟨n, rfl⟩ : ∃ q, n = q + 1 := ⟨n - 1, by omega⟩
    exact ⟨Z, by rw [fX5_records_L52, if_pos (by omega)], fun c _ => rfl, hR, fun i h1 h2 => by omega, fun i _ => rfl⟩
  | succ k ih =>
    intro n j Z hk hn hR h3
    obtain ⟨n, rfl⟩ : ∃ q, n = q + 1 := ⟨n - 1, by omega⟩
    rw [fX5_records_L52, if_neg (by omega), rd_n j rfl (by omega), bnd_s, wr_n (153 * m + j) (by rw [h3]; omega) (by omega) (hR _ _ (by decide) (by decide)), bnd_s, gd_R (by omega) (by omega)]
    obtain ⟨Z', a1, a2, a3, a4, a5⟩ := ih n (j + 1) (stM Z 2 (153 * m + j) (Z 1 j)) (by omega) (by omega) (RQ_st hR _ _ (hR _ _ (by decide) (by decide))) (by rw [st_c (by decide)]; exact h3)
    refine ⟨Z', a1, fun c hc => by rw [a2 c hc, st_cell hc], a3, fun i h1 h2 => ?_, fun i hi => by rw [a5 i (by omega), st_k (by omega)]⟩
    by_cases e : i = j
    · rw [e, a5 _ (by omega), st_at]
    · rw [a4 i (by omega) h2, st_c (by decide)]
theorem y_records {Y : MM} (hR : RQ Y) {m : Nat} (hm : m ≤ 6) (h3 : Y 0 3 = m) : ∃ Y2, fX5_records Y = some Y2 ∧ REC Y Y2 ∧ RQ Y2 := by
  unfold fX5_records
  by_cases h6 : m = 6
  · subst h6
    obtain ⟨A, a1, a2, a3, a4, -⟩ := y_L11 765 4000 0 Y (by omega) (by omega) hR
    have hA3 : A 0 3 = 6 := by rw [a2 0 (by decide)]; exact h3
    obtain ⟨B, b1, b2, b3, b4, b5⟩ := y_L52 (m := 5) (by omega) 153 4000 0 (stM A 0 3 5) (by omega) (by omega) (RQ_st a3 _ _ (by decide)) (st_at _ _ _ _)
    have hB3 : B 0 3 = 5 := by rw [b2 0 (by decide), st_at]
    rw [if_pos (by omega), show fX5_records_L11 4000 0 Y = some A from a1, bnd_s, hA3, gd_R (by decide) (by decide), bnd_s, bnd_s, show (6 : Int) - 1 = 5 from rfl, show fX5_records_L52 4000 0 (stM A 0 3 5) = some B from b1, bnd_s, hB3, gd_R (by decide) (by decide), bnd_s]
    refine ⟨_, rfl, ⟨fun c h0 h2 => by rw [st_cell h0, b2 c h2, st_cell h0, a2 c h2], fun k hk => by rw [st_k hk, b2 0 (by decide), st_k hk, a2 0 (by decide)], 6, 5, by omega, h3, (st_at _ _ _ _).trans rfl, fun b hb => ?_, Or.inr ⟨rfl, rfl, fun k b hk hb => ?_⟩⟩, RQ_st b3 _ _ (by decide)⟩
    · rw [st_c (by decide), b4 b (by omega) hb, st_c (by decide), a2 1 (by decide)]
    · rw [st_c (by decide), b5 _ (by omega), st_c (by decide), a4 _ (by omega) (by omega), show 153 * k + b + 153 = 153 * (k + 1) + b by omega]
  · obtain ⟨B, b1, b2, b3, b4, b5⟩ := y_L52 (m := m) (by omega) 153 4000 0 Y (by omega) (by omega) hR h3
    have hB3 : B 0 3 = m := by rw [b2 0 (by decide)]; exact h3
    rw [if_neg (by omega), bnd_s, show fX5_records_L52 4000 0 Y = some B from b1, bnd_s, hB3, gd_R (by omega) (by omega), bnd_s]
    refine ⟨_, rfl, ⟨fun c h0 h2 => by rw [st_cell h0, b2 c h2], fun k hk => by rw [st_k hk, b2 0 (by decide)], m, m, hm, h3, (st_at _ _ _ _).trans (by omega), fun b hb => ?_, Or.inl ⟨by omega, rfl, fun k b hk hb => ?_⟩⟩, RQ_st b3 _ _ ⟨by omega, by omega⟩⟩
    · rw [st_c (by decide), b4 b (by omega) hb]
    · rw [st_c (by decide), b5 _ (by omega)]
theorem chg_no {a : Int} (ha : a < 0) (X : MM) : fX4_changed a X = some (a, X) := by
  unfold fX4_changed
  rw [if_pos ha, bnd_s]
/-- the end of a change: the state is kept, the plan is made -/
theorem chg_ok {X Y X2 Y2 X4 Y' : MM} {a : Int} (ha : 0 ≤ a) (hS : Sim X Y) (n : NT X X2) (rc : REC Y Y2) (hX : ∀ c, 5 ≤ c → c < 71 → X4 c = X2 c) (hY : ∀ c, 2 ≤ c → c < 5 → Y' c = Y2 c) (h3 : Y' 0 3 = Y2 0 3) (hG : RG X4 0 (Y' 1)) (hP : PD X4 Y') : ∃ X', fX4_changed a X4 = some (a, X') ∧ Sim X' Y' := by
  have hc := NT_c n
  obtain ⟨o', m', -, -, o3', o4', x2⟩ := n
  obtain ⟨g, -, ⟨o, m, o1, o2, o3, o4, o5, o6⟩, sl, pd⟩ := hS
  obtain ⟨r1, r2, m1, m2, r3, r4, r5, r6, r7⟩ := rc
  have e1 : o' = o := by omega
  have e2 : m' = m := by omega
  have e3 : m = m1 := by omega
  subst e1 e2 e3
  have hx1 : X4 67 1 = o' := by rw [hX 67 (by omega) (by omega), hc 67 (by omega)]; exact o3
  have hx2 : X4 67 2 = m' := by rw [hX 67 (by omega) (by omega), hc 67 (by omega)]; exact o4
  have hk : ∃ (X5 : MM) (o2 : Nat), fX0_keep X4 = some X5 ∧ (∀ c, c ≠ 67 → X5 c = X4 c) ∧ o2 < 7 ∧ X5 67 1 = o2 ∧ X5 67 2 = ((m2 + 1 : Nat) : Int) ∧ ((m' < 6 ∧ o2 = o') ∨ (m' = 6 ∧ o2 = (o' + 1) % 7)) := by
    unfold fX0_keep
    rcases r7 with ⟨q1, q2, -⟩ | ⟨q1, q2, -⟩
    · rw [hx2, if_neg (by omega), gd_R (by omega) (by omega), bnd_s, bnd_s]
      exact ⟨_, o', rfl, fun c hc => st_cell hc, o1, by rw [st_k (by decide)]; exact hx1, (st_at _ _ _ _).trans (by omega), Or.inl ⟨q1, rfl⟩⟩
    · rw [hx2, if_pos (by omega), irem7_add (y := 1) (b := 1) hx1 rfl (by omega), bnd_s, bnd_s]
      exact ⟨_, (o' + 1) % 7, rfl, fun c hc => st_cell hc, by omega, by rw [st_at], by rw [st_k (by decide), hx2]; omega, Or.inr ⟨q1, rfl⟩⟩
  obtain ⟨X5, o2', k1, k2, k3, k4, k5, k6⟩ := hk
  have hG5 : RG X5 0 (Y' 1) := RG_X hG (fun c _ _ => k2 c (by omega))
  obtain ⟨X', -, p1, -, -, p2, -⟩ := make_plan (r := 0) (p := 0) (RG_V hG5) (RG_S hG5) (by decide) (by decide)
  have hw : ∀ c, 5 ≤ c → c < 71 → (c < 55 ∨ 61 ≤ c) → c ≠ 67 → X' c = X2 c := fun c h1 h2 h4 h5 => by rw [p2 c (by omega), k2 c h5, hX c h1 h2]
  refine ⟨X', ?_, RG_X hG5 (fun c _ _ => p2 c (by omega)), PN_made (RG_S hG5) p1, ⟨o2', m2 + 1, k3, by rcases r7 with ⟨q1, q2, -⟩ | ⟨q1, q2, -⟩ <;> omega, by rw [p2 67 (by omega)]; exact k4, by rw [p2 67 (by omega)]; exact k5, by rw [h3]; exact r5, fun k hk => ?_⟩, fun j hj => ?_, ?_⟩
  · unfold fX4_changed
    rw [if_neg (by omega), k1, bnd_s, p1, bnd_s, bnd_s]
  · rw [hY 2 (by omega) (by omega)]
    by_cases hk2 : k = m2
    · have hb := RG_b g
      have hg2 : RG X2 (4 + (o' + m') % 7) (Y 1) := CP_G x2 g
      rw [hk2]
      refine RG_same (s := Y 1) (same_153 hb.1.2 hb.2.2 r6) (RG_X ?_ (fun c c1 c2 => hw c (by omega) (by omega) (by omega) (by omega)))
      rcases r7 with ⟨q1, q2, -⟩ | ⟨q1, q2, -⟩
      · rw [show (o2' + m2) % 7 = (o' + m') % 7 by rcases k6 with ⟨k7, k8⟩ | ⟨k7, k8⟩ <;> omega]
        exact hg2
      · rw [show (o2' + m2) % 7 = (o' + m') % 7 by rcases k6 with ⟨k7, k8⟩ | ⟨k7, k8⟩ <;> omega]
        exact hg2
    · rcases r7 with ⟨q1, q2, q3⟩ | ⟨q1, q2, q3⟩
      · have hg := o6 k (by omega)
        have hb := RG_b hg
        refine RG_same (s := fun b => Y 2 (153 * k + b)) (same_153 hb.1.2 hb.2.2 (fun b hb => q3 k b (by omega) hb)) ?_
        rw [show (o2' + k) % 7 = (o' + k) % 7 by rcases k6 with ⟨k7, k8⟩ | ⟨k7, k8⟩ <;> omega]
        exact RG_X hg (fun c c1 c2 => by rw [hw c (by omega) (by omega) (by omega) (by omega), x2.1 c (by omega)])
      · have hg := o6 (k + 1) (by omega)
        have hb := RG_b hg
        refine RG_same (s := fun b => Y 2 (153 * (k + 1) + b)) (same_153 hb.1.2 hb.2.2 (fun b hb => q3 k b (by omega) hb)) ?_
        rw [show (o2' + k) % 7 = (o' + (k + 1)) % 7 by rcases k6 with ⟨k7, k8⟩ | ⟨k7, k8⟩ <;> omega]
        exact RG_X hg (fun c c1 c2 => by rw [hw c (by omega) (by omega) (by omega) (by omega), x2.1 c (by omega)])
  · rw [p2 70 (by omega), k2 70 (by decide), hX 70 (by omega) (by omega), hc 70 (by omega), hY 4 (by omega) (by omega), hY 3 (by omega) (by omega), r1 4 (by decide) (by decide), r1 3 (by decide) (by decide)]
    obtain ⟨s1, s2⟩ := sl j hj
    exact ⟨s1, s2.imp id (fun q => ⟨q.1, RG_X q.2 (fun c c1 c2 => by rw [hw c (by omega) (by omega) (by omega) (by omega), hc c (by omega)])⟩)⟩
  · exact PD_fr hP (by rw [p2 71 (by omega), k2 71 (by decide)]) (by rw [p2 72 (by omega), k2 72 (by decide)]) rfl rfl
