/-! WHAT IF: a visit more, another van, the pace that would do, on both sides -/
theorem y_dropLast {Z : MM} {n : Nat} (h3 : Z 1 3 = ((n + 1 : Nat) : Int)) (hn : n ≤ 20) : ∃ Z', fX5_dropsVisit n Z = some ((n : Int), Z') ∧ (∀ e, e ≠ 1 → Z' e = Z e) ∧ Z' 1 3 = n ∧ (∀ k, k ≠ 3 → (k < 33 + 6 * n ∨ 33 + 6 * n + 6 ≤ k) → Z' 1 k = Z 1 k) := by
  have hA3 : (stM Z 1 3 n) 1 3 = (n : Int) := st_at _ _ _ _
  obtain ⟨B, b1, b2, b5⟩ := y_L57 hn 6 4000 0 (stM Z 1 3 n) (by omega) (by omega) hA3
  have hB3 : B 1 3 = n := by rw [b5 3 (by omega)]; exact hA3
  have eL : fX5_dropsVisit_L15 4000 (6 * (n : Int)) (stM Z 1 3 n) = some (stM Z 1 3 n) := by
    rw [fX5_dropsVisit_L15, rd_n (i := 3) 3 rfl (by decide), bnd_s, hA3, gd_R (by omega) (by omega), if_pos (by omega)]
  unfold fX5_dropsVisit
  rw [rd_n (i := 3) 3 rfl (by decide), bnd_s, h3, show ((n + 1 : Nat) : Int) - 1 = n by omega, wr_n (i := 3) 3 rfl (by decide) ⟨by omega, by omega⟩, bnd_s, gd_R (by omega) (by omega), eL, bnd_s, show fX5_dropsVisit_L57 4000 0 (stM Z 1 3 n) = some B from b1, bnd_s, rd_n (i := 3) 3 rfl (by decide), bnd_s, hB3]
  exact ⟨B, rfl, fun e he => by rw [b2 e he, st_cell he], hB3, fun k h1 h2 => by rw [b5 k (by omega), st_k h1]⟩
section QW
variable {X Y : MM}
theorem q_would (hS : Sim X Y) (a b c d e f : Int) : ∃ res X' Y', fX4_would a b c d e f X = some (res, X') ∧ fX5_would a b c d e f Y = some (res, Y') ∧ Sim X' Y' := by
  have h0 : Sim X (stM Y 0 0 0) := Sim_QY hS (QY_st Y)
  unfold fX4_would fX5_would
  rcases vErr_0 (a := a) (b := b) (c := c) (d := d) (e := e) (f := f) with ⟨h, ok⟩ | h
  · have g := h0.1
    generalize stM Y 0 0 0 = Y1 at *
    have hb := RG_b g
    have hV := RG_V g
    obtain ⟨n, hn⟩ : ∃ n : Nat, Y1 1 3 = n := ⟨(Y1 1 3).toNat, by omega⟩
    obtain ⟨X2, c1, c2⟩ := x_copy X (r0 := 1) (r1 := 0) (by decide)
    obtain ⟨X3, Z3, p1, p2, p3, p4, p5, p6, p7, p8, p9⟩ := o_put (r := 1) hV (CP_S c2 hV (RG_S g)) hn (by omega) ok (Z := Y1) rfl
    obtain ⟨X4, Z4, m1, m2, m3, m4, m5⟩ := make_plan (r := 1) (p := 1) p3 p4 (by decide) (by decide)
    have hz3 : Z4 1 3 = ((n + 1 : Nat) : Int) := by rw [m5 1 (by decide)]; exact p8
    obtain ⟨Z5, d1, d2, d3, d4⟩ := y_dropLast hz3 (by omega)
    have eo : fX2_outcome 1 n 0 X4 = some (Z4 7 n) := by
      unfold fX2_outcome
      rw [rd_n (4 * n + 0) (by omega) (by omega), bnd_s, (m3.2 n (by omega)).1.1]
    refine ⟨Z4 7 n, X4, Z5, ?_, ?_, ?_⟩
    · rw [x_err, bnd_s, h, if_pos rfl, c1, bnd_s, p1, bnd2_s, m1, bnd_s, eo, bnd_s]
    · rw [bnd_s, y_err, bnd_s, h, if_pos rfl, p2, bnd2_s, m2, bnd_s, rd_n n rfl (by omega), bnd_s, d1, bnd2_s]
    · have hx : ∀ c, (c < 5 ∨ (10 ≤ c ∧ c < 61) ∨ 67 ≤ c) → X4 c = X c := fun c hc => by rw [m4 c (by omega), p5 c (by omega) (by omega), c2.1 c (by omega)]
      have hy : ∀ c, c ≠ 1 → c < 6 → Z5 c = Y1 c := fun c h1 h2 => by rw [d2 c h1, m5 c (by omega), p7 c h1]
      have hs : ∀ k, k ≠ 3 → (k < 33 + 6 * n ∨ 33 + 6 * n + 6 ≤ k) → Z5 1 k = Y1 1 k := fun k h1 h2 => by rw [d4 k h1 h2, m5 1 (by decide), p9 k h1 h2]
      refine Sim_fr h0 (fun c hc => hx c (by omega)) (by rw [hx 71 (by omega)]) (fun c h1 h2 => hy c (by omega) h2) ⟨fun b hb => ?_, fun v k hv hk => hs _ (by omega) (by omega), fun i k hi hk => hs _ (by omega) (by omega)⟩ (by rw [hy 0 (by decide) (by decide)]) (by rw [hy 0 (by decide) (by decide)])
      by_cases e3 : b = 3
      · rw [e3, d3, hn]
      · exact hs b e3 (by omega)
  · refine ⟨vErr a b c d e f, X, _, ?_, ?_, h0⟩
    · rw [x_err, bnd_s, if_neg (by omega)]
    · rw [bnd_s, y_err, bnd_s, if_neg (by omega)]
theorem x_hasVan' {r : Nat} {z : Int} (h : X (5 * r) 5 = z) (a : Int) : fX3_hasVan r a X = some (if 0 ≤ a ∧ a < z then 1 else 0) := by
  unfold fX3_hasVan
  rw [h]
  by_cases h1 : a < 0
  · rw [if_pos h1, bnd_s, gd_s (Or.inl rfl), if_neg (by omega)]
  · rw [if_neg h1]
    by_cases h2 : z ≤ a
    · rw [if_pos h2, bnd_s, gd_s (Or.inl rfl), if_neg (by omega)]
    · rw [if_neg h2, bnd_s, gd_s (Or.inr rfl), if_pos (by omega)]
theorem x_L30 {n : Nat} (hn : n < 4) : ∀ (k m j : Nat) (Z : MM), j + k = 5 → k < m → Z (5 * 1) 5 = ((n + 1 : Nat) : Int) → ∃ Z', fX4_withVan_L30 m n j Z = some Z' ∧ (∀ c, c ≠ 5 * 1 + 4 → Z' c = Z c) ∧ (∀ i, j ≤ i → i < 5 → Z' (5 * 1 + 4) (5 * n + i) = 99) ∧ (∀ i, i < 5 * n + j → Z' (5 * 1 + 4) i = Z (5 * 1 + 4) i) := by
  have one : ¬ (1 : Int) = 0 := by decide
  intro k
  induction k with
  | zero =>
    intro m j Z hk hm h5
    obtain ⟨m, rfl⟩ : ∃ q, m = q + 1 := ⟨m - 1, by omega⟩
    exact ⟨Z, by rw [fX4_withVan_L30, if_pos (by omega)], fun c _ => rfl, fun i h1 h2 => by omega, fun i _ => rfl⟩
  | succ k ih =>
    intro m j Z hk hm h5
    obtain ⟨m, rfl⟩ : ∃ q, m = q + 1 := ⟨m - 1, by omega⟩
    have e : fX3_changeStock 1 n j 99 Z = some (Z (5 * 1 + 4) (5 * n + j), stM Z (5 * 1 + 4) (5 * n + j) 99) := by
      unfold fX3_changeStock
      rw [x_hasVan' h5, bnd_s, if_pos (show (0 : Int) ≤ (n : Int) ∧ (n : Int) < ((n + 1 : Nat) : Int) from ⟨by omega, by omega⟩), if_neg one, p_isPart, bnd_s, if_pos (show (0 : Int) ≤ (j : Int) ∧ (j : Int) ≤ 4 from ⟨by omega, by omega⟩), if_neg one, p_within, bnd_s, if_pos (show (0 : Int) ≤ 99 ∧ (99 : Int) ≤ 99 by decide), if_neg one, rd_n (5 * n + j) (by omega) (by omega), bnd_s, wr_n (5 * n + j) (by omega) (by omega) (by decide), bnd_s]
    rw [fX4_withVan_L30, if_neg (by omega), e, bnd2_s, gd_R (by omega) (by omega)]
    obtain ⟨Z', a1, a2, a4, a5⟩ := ih m (j + 1) (stM Z (5 * 1 + 4) (5 * n + j) 99) (by omega) (by omega) (by rw [st_c (by decide)]; exact h5)
    refine ⟨Z', a1, fun c hc => by rw [a2 c hc, st_cell hc], fun i h1 h2 => ?_, fun i hi => by rw [a5 i (by omega), st_k (by omega)]⟩
    by_cases e : i = j
    · rw [e, a5 _ (by omega), st_at]
    · exact a4 i (by omega) h2
theorem y_L44 {n : Nat} (hn : n < 4) : ∀ (k m j : Nat) (Z : MM), j + k = 7 → k < m → Z 1 4 = (n : Int) → ∃ Z', fX5_withVan_L44 m j Z = some Z' ∧ (∀ c, c ≠ 1 → Z' c = Z c) ∧ (∀ i, i < 5 + 7 * n + j ∨ 5 + 7 * n + 7 ≤ i → Z' 1 i = Z 1 i) := by
  intro k
  induction k with
  | zero =>
    intro m j Z hk hm h4
    obtain ⟨m, rfl⟩ : ∃ q, m = q + 1 := ⟨m - 1, by omega⟩
    exact ⟨Z, by rw [fX5_withVan_L44, if_pos (by omega)], fun c _ => rfl, fun i _ => rfl⟩
  | succ k ih =>
    intro m j Z hk hm h4
    obtain ⟨m, rfl⟩ : ∃ q, m = q + 1 := ⟨m - 1, by omega⟩
    rw [fX5_withVan_L44, if_neg (by omega), rd_n (i := 4) 4 rfl (by decide), bnd_s, h4, wr_n (5 + 7 * n + j) (by omega) (by omega) (by decide), bnd_s, gd_R (by omega) (by omega)]
    obtain ⟨Z', a1, a2, a5⟩ := ih m (j + 1) (stM Z 1 (5 + 7 * n + j) 0) (by omega) (by omega) (by rw [st_k (by omega)]; exact h4)
    exact ⟨Z', a1, fun c hc => by rw [a2 c hc, st_cell hc], fun i hi => by rw [a5 i (by omega), st_k (by omega)]⟩
theorem ycnt_7 {Y Z : MM} (h : Y 7 = Z 7) (lo hi : Int) : ∀ (k j : Nat) (a : Int), ycnt Y lo hi k j a = ycnt Z lo hi k j a := by
  intro k
  induction k with
  | zero => intro j a; rfl
  | succ k ih =>
    intro j a
    rw [ycnt, ycnt, ih, h]
theorem q_withVan (hS : Sim X Y) (a b : Int) : ∃ res X' Y', fX4_withVan a b X = some (res, X') ∧ fX5_withVan a b Y = some (res, Y') ∧ Sim X' Y' := by
  have h0 : Sim X (stM Y 0 0 0) := Sim_QY hS (QY_st Y)
  unfold fX4_withVan fX5_withVan
  generalize stM Y 0 0 0 = Y1 at *
  have g := h0.1
  have hb := RG_b g
  have hV := RG_V g
  obtain ⟨n, hn⟩ : ∃ n : Nat, Y1 1 4 = n := ⟨(Y1 1 4).toNat, by omega⟩
  obtain ⟨X2, c1, c2⟩ := x_copy X (r0 := 1) (r1 := 0) (by decide)
  have hS2 := CP_S c2 hV (RG_S g)
  have h5 : X2 (5 * 1) 5 = n := hS2.2.2.2.2.1.trans hn
  have hr := y_refusesVan hn a b
  have s2 : Sim X2 Y1 := Sim_fr h0 (fun c hc => c2.1 c (by omega)) (by rw [c2.1 71 (by omega)]) (fun _ _ _ => rfl) (sameR_rf _) rfl rfl
  by_cases h : (0 ≤ a ∧ a ≤ 99) ∧ (0 ≤ b ∧ b ≤ 15)
  · rw [if_pos h] at hr
    by_cases h4 : n = 4
    · rw [if_pos h4] at hr
      refine ⟨-4, X2, _, ?_, ?_, s2⟩
      · rw [c1, bnd_s, x_fullVan X2 h.1 h.2 (by rw [h5, h4]; rfl), bnd2_s, if_neg (by decide)]
      · rw [bnd_s, hr, bnd_s, if_neg (by decide)]
    · rw [if_neg h4] at hr
      have e1 := x_addvan X2 h5 (by omega) h.1 h.2
      generalize hA : stM (stM (stM X2 (5 * 1 + 3) (2 * n + 0) a) (5 * 1 + 3) (2 * n + 1) b) (5 * 1) 5 ((n + 1 : Nat) : Int) = A at e1
      obtain ⟨B, b1, b2, b3, b4⟩ := x_L30 (n := n) (by omega) 5 4000 0 A (by omega) (by omega) (by rw [← hA, st_at])
      obtain ⟨Z3, z1, z2, z3, z4, z5, z6, z7⟩ := y_laysVan Y1 hn (by omega) (a := a) (b := b) (q := 99) ⟨by omega, by omega⟩ ⟨by omega, by omega⟩ (by decide)
      have hAc : ∀ c, c ≠ 5 * 1 + 3 → c ≠ 5 * 1 → A c = X2 c := fun c k1 k2 => by rw [← hA, st_cell k2, st_cell k1, st_cell k1]
      have hV3 : ValS Z3 := van_V hV hn (by omega) h.1 h.2 (by decide) z3 z4 z5 z6 z7
      have hS3 : xS B Z3 1 := by
        refine van_S hS2 hn (by omega) z3 z4 z5 z6 z7 ?_ ?_ ?_ ?_ ?_ ?_ (fun k hk => ?_) (fun j hj => b3 j (by omega) hj) (fun k hk => ?_)
        · rw [b2 _ (by decide), hAc _ (by decide) (by decide)]
        · rw [b2 _ (by decide), hAc _ (by decide) (by decide)]
        · rw [b2 _ (by decide), ← hA, st_k (by decide), st_c (by decide), st_c (by decide)]
        · rw [b2 _ (by decide), ← hA, st_at]
        · rw [b2 _ (by decide), ← hA, st_c (by decide), st_k (by omega), st_at]
        · rw [b2 _ (by decide), ← hA, st_c (by decide), st_at]
        · rw [b2 _ (by decide), ← hA, st_c (by decide), st_k (by omega), st_k (by omega)]
        · rw [b4 k (by omega), hAc _ (by decide) (by decide)]
      obtain ⟨X4, Z4, m1, m2, m3, m4, m5⟩ := make_plan (r := 1) (p := 1) hV3 hS3 (by decide) (by decide)
      have hz4 : Z4 1 4 = ((n + 1 : Nat) : Int) := by rw [m5 1 (by decide)]; exact z3
      obtain ⟨Z5, d1, d2, d3⟩ := y_L44 (n := n) (by omega) 7 4000 0 (stM Z4 1 4 n) (by omega) (by omega) (st_at _ _ _ _)
      have hx : ∀ c, (c < 5 ∨ (10 ≤ c ∧ c < 61) ∨ 67 ≤ c) → X4 c = X c := fun c hc => by rw [m4 c (by omega), b2 c (by omega), hAc c (by omega) (by omega), c2.1 c (by omega)]
      have hy : ∀ c, c ≠ 1 → c < 6 → Z5 c = Y1 c := fun c k1 k2 => by rw [d2 c k1, st_cell k1, m5 c (by omega), z2 c k1]
      have hs : ∀ k, k ≠ 4 → (k < 5 + 7 * n ∨ 5 + 7 * n + 7 ≤ k) → Z5 1 k = Y1 1 k := fun k k1 k2 => by rw [d3 k (by omega), st_k k1, m5 1 (by decide), z7 k k1 k2]
      have h54 : Z5 1 4 = n := by rw [d3 4 (by omega), st_at]
      have hsame : sameR (Y1 1) (Z5 1) := ⟨fun b hb => by
        by_cases e4 : b = 4
        · rw [e4, h54, hn]
        · exact hs b e4 (by omega), fun v k hv hk => hs _ (by omega) (by omega), fun i k hi hk => hs _ (by omega) (by omega)⟩
      have h7 : Z5 7 = Z4 7 := by rw [d2 7 (by decide), st_cell (by decide)]
      have h53 : Z5 1 3 = Z4 1 3 := by rw [hs 3 (by decide) (by omega), m5 1 (by decide), z7 3 (by decide) (by omega)]
      have hV5 : ValS Z5 := ValS_same hsame hV
      refine ⟨ycnt Z4 0 1 (Z4 1 3).toNat 0 0, X4, Z5, ?_, ?_, ?_⟩
      · rw [c1, bnd_s, e1, bnd2_s, if_pos (by omega), show fX4_withVan_L30 4000 n 0 A = some B from b1, bnd_s, m1, bnd_s, x_made m3, bnd_s]
      · rw [bnd_s, hr, bnd_s, if_pos rfl, z1, bnd2_s, m2, bnd_s, rd_n (i := 4) 4 rfl (by decide), bnd_s, hz4, show ((n + 1 : Nat) : Int) - 1 = n by omega, wr_n (i := 4) 4 rfl (by decide) ⟨by omega, by omega⟩, bnd_s, show fX5_withVan_L44 4000 0 (stM Z4 1 4 n) = some Z5 from d1, bnd_s, y_withPromise hV5, bnd_s, h53, ycnt_7 h7]
      · exact Sim_fr h0 (fun c hc => hx c (by omega)) (by rw [hx 71 (by omega)]) (fun c k1 k2 => hy c (by omega) k2) hsame (by rw [hy 0 (by decide) (by decide)]) (by rw [hy 0 (by decide) (by decide)])
  · rw [if_neg h] at hr
    refine ⟨-2, X2, _, ?_, ?_, s2⟩
    · rw [c1, bnd_s, x_noVan X2 h, bnd2_s, if_neg (by decide)]
    · rw [bnd_s, hr, bnd_s, if_neg (by decide)]
/-- the plan at another pace: how many are made, how many are broken -/
theorem sl_step (hS : Sim X Y) {p : Int} (hp : 1 ≤ p ∧ p ≤ 9) : ∃ md br X' Y', fX4_madeAtPace p X = some (md, X') ∧ fX5_brokenAt p Y = some (br, Y') ∧ Sim X' Y' ∧ Sim X Y' ∧ Y' 1 = Y 1 ∧ md + br = Y 1 3 ∧ ∃ K, fX5_plans (stM (ofs (Y 1)) 1 0 p) = some K ∧ md = ycnt K 0 1 (K 1 3).toNat 0 0 := by
  have g := hS.1
  have hb := RG_b g
  have hV := RG_V g
  obtain ⟨X2, c1, c2⟩ := x_copy X (r0 := 1) (r1 := 0) (by decide)
  have g2 : RG X2 1 (Y 1) := CP_G c2 g
  have ok : setOk ((0 : Nat) : Int) p := Or.inl ⟨rfl, hp⟩
  have e1 := x_changeSetting X2 (r := 1) (a := 0) (b := p) ok
  obtain ⟨v1, v2, v3, -⟩ := hV
  obtain ⟨w1, w2, w3, -⟩ := RG_S g2
  have g3 : RG (stM X2 (5 * 1 + 1) 0 p) 1 ((stM Y 1 0 p) 1) := by
    refine RG_set g2 ?_ ?_ ?_ ?_ ?_ ?_ (fun k hk => st_k (by omega)) (fun c _ _ hc => st_cell hc)
    · rw [st_at]; exact hp
    · rw [st_k (by decide)]; exact v2
    · rw [st_k (by decide)]; exact v3
    · rw [st_at, st_at]
    · rw [st_k (by decide), st_k (by decide)]; exact w2
    · rw [st_k (by decide), st_k (by decide)]; exact w3
  obtain ⟨X4, Z4, m1, m2, m3, m4, m5⟩ := make_plan (r := 1) (p := 1) (RG_V g3) (RG_S g3) (by decide) (by decide)
  have ex : (stM (ofs (Y 1)) 1 0 p) 1 = (stM Y 1 0 p) 1 := by
    funext k
    by_cases e : k = 0
    · rw [e, st_at, st_at]
    · rw [st_k e, st_k e]
      rfl
  obtain ⟨X4', K, n1, n2, n3, -, -⟩ := make_plan (r := 1) (p := 1) (ValS_1 ex (RG_V g3)) (xS_1 ex (RG_S g3)) (by decide) (by decide)
  rw [m1] at n1
  cases n1
  have hmd : ycnt Z4 0 1 (Z4 1 3).toNat 0 0 = ycnt K 0 1 (K 1 3).toNat 0 0 := by
    have q1 := x_made m3
    rw [x_made n3] at q1
    exact (Option.some.inj q1).symm
  have h51 : (stM Z4 1 0 (Y 1 0)) 1 = Y 1 := by
    funext k
    by_cases e : k = 0
    · rw [e, st_at]
    · rw [st_k e, m5 1 (by decide), st_k e]
  have hV5 : ValS (stM Z4 1 0 (Y 1 0)) := ValS_1 h51 (RG_V g)
  have hx : ∀ c, (c < 5 ∨ (10 ≤ c ∧ c < 61) ∨ 67 ≤ c) → X4 c = X c := fun c hc => by rw [m4 c (by omega), st_cell (by omega), c2.1 c (by omega)]
  have hy : ∀ c, c ≠ 1 → c < 6 → (stM Z4 1 0 (Y 1 0)) c = Y c := fun c k1 k2 => by rw [st_cell k1, m5 c (by omega), st_cell k1]
  have hz3 : Z4 1 3 = Y 1 3 := by rw [m5 1 (by decide), st_k (by decide)]
  have s0 : Sim X (stM Z4 1 0 (Y 1 0)) := Sim_fr hS (fun _ _ => rfl) rfl (fun c k1 k2 => hy c (by omega) k2) (by rw [h51]; exact sameR_rf _) (by rw [hy 0 (by decide) (by decide)]) (by rw [hy 0 (by decide) (by decide)])
  refine ⟨ycnt Z4 0 1 (Z4 1 3).toNat 0 0, ycnt Z4 2 4 (Z4 1 3).toNat 0 0, X4, stM Z4 1 0 (Y 1 0), ?_, ?_, ?_, s0, h51, ?_, K, n2, hmd⟩
  · unfold fX4_madeAtPace
    rw [c1, bnd_s, show fX3_changeSetting 1 0 p X2 = some (X2 (5 * 1 + 1) 0, stM X2 (5 * 1 + 1) 0 p) from e1, bnd2_s, m1, bnd_s, x_made m3, bnd_s]
  · unfold fX5_brokenAt
    rw [rd_n (i := 0) 0 rfl (by decide), bnd_s, wr_n (i := 0) 0 rfl (by decide) ⟨by omega, by omega⟩, bnd_s, m2, bnd_s, wr_n (i := 0) 0 rfl (by decide) ⟨by omega, by omega⟩, bnd_s, y_withPromise hV5, bnd_s, h51, ycnt_7 (show (stM Z4 1 0 (Y 1 0)) 7 = Z4 7 from st_cell (by decide)), hz3]
  · exact Sim_fr hS (fun c hc => hx c (by omega)) (by rw [hx 71 (by omega)]) (fun c k1 k2 => hy c (by omega) k2) (by rw [h51]; exact sameR_rf _) (by rw [hy 0 (by decide) (by decide)]) (by rw [hy 0 (by decide) (by decide)])
  · have := ycnt_24 Z4 (Z4 1 3).toNat 0 0 0 (fun i _ h => (m3.2 i (by omega)).2.1)
    omega
theorem sl_loop {s : Nat → Int} {most least : Int} (hml : most + least = s 3) (hK : ∃ K, fX5_plans (stM (ofs s) 1 0 1) = some K ∧ most = ycnt K 0 1 (K 1 3).toNat 0 0) : ∀ (k n m : Nat) (X Y : MM), k ≤ 8 → k < n → k < m → Sim X Y → Y 1 = s → ∃ res X' Y', fX4_slowest_L18 n 1 most ((k + 1 : Nat) : Int) X = some (res, X') ∧ fX5_slowest_L14 m least ((k + 1 : Nat) : Int) Y = some (res, Y') ∧ Sim X' Y' := by
  intro k
  induction k with
  | zero =>
    intro n m X Y h8 hn hm hS h1
    obtain ⟨n, rfl⟩ : ∃ q, n = q + 1 := ⟨n - 1, by omega⟩
    obtain ⟨m, rfl⟩ : ∃ q, m = q + 1 := ⟨m - 1, by omega⟩
    obtain ⟨md, br, X', Y', a1, a2, a3, a4, a5, a6, K', a7, a8⟩ := sl_step hS (p := 1) (by decide)
    obtain ⟨K, k1, k2⟩ := hK
    rw [h1, k1] at a7
    cases a7
    rw [h1] at a6
    refine ⟨1, X, Y', ?_, ?_, a4⟩
    · rw [fX4_slowest_L18, if_pos (by decide)]
    · rw [fX5_slowest_L14, show ((0 + 1 : Nat) : Int) = 1 from rfl, a2, bnd2_s, if_pos (by omega)]
  | succ k ih =>
    intro n m X Y h8 hn hm hS h1
    obtain ⟨n, rfl⟩ : ∃ q, n = q + 1 := ⟨n - 1, by omega⟩
    obtain ⟨m, rfl⟩ : ∃ q, m = q + 1 := ⟨m - 1, by omega⟩
    obtain ⟨md, br, X', Y', a1, a2, a3, a4, a5, a6, -⟩ := sl_step hS (p := ((k + 1 + 1 : Nat) : Int)) ⟨by omega, by omega⟩
    rw [h1] at a6
    rw [fX4_slowest_L18, fX5_slowest_L14, if_neg (by omega), a1, bnd2_s, a2, bnd2_s]
    by_cases h : md < most
    · rw [if_pos h, if_neg (by omega), gd_R (by omega) (by omega), gd_R (by omega) (by omega), show ((k + 1 + 1 : Nat) : Int) + -1 = ((k + 1 : Nat) : Int) by omega]
      exact ih n m X' Y' (by omega) (by omega) (by omega) a3 (by rw [a5]; exact h1)
    · rw [if_neg h, if_pos (by omega)]
      exact ⟨_, X', Y', rfl, rfl, a3⟩
theorem q_slowest (hS : Sim X Y) : ∃ res X' Y', fX4_slowest X = some (res, X') ∧ fX5_slowest Y = some (res, Y') ∧ Sim X' Y' := by
  have h0 : Sim X (stM Y 0 0 0) := Sim_QY hS (QY_st Y)
  obtain ⟨md, br, X1, Y1, a1, a2, a3, a4, a5, a6, a7⟩ := sl_step h0 (p := 1) (by decide)
  rw [← a5] at a6 a7
  obtain ⟨res, X', Y', b1, b2, b3⟩ := sl_loop a6 a7 8 4000 4000 X1 Y1 (by omega) (by omega) (by omega) a3 rfl
  refine ⟨res, X', Y', ?_, ?_, b3⟩
  · unfold fX4_slowest
    rw [gd_s (by decide), show lsM (0 : Int).toNat = 1 from rfl, show msM (0 : Int).toNat = ((8 + 1 : Nat) : Int) from rfl, a1, bnd2_s, gd_s (by decide), b1]
  · unfold fX5_slowest
    rw [bnd_s, a2, bnd2_s, show (9 : Int) = ((8 + 1 : Nat) : Int) from rfl, b2, bnd2_s]
end QW
