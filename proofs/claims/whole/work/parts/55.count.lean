/-! QUERIES on both sides: counts, sums, what is wanted -/
def ycnt (Y : MM) (lo hi : Int) : Nat → Nat → Int → Int
  | 0, _, a => a
  | k + 1, j, a => ycnt Y lo hi k (j + 1) (a + (if lo ≤ Y 7 j ∧ Y 7 j ≤ hi then 1 else 0))
def ysum (Y : MM) (c : Nat) : Nat → Nat → Int → Int
  | 0, _, a => a
  | k + 1, v, a => ysum Y c k (v + 1) (a + Y c v)
def ymax (Y : MM) : Nat → Nat → Int → Int
  | 0, _, a => a
  | k + 1, v, a => ymax Y k (v + 1) (if Y 13 v ≤ a then a else Y 13 v)
def ywnt (Y : MM) (q : Int) : Nat → Nat → Int → Int
  | 0, _, a => a
  | k + 1, j, a => ywnt Y q k (j + 1) (a + (if Y 7 j = 3 then if yvis Y j 2 = q then yvis Y j 3 else 0 else 0))
theorem ycnt_b (Y : MM) (lo hi : Int) : ∀ (k j : Nat) (a : Int), a ≤ ycnt Y lo hi k j a ∧ ycnt Y lo hi k j a ≤ a + k := by
  intro k
  induction k with
  | zero => intro j a; rw [ycnt]; omega
  | succ k ih =>
    intro j a
    rw [ycnt]
    by_cases h : lo ≤ Y 7 j ∧ Y 7 j ≤ hi
    · rw [if_pos h]; have := ih (j + 1) (a + 1); omega
    · rw [if_neg h]; have := ih (j + 1) (a + 0); omega
theorem ycnt_01 (Y : MM) : ∀ (k j : Nat) (a b : Int), ycnt Y 0 0 k j a + ycnt Y 1 1 k j b = ycnt Y 0 1 k j (a + b) := by
  intro k
  induction k with
  | zero => intro j a b; rfl
  | succ k ih =>
    intro j a b
    rw [ycnt, ycnt, ycnt, ih]
    congr 1
    by_cases h0 : (0 : Int) ≤ Y 7 j ∧ Y 7 j ≤ 0
    · rw [if_pos h0, if_neg (by omega), if_pos (by omega)]; omega
    · rw [if_neg h0]
      by_cases h1 : (1 : Int) ≤ Y 7 j ∧ Y 7 j ≤ 1
      · rw [if_pos h1, if_pos (by omega)]; omega
      · rw [if_neg h1, if_neg (by omega)]; omega
theorem ycnt_24 (Y : MM) : ∀ (k j : Nat) (a b : Int), (∀ i, j ≤ i → i < j + k → 0 ≤ Y 7 i ∧ Y 7 i ≤ 4) → ycnt Y 0 1 k j a + ycnt Y 2 4 k j b = a + b + k := by
  intro k
  induction k with
  | zero => intro j a b _; rw [ycnt, ycnt]; omega
  | succ k ih =>
    intro j a b h
    have hj := h j (Nat.le_refl _) (by omega)
    rw [ycnt, ycnt, ih _ _ _ (fun i h1 h2 => h i (by omega) (by omega))]
    by_cases h0 : (0 : Int) ≤ Y 7 j ∧ Y 7 j ≤ 1
    · rw [if_pos h0, if_neg (by omega)]; omega
    · rw [if_neg h0, if_pos (by omega)]; omega
section QC
variable {X Y : MM} {p r : Nat}
theorem y_withPromise (hV : ValS Y) (lo hi : Int) : fX5_withPromise lo hi Y = some (ycnt Y lo hi (Y 1 3).toNat 0 0) := by
  have hc := hV.2.2.2.1
  have L : ∀ (k n j : Nat) (a : Int), (j : Int) + k = Y 1 3 → k < n → 0 ≤ a → a + k ≤ 100 → fX5_withPromise_L5 n lo hi a j Y = some (ycnt Y lo hi k j a) := by
    intro k
    induction k with
    | zero =>
      intro n j a hk hn h0 h1
      obtain ⟨n, rfl⟩ : ∃ q, n = q + 1 := ⟨n - 1, by omega⟩
      rw [fX5_withPromise_L5, rd_n (i := 3) 3 rfl (by decide), bnd_s, if_pos (by omega)]
      rfl
    | succ k ih =>
      intro n j a hk hn h0 h1
      obtain ⟨n, rfl⟩ : ∃ q, n = q + 1 := ⟨n - 1, by omega⟩
      rw [fX5_withPromise_L5, rd_n (i := 3) 3 rfl (by decide), bnd_s, if_neg (by omega), rd_n j rfl (by omega), bnd_s, p_in, bnd_s, ycnt]
      by_cases q : lo ≤ Y 7 j ∧ Y 7 j ≤ hi
      · rw [if_pos q, if_neg (show ¬ (1 : Int) = 0 by decide), bnd_s, gd_R (by omega) (by omega), gd_R (by omega) (by omega)]
        exact ih n (j + 1) _ (by omega) (by omega) (by omega) (by omega)
      · rw [if_neg q, if_pos rfl, bnd_s, gd_R (by omega) (by omega), gd_R (by omega) (by omega)]
        exact ih n (j + 1) _ (by omega) (by omega) (by omega) (by omega)
  unfold fX5_withPromise
  have := L (Y 1 3).toNat 4000 0 0 (by omega) (by omega) (by omega) (by omega)
  rw [show fX5_withPromise_L5 4000 lo hi 0 0 Y = _ from this, bnd_s]
theorem x_promises (h : PL X Y p r) (w : Int) : fX2_promisesThatAre p w X = some (ycnt Y w w (Y 1 3).toNat 0 0) := by
  have hc := h.1.1.2.2.2.1
  have h5 := h.1.2.2.2.1.1
  have L : ∀ (k n j : Nat) (a : Int), (j : Int) + k = Y 1 3 → k < n → 0 ≤ a → a + k ≤ 100 → fX2_promisesThatAre_L4 n p w a j X = some (ycnt Y w w k j a) := by
    intro k
    induction k with
    | zero =>
      intro n j a hk hn h0 h1
      obtain ⟨n, rfl⟩ : ∃ q, n = q + 1 := ⟨n - 1, by omega⟩
      rw [fX2_promisesThatAre_L4, h5, if_pos (by omega)]
      rfl
    | succ k ih =>
      intro n j a hk hn h0 h1
      obtain ⟨n, rfl⟩ : ∃ q, n = q + 1 := ⟨n - 1, by omega⟩
      have eo : fX2_outcome p j 0 X = some (Y 7 j) := by
        unfold fX2_outcome
        rw [rd_n (4 * j + 0) (by omega) (by omega), bnd_s, (h.2 j (by omega)).1.1]
      rw [fX2_promisesThatAre_L4, h5, if_neg (by omega), eo, bnd_s, ycnt]
      by_cases q : Y 7 j = w
      · rw [if_pos q, if_pos (by omega), gd_R (by omega) (by omega), bnd_s, gd_R (by omega) (by omega)]
        exact ih n (j + 1) _ (by omega) (by omega) (by omega) (by omega)
      · rw [if_neg q, if_neg (by omega), bnd_s, gd_R (by omega) (by omega)]
        have := ih n (j + 1) (a + 0) (by omega) (by omega) (by omega) (by omega)
        rw [Int.add_zero] at this ⊢
        exact this
  unfold fX2_promisesThatAre
  have := L (Y 1 3).toNat 4000 0 0 (by omega) (by omega) (by omega) (by omega)
  rw [show fX2_promisesThatAre_L4 4000 p w 0 0 X = _ from this, bnd_s]
theorem x_made (h : PL X Y p r) : fX2_visitsMade p X = some (ycnt Y 0 1 (Y 1 3).toNat 0 0) := by
  have hc := h.1.1.2.2.2.1
  have b := ycnt_b Y 0 1 (Y 1 3).toNat 0 0
  have e : ycnt Y 0 0 (Y 1 3).toNat 0 0 + ycnt Y 1 1 (Y 1 3).toNat 0 0 = ycnt Y 0 1 (Y 1 3).toNat 0 0 := ycnt_01 Y (Y 1 3).toNat 0 0 0
  unfold fX2_visitsMade
  rw [x_promises h, bnd_s, x_promises h, bnd_s, e, gd_R (by omega) (by omega)]
theorem x_sum (h : PL X Y p r) {f c : Nat} (hf : (f = 1 ∧ c = 15) ∨ (f = 2 ∧ c = 16)) : fX2_sumOverVans p f X = some (ysum Y c (Y 1 4).toNat 0 0) ∧ (0 ≤ ysum Y c (Y 1 4).toNat 0 0 ∧ ysum Y c (Y 1 4).toNat 0 0 ≤ 1000000) := by
  have hc := h.1.1.2.2.2.2.1
  have h6 := h.1.2.2.2.1.2.1
  have hv := h.1.2.2.2.1.2.2
  have hb := h.1.2.1
  have L : ∀ (k n v : Nat) (a : Int), (v : Int) + k = Y 1 4 → k < n → 0 ≤ a → a + 200000 * k ≤ 900000 → fX2_sumOverVans_L4 n p f a v X = some (ysum Y c k v a) ∧ 0 ≤ ysum Y c k v a ∧ ysum Y c k v a ≤ 900000 := by
    intro k
    induction k with
    | zero =>
      intro n v a hk hn h0 h1
      obtain ⟨n, rfl⟩ : ∃ q, n = q + 1 := ⟨n - 1, by omega⟩
      rw [fX2_sumOverVans_L4, h6, if_pos (by omega), ysum]
      exact ⟨rfl, h0, by omega⟩
    | succ k ih =>
      intro n v a hk hn h0 h1
      obtain ⟨n, rfl⟩ : ∃ q, n = q + 1 := ⟨n - 1, by omega⟩
      obtain ⟨f1, f2, -⟩ := hv v (by omega)
      obtain ⟨-, -, b1, b2, -⟩ := hb v (by omega)
      have eo : fX2_driveFact p v f X = some (Y c v) := by
        rcases hf with ⟨rfl, rfl⟩ | ⟨rfl, rfl⟩
        · unfold fX2_driveFact
          rw [rd_n (6 * v + 1) (by omega) (by omega), bnd_s, f1]
        · unfold fX2_driveFact
          rw [rd_n (6 * v + 2) (by omega) (by omega), bnd_s, f2]
      have hcv : 0 ≤ Y c v ∧ Y c v ≤ 200000 := by
        rcases hf with ⟨rfl, rfl⟩ | ⟨rfl, rfl⟩
        · omega
        · omega
      rw [fX2_sumOverVans_L4, h6, if_neg (by omega), eo, bnd_s, ysum, gd_R (by omega) (by omega), gd_R (by omega) (by omega)]
      exact ih n (v + 1) _ (by omega) (by omega) (by omega) (by omega)
  unfold fX2_sumOverVans
  have := L (Y 1 4).toNat 4000 0 0 (by omega) (by omega) (by omega) (by omega)
  rw [show fX2_sumOverVans_L4 4000 p f 0 0 X = _ from this.1, bnd_s]
  exact ⟨rfl, this.2.1, by omega⟩
theorem y_over (hV : ValS Y) (hb : RunS Y 100) {a : Int} {c : Nat} (hf : (a = 8 ∧ c = 15) ∨ (a = 9 ∧ c = 16)) : fX5_overVans a Y = some (ysum Y c (Y 1 4).toNat 0 0) := by
  have hc := hV.2.2.2.2.1
  have L : ∀ (k n v : Nat) (z : Int), (v : Int) + k = Y 1 4 → k < n → 0 ≤ z → z + 200000 * k ≤ 900000 → fX5_overVans_L4 n a z v Y = some (ysum Y c k v z) := by
    intro k
    induction k with
    | zero =>
      intro n v z hk hn h0 h1
      obtain ⟨n, rfl⟩ : ∃ q, n = q + 1 := ⟨n - 1, by omega⟩
      rw [fX5_overVans_L4, rd_n (i := 4) 4 rfl (by decide), bnd_s, if_pos (by omega), ysum]
    | succ k ih =>
      intro n v z hk hn h0 h1
      obtain ⟨n, rfl⟩ : ∃ q, n = q + 1 := ⟨n - 1, by omega⟩
      obtain ⟨-, -, b1, b2, -⟩ := hb v (by omega)
      have hcv : 0 ≤ Y c v ∧ Y c v ≤ 200000 := by
        rcases hf with ⟨rfl, rfl⟩ | ⟨rfl, rfl⟩
        · omega
        · omega
      have e : (if a = 8 then bnd (rd Y 15 4 v) (fun v9 => some (v9)) else bnd (rd Y 16 4 v) (fun v8 => some (v8))) = some (Y c v) := by
        rcases hf with ⟨rfl, rfl⟩ | ⟨rfl, rfl⟩
        · rw [if_pos rfl, rd_n v rfl (by omega), bnd_s]
        · rw [if_neg (by decide), rd_n v rfl (by omega), bnd_s]
      rw [fX5_overVans_L4, rd_n (i := 4) 4 rfl (by decide), bnd_s, if_neg (by omega), if_neg (by omega), e, bnd_s, gd_R (by omega) (by omega), bnd_s, gd_R (by omega) (by omega), ysum]
      exact ih n (v + 1) _ (by omega) (by omega) (by omega) (by omega)
  unfold fX5_overVans
  have := L (Y 1 4).toNat 4000 0 0 (by omega) (by omega) (by omega) (by omega)
  rw [show fX5_overVans_L4 4000 a 0 0 Y = _ from this, bnd_s]
theorem y_over10 (hV : ValS Y) : fX5_overVans 10 Y = some (ymax Y (Y 1 4).toNat 0 0) := by
  have hc := hV.2.2.2.2.1
  have L : ∀ (k n v : Nat) (z : Int), (v : Int) + k = Y 1 4 → k < n → fX5_overVans_L4 n 10 z v Y = some (ymax Y k v z) := by
    intro k
    induction k with
    | zero =>
      intro n v z hk hn
      obtain ⟨n, rfl⟩ : ∃ q, n = q + 1 := ⟨n - 1, by omega⟩
      rw [fX5_overVans_L4, rd_n (i := 4) 4 rfl (by decide), bnd_s, if_pos (by omega), ymax]
    | succ k ih =>
      intro n v z hk hn
      obtain ⟨n, rfl⟩ : ∃ q, n = q + 1 := ⟨n - 1, by omega⟩
      rw [fX5_overVans_L4, rd_n (i := 4) 4 rfl (by decide), bnd_s, if_neg (by omega), if_pos rfl, rd_n v rfl (by omega), bnd_s, bnd_s, ymax]
      by_cases q : Y 13 v ≤ z
      · rw [if_pos q, if_pos q, bnd_s, gd_R (by omega) (by omega)]
        exact ih n (v + 1) _ (by omega) (by omega)
      · rw [if_neg q, if_neg q, bnd_s, gd_R (by omega) (by omega)]
        exact ih n (v + 1) _ (by omega) (by omega)
  unfold fX5_overVans
  have := L (Y 1 4).toNat 4000 0 0 (by omega) (by omega)
  rw [show fX5_overVans_L4 4000 10 0 0 Y = _ from this, bnd_s]
theorem x_last (h : PL X Y p r) : fX2_lastFree p X = some (ymax Y (Y 1 4).toNat 0 0) := by
  have hc := h.1.1.2.2.2.2.1
  have h6 := h.1.2.2.2.1.2.1
  have hv := h.1.2.2.2.1.2.2
  have L : ∀ (k n v : Nat) (z : Int), (v : Int) + k = Y 1 4 → k < n → fX2_lastFree_L4 n p z v X = some (ymax Y k v z) := by
    intro k
    induction k with
    | zero =>
      intro n v z hk hn
      obtain ⟨n, rfl⟩ : ∃ q, n = q + 1 := ⟨n - 1, by omega⟩
      rw [fX2_lastFree_L4, h6, if_pos (by omega), ymax]
    | succ k ih =>
      intro n v z hk hn
      obtain ⟨n, rfl⟩ : ∃ q, n = q + 1 := ⟨n - 1, by omega⟩
      obtain ⟨-, -, f3, -⟩ := hv v (by omega)
      have eo : fX2_driveFact p v 3 X = some (Y 13 v) := by
        unfold fX2_driveFact
        rw [rd_n (6 * v + 3) (by omega) (by omega), bnd_s, f3]
      have em : imax z (Y 13 v) = if Y 13 v ≤ z then z else Y 13 v := by
        unfold imax
        by_cases q : Y 13 v ≤ z
        · rw [if_neg (by omega), if_pos q]
        · rw [if_pos (by omega), if_neg q]
      rw [fX2_lastFree_L4, h6, if_neg (by omega), eo, bnd_s, gd_R (by omega) (by omega), em, ymax]
      exact ih n (v + 1) _ (by omega) (by omega)
  unfold fX2_lastFree
  have := L (Y 1 4).toNat 4000 0 0 (by omega) (by omega)
  rw [show fX2_lastFree_L4 4000 p 0 0 X = _ from this, bnd_s]
theorem x_wnt (h : PL X Y 0 0) (q : Int) : fX4_wanted_L13 4000 q 0 0 X = some (ywnt Y q (Y 1 3).toNat 0 0) ∧ fX5_wanted_L24 4000 q 0 0 Y = some (ywnt Y q (Y 1 3).toNat 0 0) := by
  have hV := h.1.1
  have hc := hV.2.2.2.1
  have hS := h.1.2.2.1
  have h4 : X (5 * 0) 4 = Y 1 3 := hS.2.2.2.1
  have L : ∀ (k n j : Nat) (a : Int), (j : Int) + k = Y 1 3 → k < n → 0 ≤ a → a + 9 * k ≤ 1000 → fX4_wanted_L13 n q a j X = some (ywnt Y q k j a) ∧ fX5_wanted_L24 n q a j Y = some (ywnt Y q k j a) := by
    intro k
    induction k with
    | zero =>
      intro n j a hk hn h0 h1
      obtain ⟨n, rfl⟩ : ∃ q, n = q + 1 := ⟨n - 1, by omega⟩
      refine ⟨?_, ?_⟩
      · rw [fX4_wanted_L13, h4, if_pos (by omega), ywnt]
      · rw [fX5_wanted_L24, rd_n (i := 3) 3 rfl (by decide), bnd_s, if_pos (by omega), ywnt]
    | succ k ih =>
      intro n j a hk hn h0 h1
      obtain ⟨n, rfl⟩ : ∃ q, n = q + 1 := ⟨n - 1, by omega⟩
      have hj : (j : Int) < Y 1 3 := by omega
      obtain ⟨-, -, -, m1, -⟩ := hV.2.2.2.2.2.2 j hj
      have eo : fX2_outcome 0 j 0 X = some (Y 7 j) := by
        unfold fX2_outcome
        rw [rd_n (4 * j + 0) (by omega) (by omega), bnd_s, (h.2 j hj).1.1]
      generalize hg : (if Y 7 j = 3 then if yvis Y j 2 = q then yvis Y j 3 else 0 else 0) = g
      have hgb : 0 ≤ g ∧ g ≤ 9 := by
        rw [← hg]
        by_cases q1 : Y 7 j = 3
        · rw [if_pos q1]
          by_cases q2 : yvis Y j 2 = q
          · rw [if_pos q2]; exact m1
          · rw [if_neg q2]; omega
        · rw [if_neg q1]; omega
      obtain ⟨i1, i2⟩ := ih n (j + 1) (a + g) (by omega) (by omega) (by omega) (by omega)
      have ew : ywnt Y q (k + 1) j a = ywnt Y q k (j + 1) (a + g) := by rw [ywnt, hg]
      rw [ew]
      refine ⟨?_, ?_⟩
      · rw [fX4_wanted_L13, h4, if_neg (by omega), eo, bnd_s]
        have e : (if Y 7 j = 3 then bnd (fX3_visitFact 0 j 2 X) (fun v10 => if v10 = q then bnd (fX3_visitFact 0 j 3 X) (fun v13 => gd (inR (a + v13)) (some ((a + v13)))) else some a) else some a) = some (a + g) := by
          rw [← hg]
          by_cases q1 : Y 7 j = 3
          · rw [if_pos q1, if_pos q1, x_visitFact hV hS hj (k := 2) 2 rfl (by decide), bnd_s]
            by_cases q2 : yvis Y j 2 = q
            · rw [if_pos q2, if_pos q2, x_visitFact hV hS hj (k := 3) 3 rfl (by decide), bnd_s, gd_R (by omega) (by omega)]
            · rw [if_neg q2, if_neg q2, Int.add_zero]
          · rw [if_neg q1, if_neg q1, Int.add_zero]
        rw [e, bnd_s, gd_R (by omega) (by omega)]
        exact i1
      · rw [fX5_wanted_L24, rd_n (i := 3) 3 rfl (by decide), bnd_s, if_neg (by omega), rd_n j rfl (by omega), bnd_s]
        have e : (if Y 7 j = 3 then bnd (fX5_visit0 j 2 Y) (fun v13 => if v13 = q then bnd (fX5_visit0 j 3 Y) (fun v16 => some v16) else some (0 : Int)) else some (0 : Int)) = some g := by
          rw [← hg]
          by_cases q1 : Y 7 j = 3
          · rw [if_pos q1, if_pos q1, y_visit0 Y j (k := 2) 2 rfl (by omega), bnd_s]
            by_cases q2 : yvis Y j 2 = q
            · rw [if_pos q2, if_pos q2, y_visit0 Y j (k := 3) 3 rfl (by omega), bnd_s]
            · rw [if_neg q2, if_neg q2]
          · rw [if_neg q1, if_neg q1]
        rw [e, bnd_s, gd_R (by omega) (by omega), gd_R (by omega) (by omega)]
        exact i2
  exact L (Y 1 3).toNat 4000 0 0 (by omega) (by omega) (by omega) (by omega)
theorem q_wanted (hV : ValS Y) (hS : xS X Y 0) (hN : PN X Y 0 0) (a : Int) : ∃ (res : Int) (Y' : MM), fX4_wanted a X = some res ∧ fX5_wanted a Y = some (res, Y') ∧ QY Y Y' := by
  obtain ⟨K, k1, k2, k3, k4⟩ := q_plan hV hS hN
  obtain ⟨w1, w2⟩ := x_wnt k2 a
  unfold fX4_wanted fX5_wanted
  rw [p_isPart, bnd_s, bnd_s, p_in, bnd_s]
  by_cases h : 0 ≤ a ∧ a ≤ 4
  · refine ⟨ywnt K a (K 1 3).toNat 0 0, K, ?_, ?_, k3⟩
    · rw [if_pos h, if_neg (by decide), w1, bnd_s]
    · rw [if_pos h, if_neg (by decide), k1, bnd_s, w2, bnd_s]
  · rw [if_neg h, if_pos rfl, if_pos rfl]
    exact ⟨_, _, rfl, rfl, QY_st Y⟩
end QC
