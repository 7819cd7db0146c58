/-! HOME: both sides send the vans home -/
section XH
variable {X M : MM} {r p : Nat}
theorem x_L18 (u : Nat) (hu : u < 4) (z : Int) (hz : z = 6 * u) (y : Int) : ∀ (k n j : Nat) (Z : MM), j + k = 6 → k < n → ∃ Z', fX2_sendVansHome_L18 n p r y z j Z = some Z' ∧ (∀ e, e ≠ 55 + 6 * p + 3 → Z' e = Z e) ∧ (∀ s, Z' (55 + 6 * p + 3) s = if 6 * u + j ≤ s ∧ s < 6 * u + 6 then 0 else Z (55 + 6 * p + 3) s) := by
  intro k
  induction k with
  | zero =>
    intro n j Z hk hn
    obtain ⟨n, rfl⟩ : ∃ q, n = q + 1 := ⟨n - 1, by omega⟩
    refine ⟨Z, by rw [fX2_sendVansHome_L18, if_pos (by omega)], fun e _ => rfl, fun s => by rw [if_neg (by omega)]⟩
  | succ k ih =>
    intro n j Z hk hn
    obtain ⟨n, rfl⟩ : ∃ q, n = q + 1 := ⟨n - 1, by omega⟩
    rw [fX2_sendVansHome_L18, if_neg (by omega), wr_n (6 * u + j) (by omega) (by omega) (by decide), bnd_s, gd_R (by omega) (by omega)]
    obtain ⟨Z', a1, a2, a3⟩ := ih n (j + 1) (stM Z (55 + 6 * p + 3) (6 * u + j) 0) (by omega) (by omega)
    refine ⟨Z', a1, fun e he => by rw [a2 e he, st_cell he], fun s => ?_⟩
    rw [a3]
    by_cases h : s = 6 * u + j
    · rw [if_neg (by omega), if_pos (by omega), h, st_at]
    · rw [st_k h]
      by_cases h2 : 6 * u + (j + 1) ≤ s ∧ s < 6 * u + 6
      · rw [if_pos h2, if_pos (by omega)]
      · rw [if_neg h2, if_neg (by omega)]
theorem x_L58 (hV : ValS M) (hr : r < 11) (u : Nat) (hu : (u : Int) < M 1 4) : ∀ (k n j : Nat) (Z : MM), j + k = 5 → k < n → xS Z M r → ∃ Z', fX2_sendVansHome_L58 n p r u j Z = some Z' ∧ (∀ e, e ≠ 55 + 6 * p + 4 → Z' e = Z e) ∧ (∀ q, j ≤ q → q < 5 → Z' (55 + 6 * p + 4) (5 * u + q) = yvan M u (2 + q)) ∧ (∀ s, s < 5 * u + j → Z' (55 + 6 * p + 4) s = Z (55 + 6 * p + 4) s) := by
  have hd := hV.2.2.2.2.1
  obtain ⟨-, -, hp⟩ := hV.2.2.2.2.2.1 u hu
  intro k
  induction k with
  | zero =>
    intro n j Z hk hn hS
    obtain ⟨n, rfl⟩ : ∃ q, n = q + 1 := ⟨n - 1, by omega⟩
    exact ⟨Z, by rw [fX2_sendVansHome_L58, if_pos (by omega)], fun e _ => rfl, fun q h1 h2 => by omega, fun s _ => rfl⟩
  | succ k ih =>
    intro n j Z hk hn hS
    obtain ⟨n, rfl⟩ : ∃ q, n = q + 1 := ⟨n - 1, by omega⟩
    have e : fX3_partsOf r u j Z = some (yvan M u (2 + j)) := by
      unfold fX3_partsOf
      rw [rd_n (5 * u + j) (by omega) (by omega), bnd_s, hS.2.2.2.2.2.2.1 u j hu (by omega)]
    have hb := hp j (by omega)
    rw [fX2_sendVansHome_L58, if_neg (by omega), e, bnd_s, wr_n (5 * u + j) (by omega) (by omega) ⟨by omega, by omega⟩, bnd_s, gd_R (by omega) (by omega)]
    obtain ⟨Z', a1, a2, a3, a4⟩ := ih n (j + 1) (stM Z (55 + 6 * p + 4) (5 * u + j) (yvan M u (2 + j))) (by omega) (by omega) (xS_frame hr hS (fun c hc => st_cell (by omega)))
    refine ⟨Z', a1, fun e he => by rw [a2 e he, st_cell he], fun q h1 h2 => ?_, fun s hs => by rw [a4 s (by omega), st_k (by omega)]⟩
    by_cases h : q = j
    · rw [h, a4 _ (by omega), st_at]
    · exact a3 q (by omega) h2
theorem x_homes (hV : ValS M) (hr : r < 11) : ∀ (k n u : Nat) (Z : MM), (u : Int) + k = M 1 4 → k < n → xS Z M r → Z (55 + 6 * p) 6 = M 1 4 → ∃ Z', fX2_sendVansHome_L2 n p r u Z = some Z' ∧ (∀ e, e ≠ 55 + 6 * p + 3 → e ≠ 55 + 6 * p + 4 → Z' e = Z e) ∧
    (∀ v : Nat, u ≤ v → (v : Int) < M 1 4 → (∀ q, q < 6 → Z' (55 + 6 * p + 3) (6 * v + q) = if q = 4 then yvan M v 0 else 0) ∧ ∀ q, q < 5 → Z' (55 + 6 * p + 4) (5 * v + q) = yvan M v (2 + q)) ∧ (∀ s, s < 6 * u → Z' (55 + 6 * p + 3) s = Z (55 + 6 * p + 3) s) ∧ (∀ s, s < 5 * u → Z' (55 + 6 * p + 4) s = Z (55 + 6 * p + 4) s) := by
  have hd := hV.2.2.2.2.1
  intro k
  induction k with
  | zero =>
    intro n u Z hk hn hS h6
    obtain ⟨n, rfl⟩ : ∃ q, n = q + 1 := ⟨n - 1, by omega⟩
    exact ⟨Z, by rw [fX2_sendVansHome_L2, h6, if_pos (by omega)], fun e _ _ => rfl, fun v h1 h2 => by omega, fun s _ => rfl, fun s _ => rfl⟩
  | succ k ih =>
    intro n u Z hk hn hS h6
    obtain ⟨n, rfl⟩ : ∃ q, n = q + 1 := ⟨n - 1, by omega⟩
    have hu : (u : Int) < M 1 4 := by omega
    obtain ⟨⟨b1, b2⟩, -, -⟩ := hV.2.2.2.2.2.1 u hu
    obtain ⟨A, a1, a2, a3⟩ := x_L18 (p := p) (r := r) u (by omega) ((u : Int) * 6) (by omega) u 6 4000 0 Z (by omega) (by omega)
    have hSA : xS A M r := xS_frame hr hS (fun c hc => a2 c (by omega))
    rw [fX2_sendVansHome_L2, h6, if_neg (by omega), gd_R (by omega) (by omega), show fX2_sendVansHome_L18 4000 p r u ((u : Int) * 6) 0 Z = some A from a1, bnd_s, x_vanFact hV hSA hu (k := 0) 0 rfl (by decide), bnd_s, wr_n (6 * u + 4) (by omega) (by omega) ⟨by omega, by omega⟩, bnd_s]
    generalize hB : stM A (55 + 6 * p + 3) (6 * u + 4) (yvan M u 0) = B
    have hBc : ∀ e, e ≠ 55 + 6 * p + 3 → B e = Z e := fun e he => by rw [← hB, st_cell he, a2 e he]
    obtain ⟨C, c1, c2, c3, c4⟩ := x_L58 (p := p) hV hr u hu 5 4000 0 B (by omega) (by omega) (xS_frame hr hS (fun c hc => hBc c (by omega)))
    rw [show fX2_sendVansHome_L58 4000 p r u 0 B = some C from c1, bnd_s, gd_R (by omega) (by omega)]
    obtain ⟨D, d1, d2, d3, d4, d5⟩ := ih n (u + 1) C (by omega) (by omega) (xS_frame hr hS (fun c hc => by rw [c2 c (by omega), hBc c (by omega)])) (by rw [c2 _ (by omega), hBc _ (by omega)]; exact h6)
    have hs3 : ∀ s, C (55 + 6 * p + 3) s = if s = 6 * u + 4 then yvan M u 0 else if 6 * u ≤ s ∧ s < 6 * u + 6 then 0 else Z (55 + 6 * p + 3) s := fun s => by
      rw [c2 _ (by omega), ← hB, st_e, a3]
      by_cases h : s = 6 * u + 4
      · rw [if_pos ⟨rfl, h⟩, if_pos h]
      · rw [if_neg (fun z => h z.2), if_neg h]; rfl
    refine ⟨D, d1, fun e h1 h2 => by rw [d2 e h1 h2, c2 e h2, hBc e h1], fun v h1 h2 => ?_, fun s hs => by rw [d4 s (by omega), hs3, if_neg (by omega), if_neg (by omega)], fun s hs => by rw [d5 s (by omega), c4 s (by omega), hBc _ (by omega)]⟩
    by_cases e : v = u
    · rw [e]
      refine ⟨fun q hq => ?_, fun q hq => ?_⟩
      · rw [d4 _ (by omega), hs3]
        by_cases h : q = 4
        · rw [if_pos (by omega), if_pos h]
        · rw [if_neg (by omega), if_pos (by omega), if_neg h]
      · rw [d5 _ (by omega)]
        exact c3 q (by omega) hq
    · exact d3 v (by omega) h2
theorem y_L47 (hV : ValS M) (u : Nat) (hu : (u : Int) < M 1 4) : ∀ (k n j : Nat) (Z : MM), j + k = 5 → k < n → Z 1 = M 1 → ∃ Z', fX5_plans_L47 n u j Z = some Z' ∧ (∀ e, e ≠ 14 → Z' e = Z e) ∧ (∀ q, j ≤ q → q < 5 → Z' 14 (5 * u + q) = yvan M u (2 + q)) ∧ (∀ s, s < 5 * u + j → Z' 14 s = Z 14 s) := by
  have hd := hV.2.2.2.2.1
  obtain ⟨-, -, hp⟩ := hV.2.2.2.2.2.1 u hu
  intro k
  induction k with
  | zero =>
    intro n j Z hk hn hS
    obtain ⟨n, rfl⟩ : ∃ q, n = q + 1 := ⟨n - 1, by omega⟩
    exact ⟨Z, by rw [fX5_plans_L47, if_pos (by omega)], fun e _ => rfl, fun q h1 h2 => by omega, fun s _ => rfl⟩
  | succ k ih =>
    intro n j Z hk hn hS
    obtain ⟨n, rfl⟩ : ∃ q, n = q + 1 := ⟨n - 1, by omega⟩
    have e : yvan Z u (2 + j) = yvan M u (2 + j) := by unfold yvan; rw [hS]
    have hb := hp j (by omega)
    rw [fX5_plans_L47, if_neg (by omega), gd_R (by omega) (by omega), y_van0 Z u (k := 2 + (j : Int)) (2 + j) (by omega) (by omega), bnd_s, e, wr_n (5 * u + j) (by omega) (by omega) ⟨by omega, by omega⟩, bnd_s, gd_R (by omega) (by omega)]
    obtain ⟨Z', a1, a2, a3, a4⟩ := ih n (j + 1) (stM Z 14 (5 * u + j) (yvan M u (2 + j))) (by omega) (by omega) (by rw [st_cell (by decide)]; exact hS)
    refine ⟨Z', a1, fun e he => by rw [a2 e he, st_cell he], fun q h1 h2 => ?_, fun s hs => by rw [a4 s (by omega), st_k (by omega)]⟩
    by_cases h : q = j
    · rw [h, a4 _ (by omega), st_at]
    · exact a3 q (by omega) h2
theorem y_homes (hV : ValS M) : ∀ (k n u : Nat) (Z : MM), (u : Int) + k = M 1 4 → k < n → Z 1 = M 1 → ∃ Z', fX5_plans_L2 n u Z = some Z' ∧ (∀ e, e < 12 ∨ 16 < e → Z' e = Z e) ∧
    (∀ v : Nat, u ≤ v → (v : Int) < M 1 4 → Z' 12 v = yvan M v 0 ∧ Z' 13 v = 0 ∧ Z' 15 v = 0 ∧ Z' 16 v = 0 ∧ ∀ q, q < 5 → Z' 14 (5 * v + q) = yvan M v (2 + q)) ∧ (∀ s, s < u → Z' 12 s = Z 12 s ∧ Z' 13 s = Z 13 s ∧ Z' 15 s = Z 15 s ∧ Z' 16 s = Z 16 s) ∧ (∀ s, s < 5 * u → Z' 14 s = Z 14 s) := by
  have hd := hV.2.2.2.2.1
  intro k
  induction k with
  | zero =>
    intro n u Z hk hn hS
    obtain ⟨n, rfl⟩ : ∃ q, n = q + 1 := ⟨n - 1, by omega⟩
    exact ⟨Z, by rw [fX5_plans_L2, rd_n (i := 4) 4 rfl (by decide), bnd_s, hS, if_pos (by omega)], fun e _ => rfl, fun v h1 h2 => by omega, fun s _ => ⟨rfl, rfl, rfl, rfl⟩, fun s _ => rfl⟩
  | succ k ih =>
    intro n u Z hk hn hS
    obtain ⟨n, rfl⟩ : ∃ q, n = q + 1 := ⟨n - 1, by omega⟩
    have hu : (u : Int) < M 1 4 := by omega
    obtain ⟨⟨b1, b2⟩, -, -⟩ := hV.2.2.2.2.2.1 u hu
    have e0 : yvan Z u 0 = yvan M u 0 := by unfold yvan; rw [hS]
    rw [fX5_plans_L2, rd_n (i := 4) 4 rfl (by decide), bnd_s, hS, if_neg (by omega), y_van0 Z u (k := 0) 0 rfl (by omega), bnd_s, e0, wr_n u rfl (by omega) ⟨by omega, by omega⟩, bnd_s, wr_n u rfl (by omega) (by decide), bnd_s, wr_n u rfl (by omega) (by decide), bnd_s, wr_n u rfl (by omega) (by decide), bnd_s]
    generalize hB : stM (stM (stM (stM Z 12 u (yvan M u 0)) 13 u 0) 15 u 0) 16 u 0 = B
    have hBc : ∀ e, e ≠ 12 → e ≠ 13 → e ≠ 15 → e ≠ 16 → B e = Z e := fun e h1 h2 h3 h4 => by rw [← hB, st_cell h4, st_cell h3, st_cell h2, st_cell h1]
    have hB1 : B 12 u = yvan M u 0 ∧ B 13 u = 0 ∧ B 15 u = 0 ∧ B 16 u = 0 := by
      rw [← hB]
      refine ⟨?_, ?_, ?_, ?_⟩
      · rw [st_c (by decide), st_c (by decide), st_c (by decide), st_at]
      · rw [st_c (by decide), st_c (by decide), st_at]
      · rw [st_c (by decide), st_at]
      · rw [st_at]
    have hB2 : ∀ s, s ≠ u → B 12 s = Z 12 s ∧ B 13 s = Z 13 s ∧ B 15 s = Z 15 s ∧ B 16 s = Z 16 s := fun s hs => by
      rw [← hB]
      refine ⟨?_, ?_, ?_, ?_⟩
      · rw [st_k hs, st_k hs, st_k hs, st_k hs]
      · rw [st_k hs, st_k hs, st_k hs, st_k hs]
      · rw [st_k hs, st_k hs, st_k hs, st_k hs]
      · rw [st_k hs, st_k hs, st_k hs, st_k hs]
    obtain ⟨C, c1, c2, c3, c4⟩ := y_L47 hV u hu 5 4000 0 B (by omega) (by omega) (by rw [hBc 1 (by decide) (by decide) (by decide) (by decide)]; exact hS)
    rw [show fX5_plans_L47 4000 u 0 B = some C from c1, bnd_s, gd_R (by omega) (by omega)]
    obtain ⟨D, d1, d2, d3, d4, d5⟩ := ih n (u + 1) C (by omega) (by omega) (by rw [c2 1 (by decide), hBc 1 (by decide) (by decide) (by decide) (by decide)]; exact hS)
    refine ⟨D, d1, fun e he => by rw [d2 e he, c2 e (by omega), hBc e (by omega) (by omega) (by omega) (by omega)], fun v h1 h2 => ?_, fun s hs => ?_, fun s hs => by rw [d5 s (by omega), c4 s (by omega), hBc _ (by decide) (by decide) (by decide) (by decide)]⟩
    · by_cases e : v = u
      · rw [e]
        obtain ⟨k1, k2, k3, k4⟩ := d4 u (by omega)
        rw [k1, k2, k3, k4, c2 12 (by decide), c2 13 (by decide), c2 15 (by decide), c2 16 (by decide)]
        refine ⟨hB1.1, hB1.2.1, hB1.2.2.1, hB1.2.2.2, fun q hq => ?_⟩
        rw [d5 _ (by omega)]
        exact c3 q (by omega) hq
      · exact d3 v (by omega) h2
    · obtain ⟨k1, k2, k3, k4⟩ := d4 s (by omega)
      rw [k1, k2, k3, k4, c2 12 (by decide), c2 13 (by decide), c2 15 (by decide), c2 16 (by decide)]
      exact hB2 s (by omega)
/-- the reference lays its order -/
theorem y_L84 (hV : ValS M) (hlt : ∀ j : Nat, (j : Int) < M 1 3 → rk M j < 21) (hinj : ∀ a b : Nat, (a : Int) < M 1 3 → (b : Int) < M 1 3 → rk M a = rk M b → a = b) : ∀ (k n i : Nat) (Z : MM), (i : Int) + k = M 1 3 → k < n → Z 1 = M 1 → ∃ Z', fX5_plans_L84 n i Z = some Z' ∧ (∀ e, e ≠ 6 → e ≠ 8 → e ≠ 9 → Z' e = Z e) ∧
    (∀ j : Nat, i ≤ j → (j : Int) < M 1 3 → Z' 8 j = -6 ∧ Z' 9 j = -6 ∧ Z' 6 (rk M j) = j) ∧ (∀ j, j < i → Z' 8 j = Z 8 j ∧ Z' 9 j = Z 9 j ∧ Z' 6 (rk M j) = Z 6 (rk M j)) := by
  have hd := hV.2.2.2.1
  intro k
  induction k with
  | zero =>
    intro n i Z hk hn hS
    obtain ⟨n, rfl⟩ : ∃ q, n = q + 1 := ⟨n - 1, by omega⟩
    exact ⟨Z, by rw [fX5_plans_L84, rd_n (i := 3) 3 rfl (by decide), bnd_s, hS, if_pos (by omega)], fun e _ _ _ => rfl, fun v h1 h2 => by omega, fun s _ => ⟨rfl, rfl, rfl⟩⟩
  | succ k ih =>
    intro n i Z hk hn hS
    obtain ⟨n, rfl⟩ : ∃ q, n = q + 1 := ⟨n - 1, by omega⟩
    have hi : (i : Int) < M 1 3 := by omega
    have er : fX5_rankOf i Z = some (rk M i : Int) := by
      have := y_rankOf (M := Z) (ValS_1 hS hV) (i := i) (by rw [hS]; exact hi)
      rw [this]
      unfold rk bf yvis
      rw [hS]
    have hr := hlt i hi
    rw [fX5_plans_L84, rd_n (i := 3) 3 rfl (by decide), bnd_s, hS, if_neg (by omega), er, bnd_s, wr_n (rk M i) rfl hr ⟨by omega, by omega⟩, bnd_s, wr_n i rfl (by omega) (by decide), bnd_s, wr_n i rfl (by omega) (by decide), bnd_s, gd_R (by omega) (by omega)]
    obtain ⟨D, d1, d2, d3, d4⟩ := ih n (i + 1) (stM (stM (stM Z 6 (rk M i) i) 8 i (-6)) 9 i (-6)) (by omega) (by omega) (by rw [st_cell (by decide), st_cell (by decide), st_cell (by decide)]; exact hS)
    refine ⟨D, d1, fun e h1 h2 h3 => by rw [d2 e h1 h2 h3, st_cell h3, st_cell h2, st_cell h1], fun j h1 h2 => ?_, fun j hj => ?_⟩
    · by_cases e : j = i
      · rw [e]
        obtain ⟨k1, k2, k3⟩ := d4 i (by omega)
        rw [k1, k2, k3]
        exact ⟨by rw [st_c (by decide), st_at], by rw [st_at], by rw [st_c (by decide), st_c (by decide), st_at]⟩
      · exact d3 j (by omega) h2
    · obtain ⟨k1, k2, k3⟩ := d4 j (by omega)
      rw [k1, k2, k3]
      have hne : rk M j ≠ rk M i := fun e => by
        have := hinj j i (by omega) hi e
        omega
      exact ⟨by rw [st_c (by decide), st_k (by omega), st_c (by decide)], by rw [st_k (by omega), st_c (by decide), st_c (by decide)], by rw [st_c (by decide), st_c (by decide), st_k hne]⟩
end XH
