/-! MAKE on both sides -/
theorem ag_inj {L : List Nat} {n : Nat} (hp : L.Perm (List.range n)) {a b : Nat} (ha : a < n) (hb : b < n) (hab : a ≠ b) : ag L a ≠ ag L b := by
  have hl : L.length = n := by rw [hp.length_eq, List.length_range]
  have hnd : L.Nodup := hp.nodup_iff.mpr List.nodup_range
  have e1 : ag L a = L[a] := by unfold ag; rw [List.getElem?_eq_getElem (by omega)]; rfl
  have e2 : ag L b = L[b] := by unfold ag; rw [List.getElem?_eq_getElem (by omega)]; rfl
  have hpw := List.pairwise_iff_getElem.mp hnd
  rw [e1, e2]
  rcases Nat.lt_or_gt_of_ne hab with h | h
  · exact hpw a b (by omega) (by omega) h
  · exact Ne.symm (hpw b a (by omega) (by omega) h)
section XMK
variable {r p : Nat} {L : List Nat}
theorem pass1 (hr : r < 11) : ∀ (k n m : Nat) (X Y : MM), (m : Int) + k = Y 1 3 → k < n → L.Perm (List.range (Y 1 3).toNat) → xQ X Y p r m → (∀ j : Nat, (j : Int) < Y 1 3 → X (55 + 6 * p + 1) j = ag L j ∧ Y 6 j = ag L j) → (∀ j, j < m → xD X Y p (ag L j)) → (∀ j : Nat, m ≤ j → (j : Int) < Y 1 3 → Y 8 (ag L j) = -6 ∧ Y 9 (ag L j) = -6) →
    ∃ X' Y' : MM, fX2_make_L28 n p r m X = some X' ∧ fX5_plans_L129 n m Y = some Y' ∧ xQ X' Y' p r (Y 1 3) ∧ (∀ j : Nat, (j : Int) < Y 1 3 → xD X' Y' p (ag L j)) ∧ (∀ c, c ≠ 55 + 6 * p + 2 → c ≠ 55 + 6 * p + 3 → c ≠ 55 + 6 * p + 4 → c ≠ 55 + 6 * p + 5 → X' c = X c) ∧ (∀ c, c < 7 ∨ 16 < c → Y' c = Y c) := by
  intro k
  induction k with
  | zero =>
    intro n m X Y hk hn hp hQ ho hd hf
    obtain ⟨n, rfl⟩ : ∃ q, n = q + 1 := ⟨n - 1, by omega⟩
    refine ⟨X, Y, ?_, ?_, by rw [show Y 1 3 = (m : Int) by omega]; exact hQ, fun j hj => hd j (by omega), fun c _ _ _ _ => rfl, fun c _ => rfl⟩
    · rw [fX2_make_L28, hQ.2.2.2.1.1, if_pos (by omega)]
    · rw [fX5_plans_L129, rd_n (i := 3) 3 rfl (by decide), bnd_s, if_pos (by omega)]
  | succ k ih =>
    intro n m X Y hk hn hp hQ ho hd hf
    obtain ⟨n, rfl⟩ : ∃ q, n = q + 1 := ⟨n - 1, by omega⟩
    have hc3 := hQ.1.2.2.2.1
    have hl : L.length = (Y 1 3).toNat := by rw [hp.length_eq, List.length_range]
    have hi : ag L m < (Y 1 3).toNat := List.mem_range.mp (hp.mem_iff.mp (ag_mem (by omega)))
    obtain ⟨o1, o2⟩ := ho m (by omega)
    obtain ⟨f8, f9⟩ := hf m (Nat.le_refl _) (by omega)
    obtain ⟨X1, N, W, w, a1, a2, a3, a4, a5, a6, a7, a8, a9, a10⟩ := look_step hQ (by omega) hr (i := ag L m) (by omega) f8 f9 (lk := 0) (Or.inl rfl)
    rw [Int.zero_mul] at a2
    rw [fX2_make_L28, fX5_plans_L129, hQ.2.2.2.1.1, if_neg (by omega), rd_n m rfl (by omega), bnd_s, o1, a1, bnd_s, gd_R (by omega) (by omega), rd_n (i := 3) 3 rfl (by decide), bnd_s, if_neg (by omega), rd_n m rfl (by omega), bnd_s, bnd_s, o2, a2, bnd2_s, a4, bnd_s, gd_R (by omega) (by omega)]
    have hW1 : W 1 = Y 1 := a10 1 (by decide)
    have hinj : ∀ j, j < m → ag L j ≠ ag L m := fun j hj => ag_inj hp (by omega) (by omega) (by omega)
    obtain ⟨X', Y', b1, b2, b3, b4, b5, b6⟩ := ih n (m + 1) X1 W (by rw [hW1]; omega) (by omega) (by rw [hW1]; exact hp) (by rw [show ((m + 1 : Nat) : Int) = (m : Int) + 1 by omega]; exact a5) (fun j hj => by
      rw [hW1] at hj
      rw [a9 _ (by omega) (by omega) (by omega) (by omega), a10 6 (by decide)]
      exact ho j hj) (fun j hj => by
      by_cases e : j = m
      · rw [e]; exact a6
      · exact a8 _ (hinj j (by omega)) (hd j (by omega))) (fun j h1 h2 => by
      rw [hW1] at h2
      have hne : ag L j ≠ ag L m := ag_inj hp (by omega) (by omega) (by omega)
      rw [(a7 _ hne).1, (a7 _ hne).2.1]
      exact hf j (by omega) h2)
    rw [hW1] at b3 b4
    exact ⟨X', Y', b1, b2, b3, b4, fun c h1 h2 h3 h4 => by rw [b5 c h1 h2 h3 h4, a9 c h1 h2 h3 h4], fun c hc => by rw [b6 c hc, a10 c (by omega)]⟩
theorem pass2 (hr : r < 11) : ∀ (k n m : Nat) (t : Int) (X Y : MM), (m : Int) + k = Y 1 3 → k < n → L.Perm (List.range (Y 1 3).toNat) → 0 ≤ t → t + k ≤ 100 → xQ X Y p r t → (∀ j : Nat, (j : Int) < Y 1 3 → X (55 + 6 * p + 1) j = ag L j ∧ Y 6 j = ag L j) → (∀ j : Nat, (j : Int) < Y 1 3 → xD X Y p j) →
    ∃ X' Y' : MM, fX2_make_L56 n p r m X = some X' ∧ fX5_plans_L170 n m Y = some Y' ∧ xQ X' Y' p r (t + k) ∧ (∀ j : Nat, (j : Int) < Y 1 3 → xD X' Y' p j) ∧ (∀ c, c ≠ 55 + 6 * p + 2 → c ≠ 55 + 6 * p + 3 → c ≠ 55 + 6 * p + 4 → c ≠ 55 + 6 * p + 5 → X' c = X c) ∧ (∀ c, c < 7 ∨ 16 < c → Y' c = Y c) := by
  intro k
  induction k with
  | zero =>
    intro n m t X Y hk hn hp ht0 ht hQ ho hd
    obtain ⟨n, rfl⟩ : ∃ q, n = q + 1 := ⟨n - 1, by omega⟩
    refine ⟨X, Y, ?_, ?_, by rw [Int.natCast_zero, Int.add_zero]; exact hQ, hd, fun c _ _ _ _ => rfl, fun c _ => rfl⟩
    · rw [fX2_make_L56, hQ.2.2.2.1.1, if_pos (by omega)]
    · rw [fX5_plans_L170, rd_n (i := 3) 3 rfl (by decide), bnd_s, if_pos (by omega)]
  | succ k ih =>
    intro n m t X Y hk hn hp ht0 ht hQ ho hd
    obtain ⟨n, rfl⟩ : ∃ q, n = q + 1 := ⟨n - 1, by omega⟩
    have hc3 := hQ.1.2.2.2.1
    have hl : L.length = (Y 1 3).toNat := by rw [hp.length_eq, List.length_range]
    have hi : ag L m < (Y 1 3).toNat := List.mem_range.mp (hp.mem_iff.mp (ag_mem (by omega)))
    obtain ⟨o1, o2⟩ := ho m (by omega)
    have hdi := hd (ag L m) (by omega)
    have eo : fX2_outcome p (ag L m) 0 X = some (Y 7 (ag L m)) := by
      unfold fX2_outcome
      rw [rd_n (4 * ag L m + 0) (by omega) (by omega), bnd_s, hdi.1.1]
    rw [fX2_make_L56, fX5_plans_L170, hQ.2.2.2.1.1, if_neg (by omega), rd_n m rfl (by omega), bnd_s, o1, eo, bnd_s]
    by_cases h4 : Y 7 (ag L m) = 4
    · have h89 : Y 8 (ag L m) = -6 ∧ Y 9 (ag L m) = -6 := by
        rcases hdi.2.2 with q | ⟨q, -⟩
        · exact q
        · omega
      obtain ⟨X1, N, W, w, a1, a2, a3, a4, a5, a6, a7, a8, a9, a10⟩ := look_step hQ (by omega) hr (i := ag L m) (by omega) h89.1 h89.2 (lk := 1) (Or.inr rfl)
      rw [Int.one_mul] at a2
      rw [if_pos h4, bnd_s, a1, bnd_s, bnd_s, gd_R (by omega) (by omega), rd_n (i := 3) 3 rfl (by decide), bnd_s, if_neg (by omega), rd_n m rfl (by omega), bnd_s, o2, rd_n (ag L m) rfl (by omega), bnd_s, if_pos h4, bnd_s, bnd_s, rd_n (i := 2) 2 rfl (by decide), bnd_s, a2, bnd2_s, a4, bnd_s, bnd_s, gd_R (by omega) (by omega)]
      have hW1 : W 1 = Y 1 := a10 1 (by decide)
      obtain ⟨X', Y', b1, b2, b3, b4, b5, b6⟩ := ih n (m + 1) (t + 1) X1 W (by rw [hW1]; omega) (by omega) (by rw [hW1]; exact hp) (by omega) (by omega) a5 (fun j hj => by
        rw [hW1] at hj
        rw [a9 _ (by omega) (by omega) (by omega) (by omega), a10 6 (by decide)]
        exact ho j hj) (fun j hj => by
        rw [hW1] at hj
        by_cases e : j = ag L m
        · rw [e]; exact a6
        · exact a8 _ e (hd j hj))
      rw [hW1] at b4
      refine ⟨X', Y', b1, b2, by rw [show t + ((k + 1 : Nat) : Int) = t + 1 + k by omega]; exact b3, b4, fun c h1 h2 h3 h4 => by rw [b5 c h1 h2 h3 h4, a9 c h1 h2 h3 h4], fun c hc => by rw [b6 c hc, a10 c (by omega)]⟩
    · rw [if_neg h4, bnd_s, gd_R (by omega) (by omega), rd_n (i := 3) 3 rfl (by decide), bnd_s, if_neg (by omega), rd_n m rfl (by omega), bnd_s, o2, rd_n (ag L m) rfl (by omega), bnd_s, if_neg h4, bnd_s, gd_R (by omega) (by omega)]
      obtain ⟨X', Y', b1, b2, b3, b4, b5, b6⟩ := ih n (m + 1) t X Y (by omega) (by omega) hp (by omega) (by omega) hQ ho hd
      refine ⟨X', Y', b1, b2, ?_, b4, b5, b6⟩
      obtain ⟨q1, q2, q3⟩ := b3
      exact ⟨q1, RunS_mono q2 (by omega), q3⟩
theorem ymask_0 {Y : MM} {v : Nat} : ∀ (k j : Nat) (a : Int), inR a → (∀ i, j ≤ i → i < j + k → ¬ Y 8 i = (v : Int)) → ymask Y v k j a = a := by
  intro k
  induction k with
  | zero => intro j a ha h; rfl
  | succ k ih =>
    intro j a ha h
    rw [ymask, if_neg (h j (Nat.le_refl _) (by omega)), ior_0 ha]
    exact ih (j + 1) a ha (fun i h1 h2 => h i (by omega) (by omega))
theorem yevn_0 {Y : MM} {v : Nat} : ∀ (k j : Nat) (a : Int), (∀ i, j ≤ i → i < j + k → ¬ Y 8 i = (v : Int)) → yevn Y v k j a = a := by
  intro k
  induction k with
  | zero => intro j a h; rfl
  | succ k ih =>
    intro j a h
    rw [yevn, if_neg (h j (Nat.le_refl _) (by omega)), Int.add_zero]
    exact ih (j + 1) a (fun i h1 h2 => h i (by omega) (by omega))
/-- what both sides know behind a plan -/
def PL (X Y : MM) (p r : Nat) : Prop := xQ X Y p r 100 ∧ ∀ j : Nat, (j : Int) < Y 1 3 → xD X Y p j
/-- both sides make the plan of the same road: the same plan -/
theorem make_plan {X Y : MM} (hV : ValS Y) (hS : xS X Y r) (hr : r < 11) (hp2 : p < 2) : ∃ X' Y' : MM, fX2_make p r X = some X' ∧ fX5_plans Y = some Y' ∧ PL X' Y' p r ∧ (∀ c, (c < 55 + 6 * p ∨ 55 + 6 * p + 5 < c) → X' c = X c) ∧ (∀ c, c < 6 ∨ 16 < c → Y' c = Y c) := by
  have hc3 := hV.2.2.2.1
  have hc4 := hV.2.2.2.2.1
  have e4 : X (5 * r) 4 = Y 1 3 := hS.2.2.2.1
  have e5 : X (5 * r) 5 = Y 1 4 := hS.2.2.2.2.1
  generalize hA : stM (stM X (55 + 6 * p) 5 (Y 1 3)) (55 + 6 * p) 6 (Y 1 4) = A
  have hAc : ∀ c, c ≠ 55 + 6 * p → A c = X c := fun c hc => by rw [← hA, st_cell hc, st_cell hc]
  have hA5 : A (55 + 6 * p) 5 = Y 1 3 := by rw [← hA, st_k (by decide), st_at]
  have hA6 : A (55 + 6 * p) 6 = Y 1 4 := by rw [← hA, st_at]
  have hSA : xS A Y r := xS_frame hr hS (fun c hc => hAc c (by omega))
  obtain ⟨B, b1, b2, b3, -, -⟩ := x_homes (p := p) hV hr (Y 1 4).toNat 4000 0 A (by omega) (by omega) hSA hA6
  have hSB : xS B Y r := xS_frame hr hSA (fun c hc => b2 c (by omega) (by omega))
  obtain ⟨C, L, c1, c2, c3, c4, c5⟩ := x_order (p := p) hV hr hSB (by rw [b2 _ (by omega) (by omega)]; exact hA5)
  have hl : L.length = (Y 1 3).toNat := by rw [c2.length_eq, List.length_range]
  have hix : ∀ j : Nat, (j : Int) < Y 1 3 → ∃ k, k < L.length ∧ ag L k = j := fun j hj => by
    have hm : j ∈ L := c2.mem_iff.mpr (List.mem_range.mpr (by omega))
    obtain ⟨k, hk⟩ := List.getElem?_of_mem hm
    exact ⟨k, (List.getElem?_eq_some_iff.mp hk).1, by unfold ag; rw [hk]; rfl⟩
  have hlt : ∀ j : Nat, (j : Int) < Y 1 3 → rk Y j < 21 := fun j hj => by
    obtain ⟨k, k1, k2⟩ := hix j hj
    rw [← k2, rk_at c2 c3 k1]
    omega
  have hinj : ∀ a b : Nat, (a : Int) < Y 1 3 → (b : Int) < Y 1 3 → rk Y a = rk Y b → a = b := fun a b ha hb e => by
    obtain ⟨k, k1, k2⟩ := hix a ha
    obtain ⟨k', k3, k4⟩ := hix b hb
    rw [← k2, ← k4, rk_at c2 c3 k1, rk_at c2 c3 k3] at e
    rw [← k2, ← k4, e]
  obtain ⟨D, d1, d2, d3, -, -⟩ := y_homes hV (Y 1 4).toNat 4000 0 Y (by omega) (by omega) rfl
  have hD1 : D 1 = Y 1 := d2 1 (by decide)
  obtain ⟨E, e1, e2, e3, -⟩ := y_L84 hV hlt hinj (Y 1 3).toNat 4000 0 D (by omega) (by omega) hD1
  have hE1 : E 1 = Y 1 := by rw [e2 1 (by decide) (by decide) (by decide), hD1]
  have hSC : xS C E r := xS_1 hE1 (xS_frame hr hSB (fun c hc => c5 c (by omega)))
  have hn8 : ∀ (v i : Nat), 0 ≤ i → i < 0 + (E 1 3).toNat → ¬ E 8 i = (v : Int) := fun v i _ hi q => by
    rw [hE1] at hi
    have := (e3 i (Nat.zero_le _) (by omega)).1
    omega
  have hQ : xQ C E p r (0 : Nat) := by
    refine ⟨ValS_1 hE1 hV, fun v hv => ?_, hSC, ⟨?_, ?_, fun v hv => ?_⟩, fun v hv => ?_⟩
    · rw [hE1] at hv
      obtain ⟨k1, k2, k3, k4, k5⟩ := d3 v (Nat.zero_le _) hv
      obtain ⟨v1, v2, v3⟩ := hV.2.2.2.2.2.1 v hv
      rw [e2 12 (by decide) (by decide) (by decide), e2 13 (by decide) (by decide) (by decide), e2 15 (by decide) (by decide) (by decide), e2 16 (by decide) (by decide) (by decide), e2 14 (by decide) (by decide) (by decide), k1, k2, k3, k4]
      refine ⟨v1, by omega, by omega, by omega, fun q hq => ?_⟩
      rw [k5 q hq]
      exact v3 q hq
    · rw [c5 _ (by omega), b2 _ (by omega) (by omega), hA5, hE1]
    · rw [c5 _ (by omega), b2 _ (by omega) (by omega), hA6, hE1]
    · rw [hE1] at hv
      obtain ⟨k1, k2, k3, k4, k5⟩ := d3 v (Nat.zero_le _) hv
      obtain ⟨h1, h2⟩ := b3 v (Nat.zero_le _) hv
      rw [e2 12 (by decide) (by decide) (by decide), e2 13 (by decide) (by decide) (by decide), e2 15 (by decide) (by decide) (by decide), e2 16 (by decide) (by decide) (by decide), e2 14 (by decide) (by decide) (by decide), k1, k2, k3, k4, c5 _ (by omega), c5 _ (by omega), h1 1 (by decide), h1 2 (by decide), h1 3 (by decide), h1 4 (by decide)]
      exact ⟨rfl, rfl, rfl, rfl, fun q hq => by rw [h2 q hq, k5 q hq]⟩
    · have hv' := hv
      rw [hE1] at hv
      obtain ⟨h1, -⟩ := b3 v (Nat.zero_le _) hv
      have x5 : C (55 + 6 * p + 3) (6 * v + 5) = 0 := by rw [c5 _ (by omega), h1 5 (by decide)]; rfl
      refine ⟨⟨[], ⟨List.nodup_nil, fun i => ⟨fun q => absurd q List.not_mem_nil, fun q => absurd q.2 (hn8 v i (Nat.zero_le _) (by omega))⟩, fun i q => absurd q List.not_mem_nil, List.Pairwise.nil⟩, x5, fun n q hq => by cases hq⟩, ?_, ?_⟩
      · rw [ymask_0 _ _ _ (by decide) (hn8 v), c5 _ (by omega), h1 0 (by decide)]; rfl
      · rw [yevn_0 _ _ _ (hn8 v), x5]
  have ho : ∀ j : Nat, (j : Int) < E 1 3 → C (55 + 6 * p + 1) j = ag L j ∧ E 6 j = ag L j := fun j hj => by
    rw [hE1] at hj
    refine ⟨c4 j hj, ?_⟩
    have hk : j < L.length := by omega
    have hm : ag L j < (Y 1 3).toNat := List.mem_range.mp (c2.mem_iff.mp (ag_mem hk))
    have := (e3 (ag L j) (Nat.zero_le _) (by omega)).2.2
    rw [rk_at c2 c3 hk] at this
    exact this
  obtain ⟨F, G, f1, f2, f3, f4, f5, f6⟩ := pass1 (L := L) hr (E 1 3).toNat 4000 0 C E (by rw [hE1]; omega) (by rw [hE1]; omega) (by rw [hE1]; exact c2) hQ ho (fun j hj => by omega) (fun j h1 h2 => by
    rw [hE1] at h2
    have hm : ag L j < (Y 1 3).toNat := List.mem_range.mp (c2.mem_iff.mp (ag_mem (by omega)))
    obtain ⟨q1, q2, -⟩ := e3 (ag L j) (Nat.zero_le _) (by omega)
    exact ⟨q1, q2⟩)
  have hG1 : G 1 = Y 1 := by rw [f6 1 (by decide), hE1]
  rw [hE1] at f3 f4
  obtain ⟨H, K, h1, h2, h3, h4, h5, h6⟩ := pass2 (L := L) hr (G 1 3).toNat 4000 0 (Y 1 3) F G (by rw [hG1]; omega) (by rw [hG1]; omega) (by rw [hG1]; exact c2) (by omega) (by rw [hG1]; omega) f3 (fun j hj => by
    rw [hG1] at hj
    rw [f5 _ (by omega) (by omega) (by omega) (by omega), f6 6 (by decide)]
    exact ho j (by rw [hE1]; exact hj)) (fun j hj => by
    rw [hG1] at hj
    obtain ⟨k, k1, k2⟩ := hix j hj
    rw [← k2]
    exact f4 k (by omega))
  have hK1 : K 1 = Y 1 := by rw [h6 1 (by decide), hG1]
  rw [hG1] at h3 h4
  refine ⟨H, K, ?_, ?_, ⟨⟨h3.1, RunS_mono h3.2.1 (by omega), h3.2.2⟩, fun j hj => h4 j (by rw [hK1] at hj; exact hj)⟩, fun c hc => ?_, fun c hc => ?_⟩
  · unfold fX2_make
    rw [bnd_s, bnd_s, st_c (by omega), e4, e5, hA]
    unfold fX2_sendVansHome
    rw [show fX2_sendVansHome_L2 4000 p r 0 A = some B from b1, bnd_s, bnd_s, c1, bnd_s, show fX2_make_L28 4000 p r 0 C = some F from f1, bnd_s, show fX2_make_L56 4000 p r 0 F = some H from h1, bnd_s]
  · unfold fX5_plans
    rw [show fX5_plans_L2 4000 0 Y = some D from d1, bnd_s, show fX5_plans_L84 4000 0 D = some E from e1, bnd_s, show fX5_plans_L129 4000 0 E = some G from f2, bnd_s, show fX5_plans_L170 4000 0 G = some K from h2, bnd_s]
  · rw [h5 c (by omega) (by omega) (by omega) (by omega), f5 c (by omega) (by omega) (by omega) (by omega), c5 c (by omega), b2 c (by omega) (by omega), hAc c (by omega)]
  · rw [h6 c (by omega), f6 c (by omega), e2 c (by omega) (by omega) (by omega), d2 c (by omega)]
end XMK
