/-! THE ORDER: the class sorts by putting in, the reference by ranks; the same order -/
abbrev bf (M : MM) (j i : Nat) : Prop := yvis M j 5 < yvis M i 5 ∨ (yvis M j 5 = yvis M i 5 ∧ j < i)
abbrev ag (L : List Nat) (j : Nat) : Nat := L[j]?.getD 0
theorem ag_eq {L : List Nat} {j : Nat} (h : j < L.length) : L[j]? = some (ag L j) := by
  unfold ag
  rw [List.getElem?_eq_getElem h]
  rfl
theorem ag_mem {L : List Nat} {j : Nat} (h : j < L.length) : ag L j ∈ L := List.mem_of_getElem? (ag_eq h)
section XO
variable {X M : MM} {r p : Nat}
theorem x_L20 (hV : ValS M) (m : Nat) (hm : (m : Int) < M 1 3) (L : List Nat) (hl : L.length = m) (hL : ∀ q, q ∈ L → q < m) : ∀ (k n : Nat) (Z : MM), k < n → k ≤ m → xS Z M r → r < 11 → (∀ j, j < k → Z (55 + 6 * p + 1) j = ag L j) → (∀ j, k < j → j ≤ m → Z (55 + 6 * p + 1) j = ag L (j - 1)) → (∀ j, k ≤ j → j < m → yvis M m 5 < yvis M (ag L j) 5) →
    ∃ (k' : Nat) (Z' : MM), fX2_orderByEnds_L20 n p r m (yvis M m 5) k Z = some ((k' : Int), Z') ∧ k' ≤ m ∧ (∀ j, j < k' → Z' (55 + 6 * p + 1) j = ag L j) ∧ (∀ j, k' < j → j ≤ m → Z' (55 + 6 * p + 1) j = ag L (j - 1)) ∧ (∀ j, k' ≤ j → j < m → yvis M m 5 < yvis M (ag L j) 5) ∧ (k' = 0 ∨ yvis M (ag L (k' - 1)) 5 ≤ yvis M m 5) ∧ (∀ e, e ≠ 55 + 6 * p + 1 → Z' e = Z e) := by
  have hc3 := hV.2.2.2.1
  intro k
  induction k with
  | zero =>
    intro n Z hn hk hS hr h1 h2 h3
    obtain ⟨n, rfl⟩ : ∃ q, n = q + 1 := ⟨n - 1, by omega⟩
    refine ⟨0, Z, ?_, hk, h1, h2, h3, Or.inl rfl, fun e _ => rfl⟩
    rw [fX2_orderByEnds_L20, if_pos (by omega)]
  | succ k ih =>
    intro n Z hn hk hS hr h1 h2 h3
    obtain ⟨n, rfl⟩ : ∃ q, n = q + 1 := ⟨n - 1, by omega⟩
    have hw : ag L k < m := hL _ (ag_mem (by omega))
    have e1 := h1 k (by omega)
    rw [fX2_orderByEnds_L20, if_neg (by omega), rd_n k (by omega) (by omega), bnd_s, e1, x_visitFact hV hS (i := ag L k) (by omega) (k := 5) 5 rfl (by decide), bnd_s]
    by_cases hq : yvis M (ag L k) 5 ≤ yvis M m 5
    · rw [if_pos hq]
      exact ⟨k + 1, Z, rfl, hk, h1, h2, h3, Or.inr hq, fun e _ => rfl⟩
    · rw [if_neg hq, bnd_s, wr_n (k + 1) (by omega) (by omega) ⟨by omega, by omega⟩, bnd_s, gd_R (by omega) (by omega), show ((k + 1 : Nat) : Int) + -1 = (k : Int) by omega]
      obtain ⟨k', Z', a1, a2, a3, a4, a5, a6, a7⟩ := ih n (stM Z (55 + 6 * p + 1) (k + 1) (ag L k)) (by omega) (by omega) (xS_frame hr hS (fun c hc => st_cell (by omega))) hr (fun j hj => by rw [st_k (by omega)]; exact h1 j (by omega)) (fun j hj1 hj2 => by
        by_cases e : j = k + 1
        · rw [e, st_at]; rfl
        · rw [st_k e]; exact h2 j (by omega) hj2) (fun j hj1 hj2 => by
        by_cases e : j = k
        · rw [e]; omega
        · exact h3 j (by omega) hj2)
      exact ⟨k', Z', a1, a2, a3, a4, a5, a6, fun e he => by rw [a7 e he, st_cell he]⟩
/-- a list with a visit put in -/
theorem put_at (L : List Nat) (m k j : Nat) (hk : k ≤ L.length) : ag (L.take k ++ m :: L.drop k) j = if j < k then ag L j else if j = k then m else ag L (j - 1) := by
  have hl : (L.take k).length = k := by rw [List.length_take]; omega
  unfold ag
  by_cases h1 : j < k
  · rw [if_pos h1, List.getElem?_append_left (by omega), List.getElem?_take_of_lt h1]
  · rw [if_neg h1, List.getElem?_append_right (by omega), hl]
    by_cases h2 : j = k
    · rw [if_pos h2, h2, Nat.sub_self]; rfl
    · rw [if_neg h2]
      obtain ⟨d, rfl⟩ : ∃ d, j = k + d + 1 := ⟨j - k - 1, by omega⟩
      rw [show k + d + 1 - k = d + 1 by omega, List.getElem?_cons_succ, List.getElem?_drop, show k + d + 1 - 1 = k + d by omega]
theorem put_perm (L : List Nat) (m k : Nat) (h : L.Perm (List.range m)) : (L.take k ++ m :: L.drop k).Perm (List.range (m + 1)) := by
  refine List.perm_middle.trans ?_
  rw [List.take_append_drop, List.range_succ]
  refine (List.Perm.cons m h).trans ?_
  exact (List.perm_append_comm (l₁ := [m]) (l₂ := List.range m))
theorem x_ord2 (hV : ValS M) (hr : r < 11) : ∀ (k n m : Nat) (Z : MM) (L : List Nat), (m : Int) + k = M 1 3 → k < n → xS Z M r → Z (55 + 6 * p) 5 = M 1 3 → L.Perm (List.range m) → L.Pairwise (bf M) → (∀ j, j < m → Z (55 + 6 * p + 1) j = ag L j) →
    ∃ (Z' : MM) (L' : List Nat), fX2_orderByEnds_L2 n p r m Z = some Z' ∧ L'.Perm (List.range (M 1 3).toNat) ∧ L'.Pairwise (bf M) ∧ (∀ j : Nat, (j : Int) < M 1 3 → Z' (55 + 6 * p + 1) j = ag L' j) ∧ (∀ e, e ≠ 55 + 6 * p + 1 → Z' e = Z e) := by
  have hc3 := hV.2.2.2.1
  intro k
  induction k with
  | zero =>
    intro n m Z L hk hn hS h5 hp hs ha
    obtain ⟨n, rfl⟩ : ∃ q, n = q + 1 := ⟨n - 1, by omega⟩
    refine ⟨Z, L, ?_, by rw [show (M 1 3).toNat = m by omega]; exact hp, hs, fun j hj => ha j (by omega), fun e _ => rfl⟩
    rw [fX2_orderByEnds_L2, h5, if_pos (by omega)]
  | succ k ih =>
    intro n m Z L hk hn hS h5 hp hs ha
    obtain ⟨n, rfl⟩ : ∃ q, n = q + 1 := ⟨n - 1, by omega⟩
    have hl : L.length = m := by rw [hp.length_eq, List.length_range]
    have hL : ∀ q, q ∈ L → q < m := fun q hq => List.mem_range.mp (hp.mem_iff.mp hq)
    obtain ⟨k', Z', a1, a2, a3, a4, a5, a6, a7⟩ := x_L20 hV m (by omega) L hl hL m 4000 Z (by omega) (Nat.le_refl _) hS hr ha (fun j h1 h2 => by omega) (fun j h1 h2 => by omega)
    rw [fX2_orderByEnds_L2, h5, if_neg (by omega), x_visitFact hV hS (i := m) (by omega) (k := 5) 5 rfl (by decide), bnd_s, a1, bnd2_s, wr_n k' (by omega) (by omega) ⟨by omega, by omega⟩, bnd_s, gd_R (by omega) (by omega)]
    have hp2 := put_perm L m k' hp
    have hpw : ∀ (a b : Nat), a < b → b < L.length → bf M (ag L a) (ag L b) := fun a b hab hb => by
      have := List.pairwise_iff_getElem.mp hs a b (by omega) hb hab
      have e1 : ag L a = L[a] := by unfold ag; rw [List.getElem?_eq_getElem (by omega)]; rfl
      have e2 : ag L b = L[b] := by unfold ag; rw [List.getElem?_eq_getElem hb]; rfl
      rw [e1, e2]; exact this
    have hidx : ∀ q, q ∈ L → ∃ j, j < L.length ∧ q = ag L j := fun q hq => by
      obtain ⟨j, hj⟩ := List.getElem?_of_mem hq
      exact ⟨j, (List.getElem?_eq_some_iff.mp hj).1, by unfold ag; rw [hj]; rfl⟩
    have hs2 : (L.take k' ++ m :: L.drop k').Pairwise (bf M) := by
      have hs3 := hs
      rw [← List.take_append_drop k' L, List.pairwise_append] at hs3
      obtain ⟨s1, s2, s3⟩ := hs3
      have hmt : ∀ q, q ∈ L.take k' → bf M q m := fun q hq => by
        obtain ⟨j, hj⟩ := List.getElem?_of_mem hq
        rw [List.getElem?_take] at hj
        by_cases h : j < k'
        · rw [if_pos h] at hj
          have eq : q = ag L j := by unfold ag; rw [hj]; rfl
          have hqm : q < m := hL q (List.mem_of_getElem? hj)
          have hle : yvis M q 5 ≤ yvis M m 5 := by
            rcases a6 with e | e
            · omega
            · by_cases ej : j = k' - 1
              · rw [eq, ej]; exact e
              · have := hpw j (k' - 1) (by omega) (by omega)
                rw [← eq] at this
                rcases this with t1 | ⟨t1, -⟩ <;> omega
          by_cases h3 : yvis M q 5 < yvis M m 5
          · exact Or.inl h3
          · exact Or.inr ⟨by omega, hqm⟩
        · rw [if_neg h] at hj; cases hj
      have hmd : ∀ q, q ∈ L.drop k' → bf M m q := fun q hq => by
        obtain ⟨j, hj⟩ := List.getElem?_of_mem hq
        rw [List.getElem?_drop] at hj
        have eq : q = ag L (k' + j) := by unfold ag; rw [hj]; rfl
        have hlt := (List.getElem?_eq_some_iff.mp hj).1
        rw [eq]
        exact Or.inl (a5 (k' + j) (by omega) (by omega))
      rw [List.pairwise_append, List.pairwise_cons]
      refine ⟨s1, ⟨hmd, s2⟩, fun a ha b hb => ?_⟩
      rcases List.mem_cons.mp hb with e | e
      · rw [e]; exact hmt a ha
      · exact s3 a ha b e
    obtain ⟨Z2, L2, b1, b2, b3, b4, b5⟩ := ih n (m + 1) (stM Z' (55 + 6 * p + 1) k' m) (L.take k' ++ m :: L.drop k') (by omega) (by omega) (xS_frame hr hS (fun c hc => by rw [st_cell (by omega), a7 c (by omega)])) (by rw [st_c (by omega), a7 _ (by omega)]; exact h5) hp2 hs2 (fun j hj => by
      rw [put_at L m k' j (by omega)]
      by_cases h1 : j < k'
      · rw [if_pos h1, st_k (by omega), a3 j h1]
      · rw [if_neg h1]
        by_cases h2 : j = k'
        · rw [if_pos h2, h2, st_at]
        · rw [if_neg h2, st_k h2, a4 j (by omega) (by omega)])
    exact ⟨Z2, L2, b1, b2, b3, b4, fun e he => by rw [b5 e he, st_cell he, a7 e he]⟩
theorem x_order (hV : ValS M) (hr : r < 11) {Z : MM} (hS : xS Z M r) (h5 : Z (55 + 6 * p) 5 = M 1 3) : ∃ (Z' : MM) (L : List Nat), fX2_orderByEnds p r Z = some Z' ∧ L.Perm (List.range (M 1 3).toNat) ∧ L.Pairwise (bf M) ∧ (∀ j : Nat, (j : Int) < M 1 3 → Z' (55 + 6 * p + 1) j = ag L j) ∧ (∀ e, e ≠ 55 + 6 * p + 1 → Z' e = Z e) := by
  have hc3 := hV.2.2.2.1
  obtain ⟨Z', L, a1, a2⟩ := x_ord2 (p := p) hV hr (M 1 3).toNat 4000 0 Z [] (by omega) (by omega) hS h5 (List.Perm.refl _) List.Pairwise.nil (fun j hj => by omega)
  refine ⟨Z', L, ?_, a2⟩
  unfold fX2_orderByEnds
  rw [show fX2_orderByEnds_L2 4000 p r 0 Z = some Z' from a1, bnd_s]
/-- a visit's rank -/
def rk (M : MM) (i : Nat) : Nat := (List.range (M 1 3).toNat).countP (fun q => decide (bf M q i))
theorem y_rk (hV : ValS M) {i : Nat} (hi : (i : Int) < M 1 3) : ∀ (k n j : Nat) (a : Int), (j : Int) + k = M 1 3 → k < n → 0 ≤ a → a + k ≤ 21 → fX5_rankOf_L4 n i a j M = some (a + ((List.range' j k).countP (fun q => decide (bf M q i)) : Nat)) := by
  have hc3 := hV.2.2.2.1
  obtain ⟨-, -, -, -, -, ⟨p1, p2⟩⟩ := hV.2.2.2.2.2.2 i hi
  intro k
  induction k with
  | zero =>
    intro n j a hk hn h0 h1
    obtain ⟨n, rfl⟩ : ∃ q, n = q + 1 := ⟨n - 1, by omega⟩
    rw [fX5_rankOf_L4, rd_n (i := 3) 3 rfl (by omega), bnd_s, if_pos (by omega)]
    show some a = some (a + ((0 : Nat) : Int))
    rw [Int.natCast_zero, Int.add_zero]
  | succ k ih =>
    intro n j a hk hn h0 h1
    obtain ⟨n, rfl⟩ : ∃ q, n = q + 1 := ⟨n - 1, by omega⟩
    obtain ⟨-, -, -, -, -, ⟨p3, p4⟩⟩ := hV.2.2.2.2.2.2 j (by omega)
    rw [fX5_rankOf_L4, rd_n (i := 3) 3 rfl (by omega), bnd_s, if_neg (by omega), y_visit0 M i (k := 5) 5 rfl (by omega), bnd_s, y_visit0 M j (k := 5) 5 rfl (by omega), bnd_s, gd_R (by omega) (by omega)]
    have e : (if 0 < yvis M i 5 - yvis M j 5 then some (1 : Int) else if yvis M i 5 - yvis M j 5 = 0 then if (i : Int) ≤ j then some (0 : Int) else some 1 else some 0) = some (if bf M j i then 1 else 0) := by
      by_cases q1 : 0 < yvis M i 5 - yvis M j 5
      · rw [if_pos q1, if_pos (Or.inl (by omega))]
      · rw [if_neg q1]
        by_cases q2 : yvis M i 5 - yvis M j 5 = 0
        · rw [if_pos q2]
          by_cases q3 : (i : Int) ≤ j
          · rw [if_pos q3, if_neg (fun z => by rcases z with z | ⟨-, z⟩ <;> omega)]
          · rw [if_neg q3, if_pos (Or.inr ⟨by omega, by omega⟩)]
        · rw [if_neg q2, if_neg (fun z => by rcases z with z | ⟨z, -⟩ <;> omega)]
    rw [e, bnd_s, List.range'_succ, List.countP_cons]
    by_cases q : bf M j i
    · rw [if_pos q, gd_R (by omega) (by omega), gd_R (by omega) (by omega), if_pos (decide_eq_true q), show (j : Int) + 1 = ((j + 1 : Nat) : Int) by omega, ih n (j + 1) (a + 1) (by omega) (by omega) (by omega) (by omega)]
      congr 1
      omega
    · rw [if_neg q, gd_R (by omega) (by omega), gd_R (by omega) (by omega), if_neg (fun z => q (of_decide_eq_true z)), show (j : Int) + 1 = ((j + 1 : Nat) : Int) by omega, ih n (j + 1) (a + 0) (by omega) (by omega) (by omega) (by omega)]
      congr 1
      omega
theorem y_rankOf (hV : ValS M) {i : Nat} (hi : (i : Int) < M 1 3) : fX5_rankOf i M = some (rk M i : Int) := by
  have hc3 := hV.2.2.2.1
  unfold fX5_rankOf rk
  have := y_rk hV hi (M 1 3).toNat 4000 0 0 (by omega) (by omega) (by omega) (by omega)
  rw [show fX5_rankOf_L4 4000 i 0 0 M = _ from this, bnd_s, List.range_eq_range', Int.zero_add]
/-- in the sorted list a visit stands at its rank -/
theorem rk_at {L : List Nat} (hp : L.Perm (List.range (M 1 3).toNat)) (hs : L.Pairwise (bf M)) {k : Nat} (hk : k < L.length) : rk M (ag L k) = k := by
  unfold rk
  rw [← hp.countP_eq]
  have hL := List.take_append_drop k L
  have hd : L.drop k = ag L k :: L.drop (k + 1) := by
    rw [List.drop_eq_getElem_cons hk]
    congr 1
    unfold ag
    rw [List.getElem?_eq_getElem hk]
    rfl
  rw [hd] at hL
  generalize hw : ag L k = w at hL ⊢
  have hs2 := hs
  rw [← hL, List.pairwise_append, List.pairwise_cons] at hs2
  obtain ⟨-, ⟨s2, -⟩, s3⟩ := hs2
  rw [← hL, List.countP_append, List.countP_cons]
  have c1 : (L.take k).countP (fun q => decide (bf M q w)) = k := by
    rw [List.countP_eq_length.mpr (fun a ha => decide_eq_true (s3 a ha w List.mem_cons_self)), List.length_take]
    omega
  have c2 : (L.drop (k + 1)).countP (fun q => decide (bf M q w)) = 0 := by
    rw [List.countP_eq_zero]
    intro a ha hq
    have h1 := of_decide_eq_true hq
    have h2 := s2 a ha
    rcases h1 with h1 | ⟨h1, h1'⟩ <;> rcases h2 with h2 | ⟨h2, h2'⟩ <;> omega
  rw [c1, c2, if_neg (fun z => by
    have := of_decide_eq_true z
    rcases this with h | ⟨-, h⟩ <;> omega)]
  omega
end XO
