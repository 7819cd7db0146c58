/-! QUERIES on both sides: of a visit, of a van, of stock -/
section QU
variable {X Y : MM}
theorem y_visitsOf (hV : ValS Y) (v : Nat) : fX5_visitsOf v Y = some (ymask Y v (Y 1 3).toNat 0 0) := by
  have hc := hV.2.2.2.1
  have L : ∀ (k n j : Nat) (a : Int), (j : Int) + k = Y 1 3 → k < n → fX5_visitsOf_L4 n v a j Y = some (ymask Y v k j a) := by
    intro k
    induction k with
    | zero =>
      intro n j a hk hn
      obtain ⟨n, rfl⟩ : ∃ q, n = q + 1 := ⟨n - 1, by omega⟩
      rw [fX5_visitsOf_L4, rd_n (i := 3) 3 rfl (by decide), bnd_s, if_pos (by omega)]
      rfl
    | succ k ih =>
      intro n j a hk hn
      obtain ⟨n, rfl⟩ : ∃ q, n = q + 1 := ⟨n - 1, by omega⟩
      rw [fX5_visitsOf_L4, rd_n (i := 3) 3 rfl (by decide), bnd_s, if_neg (by omega), rd_n j rfl (by omega), bnd_s]
      have e : (if Y 8 j = (v : Int) then some (ishl 1 j) else some (0 : Int)) = some (if Y 8 j = (v : Int) then ishl 1 j else 0) := by
        by_cases q : Y 8 j = (v : Int)
        · rw [if_pos q, if_pos q]
        · rw [if_neg q, if_neg q]
      rw [e, bnd_s, gd_R (by omega) (by omega)]
      exact ih n (j + 1) _ (by omega) (by omega)
  unfold fX5_visitsOf
  have := L (Y 1 3).toNat 4000 0 0 (by omega) (by omega)
  rw [show fX5_visitsOf_L4 4000 v 0 0 Y = _ from this, bnd_s]
theorem y_eventsOf (hV : ValS Y) (v : Nat) : fX5_eventsOf v Y = some (yevn Y v (Y 1 3).toNat 0 0) := by
  have hc := hV.2.2.2.1
  have L : ∀ (k n j : Nat) (a : Int), (j : Int) + k = Y 1 3 → k < n → 0 ≤ a → a + 3 * k ≤ 100 → fX5_eventsOf_L4 n v a j Y = some (yevn Y v k j a) := by
    intro k
    induction k with
    | zero =>
      intro n j a hk hn h0 h1
      obtain ⟨n, rfl⟩ : ∃ q, n = q + 1 := ⟨n - 1, by omega⟩
      rw [fX5_eventsOf_L4, rd_n (i := 3) 3 rfl (by decide), bnd_s, if_pos (by omega)]
      rfl
    | succ k ih =>
      intro n j a hk hn h0 h1
      obtain ⟨n, rfl⟩ : ∃ q, n = q + 1 := ⟨n - 1, by omega⟩
      rw [fX5_eventsOf_L4, rd_n (i := 3) 3 rfl (by decide), bnd_s, if_neg (by omega), rd_n j rfl (by omega), bnd_s, rd_n j rfl (by omega), bnd_s]
      have e1 : ∀ (P : Prop) [Decidable P], (if P then some (0 : Int) else some 1) = some (if P then 0 else 1) := fun P _ => by
        by_cases q : P
        · rw [if_pos q, if_pos q]
        · rw [if_neg q, if_neg q]
      have b1 : ∀ (P : Prop) [Decidable P], 0 ≤ (if P then (0 : Int) else 1) ∧ (if P then (0 : Int) else 1) ≤ 1 := fun P _ => by
        by_cases q : P
        · rw [if_pos q]; omega
        · rw [if_neg q]; omega
      have c1 := b1 (Y 10 j ≤ Y 11 j)
      have c2 := b1 (Y 9 j ≤ Y 10 j)
      rw [e1, bnd_s, rd_n j rfl (by omega), bnd_s, bnd_s, e1, bnd_s, rd_n j rfl (by omega), bnd_s]
      have e2 : (if Y 8 j = (v : Int) then gd (inR ((1 + (if Y 10 j ≤ Y 11 j then 0 else 1)) + (if Y 9 j ≤ Y 10 j then 0 else 1))) (some ((1 + (if Y 10 j ≤ Y 11 j then 0 else 1)) + (if Y 9 j ≤ Y 10 j then 0 else 1))) else some (0 : Int)) = some (if Y 8 j = (v : Int) then 1 + (if Y 10 j ≤ Y 11 j then 0 else 1) + (if Y 9 j ≤ Y 10 j then 0 else 1) else 0) := by
        by_cases q : Y 8 j = (v : Int)
        · rw [if_pos q, if_pos q, gd_R (by omega) (by omega)]
        · rw [if_neg q, if_neg q]
      rw [e2, bnd_s]
      have c3 : 0 ≤ (if Y 8 j = (v : Int) then 1 + (if Y 10 j ≤ Y 11 j then (0 : Int) else 1) + (if Y 9 j ≤ Y 10 j then 0 else 1) else 0) ∧ (if Y 8 j = (v : Int) then 1 + (if Y 10 j ≤ Y 11 j then (0 : Int) else 1) + (if Y 9 j ≤ Y 10 j then 0 else 1) else 0) ≤ 3 := by
        by_cases q : Y 8 j = (v : Int)
        · rw [if_pos q]; omega
        · rw [if_neg q]; omega
      rw [gd_R (by omega) (by omega), gd_R (by omega) (by omega)]
      exact ih n (j + 1) _ (by omega) (by omega) (by omega) (by omega)
  unfold fX5_eventsOf
  have := L (Y 1 3).toNat 4000 0 0 (by omega) (by omega) (by omega) (by omega)
  rw [show fX5_eventsOf_L4 4000 v 0 0 Y = _ from this, bnd_s]
theorem q_ofVisit (hV : ValS Y) (hS : xS X Y 0) (hN : PN X Y 0 0) (a b : Int) : ∃ (res : Int) (Y' : MM), fX4_ofVisit a b X = some res ∧ fX5_ofVisit a b Y = some (res, Y') ∧ QY Y Y' := by
  obtain ⟨K, k1, k2, k3, k4⟩ := q_plan hV hS hN
  have hc := hV.2.2.2.1
  have hV1 : ValS (stM Y 0 0 0) := ValS_1 (st_cell (by decide)) hV
  have hVK : ValS K := k2.1.1
  have e3 : (stM Y 0 0 0) 1 3 = Y 1 3 := st_c (by decide)
  unfold fX4_ofVisit fX5_ofVisit
  rw [x_hasVisit hS, bnd_s, bnd_s, y_isVisit hV1, bnd_s, e3]
  by_cases h : 0 ≤ a ∧ a < Y 1 3
  · obtain ⟨i, rfl⟩ : ∃ i : Nat, a = i := ⟨a.toNat, by omega⟩
    have hiK : (i : Int) < K 1 3 := by rw [k4]; exact h.2
    obtain ⟨⟨o1, o2, o3, o4⟩, o5, o6⟩ := k2.2 i hiK
    have hS0 : xS X K 0 := k2.1.2.2.1
    have ho : ∀ j : Nat, j < 4 → fX2_outcome 0 i j X = some (X (55 + 6 * 0 + 2) (4 * i + j)) := fun j hj => by
      unfold fX2_outcome
      rw [rd_n (4 * i + j) (by omega) (by omega), bnd_s]
    have one : ¬ (1 : Int) = 0 := by decide
    rw [if_pos h, if_neg one, if_neg one, p_within, bnd_s, k1, bnd_s]
    by_cases b6 : b = 6
    · subst b6
      refine ⟨K 7 i, K, ?_, ?_, k3⟩
      · rw [if_pos (show (0 : Int) ≤ 6 ∧ (6 : Int) ≤ 9 by decide), if_neg one, if_pos (by decide), gd_R (by decide) (by decide), show (6 : Int) - 6 = ((0 : Nat) : Int) from rfl, ho 0 (by decide), bnd_s, o1]
      · rw [if_pos rfl, rd_n i rfl (by omega), bnd_s]
    · by_cases b7 : b = 7
      · subst b7
        refine ⟨K 8 i, K, ?_, ?_, k3⟩
        · rw [if_pos (show (0 : Int) ≤ 7 ∧ (7 : Int) ≤ 9 by decide), if_neg one, if_pos (by decide), gd_R (by decide) (by decide), show (7 : Int) - 6 = ((1 : Nat) : Int) from rfl, ho 1 (by decide), bnd_s, o2]
        · rw [if_neg (by decide), if_pos rfl, rd_n i rfl (by omega), bnd_s]
      · by_cases b8 : b = 8
        · subst b8
          refine ⟨K 9 i, K, ?_, ?_, k3⟩
          · rw [if_pos (show (0 : Int) ≤ 8 ∧ (8 : Int) ≤ 9 by decide), if_neg one, if_pos (by decide), gd_R (by decide) (by decide), show (8 : Int) - 6 = ((2 : Nat) : Int) from rfl, ho 2 (by decide), bnd_s, o3]
          · rw [if_neg (by decide), if_neg (by decide), if_pos rfl, rd_n i rfl (by omega), bnd_s]
        · by_cases b9 : b = 9
          · subst b9
            refine ⟨(if K 9 i = -6 then -6 else K 9 i + K 1 1), K, ?_, ?_, k3⟩
            · rw [if_pos (show (0 : Int) ≤ 9 ∧ (9 : Int) ≤ 9 by decide), if_neg one, if_pos (by decide), gd_R (by decide) (by decide), show (9 : Int) - 6 = ((3 : Nat) : Int) from rfl, ho 3 (by decide), bnd_s, o4]
            · rw [if_neg (by decide), if_neg (by decide), if_neg (by decide), if_pos rfl, rd_n i rfl (by omega), bnd_s]
              by_cases z : K 9 i = -6
              · rw [if_pos z, if_pos z, bnd_s]
              · have hb1 := hVK.2.1
                obtain ⟨v, hv, h8⟩ : ∃ v : Nat, (v : Int) < K 1 4 ∧ K 8 i = v := by
                  rcases o6 with q | ⟨-, q⟩
                  · exact absurd q.2 z
                  · exact q
                obtain ⟨⟨G, ⟨-, g2, g3, -⟩, -⟩, -⟩ := k2.1.2.2.2.2 v hv
                obtain ⟨g4, g5, -⟩ := g3 i ((g2 i).mpr ⟨hiK, h8⟩)
                have hr13 := (k2.1.2.1 v hv).2.1
                rw [if_neg z, if_neg z, bnd_s, rd_n (i := 1) 1 rfl (by decide), bnd_s, gd_R (by omega) (by omega), bnd_s]
          · rw [if_neg b6, if_neg b7, if_neg b8, if_neg b9, p_in, bnd_s]
            by_cases b5 : 0 ≤ b ∧ b ≤ 5
            · obtain ⟨j, rfl⟩ : ∃ j : Nat, b = j := ⟨b.toNat, by omega⟩
              refine ⟨yvis K i j, K, ?_, ?_, k3⟩
              · rw [if_pos (show (0 : Int) ≤ j ∧ (j : Int) ≤ 9 by omega), if_neg one, if_neg (by omega), x_visitFact hVK hS0 hiK j rfl (by omega), bnd_s]
              · rw [if_pos b5, if_neg one, y_visit0 K i j rfl (by omega), bnd_s, bnd_s]
            · refine ⟨-2, K, ?_, ?_, k3⟩
              · rw [if_neg (show ¬ (0 ≤ b ∧ b ≤ 9) by omega), if_pos rfl]
              · rw [if_neg b5, if_pos rfl, bnd_s]
  · rw [if_neg h, if_pos rfl, if_pos rfl]
    exact ⟨_, _, rfl, rfl, QY_st Y⟩
theorem q_ofVan (hV : ValS Y) (hS : xS X Y 0) (hN : PN X Y 0 0) (a b : Int) : ∃ (res : Int) (Y' : MM), fX4_ofVan a b X = some res ∧ fX5_ofVan a b Y = some (res, Y') ∧ QY Y Y' := by
  obtain ⟨K, k1, k2, k3, k4⟩ := q_plan hV hS hN
  have hc := hV.2.2.2.2.1
  have hV1 : ValS (stM Y 0 0 0) := ValS_1 (st_cell (by decide)) hV
  have hVK : ValS K := k2.1.1
  have e3 : (stM Y 0 0 0) 1 4 = Y 1 4 := st_c (by decide)
  unfold fX4_ofVan fX5_ofVan
  rw [x_hasVan hS, bnd_s, bnd_s, y_isVan hV1, bnd_s, e3]
  by_cases h : 0 ≤ a ∧ a < Y 1 4
  · obtain ⟨v, rfl⟩ : ∃ i : Nat, a = i := ⟨a.toNat, by omega⟩
    have hvK : (v : Int) < K 1 4 := by rw [k4]; exact h.2
    have hS0 : xS X K 0 := k2.1.2.2.1
    obtain ⟨f1, f2, f3, f4, -⟩ := k2.1.2.2.2.1.2.2 v hvK
    obtain ⟨-, f0, f5⟩ := k2.1.2.2.2.2 v hvK
    have ho : ∀ j : Nat, j < 6 → fX2_driveFact 0 v j X = some (X (55 + 6 * 0 + 3) (6 * v + j)) := fun j hj => by
      unfold fX2_driveFact
      rw [rd_n (6 * v + j) (by omega) (by omega), bnd_s]
    have one : ¬ (1 : Int) = 0 := by decide
    rw [if_pos h, if_neg one, if_neg one, p_within, bnd_s, k1, bnd_s]
    by_cases h07 : 0 ≤ b ∧ b ≤ 7
    · rcases (show b = 0 ∨ b = 1 ∨ b = 2 ∨ b = 3 ∨ b = 4 ∨ b = 5 ∨ b = 6 ∨ b = 7 by omega) with rfl | rfl | rfl | rfl | rfl | rfl | rfl | rfl
      · refine ⟨yvan K v 0, K, ?_, ?_, k3⟩
        · rw [if_pos h07, if_neg one, if_neg (by decide), x_vanFact hVK hS0 hvK (k := 0) 0 rfl (by decide), bnd_s]
        · rw [if_pos rfl, y_van0 K v (k := 0) 0 rfl (by omega), bnd_s]
      · refine ⟨yvan K v 1, K, ?_, ?_, k3⟩
        · rw [if_pos h07, if_neg one, if_neg (by decide), x_vanFact hVK hS0 hvK (k := 1) 1 rfl (by decide), bnd_s]
        · rw [if_neg (by decide), if_pos rfl, y_van0 K v (k := 1) 1 rfl (by omega), bnd_s]
      · refine ⟨ymask K v (K 1 3).toNat 0 0, K, ?_, ?_, k3⟩
        · rw [if_pos h07, if_neg one, if_pos (by decide), gd_R (by decide) (by decide), show (2 : Int) - 2 = ((0 : Nat) : Int) from rfl, ho 0 (by decide), bnd_s, f0]
        · rw [if_neg (by decide), if_neg (by decide), if_pos rfl, y_visitsOf hVK, bnd_s]
      · refine ⟨K 15 v, K, ?_, ?_, k3⟩
        · rw [if_pos h07, if_neg one, if_pos (by decide), gd_R (by decide) (by decide), show (3 : Int) - 2 = ((1 : Nat) : Int) from rfl, ho 1 (by decide), bnd_s, f1]
        · rw [if_neg (by decide), if_neg (by decide), if_neg (by decide), if_pos rfl, rd_n v rfl (by omega), bnd_s]
      · refine ⟨K 16 v, K, ?_, ?_, k3⟩
        · rw [if_pos h07, if_neg one, if_pos (by decide), gd_R (by decide) (by decide), show (4 : Int) - 2 = ((2 : Nat) : Int) from rfl, ho 2 (by decide), bnd_s, f2]
        · rw [if_neg (by decide), if_neg (by decide), if_neg (by decide), if_neg (by decide), if_pos rfl, rd_n v rfl (by omega), bnd_s]
      · refine ⟨K 13 v, K, ?_, ?_, k3⟩
        · rw [if_pos h07, if_neg one, if_pos (by decide), gd_R (by decide) (by decide), show (5 : Int) - 2 = ((3 : Nat) : Int) from rfl, ho 3 (by decide), bnd_s, f3]
        · rw [if_neg (by decide), if_neg (by decide), if_neg (by decide), if_neg (by decide), if_neg (by decide), if_pos rfl, rd_n v rfl (by omega), bnd_s]
      · refine ⟨K 12 v, K, ?_, ?_, k3⟩
        · rw [if_pos h07, if_neg one, if_pos (by decide), gd_R (by decide) (by decide), show (6 : Int) - 2 = ((4 : Nat) : Int) from rfl, ho 4 (by decide), bnd_s, f4]
        · rw [if_neg (by decide), if_neg (by decide), if_neg (by decide), if_neg (by decide), if_neg (by decide), if_neg (by decide), if_pos rfl, rd_n v rfl (by omega), bnd_s]
      · refine ⟨yevn K v (K 1 3).toNat 0 0, K, ?_, ?_, k3⟩
        · rw [if_pos h07, if_neg one, if_pos (by decide), gd_R (by decide) (by decide), show (7 : Int) - 2 = ((5 : Nat) : Int) from rfl, ho 5 (by decide), bnd_s, f5]
        · rw [if_neg (by decide), if_neg (by decide), if_neg (by decide), if_neg (by decide), if_neg (by decide), if_neg (by decide), if_neg (by decide), if_pos rfl, y_eventsOf hVK, bnd_s]
    · refine ⟨-2, K, ?_, ?_, k3⟩
      · rw [if_neg h07, if_pos rfl]
      · rw [if_neg (by omega), if_neg (by omega), if_neg (by omega), if_neg (by omega), if_neg (by omega), if_neg (by omega), if_neg (by omega), if_neg (by omega)]
  · rw [if_neg h, if_pos rfl, if_pos rfl]
    exact ⟨_, _, rfl, rfl, QY_st Y⟩
theorem q_stock (hV : ValS Y) (hS : xS X Y 0) (hN : PN X Y 0 0) (a b c : Int) : ∃ (res : Int) (Y' : MM), fX4_stock a b c X = some res ∧ fX5_stock a b c Y = some (res, Y') ∧ QY Y Y' := by
  obtain ⟨K, k1, k2, k3, k4⟩ := q_plan hV hS hN
  have hc := hV.2.2.2.2.1
  have hV1 : ValS (stM Y 0 0 0) := ValS_1 (st_cell (by decide)) hV
  have hVK : ValS K := k2.1.1
  have e3 : (stM Y 0 0 0) 1 4 = Y 1 4 := st_c (by decide)
  unfold fX4_stock fX5_stock
  rw [x_hasVan hS, bnd_s, bnd_s, y_isVan hV1, bnd_s, e3]
  by_cases h : 0 ≤ a ∧ a < Y 1 4
  · obtain ⟨v, rfl⟩ : ∃ i : Nat, a = i := ⟨a.toNat, by omega⟩
    have hvK : (v : Int) < K 1 4 := by rw [k4]; exact h.2
    have hS0 : xS X K 0 := k2.1.2.2.1
    rw [if_pos h, if_neg (show ¬ (1 : Int) = 0 by decide), if_neg (show ¬ (1 : Int) = 0 by decide), p_isPart, bnd_s, p_in, bnd_s]
    by_cases hb : 0 ≤ b ∧ b ≤ 4
    · obtain ⟨q, rfl⟩ : ∃ i : Nat, b = i := ⟨b.toNat, by omega⟩
      have f5 := (k2.1.2.2.2.1.2.2 v hvK).2.2.2.2 q (by omega)
      have e1 : fX3_partsOf 0 v q X = some (yvan K v (2 + q)) := by
        unfold fX3_partsOf
        rw [rd_n (5 * v + q) (by omega) (by omega), bnd_s, hS0.2.2.2.2.2.2.1 v q hvK (by omega)]
      have e2 : fX2_partsLeft 0 v q X = some (K 14 (5 * v + q)) := by
        unfold fX2_partsLeft
        rw [rd_n (5 * v + q) (by omega) (by omega), bnd_s, f5]
      have b1 := (hVK.2.2.2.2.2.1 v hvK).2.2 q (by omega)
      have b2 := (k2.1.2.1 v hvK).2.2.2.2 q (by omega)
      have one : ¬ (1 : Int) = 0 := by decide
      rw [if_pos hb, if_neg one, if_neg one, e1, e2, k1, bnd_s, bnd_s, bnd_s, bnd_s]
      refine ⟨(if c = 0 then yvan K v (2 + q) else if c = 1 then yvan K v (2 + q) - K 14 (5 * v + q) else if c = 2 then K 14 (5 * v + q) else -2), K, ?_, ?_, k3⟩
      · by_cases c0 : c = 0
        · rw [if_pos c0, if_pos c0]
        · rw [if_neg c0, if_neg c0]
          by_cases c1 : c = 1
          · rw [if_pos c1, if_pos c1, gd_R (by omega) (by omega)]
          · rw [if_neg c1, if_neg c1]
            by_cases c2 : c = 2
            · rw [if_pos c2, if_pos c2]
            · rw [if_neg c2, if_neg c2]
      · rw [bnd_s, gd_R (by omega) (by omega), y_van0 K v (k := 2 + (q : Int)) (2 + q) (by omega) (by omega), bnd_s, rd_n (5 * v + q) (by omega) (by omega), bnd_s]
        by_cases c0 : c = 0
        · rw [if_pos c0, if_pos c0, bnd_s]
        · rw [if_neg c0, if_neg c0]
          by_cases c1 : c = 1
          · rw [if_pos c1, if_pos c1, gd_R (by omega) (by omega), bnd_s]
          · rw [if_neg c1, if_neg c1]
            by_cases c2 : c = 2
            · rw [if_pos c2, if_pos c2, bnd_s]
            · rw [if_neg c2, if_neg c2, bnd_s]
    · rw [if_neg hb, if_pos rfl, if_pos rfl]
      exact ⟨_, _, rfl, rfl, QY_st Y⟩
  · rw [if_neg h, if_pos rfl, if_pos rfl]
    exact ⟨_, _, rfl, rfl, QY_st Y⟩
end QU
