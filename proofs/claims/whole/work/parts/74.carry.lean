/-! TEXTS: the orders are carried out, on both sides -/
def vc : List Int → Nat
  | [] => 0
  | c :: cs => (if c = 100 ∨ c = 110 ∨ c = 115 then 1 else 0) + vc cs
section CO
variable {g : Nat → Int} {L : Nat}
theorem pc_cnt {ch : Int} {p : Nat} {W : List Int} (h1 : (pc g L ch p W).1 = 1) (h6 : W.length + (if ch = 100 ∨ ch = 110 ∨ ch = 115 then 1 else 0) ≤ 6) : (pc g L ch p W).2.2.length = W.length + (if ch = 100 ∨ ch = 110 ∨ ch = 115 then 1 else 0) := by
  have ht : W.length + 1 ≤ 6 → ∀ v, (tw W v).length = W.length + 1 := fun hw v => by
    unfold tw
    rw [if_pos (by omega), List.length_append]
    rfl
  unfold pc at h1 ⊢
  by_cases c1 : ch = 100
  · rw [if_pos c1] at h1 ⊢
    rw [if_pos (Or.inl c1)] at h6 ⊢
    by_cases d : isD g p
    · rw [if_pos d]; exact ht h6 _
    · rw [if_neg d] at h1; exact absurd h1 (show ¬ (0 : Int) = 1 by decide)
  · rw [if_neg c1] at h1 ⊢
    by_cases c2 : ch = 110
    · rw [if_pos c2] at h1 ⊢
      rw [if_pos (Or.inr (Or.inl c2))] at h6 ⊢
      by_cases d : isD g p
      · rw [if_pos d]; exact ht h6 _
      · rw [if_neg d] at h1; exact absurd h1 (show ¬ (0 : Int) = 1 by decide)
    · rw [if_neg c2] at h1 ⊢
      by_cases c3 : ch = 115
      · rw [if_pos c3]
        rw [if_pos (Or.inr (Or.inr c3))] at h6 ⊢
        exact ht h6 _
      · rw [if_neg c3] at h1 ⊢
        rw [if_neg (show ¬ (ch = 100 ∨ ch = 110 ∨ ch = 115) by omega)]
        by_cases d : g p = ch
        · rw [if_pos d]; rfl
        · rw [if_neg d] at h1; exact absurd h1 (show ¬ (0 : Int) = 1 by decide)
theorem stw_cnt : ∀ (cs : List Int) (S : PS), S.2.2.length + vc cs ≤ 6 → (cs.foldl (stw g L) S).1 = 1 → (cs.foldl (stw g L) S).2.2.length = S.2.2.length + vc cs := by
  intro cs
  induction cs with
  | nil => intro S _ _; rfl
  | cons c cs ih =>
    intro S h6 h1
    rw [vc] at h6 ⊢
    rw [List.foldl_cons] at h1 ⊢
    by_cases h0 : S.1 = 0
    · rw [show stw g L S c = S from if_pos h0, stw_0 _ S h0, h0] at h1
      exact absurd h1 (by decide)
    · rw [show stw g L S c = pc g L c S.2.1 S.2.2 from if_neg h0] at h1 ⊢
      have hp : (pc g L c S.2.1 S.2.2).1 = 1 := by
        by_cases z : (pc g L c S.2.1 S.2.2).1 = 0
        · rw [stw_0 _ _ z, z] at h1
          exact absurd h1 (by decide)
        · unfold pc at z ⊢
          by_cases c1 : c = 100
          · rw [if_pos c1] at z ⊢
            by_cases d : isD g S.2.1
            · rw [if_pos d]
            · rw [if_neg d] at z; exact absurd rfl z
          · rw [if_neg c1] at z ⊢
            by_cases c2 : c = 110
            · rw [if_pos c2] at z ⊢
              by_cases d : isD g S.2.1
              · rw [if_pos d]
              · rw [if_neg d] at z; exact absurd rfl z
            · rw [if_neg c2] at z ⊢
              by_cases c3 : c = 115
              · rw [if_pos c3] at z ⊢
                by_cases d : (rsk g (L - S.2.1) 0 S.2.1).1 = 0
                · rw [if_pos d] at z; exact absurd rfl z
                · exact if_neg d
              · rw [if_neg c3] at z ⊢
                by_cases d : g S.2.1 = c
                · rw [if_pos d]
                · rw [if_neg d] at z; exact absurd rfl z
      have e := pc_cnt hp (by omega)
      rw [ih _ (by omega) h1, e]
      omega
theorem vc_6 : ∀ s, s < 5 → vc (fm s) ≤ 6 := by decide +kernel
theorem rdo_cnt {p : Nat} (h : (rdo g L p).1 = 1) : (rdo g L p).2.2.length = vc (fm (fo (g p))) := by
  unfold rdo at h ⊢
  by_cases c : fo (g p) = 4
  · rw [if_pos c] at h
    exact absurd h (show ¬ (0 : Int) = 1 by decide)
  · rw [if_neg c] at h ⊢
    have h6 := vc_6 _ (fo_5 (g p))
    rw [stw_cnt _ _ (by show 0 + _ ≤ 6; omega) h]
    exact Nat.zero_add _
theorem ro_cnt {p : Nat} (h : (ro g L p).1 = 1) : (ro g L p).2.2.length = vc (fm (fo (kd g p))) := by
  unfold ro kd at *
  by_cases c : p = 0
  · rw [if_pos c] at h ⊢
    rw [if_pos c]
    exact rdo_cnt h
  · rw [if_neg c] at h ⊢
    rw [if_neg c]
    by_cases d : g p = 59
    · rw [if_pos d] at h ⊢
      exact rdo_cnt h
    · rw [if_neg d] at h
      exact absurd h (show ¬ (0 : Int) = 1 by decide)
/-- one order -/
theorem c_one {X Y : MM} {n : Nat} {k : Int} {W : List Int} (g0 : RG X 0 (Y 1)) (hn : n ≤ 40) (hx5 : X 71 5 = k) (hxW : ∀ (i : Nat) (v : Int), W[i]? = some v → X 73 i = v) (hy : Y 17 (7 * n) = k) (hyW : ∀ (i : Nat) (v : Int), W[i]? = some v → Y 17 (7 * n + 1 + i) = v) (hf : fo k ≠ 4) (hl : W.length = vc (fm (fo k))) :
    ∃ res X', fX4_carryOne X = some (res, X') ∧ ((res < 0 ∧ X' = X ∧ ∃ r, r ≠ 0 ∧ fX5_refusesOrder (7 * (n : Int)) Y = some r) ∨ (0 ≤ res ∧ fX5_refusesOrder (7 * (n : Int)) Y = some 0 ∧ (∀ c, 5 ≤ c → X' c = X c) ∧ ∃ Y', fX5_does (7 * (n : Int)) Y = some Y' ∧ (∀ c, c ≠ 1 → Y' c = Y c) ∧ RG X' 0 (Y' 1))) := by
  have e : ∀ i, i < W.length → Y 17 (7 * n + 1 + i) = X 73 i := fun i hi => by
    have hg : W[i]? = some (W[i]) := List.getElem?_eq_getElem hi
    rw [hxW i _ hg, hyW i _ hg]
  have r0 : rd Y 17 294 (7 * (n : Int)) = some k := by rw [rd_n (7 * n) (by omega) (by omega), hy]
  have ri : ∀ (i : Nat) (z : Int), z = 7 * (n : Int) + ((i + 1 : Nat) : Int) → i < W.length → W.length ≤ 6 → rd Y 17 294 z = some (X 73 i) := fun i z hz hi h6 => by
    rw [rd_n (7 * n + 1 + i) (by omega) (by omega), e i hi]
  have xi : ∀ (i : Nat) (z : Int), z = i → i < 6 → rd X 73 6 z = some (X 73 i) := fun i z hz hi => rd_n i hz hi
  unfold fX4_carryOne fX5_refusesOrder fX5_does
  rw [hx5, r0, bnd_s, bnd_s]
  by_cases c1 : k = 108
  · have hw : W.length = 3 := by rw [hl, c1]; rfl
    rw [if_pos c1, if_pos c1, if_pos c1, xi 0 0 rfl (by decide), bnd_s, xi 1 1 rfl (by decide), bnd_s, xi 2 2 rfl (by decide), bnd_s, ri 0 _ (by omega) (by omega) (by omega), bnd_s, ri 1 _ (by omega) (by omega) (by omega), bnd_s, ri 2 _ (by omega) (by omega) (by omega), bnd_s, bnd_s, bnd_s, bnd_s]
    obtain ⟨res, X', o1, o2⟩ := o_load g0 (X 73 0) (X 73 1) (X 73 2)
    refine ⟨res, X', by rw [o1, bnd2_s], ?_⟩
    rcases o2 with ⟨h1, h2, h3⟩ | ⟨h1, h2, -, h3, h4⟩
    · exact Or.inl ⟨h1, h2, res, by omega, by rw [h3, bnd_s]⟩
    · obtain ⟨Y', -, f1, f2, f3⟩ := h4 Y rfl
      exact Or.inr ⟨h1, by rw [h2, bnd_s], h3, Y', by rw [f1, bnd_s, bnd_s], f2, f3⟩
  · rw [if_neg c1, if_neg c1, if_neg c1]
    by_cases c2 : k = 118
    · have hw : W.length = 6 := by rw [hl, c2]; rfl
      rw [if_pos c2, if_pos c2, if_pos c2, xi 0 0 rfl (by decide), bnd_s, xi 1 1 rfl (by decide), bnd_s, xi 2 2 rfl (by decide), bnd_s, xi 3 3 rfl (by decide), bnd_s, xi 4 4 rfl (by decide), bnd_s, xi 5 5 rfl (by decide), bnd_s, ri 0 _ (by omega) (by omega) (by omega), bnd_s, ri 1 _ (by omega) (by omega) (by omega), bnd_s, ri 2 _ (by omega) (by omega) (by omega), bnd_s, ri 3 _ (by omega) (by omega) (by omega), bnd_s, ri 4 _ (by omega) (by omega) (by omega), bnd_s, ri 5 _ (by omega) (by omega) (by omega), bnd_s, bnd_s, bnd_s, bnd_s, bnd_s, bnd_s, bnd_s]
      obtain ⟨res, X', o1, o2⟩ := o_visit g0 (X 73 0) (X 73 1) (X 73 2) (X 73 3) (X 73 4) (X 73 5)
      refine ⟨res, X', by rw [o1, bnd2_s], ?_⟩
      rcases o2 with ⟨h1, h2, h3⟩ | ⟨h1, h2, h3, h4⟩
      · exact Or.inl ⟨h1, h2, res, by omega, by rw [h3, bnd_s]⟩
      · obtain ⟨Y', f1, f2, f3⟩ := h4 Y rfl
        exact Or.inr ⟨h1, by rw [h2, bnd_s], h3, Y', by rw [f1, bnd2_s, bnd_s], f2, f3⟩
    · rw [if_neg c2, if_neg c2, if_neg c2]
      by_cases c3 : k = 119
      · have hw : W.length = 2 := by rw [hl, c3]; rfl
        rw [if_pos c3, if_pos c3, if_pos c3, xi 0 0 rfl (by decide), bnd_s, xi 1 1 rfl (by decide), bnd_s, ri 0 _ (by omega) (by omega) (by omega), bnd_s, ri 1 _ (by omega) (by omega) (by omega), bnd_s, bnd_s, bnd_s]
        obtain ⟨res, X', o1, o2⟩ := o_van g0 (X 73 0) (X 73 1)
        refine ⟨res, X', by rw [o1, bnd2_s], ?_⟩
        rcases o2 with ⟨h1, h2, h3⟩ | ⟨h1, h2, h3, h4⟩
        · exact Or.inl ⟨h1, h2, res, by omega, by rw [h3, bnd_s]⟩
        · obtain ⟨Y', f1, f2, f3⟩ := h4 Y rfl
          exact Or.inr ⟨h1, by rw [h2, bnd_s], h3, Y', by rw [f1, bnd2_s, bnd_s], f2, f3⟩
      · have c4 : k = 120 := by
          by_cases z : k = 120
          · exact z
          · refine absurd ?_ hf
            unfold fo
            rw [if_neg c1, if_neg c2, if_neg c3, if_neg z]
        have hw : W.length = 1 := by rw [hl, c4]; rfl
        rw [if_neg c3, if_neg c3, if_neg c3, xi 0 0 rfl (by decide), bnd_s, ri 0 _ (by omega) (by omega) (by omega), bnd_s, bnd_s]
        obtain ⟨res, X', o1, o2⟩ := o_drop g0 (X 73 0)
        refine ⟨res, X', by rw [o1, bnd2_s], ?_⟩
        rcases o2 with ⟨h1, h2, h5, h3⟩ | ⟨h1, h2, h3, h4⟩
        · exact Or.inl ⟨h1, h2, -1, by decide, by rw [h3, bnd_s, if_pos rfl, bnd_s]⟩
        · obtain ⟨Y', f1, f2, f3⟩ := h4 Y rfl
          exact Or.inr ⟨h1, by rw [h2, bnd_s, if_neg (by decide), bnd_s], h3, Y', by rw [f1, bnd2_s, bnd_s], f2, f3⟩
theorem c_loop (t : TG g L) {O : List (Int × List Int)} (h27 : O.length ≤ 27) : ∀ (O2 O1 : List (Int × List Int)) (n m p : Nat) (X Y : MM), O = O1 ++ O2 → O2.length < n → O2.length < m → chn g L O2 p L → p ≤ L → XG X g L → X 71 2 = p → RG X 0 (Y 1) → tld Y O → Y 0 22 = (O.length : Int) →
    ∃ (r : Int) (X' Y' : MM), fX4_carryOrders_L9 n (O1.length : Int) X = some (r, X') ∧ fX5_carryOut_L28 m (O1.length : Int) Y = some (r, Y') ∧ 0 ≤ r ∧ RG X' 0 (Y' 1) ∧ (∀ c, 5 ≤ c → c ≠ 71 → c ≠ 73 → X' c = X c) ∧ (∀ c, c ≠ 1 → Y' c = Y c) := by
  intro O2
  induction O2 with
  | nil =>
    intro O1 n m p X Y hO hn hm hc hp x x2 g0 ht h22
    obtain ⟨n, rfl⟩ : ∃ q, n = q + 1 := ⟨n - 1, by omega⟩
    obtain ⟨m, rfl⟩ : ∃ q, m = q + 1 := ⟨m - 1, by omega⟩
    have hpl : p = L := hc
    rw [List.append_nil] at hO
    rw [hO] at h22 h27
    refine ⟨(O1.length : Int), X, Y, ?_, ?_, by omega, g0, fun _ _ _ _ => rfl, fun _ _ => rfl⟩
    · rw [fX4_carryOrders_L9, if_neg (by omega)]
      unfold fX1_hasMore
      rw [x.1, x2, if_pos (by omega), bnd_s, gd_s (Or.inl rfl), bnd_s, if_pos rfl]
    · rw [fX5_carryOut_L28, h22, if_pos (Int.le_refl _)]
  | cons a O3 ih =>
    intro O1 n m p X Y hO hn hm hc hp x x2 g0 ht h22
    obtain ⟨n, rfl⟩ : ∃ q, n = q + 1 := ⟨n - 1, by omega⟩
    obtain ⟨m, rfl⟩ : ∃ q, m = q + 1 := ⟨m - 1, by omega⟩
    obtain ⟨h1, h2, h3, h4⟩ := hc
    have hb := ro_b t hp
    obtain ⟨b1, -, b2⟩ := hb.2.2.2 h1
    obtain ⟨X1, a1, a2, a3, a4⟩ := x_read t x x2 hp
    obtain ⟨a5, a6⟩ := a3 h1
    have hlen : O.length = O1.length + (O3.length + 1) := by rw [hO, List.length_append, List.length_cons]
    have ha : O[O1.length]? = some a := by
      rw [hO, List.getElem?_append_right (Nat.le_refl _), Nat.sub_self]
      rfl
    obtain ⟨t1, t2⟩ := ht _ a ha
    have g1 : RG X1 0 (Y 1) := RG_X g0 (fun c _ _ => a4.1 c (by omega) (by omega))
    rw [h1] at a1
    rw [h3] at a5
    rw [h2] at a6 b2
    have hw := ro_cnt h1
    rw [h3, h2] at hw
    obtain ⟨res, X2, o1, o2⟩ := c_one (n := O1.length) (k := a.1) (W := a.2) g1 (by omega) a6 a5.2.2 t1 t2 b2 hw
    rw [List.length_cons] at hn hm
    have ex : fX4_carryOrders_L9 (n + 1) (O1.length : Int) X = if res < 0 then some ((O1.length : Int), X2) else fX4_carryOrders_L9 n ((O1 ++ [a]).length : Int) X2 := by
      rw [fX4_carryOrders_L9, if_neg (by omega)]
      unfold fX1_hasMore
      rw [x.1, x2, if_neg (by omega), bnd_s, gd_s (Or.inr rfl), bnd_s, if_neg (by decide), a1, bnd2_s, if_neg (by decide), o1, bnd2_s, gd_R (by omega) (by omega), List.length_append]
      rfl
    rw [ex, fX5_carryOut_L28, h22, if_neg (show ¬ (O.length : Int) ≤ (O1.length : Int) by omega), gd_R (by omega) (by omega)]
    rcases o2 with ⟨q1, q2, r, q3, q4⟩ | ⟨q1, q2, q3, Y2, q4, q5, q6⟩
    · rw [if_pos q1, q4, bnd_s, if_neg q3, q2]
      exact ⟨_, X1, Y, rfl, rfl, by omega, g1, fun c _ k1 k2 => a4.1 c k1 k2, fun _ _ => rfl⟩
    · rw [if_neg (by omega), q2, bnd_s, if_pos rfl, q4, bnd_s, gd_R (by omega) (by omega)]
      obtain ⟨r, X', Y', c1, c2, c3, c4, c5, c6⟩ := ih (O1 ++ [a]) n m (ro g L p).2.1 X2 Y2 (by rw [List.append_assoc]; exact hO) (by omega) (by omega) h4 hb.2.2.1 (by
        have xk := XG_K a4 x
        exact ⟨by rw [q3 71 (by decide)]; exact xk.1, by rw [q3 72 (by decide)]; exact xk.2⟩) (by rw [q3 71 (by decide)]; exact a2) q6 (by unfold tld; rw [q5 17 (by decide)]; exact ht) (by rw [q5 0 (by decide)]; exact h22)
      rw [List.length_append] at c2
      exact ⟨r, X', Y', c1, c2, c3, c4, fun c k0 k1 k2 => by rw [c5 c k0 k1 k2, q3 c k0, a4.1 c k1 k2], fun c k1 => by rw [c6 c k1, q5 c k1]⟩
theorem q_carryOut {X Y : MM} (hS : Sim X Y) (hR : RR Y) : ∃ res X' Y', fX4_carryOut X = some (res, X') ∧ fX5_carryOut Y = some (res, Y') ∧ Sim X' Y' := by
  have h0 : Sim X (stM Y 0 0 0) := Sim_QY hS (QY_st Y)
  have hR0 : RQ (stM Y 0 0 0) := RQ_st (RR_Q hR) _ _ (by decide)
  unfold fX4_carryOut fX5_carryOut
  generalize stM Y 0 0 0 = Y1 at *
  obtain ⟨g, L, t, x, y⟩ := PD_G h0.2.2.2.2
  obtain ⟨r, X1, Y2, a1, a2, a3, a4, a5⟩ := rd_all t x y
  have s1 : Sim X1 Y2 := Sim_fr h0 (fun c hc => a3.1 c (by omega) (by omega)) (a3.2 1 (by decide) (by decide) (by decide)) (fun c h1 h2 => a4.1 c (by omega) (by omega)) (by rw [a4.1 1 (by decide) (by decide)]; exact sameR_rf _) (a4.2 3 (by decide) (by decide) (by decide)) (a4.2 7 (by decide) (by decide) (by decide))
  rw [a1, bnd2_s, bnd_s, a2, bnd2_s]
  by_cases hr : r = -6
  · obtain ⟨O, o1, o2, o3, o4⟩ := a5 hr
    have hRQ : RQ Y2 := fun c k h1 h2 => by rw [a4.1 c h1 h2]; exact hR0 c k h1 h2
    obtain ⟨X2, x1, x2⟩ := sim_note s1.2.2.1
    obtain ⟨o, m, -, m2, -, -, m5, -⟩ := s1.2.2.1
    obtain ⟨Y3, y1, y2, -⟩ := y_records hRQ m2 m5
    have hc := NT_c x2
    have s2 := NT_sim s1 x2
    have xk := XG_K a3 x
    obtain ⟨res, X7, Y7, c1, c2, c3, c4, c5, c6⟩ := c_loop t o4 O [] 4000 4000 0 (stM X2 71 2 0) (stM Y3 0 7 0) rfl (by omega) (by omega) o2 (Nat.zero_le _) ⟨by rw [st_k (by decide), hc 71 (by omega)]; exact xk.1, by rw [st_cell (by decide), hc 72 (by omega)]; exact xk.2⟩ (st_at _ _ _ _) (by
      rw [st_cell (by decide), y2.1 1 (by decide) (by decide)]
      exact RG_X s2.1 (fun c _ _ => st_cell (by omega))) (by unfold tld; rw [st_cell (by decide), y2.1 17 (by decide) (by decide)]; exact o3) (by rw [st_k (by decide), y2.2.1 22 (by decide)]; exact o1)
    have hP : PD (stM X7 71 1 0) Y7 := by
      have e7 : Y7 0 7 = 0 := by rw [c6 0 (by decide), st_at]
      refine ⟨by rw [st_at, e7], by rw [e7]; decide, fun i hi => ?_⟩
      rw [e7] at hi
      omega
    obtain ⟨X', k1, k2⟩ := chg_ok (X4 := stM X7 71 1 0) (Y' := Y7) c3 s1 x2 y2 (fun c h1 h2 => by rw [st_cell (by omega), c5 c h1 (by omega) (by omega), st_cell (by omega)]) (fun c h1 h2 => by rw [c6 c (by omega), st_cell (by omega)]) (by rw [c6 0 (by decide), st_k (by decide)]) (RG_X c4 (fun c _ _ => st_cell (by omega))) hP
    refine ⟨res, X', Y7, ?_, ?_, k2⟩
    · rw [if_pos hr, x1, bnd_s]
      unfold fX4_carryOrders fX1_start
      rw [bnd_s, bnd_s, show fX4_carryOrders_L9 4000 0 (stM X2 71 2 0) = some (res, X7) from c1, bnd2_s, bnd2_s, bnd_s, k1, bnd2_s]
    · rw [if_pos hr, y1, bnd_s, bnd_s]
      exact c2
  · refine ⟨-3, X1, Y2, ?_, ?_, s1⟩
    · rw [if_neg hr]
    · rw [if_neg hr]
end CO
