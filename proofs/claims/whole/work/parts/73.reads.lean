/-! TEXTS: an order on the reference's side; a text as a whole on both sides -/
section YO
variable {g : Nat → Int} {L : Nat}
theorem y_rdVisit {Y : MM} {T : Nat} {S : PS} (t : TG g L) (y : YG Y g L) (h : RYs L Y T 0 S) (hT : T ≤ 40) : ∃ Y', fX5_readsVisit (7 * (T : Int)) Y = some Y' ∧ RYs L Y' T 6 ((fm 0).foldl (stw g L) S) ∧ FY T Y Y' := by
  obtain ⟨v0, A0, B0, a0, b0, c0, f0⟩ := p_num t y h (by decide) hT
  have y0 := YG_F f0 y
  obtain ⟨C0, d0, e0, g0⟩ := p_sign t y0 c0 (ch := 35) (by decide) (by decide) (by decide) (by decide)
  have z0 := YG_F g0 y0
  obtain ⟨v1, A1, B1, a1, b1, c1, f1⟩ := p_dig t z0 e0 (by decide) hT
  have y1 := YG_F f1 z0
  obtain ⟨C1, d1, e1, g1⟩ := p_sign t y1 c1 (ch := 43) (by decide) (by decide) (by decide) (by decide)
  have z1 := YG_F g1 y1
  obtain ⟨v2, A2, B2, a2, b2, c2, f2⟩ := p_dig t z1 e1 (by decide) hT
  have y2 := YG_F f2 z1
  obtain ⟨C2, d2, e2, g2⟩ := p_sign t y2 c2 (ch := 42) (by decide) (by decide) (by decide) (by decide)
  have z2 := YG_F g2 y2
  obtain ⟨v3, A3, B3, a3, b3, c3, f3⟩ := p_dig t z2 e2 (by decide) hT
  have y3 := YG_F f3 z2
  obtain ⟨C3, d3, e3, g3⟩ := p_sign t y3 c3 (ch := 58) (by decide) (by decide) (by decide) (by decide)
  have z3 := YG_F g3 y3
  obtain ⟨v4, A4, B4, a4, b4, c4, f4⟩ := p_num t z3 e3 (by decide) hT
  have y4 := YG_F f4 z3
  obtain ⟨C4, d4, e4, g4⟩ := p_sign t y4 c4 (ch := 45) (by decide) (by decide) (by decide) (by decide)
  have z4 := YG_F g4 y4
  obtain ⟨v5, A5, B5, a5, b5, c5, f5⟩ := p_num t z4 e4 (by decide) hT
  refine ⟨B5, ?_, c5, FY_tr f0 (FY_tr g0 (FY_tr f1 (FY_tr g1 (FY_tr f2 (FY_tr g2 (FY_tr f3 (FY_tr g3 (FY_tr f4 (FY_tr g4 f5)))))))))⟩
  unfold fX5_readsVisit
  rw [a0, bnd2_s, b0 _ (by omega), bnd_s, d0, bnd_s, a1, bnd2_s, b1 _ (by omega), bnd_s, d1, bnd_s, a2, bnd2_s, b2 _ (by omega), bnd_s, d2, bnd_s, a3, bnd2_s, b3 _ (by omega), bnd_s, d3, bnd_s, a4, bnd2_s, b4 _ (by omega), bnd_s, d4, bnd_s, a5, bnd2_s, b5 _ (by omega), bnd_s]
theorem y_rdVan {Y : MM} {T : Nat} {S : PS} (t : TG g L) (y : YG Y g L) (h : RYs L Y T 0 S) (hT : T ≤ 40) : ∃ Y', fX5_readsVan (7 * (T : Int)) Y = some Y' ∧ RYs L Y' T 2 ((fm 1).foldl (stw g L) S) ∧ FY T Y Y' := by
  obtain ⟨v0, A0, B0, a0, b0, c0, f0⟩ := p_num t y h (by decide) hT
  have y0 := YG_F f0 y
  obtain ⟨C0, d0, e0, g0⟩ := p_sign t y0 c0 (ch := 47) (by decide) (by decide) (by decide) (by decide)
  have z0 := YG_F g0 y0
  obtain ⟨v1, A1, s1, D1, B1, a1, q1, b1, c1, f1⟩ := p_skl t z0 e0 (by decide) hT (7 * (T : Int))
  refine ⟨B1, ?_, c1, FY_tr f0 (FY_tr g0 f1)⟩
  unfold fX5_readsVan
  rw [a0, bnd2_s, b0 _ (by omega), bnd_s, d0, bnd_s, a1, bnd2_s, q1, bnd2_s, b1 _ (by omega), bnd_s]
theorem y_rdLoad {Y : MM} {T : Nat} {S : PS} (t : TG g L) (y : YG Y g L) (h : RYs L Y T 0 S) (hT : T ≤ 40) : ∃ Y', (bnd2 (fX5_digit 9 Y) (fun v23 M24 => bnd (wr M24 17 294 ((7 * (T : Int)) + 1) v23) (fun M25 => bnd (fX5_wants 43 M25) (fun M27 => bnd2 (fX5_digit 9 M27) (fun v28 M29 => bnd (wr M29 17 294 ((7 * (T : Int)) + 2) v28) (fun M30 => bnd (fX5_wants 61 M30) (fun M32 => bnd2 (fX5_number M32) (fun v33 M34 => bnd (wr M34 17 294 ((7 * (T : Int)) + 3) v33) (fun M35 => some (M35)))))))))) = some Y' ∧ RYs L Y' T 3 ((fm 2).foldl (stw g L) S) ∧ FY T Y Y' := by
  obtain ⟨v0, A0, B0, a0, b0, c0, f0⟩ := p_dig t y h (by decide) hT
  have y0 := YG_F f0 y
  obtain ⟨C0, d0, e0, g0⟩ := p_sign t y0 c0 (ch := 43) (by decide) (by decide) (by decide) (by decide)
  have z0 := YG_F g0 y0
  obtain ⟨v1, A1, B1, a1, b1, c1, f1⟩ := p_dig t z0 e0 (by decide) hT
  have y1 := YG_F f1 z0
  obtain ⟨C1, d1, e1, g1⟩ := p_sign t y1 c1 (ch := 61) (by decide) (by decide) (by decide) (by decide)
  have z1 := YG_F g1 y1
  obtain ⟨v2, A2, B2, a2, b2, c2, f2⟩ := p_num t z1 e1 (by decide) hT
  refine ⟨B2, ?_, c2, FY_tr f0 (FY_tr g0 (FY_tr f1 (FY_tr g1 f2)))⟩
  rw [a0, bnd2_s, b0 _ (by omega), bnd_s, d0, bnd_s, a1, bnd2_s, b1 _ (by omega), bnd_s, d1, bnd_s, a2, bnd2_s, b2 _ (by omega), bnd_s]
theorem y_rdDrop {Y : MM} {T : Nat} {S : PS} (t : TG g L) (y : YG Y g L) (h : RYs L Y T 0 S) (hT : T ≤ 40) : ∃ Y', (bnd2 (fX5_number Y) (fun v20 M21 => bnd (wr M21 17 294 ((7 * (T : Int)) + 1) v20) (fun M22 => some (M22)))) = some Y' ∧ RYs L Y' T 1 ((fm 3).foldl (stw g L) S) ∧ FY T Y Y' := by
  obtain ⟨v0, A0, B0, a0, b0, c0, f0⟩ := p_num t y h (by decide) hT
  refine ⟨B0, ?_, c0, f0⟩
  rw [a0, bnd2_s, b0 _ (by omega), bnd_s]
/-- frames of an order -/
def FO (T : Nat) (Y Y' : MM) : Prop := (∀ c, c ≠ 0 → c ≠ 17 → Y' c = Y c) ∧ (∀ k, k ≠ 19 → k ≠ 20 → k ≠ 22 → Y' 0 k = Y 0 k) ∧ ∀ k, k < 7 * T → Y' 17 k = Y 17 k
theorem YG_O {T : Nat} {Y Y' : MM} (h : FO T Y Y') (y : YG Y g L) : YG Y' g L := ⟨by rw [h.2.1 7 (by decide) (by decide) (by decide)]; exact y.1, by rw [h.1 5 (by decide) (by decide)]; exact y.2⟩
theorem fo_w (k : Int) : (if k = 118 then some ((1 : Int)) else if k = 119 then some ((1 : Int)) else if k = 108 then some ((1 : Int)) else if k = 120 then some ((1 : Int)) else some ((0 : Int))) = some (if fo k = 4 then 0 else 1) := by
  unfold fo
  by_cases c1 : k = 108
  · rw [if_neg (by omega), if_neg (by omega), if_pos c1, if_pos c1, if_neg (by decide)]
  · rw [if_neg c1, if_neg c1]
    by_cases c2 : k = 118
    · rw [if_pos c2, if_pos c2, if_neg (by decide)]
    · rw [if_neg c2, if_neg c2]
      by_cases c3 : k = 119
      · rw [if_pos c3, if_pos c3, if_neg (by decide)]
      · rw [if_neg c3, if_neg c3]
        by_cases c4 : k = 120
        · rw [if_pos c4, if_pos c4, if_neg (by decide)]
        · rw [if_neg c4, if_neg c4, if_pos rfl]
/-- where an order begins, behind its kind -/
def rd0 (g : Nat → Int) (p : Nat) : PS := if fo (g p) = 4 then (0, p, []) else (1, p + 1, [])
theorem y_end {L : Nat} {Y : MM} {T j : Nat} {S : PS} (h : RYs L Y T j S) (hT : T ≤ 40) : (bnd (if (Y 0 20) = 0 then some ((0 : Int)) else some ((1 : Int))) (fun y43_0 => gd (inR ((Y 0 22) + y43_0)) (bnd (some (stM Y 0 22 ((Y 0 22) + y43_0))) (fun M45 => some M45)))) = some (stM Y 0 22 ((T : Int) + S.1)) := by
  obtain ⟨h1, h2, h3, h4, -⟩ := h
  rw [h2, h3]
  rcases h4 with q | q
  · rw [q, if_pos rfl, bnd_s, gd_R (by omega) (by omega), bnd_s]
  · rw [q, if_neg (by decide), bnd_s, gd_R (by omega) (by omega), bnd_s]
theorem y_tail {A : MM} {T p : Nat} (t : TG g L) (yA : YG A g L) (hA : RYs L A T 0 (rd0 g p)) (hT : T ≤ 40) : ∃ B Y', (if g p = 118 then gd (inR (7 * (T : Int))) (bnd (fX5_readsVisit (7 * (T : Int)) A) (fun M41 => some (M41))) else if g p = 119 then gd (inR (7 * (T : Int))) (bnd (fX5_readsVan (7 * (T : Int)) A) (fun M38 => some (M38))) else if g p = 108 then bnd2 (fX5_digit 9 A) (fun v23 M24 => bnd (wr M24 17 294 ((7 * (T : Int)) + 1) v23) (fun M25 => bnd (fX5_wants 43 M25) (fun M27 => bnd2 (fX5_digit 9 M27) (fun v28 M29 => bnd (wr M29 17 294 ((7 * (T : Int)) + 2) v28) (fun M30 => bnd (fX5_wants 61 M30) (fun M32 => bnd2 (fX5_number M32) (fun v33 M34 => bnd (wr M34 17 294 ((7 * (T : Int)) + 3) v33) (fun M35 => some (M35))))))))) else bnd2 (fX5_number A) (fun v20 M21 => bnd (wr M21 17 294 ((7 * (T : Int)) + 1) v20) (fun M22 => some (M22)))) = some B ∧
    (bnd (if (B 0 20) = 0 then some ((0 : Int)) else some ((1 : Int))) (fun y43_0 => gd (inR ((B 0 22) + y43_0)) (bnd (some (stM B 0 22 ((B 0 22) + y43_0))) (fun M45 => some M45)))) = some Y' ∧ Y' 0 19 = ((rdo g L p).2.1 : Int) ∧ Y' 0 20 = (rdo g L p).1 ∧ Y' 0 22 = (T : Int) + (rdo g L p).1 ∧ ((rdo g L p).1 = 1 → ∀ (i : Nat) (v : Int), (rdo g L p).2.2[i]? = some v → Y' 17 (7 * T + 1 + i) = v) ∧ (∀ c, c ≠ 0 → c ≠ 17 → Y' c = A c) ∧ (∀ k, k ≠ 19 → k ≠ 20 → k ≠ 22 → Y' 0 k = A 0 k) ∧ ∀ k, k < 7 * T + 1 → Y' 17 k = A 17 k := by
  have key : ∃ B S j, (if g p = 118 then gd (inR (7 * (T : Int))) (bnd (fX5_readsVisit (7 * (T : Int)) A) (fun M41 => some (M41))) else if g p = 119 then gd (inR (7 * (T : Int))) (bnd (fX5_readsVan (7 * (T : Int)) A) (fun M38 => some (M38))) else if g p = 108 then bnd2 (fX5_digit 9 A) (fun v23 M24 => bnd (wr M24 17 294 ((7 * (T : Int)) + 1) v23) (fun M25 => bnd (fX5_wants 43 M25) (fun M27 => bnd2 (fX5_digit 9 M27) (fun v28 M29 => bnd (wr M29 17 294 ((7 * (T : Int)) + 2) v28) (fun M30 => bnd (fX5_wants 61 M30) (fun M32 => bnd2 (fX5_number M32) (fun v33 M34 => bnd (wr M34 17 294 ((7 * (T : Int)) + 3) v33) (fun M35 => some (M35))))))))) else bnd2 (fX5_number A) (fun v20 M21 => bnd (wr M21 17 294 ((7 * (T : Int)) + 1) v20) (fun M22 => some (M22)))) = some B ∧ RYs L B T j S ∧ FY T A B ∧ S = rdo g L p := by
    by_cases c1 : g p = 118
    · obtain ⟨B, b1, b2, b3⟩ := y_rdVisit t yA hA hT
      have hf : fo (g p) = 0 := by rw [c1]; rfl
      refine ⟨B, _, _, ?_, b2, b3, ?_⟩
      · rw [if_pos c1, gd_R (by omega) (by omega), b1, bnd_s]
      · unfold rdo rd0
        rw [hf, if_neg (by decide), if_neg (by decide)]
    · by_cases c2 : g p = 119
      · obtain ⟨B, b1, b2, b3⟩ := y_rdVan t yA hA hT
        have hf : fo (g p) = 1 := by rw [c2]; rfl
        refine ⟨B, _, _, ?_, b2, b3, ?_⟩
        · rw [if_neg c1, if_pos c2, gd_R (by omega) (by omega), b1, bnd_s]
        · unfold rdo rd0
          rw [hf, if_neg (by decide), if_neg (by decide)]
      · by_cases c3 : g p = 108
        · obtain ⟨B, b1, b2, b3⟩ := y_rdLoad t yA hA hT
          have hf : fo (g p) = 2 := by rw [c3]; rfl
          refine ⟨B, _, _, ?_, b2, b3, ?_⟩
          · rw [if_neg c1, if_neg c2, if_pos c3, b1]
          · unfold rdo rd0
            rw [hf, if_neg (by decide), if_neg (by decide)]
        · obtain ⟨B, b1, b2, b3⟩ := y_rdDrop t yA hA hT
          refine ⟨B, _, _, ?_, b2, b3, ?_⟩
          · rw [if_neg c1, if_neg c2, if_neg c3, b1]
          · unfold rdo rd0
            by_cases c4 : g p = 120
            · have hf : fo (g p) = 3 := by rw [c4]; rfl
              rw [hf, if_neg (by decide), if_neg (by decide)]
            · have hf : fo (g p) = 4 := by unfold fo; rw [if_neg c3, if_neg c1, if_neg c2, if_neg c4]
              rw [if_pos hf, if_pos hf]
              exact stw_0 _ _ rfl
  obtain ⟨B, S, j, b1, b2, b3, b4⟩ := key
  rw [← b4]
  obtain ⟨h1, h2, h3, h4, h5, h6⟩ := id b2
  refine ⟨B, _, b1, y_end b2 hT, by rw [st_k (by decide)]; exact h1, by rw [st_k (by decide)]; exact h2, st_at _ _ _ _, fun q i v hv => by rw [st_c (by decide)]; exact (h6 q).2 i v hv, fun c k1 k2 => by rw [st_cell k1, b3.1 c k1 k2], fun k k1 k2 k3 => by rw [st_k k3, b3.2.1 k k1 k2], fun k hk => by rw [st_c (by decide), b3.2.2 k (Or.inl hk)]⟩
theorem y_order {Y : MM} {T p : Nat} (t : TG g L) (y : YG Y g L) (h19 : Y 0 19 = p) (h20 : Y 0 20 = 1) (h22 : Y 0 22 = T) (hT : T ≤ 40) (hp : p ≤ L) : ∃ Y', fX5_readsOrder Y = some Y' ∧ Y' 0 19 = ((rdo g L p).2.1 : Int) ∧ Y' 0 20 = (rdo g L p).1 ∧ Y' 0 22 = (T : Int) + (rdo g L p).1 ∧ ((rdo g L p).1 = 1 → Y' 17 (7 * T) = g p ∧ ∀ (i : Nat) (v : Int), (rdo g L p).2.2[i]? = some v → Y' 17 (7 * T + 1 + i) = v) ∧ FO T Y Y' := by
  have ht := t.1
  have hb := t.2.1 p
  have one : ¬ (1 : Int) = 0 := by decide
  -- behind the kind
  have go : ∀ (w1 : Int) (p1 : Nat), rd0 g p = (w1, p1, []) → (w1 = 0 ∨ w1 = 1) → p1 ≤ L → ∀ A, A = stM (mvY Y w1 p1) 17 (7 * T) (g p) → RYs L A T 0 (rd0 g p) ∧ YG A g L ∧ (∀ c, c ≠ 0 → c ≠ 17 → A c = Y c) ∧ (∀ k, k ≠ 19 → k ≠ 20 → A 0 k = Y 0 k) ∧ (∀ k, k < 7 * T → A 17 k = Y 17 k) ∧ A 17 (7 * T) = g p := fun w1 p1 e0 ew ep A eA => by
    have a1 : ∀ c, c ≠ 0 → c ≠ 17 → A c = Y c := fun c k1 k2 => by rw [eA, st_cell k2, mvY_c _ _ _ k1]
    have a2 : ∀ k, k ≠ 19 → k ≠ 20 → A 0 k = Y 0 k := fun k k1 k2 => by rw [eA, st_c (by decide), mvY_k _ _ _ k1 k2]
    refine ⟨?_, ⟨by rw [a2 7 (by decide) (by decide)]; exact y.1, by rw [a1 5 (by decide) (by decide)]; exact y.2⟩, a1, a2, fun k hk => by rw [eA, st_k (by omega), mvY_c _ _ _ (by decide)], by rw [eA, st_at]⟩
    rw [e0]
    exact ⟨by rw [eA, st_c (by decide)]; exact mvY_19 _ _ _, by rw [eA, st_c (by decide)]; exact mvY_20 _ _ _, by rw [a2 22 (by decide) (by decide)]; exact h22, ew, ep, fun _ => ⟨rfl, fun i v hv => by cases hv⟩⟩
  unfold fX5_readsOrder
  rw [y_sign t y h19, bnd_s, h20, if_neg one, fo_w, bnd_s, h22]
  by_cases c : fo (g p) = 4
  · rw [if_pos c, gd_s (Or.inl rfl), bnd_s, st_at, if_pos rfl, bnd_s, st_k (by decide), h19, gd_R (by omega) (by omega), bnd_s, Int.add_zero, wr_n (7 * T) (by omega) (by omega) ⟨by omega, by omega⟩, bnd_s]
    have e0 : rd0 g p = (0, p, []) := if_pos c
    generalize hA : stM (stM (stM Y 0 20 0) 0 19 p) 17 (7 * T) (g p) = A
    obtain ⟨k1, k2, k3, k4, k5, k6⟩ := go 0 p e0 (Or.inl rfl) hp A hA.symm
    obtain ⟨B, Y', d1, d2, d3, d4, d5, d6, d7, d8, d9⟩ := y_tail t k2 k1 hT
    rw [d1, bnd_s, d2]
    exact ⟨Y', rfl, d3, d4, d5, fun q => ⟨by rw [d9 _ (by omega)]; exact k6, d6 q⟩, fun c h1 h2 => by rw [d7 c h1 h2, k3 c h1 h2], fun k h1 h2 h3 => by rw [d8 k h1 h2 h3, k4 k h1 h2], fun k hk => by rw [d9 k (by omega), k5 k hk]⟩
  · have hl := g_lt t (p := p) (fun q => by rw [q] at c; exact c rfl)
    rw [if_neg c, gd_s (Or.inr rfl), bnd_s, st_at, if_neg one, bnd_s, st_k (by decide), h19, gd_R (by omega) (by omega), bnd_s, show (p : Int) + 1 = ((p + 1 : Nat) : Int) by omega, wr_n (7 * T) (by omega) (by omega) ⟨by omega, by omega⟩, bnd_s]
    have e0 : rd0 g p = (1, p + 1, []) := if_neg c
    generalize hA : stM (stM (stM Y 0 20 1) 0 19 ((p + 1 : Nat) : Int)) 17 (7 * T) (g p) = A
    obtain ⟨k1, k2, k3, k4, k5, k6⟩ := go 1 (p + 1) e0 (Or.inr rfl) hl A hA.symm
    obtain ⟨B, Y', d1, d2, d3, d4, d5, d6, d7, d8, d9⟩ := y_tail t k2 k1 hT
    rw [d1, bnd_s, d2]
    exact ⟨Y', rfl, d3, d4, d5, fun q => ⟨by rw [d9 _ (by omega)]; exact k6, d6 q⟩, fun c h1 h2 => by rw [d7 c h1 h2, k3 c h1 h2], fun k h1 h2 h3 => by rw [d8 k h1 h2 h3, k4 k h1 h2], fun k hk => by rw [d9 k (by omega), k5 k hk]⟩
end YO
/-! A TEXT as a whole -/
def chn (g : Nat → Int) (L : Nat) : List (Int × List Int) → Nat → Nat → Prop
  | [], p, e => p = e
  | a :: O, p, e => (ro g L p).1 = 1 ∧ kd g p = a.1 ∧ (ro g L p).2.2 = a.2 ∧ chn g L O (ro g L p).2.1 e
theorem chn_app {g : Nat → Int} {L : Nat} {a : Int × List Int} : ∀ (O : List (Int × List Int)) (p q e : Nat), chn g L O p q → chn g L [a] q e → chn g L (O ++ [a]) p e := by
  intro O
  induction O with
  | nil =>
    intro p q e h1 h2
    have h1 : p = q := h1
    rw [h1]
    exact h2
  | cons b O ih =>
    intro p q e h1 h2
    exact ⟨h1.1, h1.2.1, h1.2.2.1, ih _ q e h1.2.2.2 h2⟩
/-- the orders that the reference told -/
def tld (Y : MM) (O : List (Int × List Int)) : Prop := ∀ (n : Nat) (a : Int × List Int), O[n]? = some a → Y 17 (7 * n) = a.1 ∧ ∀ (i : Nat) (v : Int), a.2[i]? = some v → Y 17 (7 * n + 1 + i) = v
section RL
variable {g : Nat → Int} {L : Nat}
/-- all numbers of an order have a place -/
theorem tw_len (W : List Int) (v : Int) : (tw W v).length ≤ 6 ∨ (tw W v).length = W.length := by
  unfold tw
  by_cases c : W.length < 6
  · rw [if_pos c, List.length_append]
    exact Or.inl c
  · rw [if_neg c]
    exact Or.inr rfl
theorem pc_len {ch : Int} {p : Nat} {W : List Int} (h : W.length ≤ 6) : (pc g L ch p W).2.2.length ≤ 6 := by
  have ht : ∀ v, (tw W v).length ≤ 6 := fun v => by
    rcases tw_len W v with q | q
    · exact q
    · rw [q]; exact h
  unfold pc
  by_cases c1 : ch = 100
  · rw [if_pos c1]
    by_cases d : isD g p
    · rw [if_pos d]; exact ht _
    · rw [if_neg d]; exact h
  · rw [if_neg c1]
    by_cases c2 : ch = 110
    · rw [if_pos c2]
      by_cases d : isD g p
      · rw [if_pos d]; exact ht _
      · rw [if_neg d]; exact h
    · rw [if_neg c2]
      by_cases c3 : ch = 115
      · rw [if_pos c3]; exact ht _
      · rw [if_neg c3]
        by_cases d : g p = ch
        · rw [if_pos d]; exact h
        · rw [if_neg d]; exact h
theorem stw_len : ∀ (cs : List Int) (S : PS), S.2.2.length ≤ 6 → (cs.foldl (stw g L) S).2.2.length ≤ 6 := by
  intro cs
  induction cs with
  | nil => intro S h; exact h
  | cons c cs ih =>
    intro S h
    rw [List.foldl_cons]
    refine ih _ ?_
    unfold stw
    by_cases h0 : S.1 = 0
    · rw [if_pos h0]; exact h
    · rw [if_neg h0]; exact pc_len h
theorem rdo_len (p : Nat) : (rdo g L p).2.2.length ≤ 6 := by
  unfold rdo
  by_cases c : fo (g p) = 4
  · rw [if_pos c]; exact Nat.zero_le _
  · rw [if_neg c]; exact stw_len _ _ (Nat.zero_le _)
theorem tld_app {T : Nat} {Y Y' : MM} {O : List (Int × List Int)} {k : Int} {W : List Int} (h : tld Y O) (hT : T = O.length) (hf : ∀ k, k < 7 * T → Y' 17 k = Y 17 k) (hk : Y' 17 (7 * T) = k) (hw : ∀ (i : Nat) (v : Int), W[i]? = some v → Y' 17 (7 * T + 1 + i) = v) (h6 : ∀ a ∈ O, a.2.length ≤ 6) : tld Y' (O ++ [(k, W)]) := by
  intro n a ha
  rcases Nat.lt_trichotomy n O.length with q | q | q
  · rw [List.getElem?_append_left q] at ha
    obtain ⟨k1, k2⟩ := h n a ha
    have hl := h6 a (List.mem_of_getElem? ha)
    refine ⟨by rw [hf _ (by omega)]; exact k1, fun i v hv => ?_⟩
    have hi := (List.getElem?_eq_some_iff.mp hv).1
    rw [hf _ (by omega)]
    exact k2 i v hv
  · subst q
    rw [List.getElem?_append_right (Nat.le_refl _), Nat.sub_self] at ha
    cases ha
    rw [← hT]
    exact ⟨hk, hw⟩
  · rw [List.getElem?_eq_none (by rw [List.length_append]; exact q)] at ha
    cases ha
/-- the reading of all orders, on both sides: frames -/
def FR (Y Y' : MM) : Prop := (∀ c, c ≠ 0 → c ≠ 17 → Y' c = Y c) ∧ ∀ k, k ≠ 19 → k ≠ 20 → k ≠ 22 → Y' 0 k = Y 0 k
theorem FR_O {T : Nat} {Y Y' : MM} (h : FO T Y Y') : FR Y Y' := ⟨h.1, h.2.1⟩
theorem FR_tr {Y1 Y2 Y3 : MM} (h1 : FR Y1 Y2) (h2 : FR Y2 Y3) : FR Y1 Y3 := ⟨fun c a b => by rw [h2.1 c a b, h1.1 c a b], fun k a b d => by rw [h2.2 k a b d, h1.2 k a b d]⟩
theorem YG_R {Y Y' : MM} (h : FR Y Y') (y : YG Y g L) : YG Y' g L := ⟨by rw [h.2 7 (by decide) (by decide) (by decide)]; exact y.1, by rw [h.1 5 (by decide) (by decide)]; exact y.2⟩
theorem rd_loop (t : TG g L) : ∀ (k n m p T : Nat) (O : List (Int × List Int)) (X Y : MM), L - p ≤ k → k + 1 < n → k + 2 < m → XG X g L → YG Y g L → X 71 2 = p → Y 0 19 = p → Y 0 20 = 1 → Y 0 22 = T → T = O.length → chn g L O 0 p → tld Y O → (∀ a ∈ O, a.2.length ≤ 6) → 3 * T ≤ p + 1 → p ≤ L → 0 < p →
    ∃ (w : Int) (q : Nat) (X' Y' : MM), fX1_firstFault_L11 n 1 T X = some (w, X') ∧ fX5_reads_L19 m Y = some Y' ∧ X' 71 2 = q ∧ Y' 0 19 = q ∧ Y' 0 20 = w ∧ (w = 0 ∨ w = 1) ∧ FK X X' ∧ FR Y Y' ∧ (w = 1 → ∃ O', Y' 0 22 = (O'.length : Int) ∧ chn g L O' 0 L ∧ tld Y' O' ∧ O'.length ≤ 27) := by
  intro k
  induction k with
  | zero =>
    intro n m p T O X Y hk hn hm x y x2 y19 y20 y22 hT hc htl h6 h3 hp hp0
    obtain ⟨n, rfl⟩ : ∃ q, n = q + 1 := ⟨n - 1, by omega⟩
    obtain ⟨m, rfl⟩ : ∃ q, m = q + 1 := ⟨m - 1, by omega⟩
    have ht := t.1
    have e : p = L := by omega
    refine ⟨1, p, X, Y, ?_, ?_, x2, y19, y20, Or.inr rfl, FK_rf X, ⟨fun _ _ _ => rfl, fun _ _ _ _ => rfl⟩, fun _ => ⟨O, by rw [← hT]; exact y22, by have h := hc; rw [e] at h; exact h, htl, by omega⟩⟩
    · rw [fX1_firstFault_L11, if_neg (by decide)]
      unfold fX1_hasMore
      rw [x.1, x2, if_pos (by omega), bnd_s, gd_s (Or.inl rfl), bnd_s, if_pos rfl]
    · rw [fX5_reads_L19, y20, if_neg (by decide), y.1, y19, if_pos (by omega)]
  | succ k ih =>
    intro n m p T O X Y hk hn hm x y x2 y19 y20 y22 hT hc htl h6 h3 hp hp0
    obtain ⟨n, rfl⟩ : ∃ q, n = q + 1 := ⟨n - 1, by omega⟩
    obtain ⟨m, rfl⟩ : ∃ q, m = q + 1 := ⟨m - 1, by omega⟩
    have ht := t.1
    by_cases e : p = L
    · refine ⟨1, p, X, Y, ?_, ?_, x2, y19, y20, Or.inr rfl, FK_rf X, ⟨fun _ _ _ => rfl, fun _ _ _ _ => rfl⟩, fun _ => ⟨O, by rw [← hT]; exact y22, by have h := hc; rw [e] at h; exact h, htl, by omega⟩⟩
      · rw [fX1_firstFault_L11, if_neg (by decide)]
        unfold fX1_hasMore
        rw [x.1, x2, if_pos (by omega), bnd_s, gd_s (Or.inl rfl), bnd_s, if_pos rfl]
      · rw [fX5_reads_L19, y20, if_neg (by decide), y.1, y19, if_pos (by omega)]
    · obtain ⟨X1, a1, a2, a3, a4⟩ := x_read t x x2 hp
      have hb := ro_b t hp
      have ex : fX1_firstFault_L11 (n + 1) 1 T X = fX1_firstFault_L11 n (ro g L p).1 ((T + 1 : Nat) : Int) X1 := by
        rw [fX1_firstFault_L11, if_neg (by decide)]
        unfold fX1_hasMore
        rw [x.1, x2, if_neg (by omega), bnd_s, gd_s (Or.inr rfl), bnd_s, if_neg (by decide), if_neg (by omega), a1, bnd2_s, gd_R (by omega) (by omega)]
        rfl
      have ey : fX5_reads_L19 (m + 1) Y = if g p = 59 then bnd (fX5_readsOrder (mvY Y 1 ((p + 1 : Nat) : Int))) (fun M13 => fX5_reads_L19 m M13) else fX5_reads_L19 m (mvY Y 0 p) := by
        have yw := y_wants t y y19 y20 hp 59
        rw [fX5_reads_L19, y20, if_neg (by decide), y.1, y19, if_neg (by omega), yw, bnd_s]
        by_cases d : g p = 59
        · rw [if_pos (show ¬ (1 : Int) = 0 ∧ g p = 59 from ⟨by decide, d⟩), mvY_20, if_neg (by decide), if_pos d]
        · rw [if_neg (show ¬ (¬ (1 : Int) = 0 ∧ g p = 59) from fun q => d q.2), mvY_20, if_pos rfl, if_neg d]
      rw [ex, ey]
      by_cases d : g p = 59
      · have hl := g_lt t (p := p) (by omega)
        have er : ro g L p = rdo g L (p + 1) := by unfold ro; rw [if_neg (by omega), if_pos d]
        have hFR : FR Y (mvY Y 1 ((p + 1 : Nat) : Int)) := ⟨fun c h1 _ => mvY_c _ _ _ h1, fun k h1 h2 _ => mvY_k _ _ _ h1 h2⟩
        obtain ⟨Y1, b1, b2, b3, b4, b5, b6⟩ := y_order t (YG_R hFR y) (T := T) (p := p + 1) (mvY_19 _ _ _) (mvY_20 _ _ _) (by rw [mvY_k _ _ _ (by decide) (by decide)]; exact y22) (by omega) hl
        rw [← er] at b2 b3 b4 b5
        have hR1 : FR Y Y1 := FR_tr hFR (FR_O b6)
        rw [if_pos d, b1, bnd_s]
        rcases hb.1 with w0 | w1
        · obtain ⟨n, rfl⟩ : ∃ q, n = q + 1 := ⟨n - 1, by omega⟩
          obtain ⟨m, rfl⟩ : ∃ q, m = q + 1 := ⟨m - 1, by omega⟩
          rw [w0] at b3 ⊢
          refine ⟨0, (ro g L p).2.1, X1, Y1, ?_, ?_, a2, b2, b3, Or.inl rfl, a4, hR1, fun q => absurd q (by decide)⟩
          · rw [fX1_firstFault_L11, if_pos rfl]
          · rw [fX5_reads_L19, b3, if_pos rfl]
        · obtain ⟨h1, h2, h4⟩ := hb.2.2.2 w1
          have h2 := h2 (by omega)
          rw [w1] at b3 b4 ⊢
          obtain ⟨b7, b8⟩ := b5 w1
          have hkd : kd g p = g (p + 1) := by unfold kd; rw [if_neg (by omega)]
          obtain ⟨w, q, X', Y', c1, c2, c3, c4, c5, c6, c7, c8, c9⟩ := ih n m (ro g L p).2.1 (T + 1) (O ++ [(kd g p, (ro g L p).2.2)]) X1 Y1 (by omega) (by omega) (by omega) (XG_K a4 x) (YG_R hR1 y) a2 b2 b3 (by rw [b4]; omega) (by rw [List.length_append, hT]; rfl) (chn_app O 0 p _ hc ⟨w1, rfl, rfl, rfl⟩) (tld_app htl hT (fun k hk => by rw [b6.2.2 k hk, mvY_c _ _ _ (by decide)]) (by rw [hkd]; exact b7) b8 h6) (fun a ha => by
            rcases List.mem_append.mp ha with q | q
            · exact h6 a q
            · rw [List.mem_singleton.mp q]
              show (ro g L p).2.2.length ≤ 6
              rw [er]
              exact rdo_len _) (by omega) hb.2.2.1 (by omega)
          exact ⟨w, q, X', Y', c1, c2, c3, c4, c5, c6, FK_tr a4 c7, FR_tr hR1 c8, c9⟩
      · obtain ⟨n, rfl⟩ : ∃ q, n = q + 1 := ⟨n - 1, by omega⟩
        obtain ⟨m, rfl⟩ : ∃ q, m = q + 1 := ⟨m - 1, by omega⟩
        have er : ro g L p = (0, p, []) := by unfold ro; rw [if_neg (by omega), if_neg d]
        rw [er] at a2 ⊢
        rw [if_neg d]
        refine ⟨0, p, X1, mvY Y 0 p, ?_, ?_, a2, mvY_19 _ _ _, mvY_20 _ _ _, Or.inl rfl, a4, ⟨fun c h1 _ => mvY_c _ _ _ h1, fun k h1 h2 _ => mvY_k _ _ _ h1 h2⟩, fun q => absurd q (by decide)⟩
        · rw [fX1_firstFault_L11, if_pos rfl]
        · rw [fX5_reads_L19, mvY_20, if_pos rfl]
/-- the fault of the pad, on both sides -/
theorem rd_all {X Y : MM} (t : TG g L) (x : XG X g L) (y : YG Y g L) : ∃ (r : Int) (X' Y' : MM), fX1_firstFault X = some (r, X') ∧ fX5_reads Y = some (r, Y') ∧ FK X X' ∧ FR Y Y' ∧ (r = -6 → ∃ O, Y' 0 22 = (O.length : Int) ∧ chn g L O 0 L ∧ tld Y' O ∧ O.length ≤ 27) := by
  have ht := t.1
  have hK := FK_st X (k := 2) (by omega) 0
  have x0 := XG_K hK x
  obtain ⟨X1, a1, a2, a3, a4⟩ := x_read t x0 (p := 0) (st_at _ _ _ _) (Nat.zero_le _)
  have hb := ro_b t (p := 0) (Nat.zero_le _)
  have er : ro g L 0 = rdo g L 0 := by unfold ro; rw [if_pos rfl]
  have hR0 : FR Y (stM (stM (stM Y 0 19 0) 0 20 1) 0 22 0) := ⟨fun c h _ => by rw [st_cell h, st_cell h, st_cell h], fun k h1 h2 h3 => by rw [st_k h3, st_k h2, st_k h1]⟩
  obtain ⟨Y1, b1, b2, b3, b4, b5, b6⟩ := y_order t (YG_R hR0 y) (T := 0) (p := 0) (by rw [st_k (by decide), st_k (by decide), st_at]; rfl) (by rw [st_k (by decide), st_at]) (by rw [st_at]; rfl) (by omega) (Nat.zero_le _)
  rw [← er] at b2 b3 b4 b5
  have hR1 : FR Y Y1 := FR_tr hR0 (FR_O b6)
  have hK1 : FK X X1 := FK_tr hK a4
  have fin : ∀ (w : Int) (q : Nat) (X' Y' : MM), fX1_firstFault_L11 4000 (ro g L 0).1 1 X1 = some (w, X') → fX5_reads_L19 4000 Y1 = some Y' → X' 71 2 = q → Y' 0 19 = q → Y' 0 20 = w → (w = 0 ∨ w = 1) → fX1_firstFault X = some ((if w = 0 then (q : Int) else -6), X') ∧ fX5_reads Y = some ((if w = 0 then (q : Int) else -6), Y') := fun w q X' Y' e1 e2 e3 e4 e5 e6 => by
    constructor
    · unfold fX1_firstFault fX1_start
      rw [bnd_s, bnd_s, a1, bnd2_s, e1, bnd2_s, e3]
      rcases e6 with z | z
      · rw [if_pos z, if_pos z, bnd_s]
      · rw [if_neg (by omega), if_neg (by omega), bnd_s]
    · unfold fX5_reads
      rw [bnd_s, bnd_s, bnd_s, b1, bnd_s, e2, bnd_s, e4, e5]
      rcases e6 with z | z
      · rw [if_pos z, if_pos z, bnd_s]
      · rw [if_neg (by omega), if_neg (by omega), bnd_s]
  rcases hb.1 with w0 | w1
  · rw [w0] at b3
    obtain ⟨f1, f2⟩ := fin 0 (ro g L 0).2.1 X1 Y1 (by rw [w0, fX1_firstFault_L11, if_pos rfl]) (by rw [fX5_reads_L19, b3, if_pos rfl]) a2 b2 b3 (Or.inl rfl)
    refine ⟨_, X1, Y1, f1, f2, hK1, hR1, fun q => ?_⟩
    rw [if_pos rfl] at q
    omega
  · obtain ⟨h1, -, h4⟩ := hb.2.2.2 w1
    rw [w1] at b3 b4
    obtain ⟨b7, b8⟩ := b5 w1
    have hkd : kd g 0 = g 0 := by unfold kd; rw [if_pos rfl]
    have htl : tld Y1 ([] ++ [(kd g 0, (ro g L 0).2.2)]) := tld_app (T := 0) (Y := Y1) (O := []) (fun n a ha => by cases ha) rfl (fun k _ => rfl) (by rw [hkd]; exact b7) b8 (fun a ha => absurd ha List.not_mem_nil)
    obtain ⟨w, q, X', Y', c1, c2, c3, c4, c5, c6, c7, c8, c9⟩ := rd_loop t 80 4000 4000 (ro g L 0).2.1 1 [(kd g 0, (ro g L 0).2.2)] X1 Y1 (by omega) (by omega) (by omega) (XG_K hK1 x) (YG_R hR1 y) a2 b2 b3 (by rw [b4]; rfl) rfl ⟨w1, rfl, rfl, rfl⟩ htl (fun a ha => by
      rw [List.mem_singleton.mp ha]
      show (ro g L 0).2.2.length ≤ 6
      rw [er]
      exact rdo_len _) (by omega) hb.2.2.1 (by omega)
    obtain ⟨f1, f2⟩ := fin w q X' Y' (by rw [w1]; exact c1) c2 c3 c4 c5 c6
    refine ⟨_, X', Y', f1, f2, FK_tr hK1 c7, FR_tr hR1 c8, fun z => ?_⟩
    rcases c6 with w0 | w1
    · rw [if_pos w0] at z; omega
    · exact c9 w1
theorem q_fault {X Y : MM} (hS : Sim X Y) : ∃ res X' Y', fX4_fault X = some (res, X') ∧ fX5_fault Y = some (res, Y') ∧ Sim X' Y' := by
  have h0 : Sim X (stM Y 0 0 0) := Sim_QY hS (QY_st Y)
  obtain ⟨g, L, t, x, y⟩ := PD_G h0.2.2.2.2
  obtain ⟨r, X', Y', a1, a2, a3, a4, -⟩ := rd_all t x y
  refine ⟨r, X', Y', ?_, ?_, Sim_fr h0 (fun c hc => a3.1 c (by omega) (by omega)) (a3.2 1 (by decide) (by decide) (by decide)) (fun c h1 h2 => a4.1 c (by omega) (by omega)) (by rw [a4.1 1 (by decide) (by decide)]; exact sameR_rf _) (a4.2 3 (by decide) (by decide) (by decide)) (a4.2 7 (by decide) (by decide) (by decide))⟩
  · unfold fX4_fault
    rw [a1, bnd2_s]
  · unfold fX5_fault
    rw [bnd_s, a2, bnd2_s]
end RL
