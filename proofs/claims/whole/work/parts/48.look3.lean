/-! A LOOK on both sides, as one row -/
def xQ (X Y : MM) (p r : Nat) (t : Int) : Prop := ValS Y ∧ RunS Y t ∧ xS X Y r ∧ xP X Y p ∧ xE X Y p
theorem yrs_b (M : MM) (i : Nat) : ∀ (k v : Nat) (z : Int), 2 ≤ z → z ≤ 4 → 2 ≤ yrs M i k v z ∧ yrs M i k v z ≤ 4 := by
  intro k
  induction k with
  | zero => intro v z h1 h2; exact ⟨h1, h2⟩
  | succ k ih =>
    intro v z h1 h2
    rw [yrs]
    have hg : 2 ≤ (if yskill M v i then if yparts M v i then (4 : Int) else 3 else 2) ∧ (if yskill M v i then if yparts M v i then (4 : Int) else 3 else 2) ≤ 4 := by
      by_cases k1 : yskill M v i
      · rw [if_pos k1]
        by_cases k2 : yparts M v i
        · rw [if_pos k2]; omega
        · rw [if_neg k2]; omega
      · rw [if_neg k1]; omega
    generalize (if yskill M v i then if yparts M v i then (4 : Int) else 3 else 2) = g at hg
    by_cases q : g ≤ z
    · rw [if_pos q]; exact ih _ _ h1 h2
    · rw [if_neg q]; exact ih _ _ hg.1 hg.2
section LW
variable {X M : MM} {t : Int} {i r p : Nat}
theorem yreason_b (M : MM) (i : Nat) : 2 ≤ yreason M i ∧ yreason M i ≤ 4 := yrs_b M i _ _ _ (by omega) (by omega)
theorem xP_frame {X1 : MM} (hP : xP X M p) (hc : ∀ c, c ≠ 55 + 6 * p + 2 → X1 c = X c) : xP X1 M p := by
  unfold xP
  rw [hc _ (by omega), hc _ (by omega), hc _ (by omega)]
  exact hP
theorem EvIs_c {X1 : MM} {v : Nat} {L : List EvT} (h : EvIs X p v L) (h3 : X1 (55 + 6 * p + 3) = X (55 + 6 * p + 3)) (h5 : X1 (55 + 6 * p + 5) = X (55 + 6 * p + 5)) : EvIs X1 p v L := by
  unfold EvIs
  rw [h3, h5]
  exact h
theorem xE_frame {X1 : MM} (hE : xE X M p) (hc : ∀ c, c ≠ 55 + 6 * p + 2 → X1 c = X c) : xE X1 M p := by
  intro v hv
  obtain ⟨⟨G, g1, g2⟩, g3, g4⟩ := hE v hv
  refine ⟨⟨G, g1, EvIs_c g2 (hc _ (by omega)) (hc _ (by omega))⟩, ?_, ?_⟩
  · rw [hc _ (by omega)]; exact g3
  · rw [hc _ (by omega)]; exact g4
theorem ylook_c (sh kept : Int) {c : Nat} (h : c < 8 ∨ 16 < c) : (ylook M i sh kept).2 c = M c := by
  unfold ylook
  cases yvan4 M i sh with
  | none => rfl
  | some u => exact ymk_c M u i sh h
theorem ylook_8 (sh kept : Int) {j : Nat} (h : j ≠ i) : (ylook M i sh kept).2 8 j = M 8 j := by
  unfold ylook
  cases yvan4 M i sh with
  | none => rfl
  | some u => exact (ymk_8 M u i sh j).trans (if_neg h)
theorem ylook_9 (sh kept : Int) {j : Nat} (h : j ≠ i) : (ylook M i sh kept).2 9 j = M 9 j := by
  unfold ylook
  cases yvan4 M i sh with
  | none => rfl
  | some u => exact (ymk_9 M u i sh j).trans (if_neg h)
theorem x_look (h : xQ X M p r t) (ht : 0 ≤ t ∧ t ≤ 100) (hr : r < 11) (hi : (i : Int) < M 1 3) (h8 : M 8 i = -6) (h9 : M 9 i = -6) {lk : Int} (hlk : lk = 0 ∨ lk = 1) :
    ∃ X1, fX2_look p r i lk X = some X1 ∧ xQ X1 (ylook M i (lk * M 1 2) lk).2 p r (t + 1) ∧ xO X1 (ylook M i (lk * M 1 2) lk).2 p i (ylook M i (lk * M 1 2) lk).1 ∧ (∀ c, c ≠ 55 + 6 * p + 2 → c ≠ 55 + 6 * p + 3 → c ≠ 55 + 6 * p + 4 → c ≠ 55 + 6 * p + 5 → X1 c = X c) ∧ (∀ j k, j ≠ i → k < 4 → X1 (55 + 6 * p + 2) (4 * j + k) = X (55 + 6 * p + 2) (4 * j + k)) := by
  obtain ⟨hV, hR, hS, hP, hE⟩ := h
  have hc3 := hV.2.2.2.1
  have hc4 := hV.2.2.2.2.1
  have hb1 := hV.2.1
  obtain ⟨⟨p1, p2⟩, -, ⟨p3, p4⟩, ⟨p5, p6⟩, ⟨p7, p8⟩, ⟨p9, p10⟩⟩ := hV.2.2.2.2.2.2 i hi
  have hs : 0 ≤ lk * M 1 2 ∧ lk * M 1 2 ≤ 300 := by
    have := hV.2.2.1
    rcases hlk with e | e
    · rw [e]; omega
    · rw [e]; omega
  generalize hsh : lk * M 1 2 = sh at hs
  obtain ⟨h0, h1⟩ := hs
  have hvf := x_first hV hR hS hP hi h0 h1
  unfold fX2_look
  rw [rd_n (i := 2) 2 rfl (by decide), bnd_s, hS.2.2.1, hsh, gd_R (by omega) (by omega), hvf, bnd_s]
  unfold ylook
  cases hb : yvan4 M i sh with
  | none =>
    have hy := yreason_b M i
    rw [if_pos (show enc none = (-6) from rfl), x_reason hV hS hP hi, bnd_s, x_put X p i (by omega) ⟨by omega, by omega⟩ (by decide) (by decide) (by decide), bnd_s]
    have hc : ∀ c, c ≠ 55 + 6 * p + 2 → xput X p i (yreason M i) (-6) (-6) (-6) c = X c := fun c hc => xput_c hc
    refine ⟨_, rfl, ⟨hV, RunS_mono hR (by omega), xS_frame hr hS (fun c hc2 => hc c (by omega)), xP_frame hP hc, xE_frame hE hc⟩, ⟨xput_0, ?_, ?_, ?_⟩, fun c a1 _ _ _ => hc c a1, fun j k hj hk => xput_o hj hk⟩
    · rw [xput_1]; exact h8.symm
    · rw [xput_2]; exact h9.symm
    · rw [xput_3]; show -6 = (if M 9 i = -6 then -6 else M 9 i + M 1 1); rw [if_pos h9]
  | some u =>
    obtain ⟨hu, hcan⟩ := yvan4_lt hV hb
    have hg := ybeg_b hV hR hu hi h0 h1
    have eu : enc (some u) = (u : Int) := rfl
    obtain ⟨hc1, hc2, hc5⟩ := hcan
    rw [eu, if_neg (by omega), x_comes hV hR hS hP hu hi, bnd_s, x_visitFact hV hS hi (k := 4) 4 rfl (by decide), bnd_s, gd_R (by omega) (by omega), rd_n (i := 1) 1 rfl (by decide), bnd_s, hS.2.1, imax_beg]
    have e13 : (if lk = 0 then some (0 : Int) else some 1) = some lk := by
      rcases hlk with e | e
      · rw [if_pos e, e]
      · rw [if_neg (by omega), e]
    rw [e13, bnd_s, gd_R (by omega) (by omega), x_put X p i (by omega) ⟨by omega, by omega⟩ ⟨by omega, by omega⟩ ⟨by omega, by omega⟩ ⟨by omega, by omega⟩, bnd_s]
    generalize hA : xput X p i lk u (ybeg M u i sh) (ybeg M u i sh + M 1 1) = A
    have hc : ∀ c, c ≠ 55 + 6 * p + 2 → A c = X c := fun c hc => by rw [← hA]; exact xput_c hc
    have hSA : xS A M r := xS_frame hr hS (fun c hc2 => hc c (by omega))
    have hPA := xP_frame hP hc
    have hEA := xE_frame hE hc
    have o0 : A (55 + 6 * p + 2) (4 * i + 0) = lk := by rw [← hA]; exact xput_0
    have o1 : A (55 + 6 * p + 2) (4 * i + 1) = u := by rw [← hA]; exact xput_1
    have o2 : A (55 + 6 * p + 2) (4 * i + 2) = ybeg M u i sh := by rw [← hA]; exact xput_2
    have o3 : A (55 + 6 * p + 2) (4 * i + 3) = ybeg M u i sh + M 1 1 := by rw [← hA]; exact xput_3
    have oo : ∀ j k, j ≠ i → k < 4 → A (55 + 6 * p + 2) (4 * j + k) = X (55 + 6 * p + 2) (4 * j + k) := fun j k hj hk => by rw [← hA]; exact xput_o hj hk
    obtain ⟨⟨G, g1, g2⟩, g3, g4⟩ := hEA u hu
    have hni : ¬ M 8 i = (u : Int) := by omega
    have hlen : (evG M G).length + 3 ≤ 63 := by
      have := yevn_lt M hni (M 1 3).toNat 0 0 (Nat.zero_le _) (by omega)
      have e := g2.1
      omega
    obtain ⟨X1, x1, x2, x3, x4, x5, x6, x7, x8, x9, x10, x11⟩ := x_drv hV hR ht hSA hr hPA hu hi o2 o3 hg.2.2.1 (by omega) (by omega) (by omega) _ g2 hlen
    rw [x1, bnd_s]
    have hx : ∀ c, c ≠ 55 + 6 * p + 2 → c ≠ 55 + 6 * p + 3 → c ≠ 55 + 6 * p + 4 → c ≠ 55 + 6 * p + 5 → X1 c = X c := fun c a1 a2 a3 a4 => by rw [x3 c a2 a3 a4, hc c a1]
    have hx2 : X1 (55 + 6 * p + 2) = A (55 + 6 * p + 2) := x3 _ (by omega) (by omega) (by omega)
    have hN1 : ymk M u i sh 1 = M 1 := ymk_c _ _ _ _ (by decide)
    show ∃ X2, some X1 = some X2 ∧ xQ X2 (ymk M u i sh) p r (t + 1) ∧ xO X2 (ymk M u i sh) p i lk ∧ _
    refine ⟨X1, rfl, ⟨ValS_1 hN1 hV, RunS_mk hV hR hu hi h0 h1 ⟨hc1, hc2, hc5⟩, xS_1 hN1 (xS_frame hr hS (fun c hc2 => hx c (by omega) (by omega) (by omega) (by omega))), ?_, ?_⟩, ⟨?_, ?_, ?_, ?_⟩, hx, fun j k hj hk => by rw [hx2]; exact oo j k hj hk⟩
    · refine xP_mk hPA (by omega) (by omega) (fun c a1 a2 a3 a4 => x3 c a2 a3 a4) x4 x6 x7 x8 x9 x10
    · intro v hv
      rw [hN1] at hv ⊢
      by_cases e : v = u
      · rw [e]
        obtain ⟨w1, w2⟩ := vanG_u hV hR hu hi h0 h1 h8 g1
        have hm8 : ymk M u i sh 8 i = (u : Int) := (ymk_8 _ _ _ _ _).trans (if_pos rfl)
        have hm9 : ymk M u i sh 9 i = ybeg M u i sh := (ymk_9 _ _ _ _ _).trans (if_pos rfl)
        have hm10 : ymk M u i sh 10 i = M 13 u + yway M u i := (ymk_10 _ _ _ _ _).trans (if_pos rfl)
        have hm11 : ymk M u i sh 11 i = M 13 u := (ymk_11 _ _ _ _ _).trans (if_pos rfl)
        refine ⟨⟨G ++ [i], w1, by rw [w2]; exact x2⟩, ?_, ?_⟩
        · rw [x5, g3, ymask_put hni hm8 (fun j hj => (ymk_8 _ _ _ _ _).trans (if_neg hj)) _ _ _ (Nat.zero_le _) (by omega) (by decide)]
        · rw [yevn_put (Y := M) hni hm8 (fun j hj => ⟨(ymk_8 _ _ _ _ _).trans (if_neg hj), (ymk_9 _ _ _ _ _).trans (if_neg hj), (ymk_10 _ _ _ _ _).trans (if_neg hj), (ymk_11 _ _ _ _ _).trans (if_neg hj)⟩) _ _ _ (Nat.zero_le _) (by omega), ← g4, hm9, hm10, hm11, x2.1, List.length_append, g2.1]
          have := evs_cnt i (f := M 13 u) (c := M 13 u + yway M u i) (b := ybeg M u i sh) (e := ybeg M u i sh + M 1 1) (by have := yway_b hV hR hu hi; omega) hg.2.2.1 (by omega)
          omega
      · obtain ⟨⟨G2, k1, k2⟩, k3, k4⟩ := hEA v hv
        obtain ⟨w1, w2⟩ := vanG_o (sh := sh) e h8 k1
        have hl63 : (evG M G2).length ≤ 63 := by
          have := yevn_le M v (M 1 3).toNat 0 0
          have e := k2.1
          omega
        refine ⟨⟨G2, w1, by rw [w2]; exact EvIs_of k2 hl63 (x4 _ (by omega)) (fun n k hn hk => x11 v n k e hn hk)⟩, ?_, ?_⟩
        · rw [x4 _ (by omega), k3]
          refine ymask_eq _ _ _ (fun j _ _ => ?_)
          rw [ymk_8]
          by_cases ej : j = i
          · rw [if_pos ej, ej, h8]; exact ⟨fun q => by omega, fun q => by omega⟩
          · rw [if_neg ej]
        · rw [x4 _ (by omega), k4]
          refine yevn_eq _ _ _ (fun j _ _ => ?_)
          rw [ymk_8, ymk_9, ymk_10, ymk_11]
          by_cases ej : j = i
          · rw [if_pos ej, ej, h8]; exact ⟨⟨fun q => by omega, fun q => by omega⟩, fun q => by omega⟩
          · rw [if_neg ej, if_neg ej, if_neg ej, if_neg ej]; exact ⟨Iff.rfl, fun _ => ⟨rfl, rfl, rfl⟩⟩
    · rw [hx2, o0]
    · rw [hx2, o1]; exact ((ymk_8 _ _ _ _ _).trans (if_pos rfl)).symm
    · rw [hx2, o2]; exact ((ymk_9 _ _ _ _ _).trans (if_pos rfl)).symm
    · show X1 (55 + 6 * p + 2) (4 * i + 3) = (if ymk M u i sh 9 i = -6 then -6 else ymk M u i sh 9 i + ymk M u i sh 1 1)
      rw [hx2, o3, (ymk_9 M u i sh i).trans (if_pos rfl), if_neg (by omega), hN1]
end LW
