/-! A ROAD as a row of 153 numbers: what both sides keep of it; a copy of it -/
def ofs (s : Nat → Int) : MM := fun a b => match a with
  | 1 => s b
  | _ => 0
/-- the same road: the counts, the settings, the vans and visits that there are -/
def sameR (s s' : Nat → Int) : Prop := (∀ b, b < 5 → s' b = s b) ∧ (∀ v k : Nat, (v : Int) < s 4 → k < 7 → s' (5 + 7 * v + k) = s (5 + 7 * v + k)) ∧ (∀ i k : Nat, (i : Int) < s 3 → k < 6 → s' (33 + 6 * i + k) = s (33 + 6 * i + k))
theorem sameR_rf (s : Nat → Int) : sameR s s := ⟨fun _ _ => rfl, fun _ _ _ _ => rfl, fun _ _ _ _ => rfl⟩
theorem same_153 {s s' : Nat → Int} (h3 : s 3 ≤ 20) (h4 : s 4 ≤ 4) (h : ∀ b, b < 153 → s' b = s b) : sameR s s' := ⟨fun b hb => h b (by omega), fun v k hv hk => h _ (by omega), fun i k hi hk => h _ (by omega)⟩
theorem ValS_same {Y Z : MM} (h : sameR (Y 1) (Z 1)) (hV : ValS Y) : ValS Z := by
  obtain ⟨h1, h2, h3⟩ := h
  obtain ⟨a1, a2, a3, a4, a5, a6, a7⟩ := hV
  unfold ValS
  rw [h1 0 (by decide), h1 1 (by decide), h1 2 (by decide), h1 3 (by decide), h1 4 (by decide)]
  refine ⟨a1, a2, a3, a4, a5, fun v hv => ?_, fun i hi => ?_⟩
  · obtain ⟨b1, b2, b3⟩ := a6 v hv
    unfold yvan at b1 b2 b3 ⊢
    rw [h2 v 0 hv (by decide), h2 v 1 hv (by decide)]
    refine ⟨b1, b2, fun p hp => ?_⟩
    rw [h2 v (2 + p) hv (by omega)]
    exact b3 p hp
  · have b := a7 i hi
    unfold yvis at b ⊢
    rw [h3 i 0 hi (by decide), h3 i 1 hi (by decide), h3 i 2 hi (by decide), h3 i 3 hi (by decide), h3 i 4 hi (by decide), h3 i 5 hi (by decide)]
    exact b
theorem xS_same {X Y Z : MM} {r : Nat} (h : sameR (Y 1) (Z 1)) (hS : xS X Y r) : xS X Z r := by
  obtain ⟨h1, h2, h3⟩ := h
  obtain ⟨a1, a2, a3, a4, a5, a6, a7, a8⟩ := hS
  unfold xS
  rw [h1 0 (by decide), h1 1 (by decide), h1 2 (by decide), h1 3 (by decide), h1 4 (by decide)]
  refine ⟨a1, a2, a3, a4, a5, fun v k hv hk => ?_, fun v q hv hq => ?_, fun i k hi hk => ?_⟩
  · rw [a6 v k hv hk]
    exact (h2 v k hv (by omega)).symm
  · rw [a7 v q hv hq]
    exact (h2 v (2 + q) hv (by omega)).symm
  · rw [a8 i k hi hk]
    exact (h3 i k hi hk).symm
/-- the class's road r is the road of the row s; the parts of vans that aren't there are 0 -/
def RG (X : MM) (r : Nat) (s : Nat → Int) : Prop := ValS (ofs s) ∧ s 3 ≤ 20 ∧ xS X (ofs s) r ∧ ∀ v q : Nat, s 4 ≤ v → v < 4 → q < 5 → X (5 * r + 4) (5 * v + q) = 0
theorem RG_same {X : MM} {r : Nat} {s s' : Nat → Int} (h : sameR s s') (g : RG X r s) : RG X r s' := by
  obtain ⟨g1, g2, g3, g4⟩ := g
  refine ⟨ValS_same (Y := ofs s) (Z := ofs s') h g1, by rw [h.1 3 (by decide)]; exact g2, xS_same (Y := ofs s) (Z := ofs s') h g3, ?_⟩
  rw [h.1 4 (by decide)]
  exact g4
theorem RG_X {X X' : MM} {r : Nat} {s : Nat → Int} (g : RG X r s) (h : ∀ c, 5 * r ≤ c → c < 5 * r + 5 → X' c = X c) : RG X' r s := by
  obtain ⟨g1, g2, g3, g4⟩ := g
  refine ⟨g1, g2, ?_, ?_⟩
  · unfold xS
    rw [h (5 * r + 1) (by omega) (by omega), h (5 * r) (by omega) (by omega), h (5 * r + 3) (by omega) (by omega), h (5 * r + 4) (by omega) (by omega), h (5 * r + 2) (by omega) (by omega)]
    exact g3
  · rw [h (5 * r + 4) (by omega) (by omega)]
    exact g4
theorem RG_V {X Y : MM} {r : Nat} (g : RG X r (Y 1)) : ValS Y := ValS_1 (M := ofs (Y 1)) rfl g.1
theorem RG_S {X Y : MM} {r : Nat} (g : RG X r (Y 1)) : xS X Y r := xS_1 (M := ofs (Y 1)) rfl g.2.2.1
theorem RG_b {X : MM} {r : Nat} {s : Nat → Int} (g : RG X r s) : (0 ≤ s 3 ∧ s 3 ≤ 20) ∧ (0 ≤ s 4 ∧ s 4 ≤ 4) := ⟨⟨g.1.2.2.2.1.1, g.2.1⟩, g.1.2.2.2.2.1⟩
/-- what a copy of the road r1 into the road r0 leaves -/
def CP (X X' : MM) (r0 r1 : Nat) : Prop := (∀ c, c < 5 * r0 ∨ 5 * r0 + 5 ≤ c → X' c = X c) ∧ X' (5 * r0) 4 = X (5 * r1) 4 ∧ X' (5 * r0) 5 = X (5 * r1) 5 ∧ (∀ k, k < 3 → X' (5 * r0 + 1) k = X (5 * r1 + 1) k) ∧ (∀ k, k < 126 → X' (5 * r0 + 2) k = X (5 * r1 + 2) k) ∧ (∀ k, k < 8 → X' (5 * r0 + 3) k = X (5 * r1 + 3) k) ∧ (∀ k, k < 20 → X' (5 * r0 + 4) k = X (5 * r1 + 4) k)
theorem cpy_n {M : MM} {a b : Nat} (n : Nat) {z : Int} (hz : z = n) : cpy M a n 0 b n 0 z = some (cpM M a 0 b 0 n) := by
  subst hz
  unfold cpy
  rw [if_pos ⟨by omega, by omega, by omega, by omega, by omega⟩, Int.toNat_natCast]
  rfl
theorem cp_in {M : MM} {a b n k : Nat} (h : k < n) : cpM M a 0 b 0 n b k = M a k := by
  unfold cpM
  rw [if_pos ⟨rfl, Nat.zero_le _, by omega⟩, Nat.zero_add, Nat.sub_zero]
theorem cp_o {M : MM} {a b n c : Nat} (h : c ≠ b) : cpM M a 0 b 0 n c = M c := cpM_o c h
theorem x_copy (X : MM) {r0 r1 : Nat} (h01 : r0 ≠ r1) : ∃ X', fX3_copyFrom r0 r1 X = some X' ∧ CP X X' r0 r1 := by
  unfold fX3_copyFrom
  rw [cpy_n 3 (z := 3) rfl, bnd_s, cpy_n 126 (z := 126) rfl, bnd_s, cpy_n 8 (z := 8) rfl, bnd_s, cpy_n 20 (z := 20) rfl, bnd_s, bnd_s, bnd_s]
  refine ⟨_, rfl, fun c hc => ?_, ?_, ?_, fun k hk => ?_, fun k hk => ?_, fun k hk => ?_, fun k hk => ?_⟩
  · rw [st_cell (by omega), st_cell (by omega), cp_o (by omega), cp_o (by omega), cp_o (by omega), cp_o (by omega)]
  · rw [st_k (by decide), st_at, cp_o (by omega), cp_o (by omega), cp_o (by omega), cp_o (by omega)]
  · rw [st_at, st_c (by omega), cp_o (by omega), cp_o (by omega), cp_o (by omega), cp_o (by omega)]
  · rw [st_cell (by omega), st_cell (by omega), cp_o (by omega), cp_o (by omega), cp_o (by omega), cp_in hk]
  · rw [st_cell (by omega), st_cell (by omega), cp_o (by omega), cp_o (by omega), cp_in hk, cp_o (by omega)]
  · rw [st_cell (by omega), st_cell (by omega), cp_o (by omega), cp_in hk, cp_o (by omega), cp_o (by omega)]
  · rw [st_cell (by omega), st_cell (by omega), cp_in hk, cp_o (by omega), cp_o (by omega), cp_o (by omega)]
theorem CP_S {X X' Y : MM} {r0 r1 : Nat} (h : CP X X' r0 r1) (hV : ValS Y) (hS : xS X Y r1) : xS X' Y r0 := by
  obtain ⟨-, c4, c5, c1, c2, c3, c6⟩ := h
  obtain ⟨a1, a2, a3, a4, a5, a6, a7, a8⟩ := hS
  have h3 := hV.2.2.2.1
  have h4 := hV.2.2.2.2.1
  unfold xS
  rw [c4, c5, c1 0 (by decide), c1 1 (by decide), c1 2 (by decide)]
  refine ⟨a1, a2, a3, a4, a5, fun v k hv hk => ?_, fun v q hv hq => ?_, fun i k hi hk => ?_⟩
  · rw [c3 _ (by omega)]; exact a6 v k hv hk
  · rw [c6 _ (by omega)]; exact a7 v q hv hq
  · rw [c2 _ (by omega)]; exact a8 i k hi hk
theorem CP_G {X X' : MM} {r0 r1 : Nat} {s : Nat → Int} (h : CP X X' r0 r1) (g : RG X r1 s) : RG X' r0 s := by
  obtain ⟨g1, g2, g3, g4⟩ := g
  refine ⟨g1, g2, CP_S h g1 g3, fun v q h1 h2 h3 => ?_⟩
  rw [h.2.2.2.2.2.2 _ (by omega)]
  exact g4 v q h1 h2 h3
/-! THE TWO SIDES, whole: what holds between two calls -/
def HR (X Y : MM) : Prop := ∃ o m : Nat, o < 7 ∧ m ≤ 6 ∧ X 67 1 = o ∧ X 67 2 = m ∧ Y 0 3 = m ∧ ∀ k, k < m → RG X (4 + (o + k) % 7) (fun b => Y 2 (153 * k + b))
def SL (X Y : MM) : Prop := ∀ j : Nat, j < 2 → X 70 j = Y 4 j ∧ (Y 4 j = 0 ∨ (Y 4 j = 1 ∧ RG X (2 + j) (fun b => Y 3 (153 * j + b))))
def PD (X Y : MM) : Prop := X 71 1 = Y 0 7 ∧ (0 ≤ Y 0 7 ∧ Y 0 7 ≤ 80) ∧ ∀ i : Nat, (i : Int) < Y 0 7 → X 72 i = Y 5 i ∧ (0 ≤ Y 5 i ∧ Y 5 i ≤ 255)
def Sim (X Y : MM) : Prop := RG X 0 (Y 1) ∧ PN X Y 0 0 ∧ HR X Y ∧ SL X Y ∧ PD X Y
theorem PD_fr {X Y X' Y' : MM} (h : PD X Y) (h71 : X' 71 1 = X 71 1) (h72 : X' 72 = X 72) (h7 : Y' 0 7 = Y 0 7) (h5 : Y' 5 = Y 5) : PD X' Y' := by
  unfold PD
  rw [h71, h72, h7, h5]
  exact h
theorem Sim_fr {X Y X' Y' : MM} (h : Sim X Y) (hX : ∀ c, c < 5 ∨ (10 ≤ c ∧ c < 61) ∨ (67 ≤ c ∧ c < 71) ∨ c = 72 → X' c = X c) (h71 : X' 71 1 = X 71 1) (hY : ∀ c, 2 ≤ c → c < 6 → Y' c = Y c) (h1 : sameR (Y 1) (Y' 1)) (h3 : Y' 0 3 = Y 0 3) (h7 : Y' 0 7 = Y 0 7) : Sim X' Y' := by
  obtain ⟨g, ⟨X0, X1, a1, a2, a3⟩, ⟨o, m, o1, o2, o3, o4, o5, o6⟩, sl, pd⟩ := h
  refine ⟨RG_X (RG_same h1 g) (fun c _ _ => hX c (by omega)), ⟨X0, X1, xS_same h1 a1, a2, fun c c1 c2 => by rw [hX c (by omega)]; exact a3 c c1 c2⟩, ⟨o, m, o1, o2, by rw [hX 67 (by omega)]; exact o3, by rw [hX 67 (by omega)]; exact o4, by rw [h3]; exact o5, fun k hk => ?_⟩, fun j hj => ?_, PD_fr pd h71 (hX 72 (by omega)) h7 (hY 5 (by omega) (by omega))⟩
  · rw [hY 2 (by omega) (by omega)]
    exact RG_X (o6 k hk) (fun c c1 c2 => hX c (by omega))
  · rw [hX 70 (by omega), hY 4 (by omega) (by omega), hY 3 (by omega) (by omega)]
    obtain ⟨s1, s2⟩ := sl j hj
    exact ⟨s1, s2.imp id (fun q => ⟨q.1, RG_X q.2 (fun c c1 c2 => hX c (by omega))⟩)⟩
/-- a query leaves the two sides as they were -/
theorem Sim_QY {X Y Y' : MM} (h : Sim X Y) (q : QY Y Y') : Sim X Y' := Sim_fr h (fun _ _ => rfl) rfl (fun c h1 h2 => q.1 c (by omega) (Or.inl h2)) (by rw [q.1 1 (by decide) (by decide)]; exact sameR_rf _) (q.2 3 (by decide)) (q.2 7 (by decide))
