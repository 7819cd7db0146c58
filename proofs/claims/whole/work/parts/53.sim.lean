/-! THE PLAN THAT STANDS: the class keeps it, the reference makes it anew -/
/-- the class's plan p is the plan of a road that says what the reference's road says -/
def PN (X Y : MM) (p r : Nat) : Prop := ∃ X0 X1 : MM, xS X0 Y r ∧ fX2_make p r X0 = some X1 ∧ ∀ c, 55 + 6 * p ≤ c → c < 55 + 6 * p + 6 → X c = X1 c
section SM
variable {X Y Z : MM} {p r : Nat}
theorem PL_X {X1 : MM} (hS : xS X Y r) (h : PL X1 Y p r) (hc : ∀ c, 55 + 6 * p ≤ c → c < 55 + 6 * p + 6 → X c = X1 c) : PL X Y p r := by
  obtain ⟨⟨h1, h2, -, h4, h5⟩, h6⟩ := h
  refine ⟨⟨h1, h2, hS, ?_, ?_⟩, ?_⟩
  · unfold xP
    rw [hc _ (by omega) (by omega), hc _ (by omega) (by omega), hc _ (by omega) (by omega)]
    exact h4
  · unfold xE EvIs
    rw [hc _ (by omega) (by omega), hc _ (by omega) (by omega)]
    exact h5
  · unfold xD xO
    rw [hc _ (by omega) (by omega)]
    exact h6
theorem PN_1 (h1 : Z 1 = Y 1) (h : PN X Y p r) : PN X Z p r := by
  obtain ⟨X0, X1, a1, a2⟩ := h
  exact ⟨X0, X1, xS_1 h1 a1, a2⟩
theorem PN_X {X2 : MM} (h : PN X Y p r) (hc : ∀ c, 55 + 6 * p ≤ c → c < 55 + 6 * p + 6 → X2 c = X c) : PN X2 Y p r := by
  obtain ⟨X0, X1, a1, a2, a3⟩ := h
  exact ⟨X0, X1, a1, a2, fun c h1 h2 => by rw [hc c h1 h2, a3 c h1 h2]⟩
/-- the reference makes the plan that the class keeps -/
theorem plan_now (hV : ValS Y) (hS : xS X Y r) (hr : r < 11) (hp : p < 2) (h : PN X Y p r) : ∃ K, fX5_plans Y = some K ∧ PL X K p r ∧ (∀ c, c < 6 ∨ 16 < c → K c = Y c) := by
  obtain ⟨X0, X1, a1, a2, a3⟩ := h
  obtain ⟨X', K, b1, b2, b3, b4, b5⟩ := make_plan (p := p) hV a1 hr hp
  rw [a2] at b1
  cases b1
  exact ⟨K, b2, PL_X (xS_1 (b5 1 (by decide)) hS) b3 a3, b5⟩
theorem PN_made (hS : xS X Y r) {X1 : MM} (h : fX2_make p r X = some X1) : PN X1 Y p r := ⟨X, X1, hS, h, fun _ _ _ => rfl⟩
/-- is it a visit, is it a van -/
theorem y_isVisit (hV : ValS Y) (a : Int) : fX5_isVisit a Y = some (if 0 ≤ a ∧ a < Y 1 3 then 1 else 0) := by
  have hc := hV.2.2.2.1
  unfold fX5_isVisit
  rw [rd_n (i := 3) 3 rfl (by decide), bnd_s, gd_R (by omega) (by omega), p_in, bnd_s]
  by_cases h : 0 ≤ a ∧ a < Y 1 3
  · rw [if_pos (show 0 ≤ a ∧ a ≤ Y 1 3 - 1 by omega), if_pos h, gd_s (Or.inr rfl)]
  · rw [if_neg (show ¬ (0 ≤ a ∧ a ≤ Y 1 3 - 1) by omega), if_neg h, gd_s (Or.inl rfl)]
theorem y_isVan (hV : ValS Y) (a : Int) : fX5_isVan a Y = some (if 0 ≤ a ∧ a < Y 1 4 then 1 else 0) := by
  have hc := hV.2.2.2.2.1
  unfold fX5_isVan
  rw [rd_n (i := 4) 4 rfl (by decide), bnd_s, gd_R (by omega) (by omega), p_in, bnd_s]
  by_cases h : 0 ≤ a ∧ a < Y 1 4
  · rw [if_pos (show 0 ≤ a ∧ a ≤ Y 1 4 - 1 by omega), if_pos h, gd_s (Or.inr rfl)]
  · rw [if_neg (show ¬ (0 ≤ a ∧ a ≤ Y 1 4 - 1) by omega), if_neg h, gd_s (Or.inl rfl)]
theorem x_hasVisit (hS : xS X Y r) (a : Int) : fX3_hasVisit r a X = some (if 0 ≤ a ∧ a < Y 1 3 then 1 else 0) := by
  unfold fX3_hasVisit
  rw [hS.2.2.2.1]
  by_cases h1 : a < 0
  · rw [if_pos h1, bnd_s, gd_s (Or.inl rfl), if_neg (by omega)]
  · rw [if_neg h1]
    by_cases h2 : Y 1 3 ≤ a
    · rw [if_pos h2, bnd_s, gd_s (Or.inl rfl), if_neg (by omega)]
    · rw [if_neg h2, bnd_s, gd_s (Or.inr rfl), if_pos (by omega)]
theorem x_hasVan (hS : xS X Y r) (a : Int) : fX3_hasVan r a X = some (if 0 ≤ a ∧ a < Y 1 4 then 1 else 0) := by
  unfold fX3_hasVan
  rw [hS.2.2.2.2.1]
  by_cases h1 : a < 0
  · rw [if_pos h1, bnd_s, gd_s (Or.inl rfl), if_neg (by omega)]
  · rw [if_neg h1]
    by_cases h2 : Y 1 4 ≤ a
    · rw [if_pos h2, bnd_s, gd_s (Or.inl rfl), if_neg (by omega)]
    · rw [if_neg h2, bnd_s, gd_s (Or.inr rfl), if_pos (by omega)]
theorem p_isPart (x : Int) : fX4_isPart x = some (if 0 ≤ x ∧ x ≤ 4 then 1 else 0) := by
  unfold fX4_isPart
  rw [p_within, bnd_s]
  by_cases h : 0 ≤ x ∧ x ≤ 4
  · rw [if_pos h, gd_s (Or.inr rfl)]
  · rw [if_neg h, gd_s (Or.inl rfl)]
/-- what a query leaves of the reference: all but the plan's own cells and the flag -/
def QY (Y Y' : MM) : Prop := (∀ c, c ≠ 0 → (c < 6 ∨ 16 < c) → Y' c = Y c) ∧ ∀ k, k ≠ 0 → Y' 0 k = Y 0 k
theorem QY_st (Y : MM) : QY Y (stM Y 0 0 0) := ⟨fun c h _ => st_cell h, fun k hk => st_k hk⟩
theorem QY_k {Y1 K : MM} (h : QY Y Y1) (hK : ∀ c, c < 6 ∨ 16 < c → K c = Y1 c) : QY Y K := ⟨fun c h1 h2 => by rw [hK c h2, h.1 c h1 h2], fun k hk => by rw [hK 0 (by decide), h.2 k hk]⟩
/-- a query that needs the plan -/
theorem q_plan (hV : ValS Y) (hS : xS X Y 0) (h : PN X Y 0 0) : ∃ K, fX5_plans (stM Y 0 0 0) = some K ∧ PL X K 0 0 ∧ QY Y K ∧ K 1 = Y 1 := by
  have h1 : (stM Y 0 0 0) 1 = Y 1 := st_cell (by decide)
  obtain ⟨K, a1, a2, a3⟩ := plan_now (ValS_1 h1 hV) (xS_1 h1 hS) (by decide) (by decide) (PN_1 h1 h)
  exact ⟨K, a1, a2, QY_k (QY_st Y) a3, by rw [a3 1 (by decide), h1]⟩
end SM
