/-! THE START: two new objects -/
theorem m0_make : fX2_make 0 0 M0X = some (stM (stM M0X (55 + 6 * 0) 5 0) (55 + 6 * 0) 6 0) := by
  unfold fX2_make
  rw [bnd_s, bnd_s, st_c (by decide), show M0X (5 * 0) 4 = 0 from rfl, show M0X (5 * 0) 5 = 0 from rfl]
  generalize hA : stM (stM M0X (55 + 6 * 0) 5 0) (55 + 6 * 0) 6 0 = A
  have h5 : A (55 + 6 * 0) 5 = 0 := by rw [← hA, st_k (by decide), st_at]
  have h6 : A (55 + 6 * 0) 6 = 0 := by rw [← hA, st_at]
  unfold fX2_sendVansHome fX2_orderByEnds
  rw [fX2_sendVansHome_L2, h6, if_pos (by decide), bnd_s, bnd_s, fX2_orderByEnds_L2, h5, if_pos (by decide), bnd_s, bnd_s, fX2_make_L28, h5, if_pos (by decide), bnd_s, fX2_make_L56, h5, if_pos (by decide), bnd_s]
theorem m0_0 {c k : Nat} (h : ¬ (c < 55 ∧ c % 5 = 1)) : M0X c k = 0 := if_neg h
theorem sim_init : Sim M0X M0Y := by
  have hV : ValS (ofs (M0Y 1)) := by
    refine ⟨?_, ?_, ?_, ?_, ?_, fun v hv => ?_, fun i hi => ?_⟩
    · decide
    · decide
    · decide
    · decide
    · decide
    · have hv : (v : Int) < 0 := hv
      omega
    · have hi : (i : Int) < 0 := hi
      omega
  have hS : xS M0X (ofs (M0Y 1)) 0 := by
    refine ⟨rfl, rfl, rfl, rfl, rfl, fun v k hv _ => ?_, fun v q hv _ => ?_, fun i k hi _ => ?_⟩
    · have hv : (v : Int) < 0 := hv
      omega
    · have hv : (v : Int) < 0 := hv
      omega
    · have hi : (i : Int) < 0 := hi
      omega
  refine ⟨⟨hV, by decide, hS, fun v q _ _ _ => m0_0 (by omega)⟩, ⟨M0X, _, xS_1 (M := ofs (M0Y 1)) rfl hS, m0_make, fun c h1 h2 => ?_⟩, ⟨0, 0, by decide, by decide, rfl, rfl, rfl, fun k hk => by omega⟩, fun j hj => ⟨?_, Or.inl rfl⟩, ⟨rfl, by decide, fun i hi => ?_⟩⟩
  · funext k
    rw [st_e, st_e, m0_0 (by omega)]
    by_cases e1 : c = 55 + 6 * 0 ∧ k = 6
    · rw [if_pos e1]
    · rw [if_neg e1]
      by_cases e2 : c = 55 + 6 * 0 ∧ k = 5
      · rw [if_pos e2]
      · rw [if_neg e2]
  · exact m0_0 (by decide)
  · have hi : (i : Int) < 0 := hi
    omega
theorem RR_M0X : RR M0X := by
  intro c k
  unfold M0X
  by_cases h : c < 55 ∧ c % 5 = 1
  · rw [if_pos h]
    unfold fsM
    by_cases h1 : k = 0
    · rw [if_pos h1]; decide
    · rw [if_neg h1]
      by_cases h2 : k = 1
      · rw [if_pos h2]; decide
      · rw [if_neg h2]; decide
  · rw [if_neg h]; decide
theorem RR_M0Y : RR M0Y := by
  intro c k
  unfold M0Y
  by_cases h : c = 1
  · rw [if_pos h]
    by_cases h1 : k = 0
    · rw [if_pos h1]; decide
    · rw [if_neg h1]
      by_cases h2 : k = 1
      · rw [if_pos h2]; decide
      · rw [if_neg h2]
        by_cases h3 : k = 2
        · rw [if_pos h3]; decide
        · rw [if_neg h3]; decide
  · rw [if_neg h]; decide
