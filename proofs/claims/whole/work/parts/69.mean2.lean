/-! MEANWAY: the bits of a double that is 0 or more; what is left of it by 1 -/
theorem g_or {k p a b : Nat} (hp : 2 ^ k = p) (ha : a < p) (h : b * p + a < 2 ^ 64) : lN (b * p) ||| lN a = lN (b * p + a) := by
  subst hp
  rw [wb_or (Nat.lt_of_le_of_lt (Nat.le_add_right _ _) h) (Nat.lt_of_le_of_lt (Nat.le_add_left _ _) h), Nat.mul_comm b, ← Nat.two_pow_add_eq_or_of_lt ha b]
theorem fin_ne {s : Bool} {c : Nat} {q : Int} : FP.Core.Datum.fin s c q ≠ .nan := by
  intro z
  cases z
theorem lt_R : ∀ e : Nat, e < 2048 → lshl (i2l (e : Int)) 52 = lN (e * 4503599627370496) := by decide +kernel
theorem l_52 : lshl (1 : Int64) 52 = lN 4503599627370496 := by decide +kernel
theorem fv_52 : fv (FP.l2d (lN 4503599627370496)) = .fin false 4503599627370496 0 := by decide +kernel
theorem nrm_bits {x : UInt64} {c : Nat} {q : Int} (h : nrm x c q) : x.toInt64 = lN ((q + 1075).toNat * 4503599627370496 + (c - 4503599627370496)) := by
  have f := fits_v h.1
  have e := FP.Core.of64_val64 (nrm_ne h)
  rw [show FP.Core.val64 x = .fin false c q from h.1] at e
  rw [← e]
  unfold FP.Core.of64 FP.Core.encode
  show (UInt64.ofNat (if c < FP.Core.Fmt.tails fb then FP.Core.assemble fb false 0 c else FP.Core.assemble fb false ((q - FP.Core.Fmt.qmin fb).toNat + 1) (c - FP.Core.Fmt.tails fb))).toInt64 = _
  rw [fb_tails, fb_min, if_neg (by have := h.2; omega)]
  unfold FP.Core.assemble
  rw [fb_tails, show (q - -1074).toNat + 1 = (q + 1075).toNat by omega, show (false : Bool).toNat = 0 from rfl, Nat.zero_mul, Nat.zero_add]
  rfl
theorem sub_gen {x z : UInt64} {c d r : Nat} {q p : Int} (hx : fv x = .fin false c q) (hz : fv z = .fin false d p) (h : c * 2 ^ (q - min q p).toNat = d * 2 ^ (p - min q p).toNat + r) : fv (FP.dsub x z) = FP.Core.roundRatio fb false r 1 (min q p) := by
  show FP.Core.val64 (FP.Core.dsub x z) = _
  rw [FP.Core.val64_dsub, show FP.Core.val64 x = .fin false c q from hx, show FP.Core.val64 z = .fin false d p from hz]
  have hv : FP.Core.sumUnits false c q true d p (min q p) = (r : Int) := by
    show ((c * 2 ^ (q - min q p).toNat : Nat) : Int) + -((d * 2 ^ (p - min q p).toNat : Nat) : Int) = r
    rw [h]
    omega
  show FP.Core.roundRatio fb (FP.Core.sumSign false true (FP.Core.sumUnits false c q true d p (min q p))) (FP.Core.sumUnits false c q true d p (min q p)).natAbs 1 (min q p) = _
  rw [hv, Int.natAbs_natCast]
  have hs : FP.Core.sumSign false true (r : Int) = false := by
    unfold FP.Core.sumSign
    by_cases h0 : (r : Int) = 0
    · rw [if_pos h0]; rfl
    · rw [if_neg h0]
      exact decide_eq_false (by omega)
  rw [hs]
theorem toL_n {y : UInt64} {c : Nat} {q : Int} {t : Nat} (h : fv y = .fin false c q) (ht : c * 2 ^ q.toNat / 2 ^ (-q).toNat = t) (hb : t < 9007199254740992) : FP.d2l y = lN t := by
  show FP.Core.toL (FP.Core.val64 y) = _
  rw [show FP.Core.val64 y = .fin false c q from h]
  show Int64.ofInt (max (-2 ^ 63) (min (2 ^ 63 - 1) ((c * 2 ^ q.toNat / 2 ^ (-q).toNat : Nat) : Int))) = _
  rw [ht, show max (-2 ^ 63 : Int) (min (2 ^ 63 - 1) (t : Int)) = (t : Int) by omega]
  first | rfl | exact Int64.ofInt_eq_ofNat
/-- the fraction, made whole -/
theorem frac_n {x : UInt64} {c : Nat} (h : nrm x c (-52)) : fv (FP.dsub x FP.dconst1) ≠ .nan ∧ fv (FP.dmul (FP.dsub x FP.dconst1) (FP.l2d (lN 4503599627370496))) ≠ .nan ∧ FP.d2l (FP.dmul (FP.dsub x FP.dconst1) (FP.l2d (lN 4503599627370496))) = lN (c - 4503599627370496) := by
  have f := fits_v h.1
  have h2 := h.2
  have e1 := sub_gen (r := c - 4503599627370496) h.1 fv_1 (by
    rw [show (-52 - min (-52) (-52) : Int).toNat = 0 by decide, Nat.pow_zero, Nat.mul_one, Nat.mul_one]
    omega)
  rw [show min (-52 : Int) (-52) = -52 by decide] at e1
  generalize FP.dsub x FP.dconst1 = y at e1 ⊢
  by_cases h0 : c - 4503599627370496 = 0
  · rw [h0] at e1 ⊢
    rw [round_0] at e1
    have e2 : fv (FP.dmul y (FP.l2d (lN 4503599627370496))) = .fin false 0 (-1074) := by
      show FP.Core.val64 (FP.Core.dmul y _) = _
      rw [FP.Core.val64_dmul, show FP.Core.val64 y = _ from e1, show FP.Core.val64 _ = _ from fv_52]
      show FP.Core.roundRatio fb false (0 * 4503599627370496) 1 (-1074 + 0) = _
      rw [Nat.zero_mul]
      exact round_0 _
    refine ⟨by rw [e1]; exact fin_ne, by rw [e2]; exact fin_ne, toL_n e2 ?_ (by decide)⟩
    rw [Nat.zero_mul, Nat.zero_div]
  · obtain ⟨k, k1, k2, k3, k4⟩ := nf (t := c - 4503599627370496) (by omega) (by omega) (q := -52) (by decide) (by decide)
    rw [k4] at e1
    have e2 : fv (FP.dmul y (FP.l2d (lN 4503599627370496))) = .fin false ((c - 4503599627370496) * 2 ^ k) (-(k : Int)) := by
      show FP.Core.val64 (FP.Core.dmul y _) = _
      rw [FP.Core.val64_dmul, show FP.Core.val64 y = _ from e1, show FP.Core.val64 _ = _ from fv_52]
      show FP.Core.roundRatio fb false ((c - 4503599627370496) * 2 ^ k * 4503599627370496) 1 (-52 - (k : Int) + 0) = _
      refine FP.Core.roundRatio_exact FP.Core.good_b64 (by decide) (fits_n k2 k3 (by omega) (by omega)) ?_
      rw [show (-52 - (k : Int) + 0 - -(k : Int)).toNat = 0 by omega, show (-(k : Int) - (-52 - (k : Int) + 0)).toNat = 52 by omega, Nat.pow_zero, Nat.mul_one, Nat.mul_one]
    refine ⟨by rw [e1]; exact fin_ne, by rw [e2]; exact fin_ne, toL_n e2 ?_ (by omega)⟩
    rw [show (-(k : Int)).toNat = 0 by omega, show (- -(k : Int)).toNat = k by omega, Nat.pow_zero, Nat.mul_one, Nat.mul_div_cancel _ (Nat.two_pow_pos k)]
theorem bitsOf_n {x : UInt64} {c : Nat} {q : Int} (h : nrm x c q) : fX4_bitsOf x 52 1023 = some x.toInt64 := by
  have f := fits_v h.1
  have hl : ∃ x1, nrm x1 c (-52) ∧ bnd2 (fX4_bitsOf_L14 4000 52 1023 x 1023) (fun a b => fX4_bitsOf_L45 4000 52 a b) = some (x1, (((q + 1075).toNat : Nat) : Int)) := by
    by_cases hq : -52 ≤ q
    · obtain ⟨x1, a1, a2⟩ := b_L14 (q + 52).toNat 4000 x c q 1023 (by omega) h (by omega) (by omega) (by omega)
      obtain ⟨x2, b1, b2⟩ := b_L45 0 4000 x1 c (-52) (1023 + ((q + 52).toNat : Int)) (by omega) a2 (by omega) (by omega) (by omega)
      refine ⟨x2, b2, ?_⟩
      rw [a1, bnd2_s, b1, show (1023 + ((q + 52).toNat : Int) - ((0 : Nat) : Int)) = (((q + 1075).toNat : Nat) : Int) by omega]
    · have a1 : fX4_bitsOf_L14 4000 52 1023 x 1023 = some (x, 1023) := by rw [fX4_bitsOf_L14, if_pos (lt2 h (by omega))]
      obtain ⟨x2, b1, b2⟩ := b_L45 (-52 - q).toNat 4000 x c q 1023 (by omega) h (by omega) (by omega) (by omega)
      refine ⟨x2, b2, ?_⟩
      rw [a1, bnd2_s, b1, show (1023 - (((-52 - q).toNat : Nat) : Int)) = (((q + 1075).toNat : Nat) : Int) by omega]
  obtain ⟨x1, n1, e1⟩ := hl
  obtain ⟨w1, w2, w3⟩ := frac_n n1
  have c1 := (fits_v n1.1).1
  have c2 := n1.2
  unfold fX4_bitsOf
  rw [if_pos (gt0 h)]
  obtain ⟨p, p1, p2⟩ := bnd_some e1
  have p2 : fX4_bitsOf_L45 4000 52 p.1 p.2 = some (x1, (((q + 1075).toNat : Nat) : Int)) := p2
  rw [p1]
  show bnd2 (some (p.1, p.2)) _ = _
  rw [bnd2_s, p2, bnd2_s, l_52, gd_n w1, gd_n w2, w3, lt_R _ (by omega), g_or (k := 52) rfl (by omega) (by omega), ← nrm_bits h]
theorem bitsOf_0 : fX4_bitsOf 0 52 1023 = some 0 := by decide +kernel
/-- 0, or a normal number above it -/
def zon (x : UInt64) : Prop := x = 0 ∨ ∃ c q, nrm x c q
theorem zon_ne {x : UInt64} (h : zon x) : fv x ≠ .nan := by
  rcases h with h | ⟨c, q, h⟩
  · rw [h, show fv 0 = .fin false 0 (-1074) from fv_0]
    exact fin_ne
  · exact nrm_ne h
theorem bitsOf_z {x : UInt64} (h : zon x) : fX4_bitsOf x 52 1023 = some x.toInt64 := by
  rcases h with h | ⟨c, q, h⟩
  · rw [h]; exact bitsOf_0
  · exact bitsOf_n h
theorem toLong_z {x : UInt64} (h : zon x) : fJxe99ae_doubleToLongBits_ccdee x = some x.toInt64 := by
  have e : FP.dcmp x x = some .eq := FP.Core.dcmp_self (zon_ne h)
  unfold fJxe99ae_doubleToLongBits_ccdee fJxe99ae_isNaN_b9ae7
  rw [e, if_pos (by decide), bnd_s, gd_s (Or.inl rfl), bnd_s, if_pos rfl]
/-- a rounded number that is 0 or of less than 53 digits -/
theorem zon_r {x : UInt64} {t : Nat} {q : Int} (h : fv x = FP.Core.roundRatio fb false t 1 q) (ht : t < 9007199254740992) (h1 : -900 ≤ q) (h2 : q ≤ 900) : zon x := by
  by_cases h0 : t = 0
  · subst h0
    rw [round_0] at h
    refine Or.inl (FP.Core.val64_inj (b := FP.dconst0) ?_ ?_)
    · rw [show FP.Core.val64 x = _ from h]
      exact fin_ne
    · exact h.trans fv_0.symm
  · obtain ⟨k, k1, k2, k3, k4⟩ := nf (t := t) (by omega) ht h1 h2
    exact Or.inr ⟨_, _, h.trans k4, k2⟩
/-- what a division by 1 leaves, told in two ways -/
theorem rem_sub {x : UInt64} {c s : Nat} (h : nrm x c (-(s : Int))) (h1 : 20 ≤ s) (h2 : s ≤ 60) : FP.dsub x (FP.l2d (FP.d2l x)) = FP.drem x FP.dconst1 ∧ zon (FP.drem x FP.dconst1) := by
  have f := fits_v h.1
  have hs := Nat.two_pow_pos s
  have hlt : c % 2 ^ s < 9007199254740992 := Nat.lt_of_le_of_lt (Nat.mod_le _ _) f.1
  have er : fv (FP.drem x FP.dconst1) = FP.Core.roundRatio fb false (c % 2 ^ s) 1 (-(s : Int)) := by
    show FP.Core.val64 (FP.Core.drem x FP.dconst1) = _
    rw [FP.Core.val64_drem, show FP.Core.val64 x = _ from h.1, show FP.Core.val64 FP.dconst1 = _ from fv_1]
    show FP.Core.roundRatio fb false ((c * 2 ^ (-(s : Int) - min (-(s : Int)) (-52)).toNat) % (4503599627370496 * 2 ^ (-52 - min (-(s : Int)) (-52)).toNat)) 1 (min (-(s : Int)) (-52)) = _
    refine FP.Core.roundRatio_congr (by decide) (by decide) ?_
    rw [show (min (-(s : Int)) (-52) - -(s : Int)).toNat = 0 by omega, Nat.pow_zero, Nat.mul_one, Nat.mul_one, Nat.mul_one]
    have e : 4503599627370496 * 2 ^ (-52 - min (-(s : Int)) (-52)).toNat = 2 ^ s * 2 ^ (-(s : Int) - min (-(s : Int)) (-52)).toNat := by
      rw [show (4503599627370496 : Nat) = 2 ^ 52 from rfl, ← Nat.pow_add, ← Nat.pow_add]
      congr 1
      omega
    rw [e, Nat.mul_mod_mul_right]
  have hT : c / 2 ^ s < 9007199254740992 := Nat.lt_of_le_of_lt (Nat.div_le_self _ _) f.1
  have eT : FP.d2l x = lN (c / 2 ^ s) := toL_n h.1 (by rw [show (-(s : Int)).toNat = 0 by omega, show (- -(s : Int)).toNat = s by omega, Nat.pow_zero, Nat.mul_one]) hT
  have hl : ∃ (d : Nat) (p : Int), fv (FP.l2d (lN (c / 2 ^ s))) = .fin false d p ∧ c / 2 ^ s * 2 ^ (s + (-(s : Int) - min (-(s : Int)) p).toNat) = d * 2 ^ (p - min (-(s : Int)) p).toNat ∧ -1074 ≤ p ∧ p ≤ 0 := by
    have e0 : fv (FP.l2d (lN (c / 2 ^ s))) = FP.Core.roundRatio fb false (c / 2 ^ s) 1 0 := by
      show FP.Core.val64 (FP.Core.l2d _) = _
      rw [FP.Core.val64_l2d, show (lN (c / 2 ^ s)).toInt = ((c / 2 ^ s : Nat) : Int) from lg_ofNat_toInt (by omega)]
      show FP.Core.roundRatio fb (decide (((c / 2 ^ s : Nat) : Int) < 0)) ((c / 2 ^ s : Nat) : Int).natAbs 1 0 = _
      rw [decide_eq_false (Int.not_lt.mpr (Int.natCast_nonneg _)), Int.natAbs_natCast]
    by_cases h0 : c / 2 ^ s = 0
    · rw [h0] at e0 ⊢
      rw [round_0] at e0
      exact ⟨0, -1074, e0, by rw [Nat.zero_mul, Nat.zero_mul], by decide, by decide⟩
    · obtain ⟨k, k1, k2, k3, k4⟩ := nf (t := c / 2 ^ s) (Nat.pos_of_ne_zero h0) hT (q := 0) (by decide) (by decide)
      refine ⟨_, _, e0.trans k4, ?_, by omega, by omega⟩
      rw [Nat.mul_assoc, ← Nat.pow_add]
      congr 2
      omega
  obtain ⟨d, p, d1, d2, d3, d4⟩ := hl
  have hdm := Nat.div_add_mod c (2 ^ s)
  have es := sub_gen (r := c % 2 ^ s * 2 ^ (-(s : Int) - min (-(s : Int)) p).toNat) h.1 d1 (by
    rw [← d2, Nat.pow_add, ← Nat.mul_assoc, ← Nat.add_mul, Nat.mul_comm (c / 2 ^ s), hdm])
  have er2 : FP.Core.roundRatio fb false (c % 2 ^ s * 2 ^ (-(s : Int) - min (-(s : Int)) p).toNat) 1 (min (-(s : Int)) p) = FP.Core.roundRatio fb false (c % 2 ^ s) 1 (-(s : Int)) := by
    refine FP.Core.roundRatio_congr (by decide) (by decide) ?_
    rw [show (min (-(s : Int)) p - -(s : Int)).toNat = 0 by omega, Nat.pow_zero, Nat.mul_one, Nat.mul_one, Nat.mul_one]
  have hz := zon_r er hlt (by omega) (by omega)
  refine ⟨?_, hz⟩
  rw [eT]
  refine (FP.Core.val64_inj (zon_ne hz) ?_).symm
  exact er.trans (es.trans er2).symm
/-- a mean of whole numbers -/
theorem i2d_v {a : Nat} (h : a < 2147483648) : fv (FP.i2d (J a)) = FP.Core.roundRatio fb false a 1 0 := by
  show FP.Core.val64 (FP.Core.i2d _) = _
  rw [FP.Core.val64_i2d, J_toInt ⟨by omega, by omega⟩]
  show FP.Core.roundRatio fb (decide ((a : Int) < 0)) (a : Int).natAbs 1 0 = _
  rw [decide_eq_false (by omega), Int.natAbs_natCast]
theorem mean_v {a b : Nat} (ha : a < 2147483648) (hb0 : 0 < b) (hb : b < 2147483648) : fv (FP.ddiv (FP.i2d (J a)) (FP.i2d (J b))) = FP.Core.roundRatio fb false a b 0 := by
  have e1 := i2d_v ha
  have e2 := i2d_v hb
  obtain ⟨k, k1, k2, k3, k4⟩ := nf (t := b) hb0 (by omega) (q := 0) (by decide) (by decide)
  rw [k4] at e2
  show FP.Core.val64 (FP.Core.ddiv _ _) = _
  rw [FP.Core.val64_ddiv, show FP.Core.val64 _ = _ from e2]
  by_cases h0 : a = 0
  · subst h0
    rw [round_0] at e1
    rw [show FP.Core.val64 _ = _ from e1]
    show (if b * 2 ^ k = 0 then (if 0 = 0 then FP.Core.Datum.nan else .inf (false != false)) else FP.Core.roundRatio fb false 0 (b * 2 ^ k) _) = _
    rw [if_neg (by omega)]
    unfold FP.Core.roundRatio
    rw [if_pos rfl, if_pos rfl]
  · obtain ⟨j, j1, j2, j3, j4⟩ := nf (t := a) (by omega) (by omega) (q := 0) (by decide) (by decide)
    rw [j4] at e1
    rw [show FP.Core.val64 _ = _ from e1]
    show (if b * 2 ^ k = 0 then (if a * 2 ^ j = 0 then FP.Core.Datum.nan else .inf (false != false)) else FP.Core.roundRatio fb false (a * 2 ^ j) (b * 2 ^ k) (0 - (j : Int) - (0 - (k : Int)))) = _
    rw [if_neg (by omega)]
    refine FP.Core.roundRatio_congr (Nat.mul_pos hb0 (Nat.two_pow_pos k)) hb0 ?_
    rw [Nat.mul_assoc a, Nat.mul_comm (2 ^ j), ← Nat.mul_assoc, Nat.mul_assoc (a * b), ← Nat.pow_add, ← Nat.mul_assoc a b, Nat.mul_assoc (a * b), ← Nat.pow_add]
    congr 2
    omega
theorem log_lt {a k : Nat} (h0 : 0 < a) (h : a < 2 ^ k) : a.log2 < k := by
  have l1 : 2 ^ a.log2 ≤ a := Nat.log2_self_le (by omega)
  exact (Nat.pow_lt_pow_iff_right (a := 2) (by decide)).mp (Nat.lt_of_le_of_lt l1 h)
theorem mean_z {a b : Nat} (ha : a < 2147483648) (hb0 : 0 < b) (hb : b < 32) : FP.ddiv (FP.i2d (J a)) (FP.i2d (J b)) = 0 ∨ ∃ c s : Nat, 20 ≤ s ∧ s ≤ 60 ∧ nrm (FP.ddiv (FP.i2d (J a)) (FP.i2d (J b))) c (-(s : Int)) := by
  have e := mean_v ha hb0 (show b < 2147483648 by omega)
  generalize FP.ddiv (FP.i2d (J a)) (FP.i2d (J b)) = x at e ⊢
  by_cases h0 : a = 0
  · subst h0
    left
    have e2 : FP.Core.roundRatio fb false 0 b 0 = .fin false 0 (-1074) := by
      unfold FP.Core.roundRatio
      rw [if_pos rfl, fb_min]
    rw [e2] at e
    refine FP.Core.val64_inj (b := FP.dconst0) ?_ (e.trans fv_0.symm)
    rw [show FP.Core.val64 x = _ from e]
    exact fin_ne
  · right
    have la := log_lt (k := 31) (by omega) (show a < 2 ^ 31 from ha)
    have lb := log_lt (k := 5) hb0 (show b < 2 ^ 5 from hb)
    have hl : -6 ≤ FP.Core.leading a b ∧ FP.Core.leading a b ≤ 30 := by
      unfold FP.Core.leading
      dsimp only
      split <;> omega
    have hq : FP.Core.quantum fb a b 0 = FP.Core.leading a b - 52 := by
      unfold FP.Core.quantum
      rw [fb_min, show ((fb.p : Nat) : Int) = 53 by decide]
      omega
    unfold FP.Core.roundRatio FP.Core.roundAt FP.Core.settle FP.Core.bound at e
    rw [if_neg h0, hq, fb_max] at e
    generalize FP.Core.nearest _ _ = m at e
    have hsh : ∃ c s : Nat, 20 ≤ s ∧ s ≤ 60 ∧ fv x = .fin false c (-(s : Int)) := by
      by_cases hm : m < 2 ^ fb.p
      · rw [if_pos hm, if_pos (by omega)] at e
        exact ⟨m, (52 - FP.Core.leading a b).toNat, by omega, by omega, by rw [e, show FP.Core.leading a b - 52 = -(((52 - FP.Core.leading a b).toNat : Nat) : Int) by omega]⟩
      · rw [if_neg hm, if_pos (by omega)] at e
        exact ⟨_, (51 - FP.Core.leading a b).toNat, by omega, by omega, by rw [e, show FP.Core.leading a b - 52 + 1 = -(((51 - FP.Core.leading a b).toNat : Nat) : Int) by omega]⟩
    obtain ⟨c, s, s1, s2, s3⟩ := hsh
    have f := fits_v s3
    exact ⟨c, s, s1, s2, s3, by omega⟩
theorem fr_0 : FP.dsub 0 (FP.l2d (FP.d2l 0)) = FP.drem 0 FP.dconst1 ∧ FP.drem 0 FP.dconst1 = 0 := by decide +kernel
section QM
variable {X Y : MM}
theorem q_meanWay (hV : ValS Y) (hS : xS X Y 0) (hN : PN X Y 0 0) (w : Int) : ∃ (res : Int64) (Y' : MM), fX4_meanWay w X = some res ∧ fX5_meanWay w Y = some (res, Y') ∧ QY Y Y' := by
  obtain ⟨K, k1, k2, k3, k4⟩ := q_plan hV hS hN
  have hVK : ValS K := k2.1.1
  have hRK : RunS K 100 := k2.1.2.1
  have hc := hVK.2.2.2.1
  have hb := ycnt_b K 0 1 (K 1 3).toNat 0 0
  obtain ⟨xs1, xs2⟩ := x_sum k2 (f := 1) (c := 15) (Or.inl ⟨rfl, rfl⟩)
  have ys := y_over hVK hRK (a := 8) (c := 15) (Or.inl ⟨rfl, rfl⟩)
  have xm := x_made k2
  have ym := y_withPromise hVK 0 1
  have one : ¬ (1 : Int) = 0 := by decide
  unfold fX4_meanWay fX5_meanWay
  by_cases h : 0 ≤ w ∧ w ≤ 1
  · rw [show fX2_sumOverVans 0 1 X = _ from xs1, xm, bnd_s, bnd_s, bnd_s, p_in, bnd_s, if_pos h, if_neg one, k1, bnd_s, ym, bnd_s, ys, bnd_s]
    by_cases hm : ycnt K 0 1 (K 1 3).toNat 0 0 = 0
    · refine ⟨0, K, ?_, ?_, k3⟩
      · rcases (show w = 0 ∨ w = 1 by omega) with rfl | rfl
        · rw [if_pos rfl, if_pos hm]
        · rw [if_neg one, if_pos rfl, if_pos hm]
      · rw [if_pos hm]
    · obtain ⟨b, hb2⟩ : ∃ b : Nat, ycnt K 0 1 (K 1 3).toNat 0 0 = b := ⟨(ycnt K 0 1 (K 1 3).toNat 0 0).toNat, by omega⟩
      obtain ⟨a, ha⟩ : ∃ a : Nat, ysum K 15 (K 1 4).toNat 0 0 = a := ⟨(ysum K 15 (K 1 4).toNat 0 0).toNat, by omega⟩
      rw [hb2] at hm hb
      rw [ha] at xs2
      rw [hb2, ha]
      have hz := mean_z (a := a) (b := b) (by omega) (by omega) (by omega)
      generalize FP.ddiv (FP.i2d (J a)) (FP.i2d (J b)) = x at hz ⊢
      have hx : zon x := hz.imp id (fun ⟨c, s, _, _, n⟩ => ⟨c, _, n⟩)
      have hr : FP.dsub x (FP.l2d (FP.d2l x)) = FP.drem x FP.dconst1 ∧ zon (FP.drem x FP.dconst1) := by
        rcases hz with rfl | ⟨c, s, s1, s2, n⟩
        · exact ⟨fr_0.1, Or.inl fr_0.2⟩
        · exact rem_sub n s1 s2
      rcases (show w = 0 ∨ w = 1 by omega) with rfl | rfl
      · refine ⟨x.toInt64, K, ?_, ?_, k3⟩
        · rw [if_pos rfl, if_neg hm, gd_n (zon_ne hx), if_pos rfl, bnd_s, bitsOf_z hx, bnd_s]
        · rw [if_neg hm, gd_n (zon_ne hx), if_pos rfl, bnd_s, toLong_z hx, bnd_s]
      · refine ⟨(FP.drem x FP.dconst1).toInt64, K, ?_, ?_, k3⟩
        · rw [if_neg one, if_pos rfl, if_neg hm, gd_n (zon_ne hx), if_neg one, hr.1, gd_n (zon_ne hr.2), bnd_s, bitsOf_z hr.2, bnd_s]
        · rw [if_neg hm, gd_n (zon_ne hx), if_neg one, gd_n (zon_ne hr.2), bnd_s, toLong_z hr.2, bnd_s]
  · refine ⟨-2, stM Y 0 0 0, ?_, ?_, QY_st Y⟩
    · rw [if_neg (by omega), if_neg (by omega)]
    · rw [bnd_s, p_in, bnd_s, if_neg h, if_pos rfl]
end QM
