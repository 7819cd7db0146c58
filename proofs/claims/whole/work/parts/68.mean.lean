/-! MEANWAY: a double as a datum; its bits by halving and doubling -/
abbrev fv (x : UInt64) : FP.Core.Datum := FP.Core.val64 x
abbrev fb : FP.Core.Fmt := FP.Core.b64
theorem fb_min : FP.Core.Fmt.qmin fb = -1074 := by decide
theorem fb_max : FP.Core.Fmt.qmax fb = 971 := by decide
theorem fb_tails : FP.Core.Fmt.tails fb = 4503599627370496 := by decide
theorem fb_p : (2 : Nat) ^ fb.p = 9007199254740992 := by decide
theorem fits_n {c : Nat} {q : Int} (h1 : 4503599627370496 ≤ c) (h2 : c < 9007199254740992) (h3 : -1074 ≤ q) (h4 : q ≤ 971) : FP.Core.fits fb (.fin false c q) := by
  refine ⟨by rw [fb_p]; exact h2, by rw [fb_min]; exact h3, by rw [fb_max]; exact h4, Or.inr (by rw [fb_tails]; exact h1)⟩
theorem fits_v {x : UInt64} {c : Nat} {q : Int} (h : fv x = .fin false c q) : c < 9007199254740992 ∧ -1074 ≤ q ∧ q ≤ 971 ∧ (q = -1074 ∨ 4503599627370496 ≤ c) := by
  have f := FP.Core.val64_fits x
  rw [show FP.Core.val64 x = .fin false c q from h] at f
  obtain ⟨f1, f2, f3, f4⟩ := f
  rw [show (2 : Nat) ^ FP.Core.b64.p = 9007199254740992 from fb_p] at f1
  rw [show FP.Core.Fmt.qmin FP.Core.b64 = -1074 from fb_min] at f2 f4
  rw [show FP.Core.Fmt.qmax FP.Core.b64 = 971 from fb_max] at f3
  rw [show FP.Core.Fmt.tails FP.Core.b64 = 4503599627370496 from fb_tails] at f4
  exact ⟨f1, f2, f3, f4⟩
theorem gd_n {α : Type} {y : UInt64} (h : fv y ≠ .nan) (k : Option α) : gd (y &&& 0x7fffffffffffffff ≤ 0x7ff0000000000000) k = k := by
  refine gd_s ?_ k
  rw [UInt64.le_iff_toNat_le, FP.Core.mask_toNat]
  exact (FP.Core.ne_nan y).mp h
/-- the order of two numbers that are 0 or more -/
theorem ord_p {c d : Nat} {q r : Int} : FP.Core.order (.fin false c q) (.fin false d r) = some (compare ((c * 2 ^ (q - min q r).toNat : Nat) : Int) ((d * 2 ^ (r - min q r).toNat : Nat) : Int)) := rfl
theorem cmp_lt {a b : Int} (h : a < b) : compare a b = .lt := by
  rw [FP.Core.compare_ite, if_pos h]
theorem cmp_gt {a b : Int} (h : b < a) : compare a b = .gt := by
  rw [FP.Core.compare_ite, if_neg (by omega), if_neg (by omega)]
theorem pow_ge2 {k : Nat} (h : 1 ≤ k) : 2 ≤ 2 ^ k := by
  have := Nat.pow_le_pow_right (n := 2) (by decide) h
  omega
theorem ord_l {c d : Nat} {q r : Int} (h1 : c < 9007199254740992) (h2 : 4503599627370496 ≤ d) (h : q < r) : FP.Core.order (.fin false c q) (.fin false d r) = some .lt := by
  rw [ord_p, show min q r = q by omega, Int.sub_self]
  have h3 : 2 ≤ 2 ^ (r - q).toNat := pow_ge2 (by omega)
  have h4 : d * 2 ≤ d * 2 ^ (r - q).toNat := Nat.mul_le_mul_left d h3
  rw [cmp_lt (by rw [Int.toNat_zero, Nat.pow_zero, Nat.mul_one]; omega)]
theorem ord_g {c d : Nat} {q r : Int} (h1 : 4503599627370496 ≤ c) (h2 : d < 9007199254740992) (h : r < q) : FP.Core.order (.fin false c q) (.fin false d r) = some .gt := by
  rw [ord_p, show min q r = r by omega, Int.sub_self]
  have h3 : 2 ≤ 2 ^ (q - r).toNat := pow_ge2 (by omega)
  have h4 : c * 2 ≤ c * 2 ^ (q - r).toNat := Nat.mul_le_mul_left c h3
  rw [cmp_gt (by rw [Int.toNat_zero, Nat.pow_zero, Nat.mul_one]; omega)]
theorem ord_e {c d : Nat} {q : Int} (h : d ≤ c) : FP.Core.order (.fin false c q) (.fin false d q) = some .gt ∨ FP.Core.order (.fin false c q) (.fin false d q) = some .eq := by
  rw [ord_p, show min q q = q by omega, Int.sub_self, FP.Core.compare_ite, Int.toNat_zero, Nat.pow_zero, Nat.mul_one, Nat.mul_one, if_neg (by omega)]
  by_cases e : (c : Int) = (d : Int)
  · rw [if_pos e]; exact Or.inr rfl
  · rw [if_neg e]; exact Or.inl rfl
theorem fv_2 : fv 4611686018427387904 = .fin false 4503599627370496 (-51) := by decide +kernel
theorem fv_1 : fv FP.dconst1 = .fin false 4503599627370496 (-52) := by decide +kernel
theorem fv_0 : fv FP.dconst0 = .fin false 0 (-1074) := by decide +kernel
section BO
variable {x : UInt64} {c : Nat} {q : Int}
/-- a normal number above 0 -/
def nrm (x : UInt64) (c : Nat) (q : Int) : Prop := fv x = .fin false c q ∧ 4503599627370496 ≤ c
theorem nrm_ne (h : nrm x c q) : fv x ≠ .nan := by rw [h.1]; intro z; cases z
theorem lt2 (h : nrm x c q) (hq : q ≤ -52) : (Op.cmpValue (FP.dcmp x (4611686018427387904 : UInt64)) .l).toInt < 0 := by
  have e : FP.dcmp x 4611686018427387904 = some .lt := by
    show FP.Core.order (fv x) (fv 4611686018427387904) = _
    rw [h.1, fv_2]
    exact ord_l (fits_v h.1).1 (by decide) (by omega)
  rw [e]
  decide
theorem ge2 (h : nrm x c q) (hq : -51 ≤ q) : ¬ (Op.cmpValue (FP.dcmp x (4611686018427387904 : UInt64)) .l).toInt < 0 := by
  have e : FP.dcmp x 4611686018427387904 = some .gt ∨ FP.dcmp x 4611686018427387904 = some .eq := by
    show FP.Core.order (fv x) (fv 4611686018427387904) = _ ∨ FP.Core.order (fv x) (fv 4611686018427387904) = _
    rw [h.1, fv_2]
    by_cases e : q = -51
    · rw [e]; exact ord_e h.2
    · exact Or.inl (ord_g h.2 (by decide) (by omega))
  rcases e with e | e <;> rw [e] <;> decide
theorem lt1 (h : nrm x c q) (hq : q ≤ -53) : ¬ 0 ≤ (Op.cmpValue (FP.dcmp x FP.dconst1) .g).toInt := by
  have e : FP.dcmp x FP.dconst1 = some .lt := by
    show FP.Core.order (fv x) (fv FP.dconst1) = _
    rw [h.1, fv_1]
    exact ord_l (fits_v h.1).1 (by decide) (by omega)
  rw [e]
  decide
theorem ge1 (h : nrm x c q) (hq : -52 ≤ q) : 0 ≤ (Op.cmpValue (FP.dcmp x FP.dconst1) .g).toInt := by
  have e : FP.dcmp x FP.dconst1 = some .gt ∨ FP.dcmp x FP.dconst1 = some .eq := by
    show FP.Core.order (fv x) (fv FP.dconst1) = _ ∨ FP.Core.order (fv x) (fv FP.dconst1) = _
    rw [h.1, fv_1]
    by_cases e : q = -52
    · rw [e]; exact ord_e h.2
    · exact Or.inl (ord_g h.2 (by decide) (by omega))
  rcases e with e | e <;> rw [e] <;> decide
theorem gt0 (h : nrm x c q) : 0 < (Op.cmpValue (FP.dcmp x FP.dconst0) .g).toInt := by
  have e : FP.dcmp x FP.dconst0 = some .gt := by
    show FP.Core.order (fv x) (fv FP.dconst0) = _
    have f := fits_v h.1
    rw [h.1, fv_0, ord_p, show min q (-1074) = -1074 by omega, Nat.zero_mul]
    have h3 := Nat.two_pow_pos (q - -1074).toNat
    have h4 : c * 1 ≤ c * 2 ^ (q - -1074).toNat := Nat.mul_le_mul_left c h3
    have h5 := h.2
    rw [cmp_gt (by omega)]
  rw [e]
  decide
theorem half (h : nrm x c q) (hq : -51 ≤ q) : nrm (FP.ddiv x (4611686018427387904 : UInt64)) c (q - 1) := by
  have f := fits_v h.1
  refine ⟨?_, h.2⟩
  show FP.Core.val64 (FP.Core.ddiv x 4611686018427387904) = _
  rw [FP.Core.val64_ddiv, show FP.Core.val64 x = .fin false c q from h.1, show FP.Core.val64 4611686018427387904 = .fin false 4503599627370496 (-51) from fv_2]
  show (if (4503599627370496 : Nat) = 0 then (if c = 0 then FP.Core.Datum.nan else .inf (false != false)) else FP.Core.roundRatio fb (false != false) c 4503599627370496 (q - -51)) = _
  rw [if_neg (by decide)]
  refine FP.Core.roundRatio_exact FP.Core.good_b64 (by decide) (fits_n h.2 f.1 (by omega) (by omega)) ?_
  rw [show (q - -51 - (q - 1)).toNat = 52 by omega, show (q - 1 - (q - -51)).toNat = 0 by omega, Nat.pow_zero, Nat.mul_one]
theorem dbl (h : nrm x c q) (hq : q ≤ -53) : nrm (FP.dmul x (4611686018427387904 : UInt64)) c (q + 1) := by
  have f := fits_v h.1
  refine ⟨?_, h.2⟩
  show FP.Core.val64 (FP.Core.dmul x 4611686018427387904) = _
  rw [FP.Core.val64_dmul, show FP.Core.val64 x = .fin false c q from h.1, show FP.Core.val64 4611686018427387904 = .fin false 4503599627370496 (-51) from fv_2]
  show FP.Core.roundRatio fb (false != false) (c * 4503599627370496) 1 (q + -51) = _
  refine FP.Core.roundRatio_exact FP.Core.good_b64 (by decide) (fits_n h.2 f.1 (by omega) (by omega)) ?_
  rw [show (q + -51 - (q + 1)).toNat = 0 by omega, show (q + 1 - (q + -51)).toNat = 52 by omega, Nat.pow_zero, Nat.mul_one, Nat.mul_one]
end BO
theorem b_L14 : ∀ (j n : Nat) (x : UInt64) (c : Nat) (q : Int) (E : Int), q = -52 + (j : Int) → nrm x c q → j < n → 0 ≤ E → E + j ≤ 2046 → ∃ x', fX4_bitsOf_L14 n 52 1023 x E = some (x', E + j) ∧ nrm x' c (-52) := by
  intro j
  induction j with
  | zero =>
    intro n x c q E hq h hn h0 hE
    obtain ⟨n, rfl⟩ : ∃ k, n = k + 1 := ⟨n - 1, by omega⟩
    have e : q = -52 := by omega
    subst e
    refine ⟨x, ?_, h⟩
    rw [fX4_bitsOf_L14, if_pos (lt2 h (by decide))]
    rw [Int.natCast_zero, Int.add_zero]
  | succ j ih =>
    intro n x c q E hq h hn h0 hE
    obtain ⟨n, rfl⟩ : ∃ k, n = k + 1 := ⟨n - 1, by omega⟩
    have h2 := half h (by omega)
    obtain ⟨x', a1, a2⟩ := ih n _ c (q - 1) (E + 1) (by omega) h2 (by omega) (by omega) (by omega)
    refine ⟨x', ?_, a2⟩
    rw [fX4_bitsOf_L14, if_neg (ge2 h (by omega)), gd_R (by decide) (by decide), if_neg (by omega), gd_n (nrm_ne h2), gd_R (by omega) (by omega), a1, show E + 1 + (j : Int) = E + ((j + 1 : Nat) : Int) by omega]
theorem b_L45 : ∀ (j n : Nat) (x : UInt64) (c : Nat) (q : Int) (E : Int), q = -52 - (j : Int) → nrm x c q → j < n → 1 ≤ E - j → E ≤ 3000 → ∃ x', fX4_bitsOf_L45 n 52 x E = some (x', E - j) ∧ nrm x' c (-52) := by
  intro j
  induction j with
  | zero =>
    intro n x c q E hq h hn h0 hE
    obtain ⟨n, rfl⟩ : ∃ k, n = k + 1 := ⟨n - 1, by omega⟩
    have e : q = -52 := by omega
    subst e
    refine ⟨x, ?_, h⟩
    rw [fX4_bitsOf_L45, if_pos (ge1 h (by decide)), Int.natCast_zero, Int.sub_zero]
  | succ j ih =>
    intro n x c q E hq h hn h0 hE
    obtain ⟨n, rfl⟩ : ∃ k, n = k + 1 := ⟨n - 1, by omega⟩
    have h2 := dbl h (by omega)
    obtain ⟨x', a1, a2⟩ := ih n _ c (q + 1) (E + -1) (by omega) h2 (by omega) (by omega) (by omega)
    refine ⟨x', ?_, a2⟩
    rw [fX4_bitsOf_L45, if_neg (lt1 h (by omega)), if_neg (by omega), gd_n (nrm_ne h2), gd_R (by omega) (by omega), a1, show E + -1 - (j : Int) = E - ((j + 1 : Nat) : Int) by omega]
/-- a whole number as it is written with 53 digits -/
theorem nf {t : Nat} (h0 : 0 < t) (h : t < 9007199254740992) {q : Int} (hq1 : -900 ≤ q) (hq2 : q ≤ 900) : ∃ k : Nat, k ≤ 52 ∧ 4503599627370496 ≤ t * 2 ^ k ∧ t * 2 ^ k < 9007199254740992 ∧ FP.Core.roundRatio fb false t 1 q = .fin false (t * 2 ^ k) (q - k) := by
  have l1 : 2 ^ t.log2 ≤ t := Nat.log2_self_le (by omega)
  have l2 : t < 2 ^ (t.log2 + 1) := Nat.lt_log2_self
  have l3 : t.log2 < 53 := (Nat.pow_lt_pow_iff_right (a := 2) (by decide)).mp (Nat.lt_of_le_of_lt l1 h)
  generalize t.log2 = L at l1 l2 l3
  have e1 : 4503599627370496 ≤ t * 2 ^ (52 - L) := by
    have := Nat.mul_le_mul_right (2 ^ (52 - L)) l1
    rw [← Nat.pow_add, show L + (52 - L) = 52 by omega] at this
    exact this
  have e2 : t * 2 ^ (52 - L) < 9007199254740992 := by
    have := Nat.mul_lt_mul_of_pos_right l2 (Nat.two_pow_pos (52 - L))
    rw [← Nat.pow_add, show L + 1 + (52 - L) = 53 by omega] at this
    exact this
  refine ⟨52 - L, by omega, e1, e2, FP.Core.roundRatio_exact FP.Core.good_b64 (by decide) (fits_n e1 e2 (by omega) (by omega)) ?_⟩
  rw [show (q - (q - ((52 - L : Nat) : Int))).toNat = 52 - L by omega, show (q - ((52 - L : Nat) : Int) - q).toNat = 0 by omega, Nat.pow_zero, Nat.mul_one, Nat.mul_one]
theorem round_0 (q : Int) : FP.Core.roundRatio fb false 0 1 q = .fin false 0 (-1074) := by
  unfold FP.Core.roundRatio
  rw [if_pos rfl]
  rw [fb_min]
