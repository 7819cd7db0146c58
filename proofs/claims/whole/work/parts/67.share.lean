/-! SHARE on both sides: few numbers, tried one by one by the kernel -/
def shX (m n : Int) : Option Int := gd ((FP.fdiv (FP.i2f (J m)) (FP.i2f (J n))) &&& 0x7fffffff ≤ 0x7f800000) (gd ((FP.f2d (FP.fdiv (FP.i2f (J m)) (FP.i2f (J n)))) &&& 0x7fffffffffffffff ≤ 0x7ff0000000000000) (bnd (fX4_bitsOf (FP.f2d (FP.fdiv (FP.i2f (J m)) (FP.i2f (J n)))) 23 127) (fun v6 => some (l2i v6))))
def shY (m n : Int) : Option Int := gd ((FP.fdiv (FP.i2f (J m)) (FP.i2f (J n))) &&& 0x7fffffff ≤ 0x7f800000) (bnd (fJxf58ca_floatToIntBits_5c35a (FP.fdiv (FP.i2f (J m)) (FP.i2f (J n)))) (fun v11 => some v11))
def shOK (m n : Nat) : Bool := match shX m n, shY m n with
  | some a, some b => a == b
  | _, _ => false
theorem sh_all : ∀ n, n < 22 → ∀ m, m < 22 → 0 < n → m ≤ n → shOK m n = true := by decide +kernel
theorem sh_one {m n : Int} (h0 : 0 ≤ m) (h1 : m ≤ n) (h2 : 0 < n) (h3 : n ≤ 21) : ∃ v, shX m n = some v ∧ shY m n = some v := by
  obtain ⟨a, rfl⟩ : ∃ a : Nat, m = a := ⟨m.toNat, by omega⟩
  obtain ⟨b, rfl⟩ : ∃ b : Nat, n = b := ⟨n.toNat, by omega⟩
  have h := sh_all b (by omega) a (by omega) (by omega) (by omega)
  unfold shOK at h
  cases hx : shX a b with
  | none => rw [hx] at h; cases h
  | some u =>
    cases hy : shY a b with
    | none => rw [hx, hy] at h; cases h
    | some v =>
      rw [hx, hy] at h
      exact ⟨u, rfl, by rw [show u = v from by simpa using h]⟩
section QF
variable {X Y : MM}
theorem q_share (hV : ValS Y) (hS : xS X Y 0) (hN : PN X Y 0 0) : ∃ (res : Int) (Y' : MM), fX4_share X = some res ∧ fX5_share Y = some (res, Y') ∧ QY Y Y' := by
  obtain ⟨K, k1, k2, k3, k4⟩ := q_plan hV hS hN
  have hVK : ValS K := k2.1.1
  have hc := hVK.2.2.2.1
  have hS0 : xS X K 0 := k2.1.2.2.1
  have n4 : X (5 * 0) 4 = K 1 3 := hS0.2.2.2.1
  have hb := ycnt_b K 0 1 (K 1 3).toNat 0 0
  unfold fX4_share fX5_share
  rw [bnd_s, k1, bnd_s, rd_n (i := 3) 3 rfl (by decide), bnd_s, n4]
  by_cases h : K 1 3 = 0
  · refine ⟨-6, K, ?_, ?_, k3⟩
    · rw [if_pos h]
    · rw [if_pos h, bnd_s]
  · obtain ⟨v, e1, e2⟩ := sh_one (m := ycnt K 0 1 (K 1 3).toNat 0 0) (n := K 1 3) (by omega) (by omega) (by omega) (by omega)
    refine ⟨v, K, ?_, ?_, k3⟩
    · rw [if_neg h, x_made k2, bnd_s]
      exact e1
    · rw [if_neg h, y_withPromise hVK, bnd_s, bnd_s]
      have e3 := e2
      unfold shY at e3
      rw [e3, bnd_s]
end QF
