/-! THE BASE: numbers as Int, a memory of cells, the two worlds, rows of the machine over them -/
abbrev MM : Type := Nat → Nat → Int
def J (x : Int) : Int32 := Int32.ofInt x
abbrev inR (x : Int) : Prop := -2147483648 ≤ x ∧ x ≤ 2147483647
theorem J_add (x y : Int) : J x + J y = J (x + y) := (Int32.ofInt_add x y).symm
theorem J_sub (x y : Int) : J x - J y = J (x - y) := (Int32.ofInt_sub x y).symm
theorem J_mul (x y : Int) : J x * J y = J (x * y) := (Int32.ofInt_mul x y).symm
theorem J_neg (x : Int) : - J x = J (- x) := (Int32.ofInt_neg x).symm
theorem J_toInt {x : Int} (h : inR x) : (J x).toInt = x := Int32.toInt_ofInt_of_le (by omega) (by omega)
theorem J_inR (x : Int32) : inR x.toInt := by
  have h := x.toInt_le
  have e : Int32.maxValue.toInt = 2147483647 := by decide
  have h2 := x.minValue_le_toInt
  have e2 : Int32.minValue.toInt = -2147483648 := by decide
  constructor <;> omega
theorem J_of (x : Int32) : J x.toInt = x := Int32.toInt_inj.mp (J_toInt (J_inR x))
theorem J_lt {x y : Int} (hx : inR x) (hy : inR y) : J x < J y ↔ x < y := by rw [Int32.lt_iff_toInt_lt, J_toInt hx, J_toInt hy]
theorem J_le {x y : Int} (hx : inR x) (hy : inR y) : J x ≤ J y ↔ x ≤ y := by rw [Int32.le_iff_toInt_le, J_toInt hx, J_toInt hy]
theorem J_eq {x y : Int} (hx : inR x) (hy : inR y) : J x = J y ↔ x = y := by rw [← Int32.toInt_inj, J_toInt hx, J_toInt hy]
theorem J_nat {i : Int} (h0 : 0 ≤ i) (h : i ≤ 2147483647) : (J i).toNatClampNeg = i.toNat := by
  show (J i).toInt.toNat = i.toNat
  rw [J_toInt ⟨by omega, h⟩]
theorem J_in {i : Int} {n : Nat} (hn : n ≤ 2147483647) (h : 0 ≤ i ∧ i < n) : vp_in (J i) n := by
  have hr : inR i := ⟨by omega, by omega⟩
  rw [vp_in_iff, J_toInt hr]
  exact h
def iand (x y : Int) : Int := (J x &&& J y).toInt
def ior (x y : Int) : Int := (J x ||| J y).toInt
def ixor (x y : Int) : Int := (J x ^^^ J y).toInt
def ishl (x y : Int) : Int := (J x <<< (J y &&& 31)).toInt
def ishr (x y : Int) : Int := (J x >>> (J y &&& 31)).toInt
def idiv (x y : Int) : Int := (J x / J y).toInt
def irem (x y : Int) : Int := (J x - J x / J y * J y).toInt
def i2c (x : Int) : Int := ((J x).toUInt32 % 65536).toInt32.toInt
def imax (x y : Int) : Int := if x < y then y else x
def iabs (x : Int) : Int := if 0 ≤ x then x else 0 - x
def l2i (x : Int64) : Int := x.toInt32.toInt
def i2l (x : Int) : Int64 := (J x).toInt64
def lushr (x : Int64) (y : Int) : Int64 := (x.toUInt64 >>> ((J y).toInt64.toUInt64 &&& Int64.toUInt64 63)).toInt64
def lshl (x : Int64) (y : Int) : Int64 := x <<< ((J y).toInt64 &&& 63)
-- the pure functions' steps
def bnd {α β : Type} (o : Option α) (f : α → Option β) : Option β := match o with
  | none => none
  | some a => f a
theorem bnd_some {α β : Type} {o : Option α} {f : α → Option β} {b : β} (h : bnd o f = some b) : ∃ a, o = some a ∧ f a = some b := by
  cases o with
  | none => cases h
  | some a => exact ⟨a, rfl, h⟩
def gd {α : Type} (P : Prop) [Decidable P] (k : Option α) : Option α := if P then k else none
theorem gd_some {α : Type} {P : Prop} [Decidable P] {k : Option α} {a : α} (h : gd P k = some a) : P ∧ k = some a := by
  unfold gd at h
  by_cases hP : P
  · rw [if_pos hP] at h; exact ⟨hP, h⟩
  · rw [if_neg hP] at h; cases h
theorem itep {α : Type} {P : Prop} [Decidable P] {A B : Option α} {r : α} (h : (if P then A else B) = some r) (hP : P) : A = some r := by rw [if_pos hP] at h; exact h
theorem iten {α : Type} {P : Prop} [Decidable P] {A B : Option α} {r : α} (h : (if P then A else B) = some r) (hP : ¬ P) : B = some r := by rw [if_neg hP] at h; exact h
def stM (M : MM) (c k : Nat) (z : Int) : MM := fun a b => if a = c ∧ b = k then z else M a b
def cpM (M : MM) (c0 sp c1 dp n : Nat) : MM := fun a b => if a = c1 ∧ dp ≤ b ∧ b < dp + n then M c0 (sp + (b - dp)) else M a b
def rd (M : MM) (c n : Nat) (i : Int) : Option Int := if 0 ≤ i ∧ i < n then some (M c i.toNat) else none
def wr (M : MM) (c n : Nat) (i z : Int) : Option MM := if (0 ≤ i ∧ i < n) ∧ inR z then some (stM M c i.toNat z) else none
def wrC (M : MM) (c n : Nat) (i z : Int) : Option MM := if (0 ≤ i ∧ i < n) ∧ (0 ≤ z ∧ z ≤ 65535) then some (stM M c i.toNat z) else none
def wrZ (M : MM) (c n : Nat) (i z : Int) : Option MM := if (0 ≤ i ∧ i < n) ∧ (z = 0 ∨ z = 1) then some (stM M c i.toNat z) else none
def cpy (M : MM) (c0 n0 : Nat) (sp : Int) (c1 n1 : Nat) (dp n : Int) : Option MM := if 0 ≤ sp ∧ 0 ≤ dp ∧ 0 ≤ n ∧ sp + n ≤ n0 ∧ dp + n ≤ n1 then some (cpM M c0 sp.toNat c1 dp.toNat n.toNat) else none
def RR (M : MM) : Prop := ∀ c k, inR (M c k)
theorem RR_st {M : MM} (h : RR M) (c k : Nat) {z : Int} (hz : inR z) : RR (stM M c k z) := by
  intro a b
  unfold stM
  by_cases q : a = c ∧ b = k
  · rw [if_pos q]; exact hz
  · rw [if_neg q]; exact h a b
theorem RR_cp {M : MM} (h : RR M) (c0 sp c1 dp n : Nat) : RR (cpM M c0 sp c1 dp n) := by
  intro a b
  unfold cpM
  by_cases q : a = c1 ∧ dp ≤ b ∧ b < dp + n
  · rw [if_pos q]; exact h _ _
  · rw [if_neg q]; exact h a b
theorem rd_some {M : MM} {c n : Nat} {i v : Int} (h : rd M c n i = some v) : (0 ≤ i ∧ i < n) ∧ v = M c i.toNat := by
  unfold rd at h
  by_cases q : 0 ≤ i ∧ i < n
  · rw [if_pos q] at h; exact ⟨q, (Option.some.inj h).symm⟩
  · rw [if_neg q] at h; cases h
theorem wr_some {M M1 : MM} {c n : Nat} {i z : Int} (h : wr M c n i z = some M1) : (0 ≤ i ∧ i < n) ∧ inR z ∧ M1 = stM M c i.toNat z := by
  unfold wr at h
  by_cases q : (0 ≤ i ∧ i < n) ∧ inR z
  · rw [if_pos q] at h; exact ⟨q.1, q.2, (Option.some.inj h).symm⟩
  · rw [if_neg q] at h; cases h
theorem wrC_some {M M1 : MM} {c n : Nat} {i z : Int} (h : wrC M c n i z = some M1) : (0 ≤ i ∧ i < n) ∧ (0 ≤ z ∧ z ≤ 65535) ∧ M1 = stM M c i.toNat z := by
  unfold wrC at h
  by_cases q : (0 ≤ i ∧ i < n) ∧ (0 ≤ z ∧ z ≤ 65535)
  · rw [if_pos q] at h; exact ⟨q.1, q.2, (Option.some.inj h).symm⟩
  · rw [if_neg q] at h; cases h
theorem wrZ_some {M M1 : MM} {c n : Nat} {i z : Int} (h : wrZ M c n i z = some M1) : (0 ≤ i ∧ i < n) ∧ (z = 0 ∨ z = 1) ∧ M1 = stM M c i.toNat z := by
  unfold wrZ at h
  by_cases q : (0 ≤ i ∧ i < n) ∧ (z = 0 ∨ z = 1)
  · rw [if_pos q] at h; exact ⟨q.1, q.2, (Option.some.inj h).symm⟩
  · rw [if_neg q] at h; cases h
theorem cpy_some {M M1 : MM} {c0 n0 c1 n1 : Nat} {sp dp n : Int} (h : cpy M c0 n0 sp c1 n1 dp n = some M1) : (0 ≤ sp ∧ 0 ≤ dp ∧ 0 ≤ n ∧ sp + n ≤ n0 ∧ dp + n ≤ n1) ∧ M1 = cpM M c0 sp.toNat c1 dp.toNat n.toNat := by
  unfold cpy at h
  by_cases q : 0 ≤ sp ∧ 0 ≤ dp ∧ 0 ≤ n ∧ sp + n ≤ n0 ∧ dp + n ≤ n1
  · rw [if_pos q] at h; exact ⟨q, (Option.some.inj h).symm⟩
  · rw [if_neg q] at h; cases h
-- worlds
def wL (N : Nat) (g : Nat → (Nat → Int) → va_E) (ad : Nat → Nat) (M : MM) : va_W := (List.range N).map (fun c => (ad c, g c (M c)))
theorem wL_get {N : Nat} {g : Nat → (Nat → Int) → va_E} {ad : Nat → Nat} {M : MM} {c : Nat} (h : c < N) {e : va_E} (he : g c (M c) = e) : (wL N g ad M)[c]? = some (ad c, e) := by
  unfold wL
  rw [List.getElem?_map, List.getElem?_range h, ← he]
  rfl
theorem wL_set {N : Nat} {g : Nat → (Nat → Int) → va_E} {ad : Nat → Nat} {M M1 : MM} {c : Nat} {e : va_E} (he : g c (M1 c) = e) (ho : ∀ a, a ≠ c → M1 a = M a) : (wL N g ad M).set c (ad c, e) = wL N g ad M1 := by
  apply List.ext_getElem?
  intro i
  unfold wL
  rw [List.getElem?_set, List.getElem?_map, List.getElem?_map, List.length_map, List.length_range]
  by_cases hi : c = i
  · subst hi
    rw [if_pos rfl]
    by_cases hN : c < N
    · rw [if_pos hN, List.getElem?_range hN, ← he]; rfl
    · rw [if_neg hN, List.getElem?_eq_none (by simpa using Nat.not_lt.mp hN)]; rfl
  · rw [if_neg hi]
    by_cases hN : i < N
    · rw [List.getElem?_range hN]
      show some (ad i, g i (M i)) = some (ad i, g i (M1 i))
      rw [ho i (Ne.symm hi)]
    · rw [List.getElem?_eq_none (by simpa using Nat.not_lt.mp hN)]; rfl
def aInj (N : Nat) (ad : Nat → Nat) : Prop := ∀ i j, i < N → j < N → ad i = ad j → i = j
def aS (N : Nat) (ad : Nat → Nat) : Nat → Prop := fun q => ∃ c, c < N ∧ q = ad c
theorem wL_D {N : Nat} {g : Nat → (Nat → Int) → va_E} {ad : Nat → Nat} (h : aInj N ad) (M : MM) : va_D (aS N ad) (wL N g ad M) := by
  have key : ∀ (k : Nat) (q : Nat × va_E), (wL N g ad M)[k]? = some q → k < N ∧ q.1 = ad k := by
    intro k q hk
    have hl : k < N := by
      have := (List.getElem?_eq_some_iff.mp hk).1
      simpa [wL] using this
    rw [wL_get hl rfl] at hk
    cases hk
    exact ⟨hl, rfl⟩
  refine ⟨fun i j p q hi hj he => ?_, fun k q hk => ?_⟩
  · obtain ⟨a1, a2⟩ := key i p hi
    obtain ⟨b1, b2⟩ := key j q hj
    exact h i j a1 b1 (by rw [← a2, ← b2]; exact he)
  · obtain ⟨a1, a2⟩ := key k q hk
    exact ⟨k, a1, a2⟩
theorem stM_o {M : MM} {c k : Nat} {z : Int} : ∀ a, a ≠ c → stM M c k z a = M a := by
  intro a ha
  funext b
  unfold stM
  rw [if_neg (fun q => ha q.1)]
theorem cpM_o {M : MM} {c0 sp c1 dp n : Nat} : ∀ a, a ≠ c1 → cpM M c0 sp c1 dp n a = M a := by
  intro a ha
  funext b
  unfold cpM
  rw [if_neg (fun q => ha q.1)]
theorem stM_upd {M : MM} {c k : Nat} {z : Int} : (fun j => J (stM M c k z c j)) = upd (fun j => J (M c j)) k (J z) := by
  funext j
  unfold stM upd
  by_cases h : j = k
  · rw [if_pos ⟨rfl, h⟩, if_pos h]
  · rw [if_neg (fun q => h q.2), if_neg h]
theorem J_wC {z : Int} (hz : 0 ≤ z ∧ z ≤ 65535) : narrow .char (.int (J z)) = .int (J z) ∧ fits .char (.int (J z)) = true := by
  obtain ⟨q, rfl⟩ : ∃ q : Nat, z = q := ⟨z.toNat, by omega⟩
  exact pk_charN (q := q) (by omega)
theorem J_wZ {z : Int} (hz : z = 0 ∨ z = 1) : narrow .boolean (.int (J z)) = .int (J z) ∧ fits .boolean (.int (J z)) = true := by
  rcases hz with rfl | rfl <;> decide +kernel
theorem J_bR {z : Int} (hz : z = 0 ∨ z = 1) : inR z := by rcases hz with h | h <;> rw [h] <;> decide
def bnd2 {α β γ : Type} (o : Option (α × β)) (f : α → β → Option γ) : Option γ := bnd o (fun q => f q.1 q.2)
def bnd3 {α β γ δ : Type} (o : Option (α × β × γ)) (f : α → β → γ → Option δ) : Option δ := bnd o (fun q => f q.1 q.2.1 q.2.2)
def bnd4 {α β γ δ ε : Type} (o : Option (α × β × γ × δ)) (f : α → β → γ → δ → Option ε) : Option ε := bnd o (fun q => f q.1 q.2.1 q.2.2.1 q.2.2.2)
def bnd5 {α β γ δ ε ζ : Type} (o : Option (α × β × γ × δ × ε)) (f : α → β → γ → δ → ε → Option ζ) : Option ζ := bnd o (fun q => f q.1 q.2.1 q.2.2.1 q.2.2.2.1 q.2.2.2.2)
theorem bnd2_some {α β γ : Type} {o : Option (α × β)} {f : α → β → Option γ} {r : γ} (h : bnd2 o f = some r) : ∃ a b, o = some (a, b) ∧ f a b = some r := by
  obtain ⟨⟨a, b⟩, h1, h2⟩ := bnd_some h
  exact ⟨a, b, h1, h2⟩
theorem bnd3_some {α β γ δ : Type} {o : Option (α × β × γ)} {f : α → β → γ → Option δ} {r : δ} (h : bnd3 o f = some r) : ∃ a b c, o = some (a, b, c) ∧ f a b c = some r := by
  obtain ⟨⟨a, b, c⟩, h1, h2⟩ := bnd_some h
  exact ⟨a, b, c, h1, h2⟩
theorem bnd4_some {α β γ δ ε : Type} {o : Option (α × β × γ × δ)} {f : α → β → γ → δ → Option ε} {r : ε} (h : bnd4 o f = some r) : ∃ a b c d, o = some (a, b, c, d) ∧ f a b c d = some r := by
  obtain ⟨⟨a, b, c, d⟩, h1, h2⟩ := bnd_some h
  exact ⟨a, b, c, d, h1, h2⟩
theorem bnd5_some {α β γ δ ε ζ : Type} {o : Option (α × β × γ × δ × ε)} {f : α → β → γ → δ → ε → Option ζ} {r : ζ} (h : bnd5 o f = some r) : ∃ a b c d e, o = some (a, b, c, d, e) ∧ f a b c d e = some r := by
  obtain ⟨⟨a, b, c, d, e⟩, h1, h2⟩ := bnd_some h
  exact ⟨a, b, c, d, e, h1, h2⟩
