/-! THE START: what the premises give of the classes, the static rows, the texts -/
section S0
variable {args : Array Value} {s : State}
abbrev a0H (s : State) : Nat → Prop := fun q : Nat => s.heap.size ≤ q
theorem s0_K (hts : ∀ w ∈ lw_tbl, w.before args s = true) : ∃ (D : va_G) (ca : Nat → ClassId), va_K D vwCl (tyX ca) s ∧ s.vm.findClass "[I" = some (ca 0) := by
  obtain ⟨c0, i0, h0⟩ := u_known (C := RX0) (T := TX0) (N := 3) (n := 3) hts inX0 (hts (.instantiable RX0 3) (by decide +kernel))
  obtain ⟨c1, i1, h1⟩ := u_known (C := RX1) (T := TX1) (N := 6) (n := 6) hts inX1 (hts (.instantiable RX1 6) (by decide +kernel))
  obtain ⟨c2, i2, h2⟩ := u_known (C := RX2) (T := TX2) (N := 7) (n := 7) hts inX2 (hts (.instantiable RX2 7) (by decide +kernel))
  obtain ⟨c3, i3, h3⟩ := u_known (C := RX3) (T := TX3) (N := 6) (n := 6) hts inX3 (hts (.instantiable RX3 6) (by decide +kernel))
  obtain ⟨c4, i4, h4⟩ := u_known (C := RX4) (T := TX4) (N := 8) (n := 8) hts inX4 (hts (.instantiable RX4 8) (by decide +kernel))
  obtain ⟨c5, i5, h5⟩ := u_known (C := RX5) (T := TX5) (N := 23) (n := 23) hts inX5 (hts (.instantiable RX5 23) (by decide +kernel))
  obtain ⟨dC, dI, hKc⟩ : ∃ (dC : Nat → ClassId) (dI : Nat → Nat → Nat), ∀ (k : Nat) (q : vw_C), vwCl[k]? = some q → u_Kn s q.1 q.2.1 q.2.2 (dC k) (dI k) := by
    refine ⟨fun k => if k = 0 then c0 else if k = 1 then c1 else if k = 2 then c2 else if k = 3 then c3 else if k = 4 then c4 else c5, fun k => if k = 0 then i0 else if k = 1 then i1 else if k = 2 then i2 else if k = 3 then i3 else if k = 4 then i4 else i5, ?_⟩
    intro k q hq
    match k, hq with
    | 0, hq => cases hq; exact h0
    | 1, hq => cases hq; exact h1
    | 2, hq => cases hq; exact h2
    | 3, hq => cases hq; exact h3
    | 4, hq => cases hq; exact h4
    | 5, hq => cases hq; exact h5
    | k + 6, hq => simp [vwCl] at hq
  obtain ⟨a0, k0, p0, x0, y0, z0⟩ := Cond.arrayClass_spec (args := args) (first := s) (o := none) (s := s) (idx := []) (hts (.arrayClass .int) (by decide +kernel))
  obtain ⟨a1, k1, p1, x1, y1, z1⟩ := Cond.arrayClass_spec (args := args) (first := s) (o := none) (s := s) (idx := []) (hts (.arrayClass .char) (by decide +kernel))
  obtain ⟨a2, k2, p2, x2, y2, z2⟩ := Cond.arrayClass_spec (args := args) (first := s) (o := none) (s := s) (idx := []) (hts (.arrayClass .boolean) (by decide +kernel))
  obtain ⟨p3, a3, k3, w3, -, y3, z3, x3⟩ := Cond.arrayOver_spec (args := args) (first := s) (o := none) (s := s) (idx := []) (hts (.arrayOver (.object RX3)) (by decide +kernel))
  refine ⟨(dC, dI), fun k => if k = 0 then a0 else if k = 1 then a1 else if k = 2 then a2 else a3, ⟨hKc, ?_⟩, va_nm_int x0⟩
  intro k q hq
  match k, hq with
  | 0, hq => cases hq; exact ⟨fun n z => ⟨(fun k h => by cases h), k0, y0, p0, z0⟩, x0⟩
  | 1, hq => cases hq; exact ⟨fun n z => ⟨(fun k h => by cases h), k1, y1, p1, z1⟩, x1⟩
  | 2, hq => cases hq; exact ⟨fun n z => ⟨(fun k h => by cases h), k2, y2, p2, z2⟩, x2⟩
  | 3, hq => cases hq; exact ⟨fun n z => ⟨(fun k h => by cases h), k3, y3, p3, z3⟩, k3, p3, y3, z3, w3, x3⟩
  | k + 4, hq => simp [tyX] at hq
abbrev nfl : List Cond := flatC (Jvm.Cond.and given_1 narrow_1)
theorem s0_row {n : String} {f : Nat → Int} (hts : ∀ w ∈ lw_tbl, w.before args s = true) (hg : ∀ w ∈ nfl, w.before args s = true) (h1 : Cond.laysStatic RX4 n "[I" ∈ lw_tbl) (h0 : Cond.initialized RX4 ∈ lw_tbl) (h2 : Cond.arrayOf (.static RX4 n "[I") .int ∈ nfl) (h3 : Cond.eq (.length (.static RX4 n "[I")) (.int 3) ∈ nfl)
    (h4 : ∀ j : Nat, j < 3 → Cond.eq (.elem (.static RX4 n "[I") (.int (Int32.ofNat j))) (.int (J (f j))) ∈ nfl) : ∃ t : Nat, va_Z RX4 n "[I" (.ref t) (a0H s) s s.heap ∧ va_T .int t 3 (fun j => .int (J (f j))) (a0H s) s s.heap ∧ (Term.static RX4 n "[I").eval args s none [] s = some (.ref t) := by
  have hA : ∀ a : Nat, a < s.heap.size → ¬ a0H s a := fun a h9 => Nat.not_le.mpr h9
  obtain ⟨t, ht, hT⟩ := va_Tof (args := args) (s := s) (tm := .static RX4 n "[I") (ty := .int) (N := 3) (f := fun j => .int (J (f j))) (A := a0H s) (by decide) (hg _ h2) (va_eqt (hg _ h3)) (fun j hj => va_eqt (hg _ (h4 j hj))) hA
  exact ⟨t, va_Zref (hts _ h1) (hts _ h0) ht hA, hT, ht⟩
theorem s0_3 {P : Nat → Prop} (h0 : P 0) (h1 : P 1) (h2 : P 2) : ∀ j : Nat, j < 3 → P j := fun j hj => by
  rcases (show j = 0 ∨ j = 1 ∨ j = 2 by omega) with rfl | rfl | rfl
  · exact h0
  · exact h1
  · exact h2
theorem s0_len {tm : Term} {v : Value} {t : Nat} {cell : Cell} (hv : (Term.length tm).eval args s none [] s = some v) (ht : tm.eval args s none [] s = some (.ref t)) (harr : s.arrayAt? t = some cell) : cell.slots.size < 2 ^ 31 := by
  simp only [Term.eval, ht, harr, Option.bind_eq_bind, Option.bind_some] at hv
  by_cases hlt : cell.slots.size < 2147483648
  · exact hlt
  · simp [hlt] at hv
theorem s0_exact {n : String} {f : Nat → Int} {t : Nat} {cI : ClassId} (hg : ∀ w ∈ nfl, w.before args s = true) (ht : (Term.static RX4 n "[I").eval args s none [] s = some (.ref t)) (hT : va_T .int t 3 (fun j => .int (J (f j))) (a0H s) s s.heap) (h2 : Cond.exactly (.static RX4 n "[I") "[I" ∈ nfl) (h3 : Cond.eq (.length (.static RX4 n "[I")) (.int 3) ∈ nfl) (hc : s.vm.findClass "[I" = some cI) : (∃ cell : Cell, s.heap[t]? = some cell ∧ fC cI 3 (fun j => J (f j)) cell) ∧ ¬ a0H s t := by
  obtain ⟨cell, c1, c2, c3, c4, c5, c6, c7⟩ := hT
  obtain ⟨a, c, cA, kA, q1, q2, q3, q4, q5, q6, -⟩ := Cond.exactly_spec (args := args) (first := s) (o := none) (s := s) (idx := []) (t := .static RX4 n "[I") (cls := "[I") (hg _ h2)
  cases ht.symm.trans q1
  cases c1.symm.trans q3
  cases hc.symm.trans q2
  have hv := va_eqt (hg _ h3)
  obtain ⟨b, cB, hb, harr, -⟩ := Term.length_spec hv
  cases ht.symm.trans hb
  obtain ⟨hcB, -⟩ := State.arrayAt?_spec harr
  cases c1.symm.trans hcB
  have hlt : cell.slots.size < 2 ^ 31 := s0_len hv ht harr
  have hsz : cell.slots.size = 3 := by
    have e1 : (Int32.ofNat cell.slots.size).toNatClampNeg = cell.slots.size := Int32.toNatClampNeg_ofNat_of_lt hlt
    have e2 : Int32.ofNat cell.slots.size = Int32.ofNat 3 := c5
    rw [e2] at e1
    exact e1.symm.trans (Int32.toNatClampNeg_ofNat_of_lt (by decide))
  refine ⟨⟨cell, c1, q6, q5, c3, ?_⟩, c7⟩
  apply Array.ext
  · rw [arrV_size]
    exact hsz
  · intro i hi1 hi2
    have hi : i < 3 := by rw [hsz] at hi1; exact hi1
    have r1 := arrV_read cI (fun j => Value.int (J (f j))) hi
    have r2 := c6 i hi
    rw [Array.getElem?_eq_getElem hi2] at r1
    rw [Array.getElem?_eq_getElem hi1] at r2
    exact (Option.some.inj r2).trans (Option.some.inj r1).symm
theorem s0_eN (hts : ∀ w ∈ lw_tbl, w.before args s = true) : eN s :=
  ⟨va_Nw.of rfl (hts _ (by decide +kernel)), va_Nw.of rfl (hts _ (by decide +kernel)), va_Nw.of rfl (hts _ (by decide +kernel)), va_Nw.of rfl (hts _ (by decide +kernel)), va_Nw.of rfl (hts _ (by decide +kernel)), va_Nw.of rfl (hts _ (by decide +kernel))⟩
def tmK (i : Nat) : Term := .string RX1 (76 + 2 * i)
theorem s0_5 {P : Nat → Prop} (h0 : P 0) (h1 : P 1) (h2 : P 2) (h3 : P 3) (h4 : P 4) : ∀ j : Nat, j < 5 → P j := fun j hj => by
  rcases (show j = 0 ∨ j = 1 ∨ j = 2 ∨ j = 3 ∨ j = 4 by omega) with rfl | rfl | rfl | rfl | rfl
  · exact h0
  · exact h1
  · exact h2
  · exact h3
  · exact h4
theorem s0_eT (hts : ∀ w ∈ lw_tbl, w.before args s = true) (hg : ∀ w ∈ nfl, w.before args s = true) : ∃ aK aV : Nat → Nat, eT aK aV (a0H s) s s.heap := by
  have hA : ∀ a : Nat, a < s.heap.size → ¬ a0H s a := fun a h9 => Nat.not_le.mpr h9
  obtain ⟨aK, aV, hS, hE⟩ := vk_Sof (args := args) (s := s) (A := a0H s) (tm := tmK) (len := lenK) (byt := bytK) (N := 5) (fun i _ => Nat.lt_of_le_of_lt (lenK_le i) (by decide))
    (s0_5 (hg _ (by decide +kernel)) (hg _ (by decide +kernel)) (hg _ (by decide +kernel)) (hg _ (by decide +kernel)) (hg _ (by decide +kernel)))
    (s0_5 (hg _ (by decide +kernel)) (hg _ (by decide +kernel)) (hg _ (by decide +kernel)) (hg _ (by decide +kernel)) (hg _ (by decide +kernel)))
    (s0_5 (hg _ (by decide +kernel)) (hg _ (by decide +kernel)) (hg _ (by decide +kernel)) (hg _ (by decide +kernel)) (hg _ (by decide +kernel)))
    (s0_5 (hg _ (by decide +kernel)) (hg _ (by decide +kernel)) (hg _ (by decide +kernel)) (hg _ (by decide +kernel)) (hg _ (by decide +kernel)))
    (fun i hi j hj => hg _ ((by decide +kernel : ∀ i : Nat, i < 5 → ∀ j : Nat, j < lenK.getD i 0 → Cond.eq (.elem (.field (tmK i) "java/lang/String" "value" "[B") (.int (Int32.ofNat j))) (.int ((bytK.getD i []).getD j 0)) ∈ nfl) i hi j hj))
    (fun i j hi hj hij => by
      have h : ∀ i : Nat, i < 5 → ∀ j : Nat, j < 5 → i = j ∨ (Cond.not (Cond.eq (tmK i) (tmK j))) ∈ nfl ∨ (Cond.not (Cond.eq (tmK j) (tmK i))) ∈ nfl := by decide +kernel
      rcases h i hi j hj with h | h | h
      · exact absurd h hij
      · exact Or.inl (hg _ h)
      · exact Or.inr (hg _ h)) hA
  refine ⟨aK, aV, ⟨vk_R.of (hts _ (by decide +kernel)) (hE 0 (by decide)), vk_R.of (hts _ (by decide +kernel)) (hE 1 (by decide)), vk_R.of (hts _ (by decide +kernel)) (hE 2 (by decide)), vk_R.of (hts _ (by decide +kernel)) (hE 3 (by decide)), vk_R.of (hts _ (by decide +kernel)) (hE 4 (by decide))⟩, hS, ?_, ?_⟩
  · exact va_Zof (hts _ (by decide +kernel)) (hts _ (by decide +kernel)) (va_eqi (hg _ (by decide +kernel))) hA
  · exact va_Zqof (hts _ (by decide +kernel)) (hts _ (by decide +kernel)) (hg _ (by decide +kernel)) hA
end S0
