/-! ROWS for constructors: new arrays of known classes, the clone of a static row; what a constructor is given beside its object -/
theorem arrV_congr {c : ClassId} {n : Nat} {f g : Nat → Value} (h : ∀ j, j < n → f j = g j) : arrV c n f = arrV c n g := by
  unfold arrV
  congr 2
  funext j
  exact h j.val j.isLt
section JN
variable {p : Program} {l : Launch} {e : Env} {R : Room} {s : State} {m : MethodId} {args : Array Value} {below : List Frame} {meth : Method} {c : Code} {H : Heap} {locs : List Loc} {cells slots : Nat} {Q : State → Prop}
variable {cc : ByteArray} {pc : Nat} {ls : Array Slot} {rest : List Value} {D : va_G} {cl : List vw_C} {A : Nat → Prop} {tys : List (ClassId × FieldType)} {ws : va_W} {H0 : Heap}
theorem jn_newa (hx : p.tables.exec = Jvm.exec) (hb : c.code = cc) {atype : ArrayType} (harr : (Cond.arrayClass (newarray.typeOf atype)).before args s = true) {ty : FieldType} (hty : newarray.typeOf atype = ty) (hra : ∀ c, va_RA s c ty → s.vm.findClass ("[" ++ ty.toString) = some c) (hK : va_K D cl tys s) (t0 : Nat) {cX : ClassId} (ht : tys[t0]? = some (cX, ty)) (hP : va_P D cl ws H) (hD : va_D A ws) (hS : va_S A H0 H locs) (hA : ∀ q, H0.size ≤ q → A q)
    {n : Int32} {N' : Nat} {a0 : vp_A} (ha : ∀ cA : ClassId, vp_cell cA a0 = arrV cA N' (fun _ => defaultValue ty)) (hn : ¬ n < 0) (hN : n.toNatClampNeg = N') (hbytes : N' * componentBytes ty ≤ 536870912) (hcells : cells + 1 ≤ R.cells) (hslots : slots + N' ≤ R.slots) (hdg : decode cc pc = .ok (.newarray atype, 2))
    (kk : ∀ (q : Nat) (H1 : Heap), va_P D cl (ws ++ [(q, .inl (cX, a0))]) H1 → va_D A (ws ++ [(q, .inl (cX, a0))]) → va_S A H0 H1 locs → W p l e R s m args below meth c H1 locs (cells + 1) (slots + N') Q (F0 m (pc + 2) ls (.ref q :: rest))) : W p l e R s m args below meth c H locs cells slots Q (F0 m pc ls (.int n :: rest)) :=
  va_newa (ty := ty) hx hb harr hty hK hP hD hS hA ha hn hN hbytes hcells hslots hdg (fun q cA H1 hK1 hP1 hD1 hS1 => by
    have e1 := hra _ (hK1.2 tys.length (cA, ty) (by simp)).2
    have e2 := hra _ (hK.2 t0 (cX, ty) ht).2
    have e3 : cA = cX := Option.some.inj (e1.symm.trans e2)
    subst e3
    exact kk q H1 hP1 hD1 hS1)
theorem jn_newq (hx : p.tables.exec = Jvm.exec) (hb : c.code = cc) {own C : String} {index : Nat} (hown : s.vm.findClass own = some m.cls) (hclink : (Cond.classLink own index C).before args s = true) (hover : va_AO C s) (hK : va_K D cl tys s) (t0 : Nat) {cX : ClassId} (ht : tys[t0]? = some (cX, .object C)) (hP : va_P D cl ws H) (hD : va_D A ws) (hS : va_S A H0 H locs) (hA : ∀ q, H0.size ≤ q → A q)
    {n : Int32} {N' : Nat} (hn : ¬ n < 0) (hN : n.toNatClampNeg = N') (hbytes : N' * 4 ≤ 536870912) (hcells : cells + 1 ≤ R.cells) (hslots : slots + N' ≤ R.slots) (hdg : decode cc pc = .ok (.anewarray index, 3))
    (kk : ∀ (q : Nat) (H1 : Heap), va_P D cl (ws ++ [(q, .inl (cX, N', .inr (.inr (.inr (.inr (fun _ => none))))))]) H1 → va_D A (ws ++ [(q, .inl (cX, N', .inr (.inr (.inr (.inr (fun _ => none))))))]) → va_S A H0 H1 locs → W p l e R s m args below meth c H1 locs (cells + 1) (slots + N') Q (F0 m (pc + 3) ls (.ref q :: rest))) : W p l e R s m args below meth c H locs cells slots Q (F0 m pc ls (.int n :: rest)) :=
  va_newq hx hb hown hclink hover hK hP hD hS hA hn hN hbytes hcells hslots hdg (fun q cA H1 hK1 hP1 hD1 hS1 => by
    obtain ⟨kA, comp, -, -, -, e1⟩ := (hK1.2 tys.length (cA, .object C) (by simp)).2
    obtain ⟨kB, comp2, -, -, -, e2⟩ := (hK.2 t0 (cX, .object C) ht).2
    have e3 : cA = cX := Option.some.inj (e1.symm.trans e2)
    subst e3
    exact kk q H1 hP1 hD1 hS1)
/-- the clone of an int row that is no cell of the world -/
theorem jn_clone (hx : p.tables.exec = Jvm.exec) (hb : c.code = cc) (hml : c.maxLocals = ls.size) {own : String} {index : Nat} (hown : s.vm.findClass own = some m.cls)
    (hlink : (Cond.methodLink own index ⟨"[I", "clone", "()Ljava/lang/Object;"⟩).before args s = true) (hsame : (Cond.sameMethod "[I" "java/lang/Object" "clone" "()Ljava/lang/Object;").before args s = true)
    (hnat : (Cond.native ⟨"java/lang/Object", "clone", "()Ljava/lang/Object;"⟩).before args s = true) (hinst : (Cond.instanceMethod ⟨"java/lang/Object", "clone", "()Ljava/lang/Object;"⟩).before args s = true)
    (hsel : (Cond.selects "[I" ⟨"[I", "clone", "()Ljava/lang/Object;"⟩ ⟨"java/lang/Object", "clone", "()Ljava/lang/Object;"⟩).before args s = true) (hcl : va_Nw (.castable "[I" "java/lang/Cloneable") s)
    (hK : va_K D cl tys s) (t0 : Nat) {cI : ClassId} (ht : tys[t0]? = some (cI, .int)) (hnm : s.vm.findClass "[I" = some cI) {tf n : Nat} {f : Nat → Int32} (hcell : s.heap[tf]? = some (vp_cell cI (n, .inl f))) (htA : ¬ A tf) (hP : va_P D cl ws s.heap) (hD : va_D A ws) (hA : ∀ q, s.heap.size ≤ q → A q)
    (hframes : 1 ≤ R.frames) (hlocals : (rest.map fun v => v.category).sum + 14 ≤ R.locals) (hcells : cells + 1 ≤ R.cells) (hslots : slots + n ≤ R.slots) (hdg : decode cc pc = .ok (.invokevirtual index, 3))
    (kk : ∀ (q : Nat) (H1 : Heap), va_P D cl (ws ++ [(q, .inl (cI, n, .inl f))]) H1 → va_D A (ws ++ [(q, .inl (cI, n, .inl f))]) → va_S A s.heap H1 [] → W p l e R s m args below meth c H1 [] (cells + 1) (slots + n) Q (F0 m (pc + 3) ls (.ref q :: rest))) : W p l e R s m args below meth c s.heap [] cells slots Q (F0 m pc ls (.ref tf :: rest)) := by
  have hl : tf < s.heap.size := (Array.getElem?_eq_some_iff.mp hcell).1
  have hP2 : va_P D cl ([(tf, .inl (cI, n, .inl f))] ++ ws) s.heap := va_P.app (fun k q hk => by
    have hz : k = 0 := by have := (List.getElem?_eq_some_iff.mp hk).1; simpa using this
    subst hz
    cases hk
    exact hcell) hP
  have hD2 : va_D (fun q => A q ∨ q = tf) ([(tf, .inl (cI, n, .inl f))] ++ ws) := va_D.app ⟨fun i j x y hi hj _ => by
      have h1 := (List.getElem?_eq_some_iff.mp hi).1
      have h2 := (List.getElem?_eq_some_iff.mp hj).1
      simp at h1 h2
      omega, fun k q hk => by
      have hz : k = 0 := by have := (List.getElem?_eq_some_iff.mp hk).1; simpa using this
      subst hz
      cases hk
      exact Or.inr rfl⟩ (hD.weaken (fun _ _ _ h => Or.inl h)) (fun i j x y hi hj he => by
      have hz : i = 0 := by have := (List.getElem?_eq_some_iff.mp hi).1; simpa using this
      subst hz
      cases hi
      exact htA (by rw [show tf = y.1 from he]; exact hD.2 j y hj))
  refine va_clone (A := fun q => A q ∨ q = tf) (H0 := s.heap) (locs := []) (ws := [(tf, .inl (cI, n, .inl f))] ++ ws) (x := (n, .inl f)) (ty := .int) hx hb hml hown hlink hsame hnat hinst hsel hcl hK hP2 hD2 va_S.rf (fun q h => Or.inl (hA q h)) 0 t0 rfl ht hnm (fun i v hv => by
    have hlt : i < n := by
      have := (Array.getElem?_eq_some_iff.mp hv).1
      rw [vp_cell_i, arrV_size] at this
      exact this
    rw [vp_cell_i, arrV_read _ _ hlt] at hv
    cases hv
    rfl) hframes hlocals hcells hslots hdg (fun q H1 _ hP1 hD1 hS1 => ?_)
  have hat : H1[tf]? = some (vp_cell cI (n, .inl f)) := hP1 0 _ rfl
  have key : ∀ (k : Nat) (x : Nat × va_E), (ws ++ [(q, .inl (cI, n, .inl f))])[k]? = some x → ([(tf, .inl (cI, n, .inl f))] ++ ws ++ [(q, .inl (cI, n, .inl f))])[k + 1]? = some x := fun k x hk => by
    show (((tf, .inl (cI, n, .inl f)) :: ws) ++ [(q, .inl (cI, n, .inl f))])[k + 1]? = some x
    rw [List.cons_append, List.getElem?_cons_succ]
    exact hk
  refine kk q H1 (fun k x hk => hP1 (k + 1) x (key k x hk)) ⟨fun i j x y hi hj he => by
      have := hD1.1 (i + 1) (j + 1) x y (key i x hi) (key j y hj) he
      omega, fun k x hk => ?_⟩ ⟨hS1.1, fun a h1 h2 => ?_, fun l hl => by cases hl⟩
  · rcases hD1.2 (k + 1) x (key k x hk) with h | h
    · exact h
    · have := hD1.1 (k + 1) 0 x (tf, .inl (cI, n, .inl f)) (key k x hk) rfl h
      omega
  · by_cases ha : a = tf
    · subst ha
      rw [hat, hcell]
    · exact hS1.2.1 a h1 (fun z => z.elim h2 ha)
end JN
/-- what the constructors of the class are given beside their objects -/
def eC (tf : Nat) (ca : Nat → ClassId) (A : Nat → Prop) (U : State) (H : Heap) : Prop := (va_Nw (.fieldLinkNest RX3 9 "VisitVans" "FIRST_SETTING" "[I" RX4) U ∧ va_Nw (.methodLinkNest RX4 11 yX3_init RX4) U ∧ va_Nw (.methodLinkNest RX4 18 yX2_init RX4) U ∧ va_Nw (.methodLinkNest RX0 17 yX3_init RX4) U ∧ va_Nw (.methodLinkNest RX4 46 yX1_init RX4) U ∧ va_Nw (.castable "[I" "java/lang/Cloneable") U ∧ va_AO RX3 U ∧ U.vm.findClass "[I" = some (ca 0)) ∧ va_Z RX4 "FIRST_SETTING" "[I" (.ref tf) A U H ∧ H[tf]? = some (vp_cell (ca 0) (3, .inl (fun j => J (fsM j)))) ∧ ¬ A tf
theorem eC_at {tf : Nat} {ca : Nat → ClassId} {A B : Nat → Prop} {s U : State} {H : Heap} {locs : List Loc} (h : eC tf ca A s s.heap) (hS : va_S A s.heap H locs) (hAB : ∀ q, B q → A q) (hU : U.heap = H) (hW : s.WarmedH U.vm) : eC tf ca B U U.heap := by
  obtain ⟨⟨n1, n2, n3, n4, n5, n6, n7, n8⟩, hz, hc, hn⟩ := h
  have hk : ∀ a : Nat, a < s.heap.size → ¬ A a → U.heap[a]? = s.heap[a]? := fun a h1 h2 => by rw [hU]; exact hS.2.1 a h1 h2
  exact ⟨⟨n1.warmF hW, n2.warmM hW, n3.warmM hW, n4.warmM hW, n5.warmM hW, n6.warmC hW, n7.moved hW.alike, by rw [hW.alike.findClass]; exact n8⟩, (va_Z.moved hW.alike (hz.kept hk)).narrow hAB, by rw [hk tf (Array.getElem?_eq_some_iff.mp hc).1 hn]; exact hc, fun z => hn (hAB tf z)⟩
theorem eC_blind {tf : Nat} {ca : Nat → ClassId} {A : Nat → Prop} {U : State} (a : Array Value) (g : JFrame) (mk : MethodId) (h : eC tf ca A U U.heap) : eC tf ca A (U.calling g mk a) (U.calling g mk a).heap := by
  obtain ⟨⟨n1, n2, n3, n4, n5, n6, n7, n8⟩, hz, hc, hn⟩ := h
  have hv : (U.calling g mk a).vm = U.vm := rfl
  have ha : U.vm.Alike (U.calling g mk a).vm := Vm.Alike.refl U.vm
  exact ⟨⟨n1.same rfl hv.symm, n2.same rfl hv.symm, n3.same rfl hv.symm, n4.same rfl hv.symm, n5.same rfl hv.symm, n6.same rfl hv.symm, n7.moved ha, n8⟩, va_Z.moved ha hz, hc, hn⟩
/-- a constructor's start and end, over a world behind it -/
abbrev PC (D : va_G) (ca : Nat → ClassId) (tf h0 sz : Nat) (e0 : va_E) (U : State) : Prop := U.heap.size = sz ∧ va_P D vwCl [(h0, e0)] U.heap ∧ va_K D vwCl (tyX ca) U ∧ va_D (fun _ => True) [(h0, e0)] ∧ eC tf ca (va_A [(h0, e0)] sz) U U.heap
abbrev QC (D : va_G) (h0 sz : Nat) (e0 : va_E) (bl : (Nat → Nat) → va_W) : Array Value → State → Outcome → State → Prop := va_Qv (fun _ : Nat → Nat => True) (fun u t => va_P D vwCl (bl u) t.heap ∧ va_D (va_A [(h0, e0)] sz) (bl u)) (va_A [(h0, e0)] sz)
theorem PC_blind {D : va_G} {ca : Nat → ClassId} {tf h0 sz : Nat} {e0 : va_E} {vs : List Value} : FrameBlind (va_Pc vs (PC D ca tf h0 sz e0)) := fun a U g mk q => ⟨q.1, q.2.1, q.2.2.1, va_K.moved (u := U) (U := U.calling g mk a) (Vm.Alike.refl U.vm) q.2.2.2.1, q.2.2.2.2.1, eC_blind a g mk q.2.2.2.2.2⟩
theorem psC {D : va_G} {ca : Nat → ClassId} {tf q : Nat} {e1 : va_E} {A : Nat → Prop} {s : State} {H : Heap} {locs : List Loc} (hK : va_K D vwCl (tyX ca) s) (hE : eC tf ca A s s.heap) (hS : va_S A s.heap H locs) (hP : va_P D vwCl [(q, e1)] H) (hD : va_D A [(q, e1)]) (hA : ∀ x, s.heap.size ≤ x → A x) : PreS s H (va_Pc [.ref q] (PC D ca tf q H.size e1)) [.ref q] :=
  ⟨PC_blind, fun U hU hW => ⟨rfl, by rw [hU], by rw [hU]; exact hP, va_K.moved hW.alike hK, hD.weaken (fun _ _ _ _ => trivial), eC_at hE hS (fun x hx => by
    rcases hx with ⟨k, e, hk⟩ | hx
    · exact hD.2 k _ hk
    · exact hA x (Nat.le_trans hS.1 hx)) hU hW⟩⟩
abbrev bR (ca : Nat → ClassId) (h0 : Nat) (u : Nat → Nat) : va_W := [(h0, .inr (3, [.ref (u 1), .ref (u 2), .ref (u 3), .ref (u 4), .int 0, .int 0])), (u 1, .inl (ca 0, 3, .inl (fun j => J (fsM j)))), (u 2, .inl (ca 0, 126, .inl (fun _ => J 0))), (u 3, .inl (ca 0, 8, .inl (fun _ => J 0))), (u 4, .inl (ca 0, 20, .inl (fun _ => J 0)))]
abbrev bP (ca : Nat → ClassId) (h0 : Nat) (u : Nat → Nat) : va_W := [(h0, .inr (2, [.ref (u 1), .ref (u 2), .ref (u 3), .ref (u 4), .ref (u 5), .int 0, .int 0])), (u 1, .inl (ca 0, 21, .inl (fun _ => J 0))), (u 2, .inl (ca 0, 84, .inl (fun _ => J 0))), (u 3, .inl (ca 0, 24, .inl (fun _ => J 0))), (u 4, .inl (ca 0, 20, .inl (fun _ => J 0))), (u 5, .inl (ca 0, 1008, .inl (fun _ => J 0)))]
abbrev bD (ca : Nat → ClassId) (h0 : Nat) (u : Nat → Nat) : va_W := [(h0, .inr (1, [.ref (u 1), .int 0, .int 0, .int 0, .ref (u 2), .int 0])), (u 1, .inl (ca 1, 80, .inl (fun _ => J 0))), (u 2, .inl (ca 0, 6, .inl (fun _ => J 0)))]
def M0X : MM := fun c j => if c < 55 ∧ c % 5 = 1 then fsM j else 0
def M0Y : MM := fun c j => if c = 1 then (if j = 0 then 2 else if j = 1 then 30 else if j = 2 then 120 else 0) else 0
theorem wL_of {N : Nat} {g : Nat → (Nat → Int) → va_E} {ad : Nat → Nat} {M : MM} {A : Nat → Prop} (hD : va_D A (wL N g ad M)) : aInj N ad ∧ ∀ c, c < N → A (ad c) :=
  ⟨fun i j hi hj he => hD.1 i j _ _ (wL_get hi rfl) (wL_get hj rfl) he, fun c hc => hD.2 c _ (wL_get hc rfl)⟩
abbrev QO (D : va_G) (h0 sz : Nat) (e0 : va_E) (N : Nat) (bl : (Nat → Nat) → va_W) : Array Value → State → Outcome → State → Prop := va_Qv (fun _ : Nat → Nat => True) (fun u t => va_P D vwCl (bl u) t.heap ∧ aInj N u ∧ ∀ c, c < N → va_A [(h0, e0)] sz (u c)) (va_A [(h0, e0)] sz)
abbrev bH (ca : Nat → ClassId) (h0 : Nat) (u : Nat → Nat) : va_W := [(h0, .inr (0, [.ref (u 1), .int 0, .int 0])), (u 1, .inl (ca 3, 7, .inr (.inr (.inr (.inr (fun j => some (u (2 + 5 * j)))))))), (u 2, .inr (3, [.ref (u 3), .ref (u 4), .ref (u 5), .ref (u 6), .int 0, .int 0])), (u 3, .inl (ca 0, 3, .inl (fun j => J (fsM j)))), (u 4, .inl (ca 0, 126, .inl (fun _ => J 0))), (u 5, .inl (ca 0, 8, .inl (fun _ => J 0))), (u 6, .inl (ca 0, 20, .inl (fun _ => J 0))), (u 7, .inr (3, [.ref (u 8), .ref (u 9), .ref (u 10), .ref (u 11), .int 0, .int 0])), (u 8, .inl (ca 0, 3, .inl (fun j => J (fsM j)))), (u 9, .inl (ca 0, 126, .inl (fun _ => J 0))), (u 10, .inl (ca 0, 8, .inl (fun _ => J 0))), (u 11, .inl (ca 0, 20, .inl (fun _ => J 0))), (u 12, .inr (3, [.ref (u 13), .ref (u 14), .ref (u 15), .ref (u 16), .int 0, .int 0])), (u 13, .inl (ca 0, 3, .inl (fun j => J (fsM j)))), (u 14, .inl (ca 0, 126, .inl (fun _ => J 0))), (u 15, .inl (ca 0, 8, .inl (fun _ => J 0))), (u 16, .inl (ca 0, 20, .inl (fun _ => J 0))), (u 17, .inr (3, [.ref (u 18), .ref (u 19), .ref (u 20), .ref (u 21), .int 0, .int 0])), (u 18, .inl (ca 0, 3, .inl (fun j => J (fsM j)))), (u 19, .inl (ca 0, 126, .inl (fun _ => J 0))), (u 20, .inl (ca 0, 8, .inl (fun _ => J 0))), (u 21, .inl (ca 0, 20, .inl (fun _ => J 0))), (u 22, .inr (3, [.ref (u 23), .ref (u 24), .ref (u 25), .ref (u 26), .int 0, .int 0])), (u 23, .inl (ca 0, 3, .inl (fun j => J (fsM j)))), (u 24, .inl (ca 0, 126, .inl (fun _ => J 0))), (u 25, .inl (ca 0, 8, .inl (fun _ => J 0))), (u 26, .inl (ca 0, 20, .inl (fun _ => J 0))), (u 27, .inr (3, [.ref (u 28), .ref (u 29), .ref (u 30), .ref (u 31), .int 0, .int 0])), (u 28, .inl (ca 0, 3, .inl (fun j => J (fsM j)))), (u 29, .inl (ca 0, 126, .inl (fun _ => J 0))), (u 30, .inl (ca 0, 8, .inl (fun _ => J 0))), (u 31, .inl (ca 0, 20, .inl (fun _ => J 0))), (u 32, .inr (3, [.ref (u 33), .ref (u 34), .ref (u 35), .ref (u 36), .int 0, .int 0])), (u 33, .inl (ca 0, 3, .inl (fun j => J (fsM j)))), (u 34, .inl (ca 0, 126, .inl (fun _ => J 0))), (u 35, .inl (ca 0, 8, .inl (fun _ => J 0))), (u 36, .inl (ca 0, 20, .inl (fun _ => J 0)))]
