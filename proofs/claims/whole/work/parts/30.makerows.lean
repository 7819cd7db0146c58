/-! ROWS for constructors: new arrays of known classes, the clone of a static row; what a constructor is given beside its object -/
theorem arrV_congr {c : ClassId} {n : Nat} {f g : Nat → Value} (h : ∀ j, j < n → f j = g j) : arrV c n f = arrV c n g := by
  unfold arrV
  congr 2
  funext j
  exact h j.val j.isLt
section JN
variable {p : Program} {l : Launch} {e : Env} {R : Room} {s : State} {m : MethodId} {args : Array Value} {below : List Frame} {meth : Method} {c : Code} {H : Heap} {locs : List Loc} {cells slots : Nat} {Q : State → Prop}
variable {cc : ByteArray} {pc : Nat} {ls : Array Slot} {rest : List Value} {D : va_G} {cl : List vw_C} {A : Nat → Prop} {tys : List (ClassId × FieldType)} {ws : va_W} {H0 : Heap}
theorem jn_newa (hx : p.tables.exec = Jvm.exec) (hb : c.code = cc) {atype : ArrayType} (harr : (Cond.arrayClass (newarray.typeOf atype)).before args s = true) {ty : FieldType} (hty : newarray.typeOf atype = ty) (hra : ∀ c, va_RA s c ty → s.vm.findClass ("[" ++ ty.toString) = some c) (hK : va_K D cl tys s) (t0 : Nat) {cX : ClassId} (ht : tys[t0]? = some (cX, ty)) (hP : va_P D cl ws H) (hD : va_D A ws) (hS : va_S A H0 H locs) (hA : ∀ q, H0.size ≤ q → A q)
    {n : Int32} {N' : Nat} {a0 : vp_A} (ha : ∀ cA : ClassId, vp_cell cA a0 = arrV cA N' (fun _ => defaultValue ty)) (hn : ¬ n < 0) (hN : n.toNatClampNeg = N') (hbytes : N' * componentBytes ty ≤ 536870912) (hcells : cells + 1 ≤ R.cells) (hslots : slots + N' ≤ R.slots) (hdg : decode cc pc = .ok (.newarray atype, 2))
    (kk : ∀ (q : Nat) (H1 : Heap), va_P D cl (ws ++ [(q, .inl (cX, a0))]) H1 → va_D A (ws ++ [(q, .inl (cX, a0))]) → va_S A H0 H1 locs → W p l e R s m args below meth c H1 locs (cells + 1) (slots + N') Q (F0 m (pc + 2) ls (.ref q :: rest))) : W p l e R s m args below meth c H locs cells slots Q (F0 m pc ls (.int n :: rest)) :=
  va_newa (ty := ty) hx hb harr hty hK hP hD hS hA ha hn hN hbytes hcells hslots hdg (fun q cA H1 hK1 hP1 hD1 hS1 => by
    have e1 := hra _ (hK1.2 tys.length (cA, ty) (by simp)).2
    have e2 := hra _ (hK.2 t0 (cX, ty) ht).2
    have e3 : cA = cX := Option.some.inj (e1.symm.trans e2)
    subst e3
    exact kk q H1 hP1 hD1 hS1)
theorem jn_newq (hx : p.tables.exec = Jvm.exec) (hb : c.code = cc) {own C : String} {index : Nat} (hown : s.vm.findClass own = some m.cls) (hclink : (Cond.classLink own index C).before args s = true) (hover : va_AO C s) (hK : va_K D cl tys s) (t0 : Nat) {cX : ClassId} (ht : tys[t0]? = some (cX, .object C)) (hP : va_P D cl ws H) (hD : va_D A ws) (hS : va_S A H0 H locs) (hA : ∀ q, H0.size ≤ q → A q)
    {n : Int32} {N' : Nat} (hn : ¬ n < 0) (hN : n.toNatClampNeg = N') (hbytes : N' * 4 ≤ 536870912) (hcells : cells + 1 ≤ R.cells) (hslots : slots + N' ≤ R.slots) (hdg : decode cc pc = .ok (.anewarray index, 3))
    (kk : ∀ (q : Nat) (H1 : Heap), va_P D cl (ws ++ [(q, .inl (cX, N', .inr (.inr (.inr (.inr (fun _ => none))))))]) H1 → va_D A (ws ++ [(q, .inl (cX, N', .inr (.inr (.inr (.inr (fun _ => none))))))]) → va_S A H0 H1 locs → W p l e R s m args below meth c H1 locs (cells + 1) (slots + N') Q (F0 m (pc + 3) ls (.ref q :: rest))) : W p l e R s m args below meth c H locs cells slots Q (F0 m pc ls (.int n :: rest)) :=
  va_newq hx hb hown hclink hover hK hP hD hS hA hn hN hbytes hcells hslots hdg (fun q cA H1 hK1 hP1 hD1 hS1 => by
    obtain ⟨kA, comp, -, -, -, e1⟩ := (hK1.2 tys.length (cA, .object C) (by simp)).2
    obtain ⟨kB, comp2, -, -, -, e2⟩ := (hK.2 t0 (cX, .object C) ht).2
    have e3 : cA = cX := Option.some.inj (e1.symm.trans e2)
    subst e3
    exact kk q H1 hP1 hD1 hS1)
/-- what is known of a static int row: its class, that it is a plain row, its elements -/
def fC (cI : ClassId) (n : Nat) (f : Nat → Int32) (cell : Cell) : Prop := cell.cls = cI ∧ cell.vm.isStatics = false ∧ cell.vm ≠ .unknown ∧ cell.slots = (arrV cI n (fun j => .int (f j))).slots
/-- the clone of an int row that is no cell of the world -/
theorem jn_clone (hx : p.tables.exec = Jvm.exec) (hb : c.code = cc) (hml : c.maxLocals = ls.size) {own : String} {index : Nat} (hown : s.vm.findClass own = some m.cls)
    (hlink : (Cond.methodLink own index ⟨"[I", "clone", "()Ljava/lang/Object;"⟩).before args s = true) (hsame : (Cond.sameMethod "[I" "java/lang/Object" "clone" "()Ljava/lang/Object;").before args s = true)
    (hnat : (Cond.native ⟨"java/lang/Object", "clone", "()Ljava/lang/Object;"⟩).before args s = true) (hinst : (Cond.instanceMethod ⟨"java/lang/Object", "clone", "()Ljava/lang/Object;"⟩).before args s = true)
    (hsel : (Cond.selects "[I" ⟨"[I", "clone", "()Ljava/lang/Object;"⟩ ⟨"java/lang/Object", "clone", "()Ljava/lang/Object;"⟩).before args s = true) (hcl : va_Nw (.castable "[I" "java/lang/Cloneable") s)
    (hK : va_K D cl tys s) (t0 : Nat) {cI : ClassId} (ht : tys[t0]? = some (cI, .int)) (hnm : s.vm.findClass "[I" = some cI) {tf n : Nat} {f : Nat → Int32} (hcell : ∃ cell : Cell, s.heap[tf]? = some cell ∧ fC cI n f cell) (htA : ¬ A tf) (hP : va_P D cl ws s.heap) (hD : va_D A ws) (hA : ∀ q, s.heap.size ≤ q → A q)
    (hframes : 1 ≤ R.frames) (hlocals : (rest.map fun v => v.category).sum + 14 ≤ R.locals) (hcells : cells + 1 ≤ R.cells) (hslots : slots + n ≤ R.slots) (hdg : decode cc pc = .ok (.invokevirtual index, 3))
    (kk : ∀ (q : Nat) (H1 : Heap), va_P D cl (ws ++ [(q, .inl (cI, n, .inl f))]) H1 → va_D A (ws ++ [(q, .inl (cI, n, .inl f))]) → va_S A s.heap H1 [] → W p l e R s m args below meth c H1 [] (cells + 1) (slots + n) Q (F0 m (pc + 3) ls (.ref q :: rest))) : W p l e R s m args below meth c s.heap [] cells slots Q (F0 m pc ls (.ref tf :: rest)) := by
  obtain ⟨cell, hc, k1, k2, k3, k4⟩ := hcell
  subst k1
  have hcellE : ({ cls := cell.cls, slots := cell.slots } : Cell) = vp_cell cell.cls (n, .inl f) := by rw [k4]; rfl
  have hsz : cell.slots.size = n := by rw [k4, arrV_size]
  obtain ⟨c0, t0', f1, f2, f3⟩ := Cond.castable_spec (va_Nw.use (A := args) rfl hcl)
  cases hnm.symm.trans f1
  intro T hT X
  have hcellT : T.heap[tf]? = some cell := by rw [hT]; exact hc
  obtain ⟨-, kA, hkA, comp, hkind⟩ := State.isArrayOf_alike X.warmed.alike ((hK.2 t0 _ ht).1 0 (fun _ => .null))
  obtain ⟨-, kS, hkS, compS, hkindS⟩ := (hK.2 t0 _ ht).1 0 (fun _ => .null)
  obtain ⟨vm', X', st⟩ := X.cloneArray hx hown hlink hsame hnat hinst hsel (a := tf) (cell := cell) hcellT (fun k h => by rw [h] at k2; first | cases k2 | exact Bool.noConfusion (show true = false from k2) | simp at k2) k3 hnm f2 f3
    (fun i v hv => by
      have hk' : T.vm.classes[cell.cls]? = some kA := hkA
      have hi : i < n := by rw [← hsz]; exact (Array.getElem?_eq_some_iff.mp hv).1
      rw [k4, arrV_read _ _ hi] at hv
      cases hv
      simp [State.fitsSlot, State.slotType?, hk', hkind, fits])
    (g := F0 m pc ls (.ref tf :: rest)) rfl (by rw [hml]) rfl (by rw [hb]; exact hdg) hframes (by show 2 * 0 + _ + 14 ≤ _; omega) hcells (by rw [hsz]; exact hslots) (hloader := Vm.clonesLoader_of_array hkS hkindS)
  rw [hcellE, hsz] at X'
  generalize hH1 : s.heap.push (vp_cell cell.cls (n, .inl f)) = H1
  have z1 : H1.size = s.heap.size + 1 := by rw [← hH1, Array.size_push]
  have e1 : H1[s.heap.size]? = some (vp_cell cell.cls (n, .inl f)) := by rw [← hH1, Array.getElem?_push_size]
  have o1 : ∀ q : Nat, q < s.heap.size → H1[q]? = s.heap[q]? := fun q hq => by rw [← hH1, Array.getElem?_push, if_neg (Nat.ne_of_lt hq)]
  have hk : ∀ (k : Nat) (y : Nat × va_E), ws[k]? = some y → H1[y.1]? = s.heap[y.1]? := fun k y hy => o1 y.1 ((hP k y hy).lt)
  obtain ⟨t, b1, b2⟩ := kk s.heap.size H1 ((hP.kept hk).app (fun k y hy => by
      have hz : k < 1 := (List.getElem?_eq_some_iff.mp hy).1
      rw [show k = 0 by omega] at hy
      cases hy
      exact e1)) (hD.push hP rfl (hA _ (Nat.le_refl _))) ⟨by omega, fun y h1 h2 => o1 y h1, fun l hl => by cases hl⟩
    ((T.setVm vm').pushCell (vp_cell cell.cls (n, .inl f))) (by rw [← hH1, ← hT]; rfl) X'
  refine ⟨t, st t ?_, b2⟩
  rw [hcellE, hT]
  exact b1
end JN
/-- what the constructors of the class are given beside their objects -/
def eC (tf : Nat) (ca : Nat → ClassId) (A : Nat → Prop) (U : State) (H : Heap) : Prop := (va_Nw (.fieldLinkNest RX3 9 "VisitVans" "FIRST_SETTING" "[I" RX4) U ∧ va_Nw (.methodLinkNest RX4 11 yX3_init RX4) U ∧ va_Nw (.methodLinkNest RX4 18 yX2_init RX4) U ∧ va_Nw (.methodLinkNest RX0 17 yX3_init RX4) U ∧ va_Nw (.methodLinkNest RX4 46 yX1_init RX4) U ∧ va_Nw (.castable "[I" "java/lang/Cloneable") U ∧ va_AO RX3 U ∧ U.vm.findClass "[I" = some (ca 0)) ∧ va_Z RX4 "FIRST_SETTING" "[I" (.ref tf) A U H ∧ (∃ cell : Cell, H[tf]? = some cell ∧ fC (ca 0) 3 (fun j => J (fsM j)) cell) ∧ ¬ A tf
theorem eC_at {tf : Nat} {ca : Nat → ClassId} {A B : Nat → Prop} {s U : State} {H : Heap} {locs : List Loc} (h : eC tf ca A s s.heap) (hS : va_S A s.heap H locs) (hAB : ∀ q, B q → A q) (hU : U.heap = H) (hW : s.WarmedH U.vm) : eC tf ca B U U.heap := by
  obtain ⟨⟨n1, n2, n3, n4, n5, n6, n7, n8⟩, hz, hc, hn⟩ := h
  have hk : ∀ a : Nat, a < s.heap.size → ¬ A a → U.heap[a]? = s.heap[a]? := fun a h1 h2 => by rw [hU]; exact hS.2.1 a h1 h2
  obtain ⟨cell, hc, hf⟩ := hc
  exact ⟨⟨n1.warmF hW, n2.warmM hW, n3.warmM hW, n4.warmM hW, n5.warmM hW, n6.warmC hW, n7.moved hW.alike, by rw [hW.alike.findClass]; exact n8⟩, (va_Z.moved hW.alike (hz.kept hk)).narrow hAB, ⟨cell, by rw [hk tf (Array.getElem?_eq_some_iff.mp hc).1 hn]; exact hc, hf⟩, fun z => hn (hAB tf z)⟩
theorem eC_blind {tf : Nat} {ca : Nat → ClassId} {A : Nat → Prop} {U : State} (a : Array Value) (g : JFrame) (mk : MethodId) (h : eC tf ca A U U.heap) : eC tf ca A (U.calling g mk a) (U.calling g mk a).heap := by
  obtain ⟨⟨n1, n2, n3, n4, n5, n6, n7, n8⟩, hz, hc, hn⟩ := h
  have hv : (U.calling g mk a).vm = U.vm := rfl
  have ha : U.vm.Alike (U.calling g mk a).vm := Vm.Alike.refl U.vm
  exact ⟨⟨n1.same rfl hv.symm, n2.same rfl hv.symm, n3.same rfl hv.symm, n4.same rfl hv.symm, n5.same rfl hv.symm, n6.same rfl hv.symm, n7.moved ha, n8⟩, va_Z.moved ha hz, hc, hn⟩
/-- a constructor's start and end, over a world behind it -/
abbrev PC (D : va_G) (ca : Nat → ClassId) (tf h0 sz : Nat) (e0 : va_E) (U : State) : Prop := U.heap.size = sz ∧ va_P D vwCl [(h0, e0)] U.heap ∧ va_K D vwCl (tyX ca) U ∧ va_D (fun _ => True) [(h0, e0)] ∧ eC tf ca (va_A [(h0, e0)] sz) U U.heap
abbrev QC (D : va_G) (h0 sz : Nat) (e0 : va_E) (bl : (Nat → Nat) → va_W) : Array Value → State → Outcome → State → Prop := va_Qv (fun _ : Nat → Nat => True) (fun u t => va_P D vwCl (bl u) t.heap ∧ va_D (va_A [(h0, e0)] sz) (bl u)) (va_A [(h0, e0)] sz)
theorem PC_blind {D : va_G} {ca : Nat → ClassId} {tf h0 sz : Nat} {e0 : va_E} {vs : List Value} : FrameBlind (va_Pc vs (PC D ca tf h0 sz e0)) := fun a U g mk q => ⟨q.1, q.2.1, q.2.2.1, va_K.moved (u := U) (U := U.calling g mk a) (Vm.Alike.refl U.vm) q.2.2.2.1, q.2.2.2.2.1, eC_blind a g mk q.2.2.2.2.2⟩
theorem psC {D : va_G} {ca : Nat → ClassId} {tf q : Nat} {e1 : va_E} {A : Nat → Prop} {s : State} {H : Heap} {locs : List Loc} (hK : va_K D vwCl (tyX ca) s) (hE : eC tf ca A s s.heap) (hS : va_S A s.heap H locs) (hP : va_P D vwCl [(q, e1)] H) (hD : va_D A [(q, e1)]) (hA : ∀ x, s.heap.size ≤ x → A x) : PreS s H (va_Pc [.ref q] (PC D ca tf q H.size e1)) [.ref q] :=
  ⟨PC_blind, fun U hU hW => ⟨rfl, by rw [hU], by rw [hU]; exact hP, va_K.moved hW.alike hK, hD.weaken (fun _ _ _ _ => trivial), eC_at hE hS (fun x hx => by
    rcases hx with ⟨k, e, hk⟩ | hx
    · exact hD.2 k _ hk
    · exact hA x (Nat.le_trans hS.1 hx)) hU hW⟩⟩
abbrev bR (ca : Nat → ClassId) (h0 : Nat) (u : Nat → Nat) : va_W := [(h0, .inr (3, [.ref (u 1), .ref (u 2), .ref (u 3), .ref (u 4), .int 0, .int 0])), (u 1, .inl (ca 0, 3, .inl (fun j => J (fsM j)))), (u 2, .inl (ca 0, 126, .inl (fun _ => J 0))), (u 3, .inl (ca 0, 8, .inl (fun _ => J 0))), (u 4, .inl (ca 0, 20, .inl (fun _ => J 0)))]
abbrev bP (ca : Nat → ClassId) (h0 : Nat) (u : Nat → Nat) : va_W := [(h0, .inr (2, [.ref (u 1), .ref (u 2), .ref (u 3), .ref (u 4), .ref (u 5), .int 0, .int 0])), (u 1, .inl (ca 0, 21, .inl (fun _ => J 0))), (u 2, .inl (ca 0, 84, .inl (fun _ => J 0))), (u 3, .inl (ca 0, 24, .inl (fun _ => J 0))), (u 4, .inl (ca 0, 20, .inl (fun _ => J 0))), (u 5, .inl (ca 0, 1008, .inl (fun _ => J 0)))]
abbrev bD (ca : Nat → ClassId) (h0 : Nat) (u : Nat → Nat) : va_W := [(h0, .inr (1, [.ref (u 1), .int 0, .int 0, .int 0, .ref (u 2), .int 0])), (u 1, .inl (ca 1, 80, .inl (fun _ => J 0))), (u 2, .inl (ca 0, 6, .inl (fun _ => J 0)))]
def M0X : MM := fun c j => if c < 55 ∧ c % 5 = 1 then fsM j else 0
def M0Y : MM := fun c j => if c = 1 then (if j = 0 then 2 else if j = 1 then 30 else if j = 2 then 120 else 0) else 0
theorem wL_of {N : Nat} {g : Nat → (Nat → Int) → va_E} {ad : Nat → Nat} {M : MM} {A : Nat → Prop} (hD : va_D A (wL N g ad M)) : aInj N ad ∧ ∀ c, c < N → A (ad c) :=
  ⟨fun i j hi hj he => hD.1 i j _ _ (wL_get hi rfl) (wL_get hj rfl) he, fun c hc => hD.2 c _ (wL_get hc rfl)⟩
abbrev QO (D : va_G) (h0 sz : Nat) (e0 : va_E) (N o : Nat) (bl : (Nat → Nat) → va_W) : Array Value → State → Outcome → State → Prop := va_Qv (fun _ : Nat → Nat => True) (fun u t => va_P D vwCl (bl u) t.heap ∧ u o = h0 ∧ aInj N u ∧ ∀ c, c < N → va_A [(h0, e0)] sz (u c)) (va_A [(h0, e0)] sz)
abbrev bH (ca : Nat → ClassId) (h0 : Nat) (u : Nat → Nat) : va_W := [(h0, .inr (0, [.ref (u 1), .int 0, .int 0])), (u 1, .inl (ca 3, 7, .inr (.inr (.inr (.inr (fun j => some (u (2 + 5 * j)))))))), (u 2, .inr (3, [.ref (u 3), .ref (u 4), .ref (u 5), .ref (u 6), .int 0, .int 0])), (u 3, .inl (ca 0, 3, .inl (fun j => J (fsM j)))), (u 4, .inl (ca 0, 126, .inl (fun _ => J 0))), (u 5, .inl (ca 0, 8, .inl (fun _ => J 0))), (u 6, .inl (ca 0, 20, .inl (fun _ => J 0))), (u 7, .inr (3, [.ref (u 8), .ref (u 9), .ref (u 10), .ref (u 11), .int 0, .int 0])), (u 8, .inl (ca 0, 3, .inl (fun j => J (fsM j)))), (u 9, .inl (ca 0, 126, .inl (fun _ => J 0))), (u 10, .inl (ca 0, 8, .inl (fun _ => J 0))), (u 11, .inl (ca 0, 20, .inl (fun _ => J 0))), (u 12, .inr (3, [.ref (u 13), .ref (u 14), .ref (u 15), .ref (u 16), .int 0, .int 0])), (u 13, .inl (ca 0, 3, .inl (fun j => J (fsM j)))), (u 14, .inl (ca 0, 126, .inl (fun _ => J 0))), (u 15, .inl (ca 0, 8, .inl (fun _ => J 0))), (u 16, .inl (ca 0, 20, .inl (fun _ => J 0))), (u 17, .inr (3, [.ref (u 18), .ref (u 19), .ref (u 20), .ref (u 21), .int 0, .int 0])), (u 18, .inl (ca 0, 3, .inl (fun j => J (fsM j)))), (u 19, .inl (ca 0, 126, .inl (fun _ => J 0))), (u 20, .inl (ca 0, 8, .inl (fun _ => J 0))), (u 21, .inl (ca 0, 20, .inl (fun _ => J 0))), (u 22, .inr (3, [.ref (u 23), .ref (u 24), .ref (u 25), .ref (u 26), .int 0, .int 0])), (u 23, .inl (ca 0, 3, .inl (fun j => J (fsM j)))), (u 24, .inl (ca 0, 126, .inl (fun _ => J 0))), (u 25, .inl (ca 0, 8, .inl (fun _ => J 0))), (u 26, .inl (ca 0, 20, .inl (fun _ => J 0))), (u 27, .inr (3, [.ref (u 28), .ref (u 29), .ref (u 30), .ref (u 31), .int 0, .int 0])), (u 28, .inl (ca 0, 3, .inl (fun j => J (fsM j)))), (u 29, .inl (ca 0, 126, .inl (fun _ => J 0))), (u 30, .inl (ca 0, 8, .inl (fun _ => J 0))), (u 31, .inl (ca 0, 20, .inl (fun _ => J 0))), (u 32, .inr (3, [.ref (u 33), .ref (u 34), .ref (u 35), .ref (u 36), .int 0, .int 0])), (u 33, .inl (ca 0, 3, .inl (fun j => J (fsM j)))), (u 34, .inl (ca 0, 126, .inl (fun _ => J 0))), (u 35, .inl (ca 0, 8, .inl (fun _ => J 0))), (u 36, .inl (ca 0, 20, .inl (fun _ => J 0)))]
