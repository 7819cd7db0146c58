/-! METHODS: pure functions and the walks of their bytecode, laid by program (wip/whole): X5_in X5_van0 X5_visit0 X5_records X5_hasSkill X5_hasParts X5_wayTo X5_beginOf X5_vanFor X5_makes X5_reason X5_looks X5_rankOf X5_plans X5_withPromise X5_isSetting X5_set X5_refuses X5_refusesVisit X5_laysVisit X5_visit X5_isVisit X5_dropsVisit X5_drop X5_refusesVan X5_laysVan X5_van X5_isVan X5_refusesLoad X5_load -/
def fX5_in (a1 : Int) (a2 : Int) (a3 : Int) : Option (Int) := bnd (if a1 < a2 then some ((0 : Int)) else if a3 < a1 then some ((0 : Int)) else some ((1 : Int))) (fun y2_0 => gd (y2_0 = 0 ∨ y2_0 = 1) (some y2_0))
set_option maxHeartbeats 4000000 in
set_option maxRecDepth 100000 in
theorem kX5_in (l : Launch) (D : va_G) (ca : Nat → ClassId) (ad : Nat → Nat) (hI : aInj 18 ad) (M : MM) (hR : RR M) (a1 : Int) (a2 : Int) (a3 : Int) (i1 : inR a1) (i2 : inR a2) (i3 : inR a3) (res : Int) (hf : fX5_in a1 a2 a3 = some res) : CI l yX5_in wsX5_in 0 0 [.int (J a1), .int (J a2), .int (J a3)] (PY D ca ad M) res (inR res) (OY D ca ad M) (aS 18 ad) := by
  refine Met.ofW (cc := cX5_in) (maxL := 3) (ret := (some .boolean)) (by decide) rfl ?_
  intro p e s m args below meth c s₁ B hml hv
  obtain ⟨rfl, hP, hK⟩ := hv
  have hx := B.exec
  have hb := B.bytes
  have hr := B.returns
  have hts := atoms_spec (ws := wsX5_in) B.pre
  have hown : s.vm.findClass RX5 = some m.cls := findClass_of_methodNamed B.named
  have hlocks := B.notSynchronized
  have hS : va_S (aS 18 ad) s.heap s.heap [] := va_S.rf
  have hl := lv_entry ([.int (J a1), .int (J a2), .int (J a3)]) (n := 3) (Nat.le_of_ble_eq_true rfl)
  rw [lg_entry_eq]
  generalize (lg_sl ([.int (J a1), .int (J a2), .int (J a3)]) ++ List.replicate (3 - (lg_sl ([.int (J a1), .int (J a2), .int (J a3)])).length) Slot.unset).toArray = ls at hl ⊢
  have hl : lv_has ls 3 [(0, .int (J a1)), (1, .int (J a2)), (2, .int (J a3))] := hl
  unfold fX5_in at hf
  refine lv_iload_n hx hb dX5_in_0 rfl (lv_at hl 0 rfl) ?_
  refine lv_iload_n hx hb dX5_in_1 rfl (lv_at hl 1 rfl) ?_
  obtain ⟨y2_0, h2, hf⟩ := bnd_some hf
  have K2 : ∀ (H : Heap) (locs : List Loc) (ls : Array Slot), inR y2_0 → va_P D vwCl (wY ca ad M) H → va_S (aS 18 ad) s.heap H locs → lv_has ls 3 [] → W p l e (headSpec wsX5_in (RmC 0 0)).room s m ([.int (J a1), .int (J a2), .int (J a3)] : List Value).toArray below meth c H locs 0 0 (MQ below (va_Qi (fun x (_ : Unit) => x = J res ∧ (inR res)) (fun _ => (OY D ca ad M)) (aS 18 ad)) ([.int (J a1), .int (J a2), .int (J a3)] : List Value).toArray s 0 0 (aS 18 ad)) (F0 m 15 ls [.int (J y2_0)]) := by
    intro H locs ls ry2_0  hP hS hl
    obtain ⟨g4, hf⟩ := gd_some hf
    have e1 := Option.some.inj hf
    exact jend_i hx hb hr (J_wZ g4).1 hS e1 (by rw [← e1]; exact ry2_0) (oY rfl hP) dX5_in_15 hlocks
  have hf := h2
  clear h2
  refine jv_icmp_lt (tgt := 14) hx hb dX5_in_2 (by decide) i1 i2 (fun c1 => ?_) (fun c1 => ?_)
  · have hf := itep hf c1
    refine lv_iconst (v := J 0) hx hb dX5_in_14 rfl ?_
    cases hf
    exact K2 _ _ _ (by decide : inR 0)  hP hS (lv_sub hl [] rfl)
  · have hf := iten hf c1
    refine lv_iload_n hx hb dX5_in_5 rfl (lv_at hl 0 rfl) ?_
    refine lv_iload_n hx hb dX5_in_6 rfl (lv_at hl 2 rfl) ?_
    refine jv_icmp_gt (tgt := 14) hx hb dX5_in_7 (by decide) i1 i3 (fun c3 => ?_) (fun c3 => ?_)
    · have hf := itep hf c3
      refine lv_iconst (v := J 0) hx hb dX5_in_14 rfl ?_
      cases hf
      exact K2 _ _ _ (by decide : inR 0)  hP hS (lv_sub hl [] rfl)
    · have hf := iten hf c3
      refine lv_iconst (v := J 1) hx hb dX5_in_10 rfl ?_
      refine lv_goto (tgt := 15) hx hb dX5_in_11 (by decide) ?_
      cases hf
      exact K2 _ _ _ (by decide : inR 1)  hP hS (lv_sub hl [] rfl)
def fX5_van0 (a1 : Int) (a2 : Int) (M : MM) : Option (Int) := bnd (rd M 1 160 ((5 + (7 * a1)) + a2)) (fun v1 => some v1)
set_option maxHeartbeats 4000000 in
set_option maxRecDepth 100000 in
theorem kX5_van0 (l : Launch) (D : va_G) (ca : Nat → ClassId) (ad : Nat → Nat) (hI : aInj 18 ad) (M : MM) (hR : RR M) (a1 : Int) (a2 : Int) (i1 : inR a1) (i2 : inR a2) (res : Int) (hf : fX5_van0 a1 a2 M = some res) : CI l yX5_van0 wsX5_van0 0 0 [.ref (ad 0), .int (J a1), .int (J a2)] (PY D ca ad M) res (inR res) (OY D ca ad M) (aS 18 ad) := by
  refine Met.ofW (cc := cX5_van0) (maxL := 3) (ret := (some .int)) (by decide) rfl ?_
  intro p e s m args below meth c s₁ B hml hv
  obtain ⟨rfl, hP, hK⟩ := hv
  have hx := B.exec
  have hb := B.bytes
  have hr := B.returns
  have hts := atoms_spec (ws := wsX5_van0) B.pre
  have hown : s.vm.findClass RX5 = some m.cls := findClass_of_methodNamed B.named
  have hlocks := B.notSynchronized
  have hS : va_S (aS 18 ad) s.heap s.heap [] := va_S.rf
  have hinX5 : ∀ w ∈ wsX50, w ∈ wsX5_van0 := by decide +kernel
  have hl := lv_entry ([.ref (ad 0), .int (J a1), .int (J a2)]) (n := 3) (Nat.le_of_ble_eq_true rfl)
  rw [lg_entry_eq]
  generalize (lg_sl ([.ref (ad 0), .int (J a1), .int (J a2)]) ++ List.replicate (3 - (lg_sl ([.ref (ad 0), .int (J a1), .int (J a2)])).length) Slot.unset).toArray = ls at hl ⊢
  have hl : lv_has ls 3 [(0, .ref (ad 0)), (1, .int (J a1)), (2, .int (J a2))] := hl
  unfold fX5_van0 at hf
  refine lv_aload_n hx hb dX5_van0_0 rfl (lv_at hl 0 rfl) ?_
  refine va_get (D := D) (ci := 5) (v := .ref (ad 1)) (C := RX5) (T := TX5) (N := 23) hx hb hts hinX5 hown hK hP 0 (wL_get (by decide) (gY_0 _)) rfl 1 (by decide) (hts (.fieldLink RX5 7 "VisitVansModel" "s" "[I") (List.mem_of_getElem? (i := 1) rfl)) (fun _ h => h) rfl dX5_van0_1 ?_
  refine lv_iconst (v := J 5) hx hb dX5_van0_4 rfl ?_
  refine lv_bipush (v := J 7) hx hb dX5_van0_5 (by decide +kernel) ?_
  refine lv_iload_n hx hb dX5_van0_7 rfl (lv_at hl 1 rfl) ?_
  refine jv_imul hx hb dX5_van0_8 ?_
  refine jv_iadd hx hb dX5_van0_9 ?_
  refine lv_iload_n hx hb dX5_van0_10 rfl (lv_at hl 2 rfl) ?_
  refine jv_iadd hx hb dX5_van0_11 ?_
  obtain ⟨v1, qv1, hf⟩ := bnd_some hf
  obtain ⟨bv1, ev1⟩ := rd_some qv1
  have rv1 : inR v1 := by rw [ev1]; exact hR _ _
  refine jx_iald hx hb hK hP 1 0 (by decide) gY_1 rfl (by decide) bv1 ev1 dX5_van0_12 ?_
  have e1 := Option.some.inj hf
  exact jend_i hx hb hr rfl hS e1 (by rw [← e1]; exact rv1) (oY rfl hP) dX5_van0_13 hlocks
def fX5_visit0 (a1 : Int) (a2 : Int) (M : MM) : Option (Int) := bnd (rd M 1 160 ((33 + (6 * a1)) + a2)) (fun v1 => some v1)
set_option maxHeartbeats 4000000 in
set_option maxRecDepth 100000 in
theorem kX5_visit0 (l : Launch) (D : va_G) (ca : Nat → ClassId) (ad : Nat → Nat) (hI : aInj 18 ad) (M : MM) (hR : RR M) (a1 : Int) (a2 : Int) (i1 : inR a1) (i2 : inR a2) (res : Int) (hf : fX5_visit0 a1 a2 M = some res) : CI l yX5_visit0 wsX5_visit0 0 0 [.ref (ad 0), .int (J a1), .int (J a2)] (PY D ca ad M) res (inR res) (OY D ca ad M) (aS 18 ad) := by
  refine Met.ofW (cc := cX5_visit0) (maxL := 3) (ret := (some .int)) (by decide) rfl ?_
  intro p e s m args below meth c s₁ B hml hv
  obtain ⟨rfl, hP, hK⟩ := hv
  have hx := B.exec
  have hb := B.bytes
  have hr := B.returns
  have hts := atoms_spec (ws := wsX5_visit0) B.pre
  have hown : s.vm.findClass RX5 = some m.cls := findClass_of_methodNamed B.named
  have hlocks := B.notSynchronized
  have hS : va_S (aS 18 ad) s.heap s.heap [] := va_S.rf
  have hinX5 : ∀ w ∈ wsX50, w ∈ wsX5_visit0 := by decide +kernel
  have hl := lv_entry ([.ref (ad 0), .int (J a1), .int (J a2)]) (n := 3) (Nat.le_of_ble_eq_true rfl)
  rw [lg_entry_eq]
  generalize (lg_sl ([.ref (ad 0), .int (J a1), .int (J a2)]) ++ List.replicate (3 - (lg_sl ([.ref (ad 0), .int (J a1), .int (J a2)])).length) Slot.unset).toArray = ls at hl ⊢
  have hl : lv_has ls 3 [(0, .ref (ad 0)), (1, .int (J a1)), (2, .int (J a2))] := hl
  unfold fX5_visit0 at hf
  refine lv_aload_n hx hb dX5_visit0_0 rfl (lv_at hl 0 rfl) ?_
  refine va_get (D := D) (ci := 5) (v := .ref (ad 1)) (C := RX5) (T := TX5) (N := 23) hx hb hts hinX5 hown hK hP 0 (wL_get (by decide) (gY_0 _)) rfl 1 (by decide) (hts (.fieldLink RX5 7 "VisitVansModel" "s" "[I") (List.mem_of_getElem? (i := 1) rfl)) (fun _ h => h) rfl dX5_visit0_1 ?_
  refine lv_bipush (v := J 33) hx hb dX5_visit0_4 (by decide +kernel) ?_
  refine lv_bipush (v := J 6) hx hb dX5_visit0_6 (by decide +kernel) ?_
  refine lv_iload_n hx hb dX5_visit0_8 rfl (lv_at hl 1 rfl) ?_
  refine jv_imul hx hb dX5_visit0_9 ?_
  refine jv_iadd hx hb dX5_visit0_10 ?_
  refine lv_iload_n hx hb dX5_visit0_11 rfl (lv_at hl 2 rfl) ?_
  refine jv_iadd hx hb dX5_visit0_12 ?_
  obtain ⟨v1, qv1, hf⟩ := bnd_some hf
  obtain ⟨bv1, ev1⟩ := rd_some qv1
  have rv1 : inR v1 := by rw [ev1]; exact hR _ _
  refine jx_iald hx hb hK hP 1 0 (by decide) gY_1 rfl (by decide) bv1 ev1 dX5_visit0_13 ?_
  have e1 := Option.some.inj hf
  exact jend_i hx hb hr rfl hS e1 (by rw [← e1]; exact rv1) (oY rfl hP) dX5_visit0_14 hlocks
def fX5_records_L11 : Nat → Int → MM → Option (MM)
  | 0, _, _ => none
  | n + 1, x1_3, M_3 => if 765 ≤ x1_3 then some M_3 else bnd (rd M_3 2 918 (x1_3 + 153)) (fun v5 => bnd (wr M_3 2 918 x1_3 v5) (fun M6 => gd (inR (x1_3 + 1)) (fX5_records_L11 n (x1_3 + 1) M6)))
def fX5_records_L52 : Nat → Int → MM → Option (MM)
  | 0, _, _ => none
  | n + 1, x1_10, M_10 => if 153 ≤ x1_10 then some M_10 else bnd (rd M_10 1 160 x1_10) (fun v12 => bnd (wr M_10 2 918 ((153 * (M_10 0 3)) + x1_10) v12) (fun M13 => gd (inR (x1_10 + 1)) (fX5_records_L52 n (x1_10 + 1) M13)))
def fX5_records (M : MM) : Option (MM) := bnd (if (M 0 3) = 6 then bnd (fX5_records_L11 4000 0 M) (fun N_3 => gd (inR ((N_3 0 3) - 1)) (bnd (some (stM N_3 0 3 ((N_3 0 3) - 1))) (fun M9 => some (M9)))) else some (M)) (fun M_2 => bnd (fX5_records_L52 4000 0 M_2) (fun N_10 => gd (inR ((N_10 0 3) + 1)) (bnd (some (stM N_10 0 3 ((N_10 0 3) + 1))) (fun M16 => some M16))))
set_option maxHeartbeats 4000000 in
set_option maxRecDepth 100000 in
theorem kX5_records (l : Launch) (D : va_G) (ca : Nat → ClassId) (ad : Nat → Nat) (hI : aInj 18 ad) (M : MM) (hR : RR M) (M' : MM) (hf : fX5_records M = some M') : CV l yX5_records wsX5_records 0 0 [.ref (ad 0)] (PY D ca ad M) (RR M') (OY D ca ad M') (aS 18 ad) := by
  refine Met.ofW (cc := cX5_records) (maxL := 2) (ret := none) (by decide) rfl ?_
  intro p e s m args below meth c s₁ B hml hv
  obtain ⟨rfl, hP, hK⟩ := hv
  have hx := B.exec
  have hb := B.bytes
  have hr := B.returns
  have hts := atoms_spec (ws := wsX5_records) B.pre
  have hown : s.vm.findClass RX5 = some m.cls := findClass_of_methodNamed B.named
  have hlocks := B.notSynchronized
  have hS : va_S (aS 18 ad) s.heap s.heap [] := va_S.rf
  have hinX5 : ∀ w ∈ wsX50, w ∈ wsX5_records := by decide +kernel
  have hl := lv_entry ([.ref (ad 0)]) (n := 2) (Nat.le_of_ble_eq_true rfl)
  rw [lg_entry_eq]
  generalize (lg_sl ([.ref (ad 0)]) ++ List.replicate (2 - (lg_sl ([.ref (ad 0)])).length) Slot.unset).toArray = ls at hl ⊢
  have hl : lv_has ls 2 [(0, .ref (ad 0))] := hl
  unfold fX5_records at hf
  refine lv_aload_n hx hb dX5_records_0 rfl (lv_at hl 0 rfl) ?_
  refine va_get (D := D) (ci := 5) (v := .int (J (M 0 3))) (C := RX5) (T := TX5) (N := 23) hx hb hts hinX5 hown hK hP 0 (wL_get (by decide) (gY_0 _)) rfl 3 (by decide) (hts (.fieldLink RX5 66 "VisitVansModel" "undoMany" "I") (List.mem_of_getElem? (i := 1) rfl)) (fun _ h => h) rfl dX5_records_1 ?_
  refine lv_bipush (v := J 6) hx hb dX5_records_4 (by decide +kernel) ?_
  obtain ⟨M_2, h2, hf⟩ := bnd_some hf
  have K2 : ∀ (H : Heap) (locs : List Loc) (ls : Array Slot), RR M_2 → va_P D vwCl (wY ca ad M_2) H → va_S (aS 18 ad) s.heap H locs → lv_has ls 2 [(0, .ref (ad 0))] → W p l e (headSpec wsX5_records (RmC 0 0)).room s m ([.ref (ad 0)] : List Value).toArray below meth c H locs 0 0 (MQ below (va_Qv (fun (_ : Unit) => (RR M')) (fun _ => (OY D ca ad M')) (aS 18 ad)) ([.ref (ad 0)] : List Value).toArray s 0 0 (aS 18 ad)) (F0 m 50 ls []) := by
    intro H locs ls hRM_2  hP hS hl
    refine lv_iconst (v := J 0) hx hb dX5_records_50 rfl ?_
    refine lv_istore_n (lv' := [(1, .int (J 0)), (0, .ref (ad 0))]) hx hb dX5_records_51 rfl hl (by decide) rfl (fun ls hl => ?_)
    obtain ⟨N_10, h10, hf⟩ := bnd_some hf
    have K10 : ∀ (H : Heap) (locs : List Loc) (ls : Array Slot), RR N_10 → va_P D vwCl (wY ca ad N_10) H → va_S (aS 18 ad) s.heap H locs → lv_has ls 2 [(0, .ref (ad 0))] → W p l e (headSpec wsX5_records (RmC 0 0)).room s m ([.ref (ad 0)] : List Value).toArray below meth c H locs 0 0 (MQ below (va_Qv (fun (_ : Unit) => (RR M')) (fun _ => (OY D ca ad M')) (aS 18 ad)) ([.ref (ad 0)] : List Value).toArray s 0 0 (aS 18 ad)) (F0 m 86 ls []) := by
      intro H locs ls hRN_10 hP hS hl
      refine lv_aload_n hx hb dX5_records_86 rfl (lv_at hl 0 rfl) ?_
      refine lv_dup hx hb dX5_records_87 rfl ?_
      refine va_get (D := D) (ci := 5) (v := .int (J (N_10 0 3))) (C := RX5) (T := TX5) (N := 23) hx hb hts hinX5 hown hK hP 0 (wL_get (by decide) (gY_0 _)) rfl 3 (by decide) (hts (.fieldLink RX5 66 "VisitVansModel" "undoMany" "I") (List.mem_of_getElem? (i := 1) rfl)) (fun _ h => h) rfl dX5_records_88 ?_
      refine lv_iconst (v := J 1) hx hb dX5_records_91 rfl ?_
      refine jv_iadd hx hb dX5_records_92 ?_
      obtain ⟨g15, hf⟩ := gd_some hf
      obtain ⟨M16, eM16, hf⟩ := bnd_some hf
      have eM16 := Option.some.inj eM16
      have hRM16 : RR M16 := by rw [← eM16]; exact RR_st hRN_10 0 3 g15
      refine va_put (D := D) (ci := 5) (v := .int (J ((N_10 0 3) + 1))) (ty := .int) (C := RX5) (T := TX5) (N := 23) hx hb hts hinX5 tyX5 tyX5_ok nmX5 hown hK hP (wL_D hI N_10) hS 0 (wL_get (by decide) (gY_0 _)) rfl 3 (by decide) (hts (.fieldLink RX5 66 "VisitVansModel" "undoMany" "I") (List.mem_of_getElem? (i := 1) rfl)) (fun _ h => h) rfl rfl rfl rfl (Nat.le_of_ble_eq_true rfl) dX5_records_93 (fun H locs hP hD hS => ?_)
      have hP : va_P D vwCl (wY ca ad M16) H := by rw [← eM16]; exact hPset (gY_0_s3) stM_o hP
      have e2 := Option.some.inj hf
      exact jend_v hx hb hr hS (by rw [← e2]; exact hRM16) (oY e2 hP) dX5_records_96 hlocks
    have hL10 : ∀ (n : Nat) (x1_10 : Int) (M_10 : MM) (H : Heap) (locs : List Loc) (ls : Array Slot), inR x1_10 → RR M_10 → va_P D vwCl (wY ca ad M_10) H → va_S (aS 18 ad) s.heap H locs → lv_has ls 2 [(0, .ref (ad 0)), (1, .int (J x1_10))] → fX5_records_L52 n x1_10 M_10 = some N_10 → W p l e (headSpec wsX5_records (RmC 0 0)).room s m ([.ref (ad 0)] : List Value).toArray below meth c H locs 0 0 (MQ below (va_Qv (fun (_ : Unit) => (RR M')) (fun _ => (OY D ca ad M')) (aS 18 ad)) ([.ref (ad 0)] : List Value).toArray s 0 0 (aS 18 ad)) (F0 m 52 ls []) := by
      intro n
      induction n with
      | zero =>
        intro x1_10 M_10 H locs ls rx1_10 hRM_10 hP hS hl hf
        rw [fX5_records_L52] at hf
        cases hf
      | succ n ih =>
        intro x1_10 M_10 H locs ls rx1_10 hRM_10 hP hS hl hf
        rw [fX5_records_L52] at hf
        refine lv_iload_n hx hb dX5_records_52 rfl (lv_at hl 1 rfl) ?_
        refine lv_sipush (v := J 153) hx hb dX5_records_53 (by decide +kernel) ?_
        refine jv_icmp_ge (tgt := 86) hx hb dX5_records_56 (by decide) rx1_10 (by decide : inR 153) (fun c11 => ?_) (fun c11 => ?_)
        · have hf := itep hf c11
          cases hf
          exact K10 _ _ _ hRM_10 hP hS (lv_sub hl [0] rfl)
        · have hf := iten hf c11
          refine lv_aload_n hx hb dX5_records_59 rfl (lv_at hl 0 rfl) ?_
          refine va_get (D := D) (ci := 5) (v := .ref (ad 2)) (C := RX5) (T := TX5) (N := 23) hx hb hts hinX5 hown hK hP 0 (wL_get (by decide) (gY_0 _)) rfl 2 (by decide) (hts (.fieldLink RX5 13 "VisitVansModel" "undos" "[I") (List.mem_of_getElem? (i := 2) rfl)) (fun _ h => h) rfl dX5_records_60 ?_
          refine lv_sipush (v := J 153) hx hb dX5_records_63 (by decide +kernel) ?_
          refine lv_aload_n hx hb dX5_records_66 rfl (lv_at hl 0 rfl) ?_
          refine va_get (D := D) (ci := 5) (v := .int (J (M_10 0 3))) (C := RX5) (T := TX5) (N := 23) hx hb hts hinX5 hown hK hP 0 (wL_get (by decide) (gY_0 _)) rfl 3 (by decide) (hts (.fieldLink RX5 66 "VisitVansModel" "undoMany" "I") (List.mem_of_getElem? (i := 1) rfl)) (fun _ h => h) rfl dX5_records_67 ?_
          refine jv_imul hx hb dX5_records_70 ?_
          refine lv_iload_n hx hb dX5_records_71 rfl (lv_at hl 1 rfl) ?_
          refine jv_iadd hx hb dX5_records_72 ?_
          refine lv_aload_n hx hb dX5_records_73 rfl (lv_at hl 0 rfl) ?_
          refine va_get (D := D) (ci := 5) (v := .ref (ad 1)) (C := RX5) (T := TX5) (N := 23) hx hb hts hinX5 hown hK hP 0 (wL_get (by decide) (gY_0 _)) rfl 1 (by decide) (hts (.fieldLink RX5 7 "VisitVansModel" "s" "[I") (List.mem_of_getElem? (i := 3) rfl)) (fun _ h => h) rfl dX5_records_74 ?_
          refine lv_iload_n hx hb dX5_records_77 rfl (lv_at hl 1 rfl) ?_
          obtain ⟨v12, qv12, hf⟩ := bnd_some hf
          obtain ⟨bv12, ev12⟩ := rd_some qv12
          have rv12 : inR v12 := by rw [ev12]; exact hRM_10 _ _
          refine jx_iald hx hb hK hP 1 0 (by decide) gY_1 rfl (by decide) bv12 ev12 dX5_records_78 ?_
          obtain ⟨M13, qM13, hf⟩ := bnd_some hf
          obtain ⟨bM13, zM13, eM13⟩ := wr_some qM13
          have hRM13 : RR M13 := by rw [eM13]; exact RR_st hRM_10 _ _ zM13
          refine jx_iast hx hb hK hP hI hS 2 0 (by decide) gY_2 rfl (by decide) bM13 zM13 dX5_records_79 (fun H locs hP hS => ?_)
          rw [← eM13] at hP
          refine lv_iinc (v := J (x1_10 + 1)) (lv' := [(1, .int (J (x1_10 + 1))), (0, .ref (ad 0))]) hx hb dX5_records_80 hl (k := 1) rfl (J_add _ _) (by decide) rfl (fun ls hl => ?_)
          refine lv_goto (tgt := 52) hx hb dX5_records_83 (by decide) ?_
          obtain ⟨g14, hf⟩ := gd_some hf
          exact ih _ _ _ _ _ g14 hRM13 hP hS (lv_sub hl [1, 0] rfl) hf
    exact hL10 4000 _ _ _ _ _ (by decide : inR 0) hRM_2 hP hS (lv_sub hl [1, 0] rfl) h10
  have hf := h2
  clear h2
  refine jv_icmp_ne (tgt := 50) hx hb dX5_records_6 (by decide) (hR 0 3) (by decide : inR 6) (fun c1 => ?_) (fun c1 => ?_)
  · have hf := iten hf c1
    cases hf
    exact K2 _ _ _ hR hP hS (lv_sub hl [0] rfl)
  · have hf := itep hf c1
    refine lv_iconst (v := J 0) hx hb dX5_records_9 rfl ?_
    refine lv_istore_n (lv' := [(1, .int (J 0)), (0, .ref (ad 0))]) hx hb dX5_records_10 rfl hl (by decide) rfl (fun ls hl => ?_)
    obtain ⟨N_3, h3, hf⟩ := bnd_some hf
    have K3 : ∀ (H : Heap) (locs : List Loc) (ls : Array Slot), RR N_3 → va_P D vwCl (wY ca ad N_3) H → va_S (aS 18 ad) s.heap H locs → lv_has ls 2 [(0, .ref (ad 0))] → W p l e (headSpec wsX5_records (RmC 0 0)).room s m ([.ref (ad 0)] : List Value).toArray below meth c H locs 0 0 (MQ below (va_Qv (fun (_ : Unit) => (RR M')) (fun _ => (OY D ca ad M')) (aS 18 ad)) ([.ref (ad 0)] : List Value).toArray s 0 0 (aS 18 ad)) (F0 m 40 ls []) := by
      intro H locs ls hRN_3 hP hS hl
      refine lv_aload_n hx hb dX5_records_40 rfl (lv_at hl 0 rfl) ?_
      refine lv_dup hx hb dX5_records_41 rfl ?_
      refine va_get (D := D) (ci := 5) (v := .int (J (N_3 0 3))) (C := RX5) (T := TX5) (N := 23) hx hb hts hinX5 hown hK hP 0 (wL_get (by decide) (gY_0 _)) rfl 3 (by decide) (hts (.fieldLink RX5 66 "VisitVansModel" "undoMany" "I") (List.mem_of_getElem? (i := 1) rfl)) (fun _ h => h) rfl dX5_records_42 ?_
      refine lv_iconst (v := J 1) hx hb dX5_records_45 rfl ?_
      refine jv_isub hx hb dX5_records_46 ?_
      obtain ⟨g8, hf⟩ := gd_some hf
      obtain ⟨M9, eM9, hf⟩ := bnd_some hf
      have eM9 := Option.some.inj eM9
      have hRM9 : RR M9 := by rw [← eM9]; exact RR_st hRN_3 0 3 g8
      refine va_put (D := D) (ci := 5) (v := .int (J ((N_3 0 3) - 1))) (ty := .int) (C := RX5) (T := TX5) (N := 23) hx hb hts hinX5 tyX5 tyX5_ok nmX5 hown hK hP (wL_D hI N_3) hS 0 (wL_get (by decide) (gY_0 _)) rfl 3 (by decide) (hts (.fieldLink RX5 66 "VisitVansModel" "undoMany" "I") (List.mem_of_getElem? (i := 1) rfl)) (fun _ h => h) rfl rfl rfl rfl (Nat.le_of_ble_eq_true rfl) dX5_records_47 (fun H locs hP hD hS => ?_)
      have hP : va_P D vwCl (wY ca ad M9) H := by rw [← eM9]; exact hPset (gY_0_s3) stM_o hP
      cases hf
      exact K2 _ _ _ hRM9 hP hS (lv_sub hl [0] rfl)
    have hL3 : ∀ (n : Nat) (x1_3 : Int) (M_3 : MM) (H : Heap) (locs : List Loc) (ls : Array Slot), inR x1_3 → RR M_3 → va_P D vwCl (wY ca ad M_3) H → va_S (aS 18 ad) s.heap H locs → lv_has ls 2 [(0, .ref (ad 0)), (1, .int (J x1_3))] → fX5_records_L11 n x1_3 M_3 = some N_3 → W p l e (headSpec wsX5_records (RmC 0 0)).room s m ([.ref (ad 0)] : List Value).toArray below meth c H locs 0 0 (MQ below (va_Qv (fun (_ : Unit) => (RR M')) (fun _ => (OY D ca ad M')) (aS 18 ad)) ([.ref (ad 0)] : List Value).toArray s 0 0 (aS 18 ad)) (F0 m 11 ls []) := by
      intro n
      induction n with
      | zero =>
        intro x1_3 M_3 H locs ls rx1_3 hRM_3 hP hS hl hf
        rw [fX5_records_L11] at hf
        cases hf
      | succ n ih =>
        intro x1_3 M_3 H locs ls rx1_3 hRM_3 hP hS hl hf
        rw [fX5_records_L11] at hf
        refine lv_iload_n hx hb dX5_records_11 rfl (lv_at hl 1 rfl) ?_
        refine lv_sipush (v := J 765) hx hb dX5_records_12 (by decide +kernel) ?_
        refine jv_icmp_ge (tgt := 40) hx hb dX5_records_15 (by decide) rx1_3 (by decide : inR 765) (fun c4 => ?_) (fun c4 => ?_)
        · have hf := itep hf c4
          cases hf
          exact K3 _ _ _ hRM_3 hP hS (lv_sub hl [0] rfl)
        · have hf := iten hf c4
          refine lv_aload_n hx hb dX5_records_18 rfl (lv_at hl 0 rfl) ?_
          refine va_get (D := D) (ci := 5) (v := .ref (ad 2)) (C := RX5) (T := TX5) (N := 23) hx hb hts hinX5 hown hK hP 0 (wL_get (by decide) (gY_0 _)) rfl 2 (by decide) (hts (.fieldLink RX5 13 "VisitVansModel" "undos" "[I") (List.mem_of_getElem? (i := 2) rfl)) (fun _ h => h) rfl dX5_records_19 ?_
          refine lv_iload_n hx hb dX5_records_22 rfl (lv_at hl 1 rfl) ?_
          refine lv_aload_n hx hb dX5_records_23 rfl (lv_at hl 0 rfl) ?_
          refine va_get (D := D) (ci := 5) (v := .ref (ad 2)) (C := RX5) (T := TX5) (N := 23) hx hb hts hinX5 hown hK hP 0 (wL_get (by decide) (gY_0 _)) rfl 2 (by decide) (hts (.fieldLink RX5 13 "VisitVansModel" "undos" "[I") (List.mem_of_getElem? (i := 2) rfl)) (fun _ h => h) rfl dX5_records_24 ?_
          refine lv_iload_n hx hb dX5_records_27 rfl (lv_at hl 1 rfl) ?_
          refine lv_sipush (v := J 153) hx hb dX5_records_28 (by decide +kernel) ?_
          refine jv_iadd hx hb dX5_records_31 ?_
          obtain ⟨v5, qv5, hf⟩ := bnd_some hf
          obtain ⟨bv5, ev5⟩ := rd_some qv5
          have rv5 : inR v5 := by rw [ev5]; exact hRM_3 _ _
          refine jx_iald hx hb hK hP 2 0 (by decide) gY_2 rfl (by decide) bv5 ev5 dX5_records_32 ?_
          obtain ⟨M6, qM6, hf⟩ := bnd_some hf
          obtain ⟨bM6, zM6, eM6⟩ := wr_some qM6
          have hRM6 : RR M6 := by rw [eM6]; exact RR_st hRM_3 _ _ zM6
          refine jx_iast hx hb hK hP hI hS 2 0 (by decide) gY_2 rfl (by decide) bM6 zM6 dX5_records_33 (fun H locs hP hS => ?_)
          rw [← eM6] at hP
          refine lv_iinc (v := J (x1_3 + 1)) (lv' := [(1, .int (J (x1_3 + 1))), (0, .ref (ad 0))]) hx hb dX5_records_34 hl (k := 1) rfl (J_add _ _) (by decide) rfl (fun ls hl => ?_)
          refine lv_goto (tgt := 11) hx hb dX5_records_37 (by decide) ?_
          obtain ⟨g7, hf⟩ := gd_some hf
          exact ih _ _ _ _ _ g7 hRM6 hP hS (lv_sub hl [1, 0] rfl) hf
    exact hL3 4000 _ _ _ _ _ (by decide : inR 0) hR hP hS (lv_sub hl [1, 0] rfl) h3
def fX5_hasSkill (a1 : Int) (a2 : Int) (M : MM) : Option (Int) := bnd (fX5_van0 a1 1 M) (fun v1 => bnd (fX5_visit0 a2 1 M) (fun v3 => bnd (if (iand (ishr v1 v3) 1) = 1 then some ((1 : Int)) else some ((0 : Int))) (fun y6_0 => gd (y6_0 = 0 ∨ y6_0 = 1) (some y6_0))))
set_option maxHeartbeats 4000000 in
set_option maxRecDepth 100000 in
theorem kX5_hasSkill (l : Launch) (D : va_G) (ca : Nat → ClassId) (ad : Nat → Nat) (hI : aInj 18 ad) (M : MM) (hR : RR M) (a1 : Int) (a2 : Int) (i1 : inR a1) (i2 : inR a2) (res : Int) (hf : fX5_hasSkill a1 a2 M = some res) : CI l yX5_hasSkill wsX5_hasSkill 1 22 [.ref (ad 0), .int (J a1), .int (J a2)] (PY D ca ad M) res (inR res) (OY D ca ad M) (aS 18 ad) := by
  refine Met.ofW (cc := cX5_hasSkill) (maxL := 3) (ret := (some .boolean)) (by decide) rfl ?_
  intro p e s m args below meth c s₁ B hml hv
  obtain ⟨rfl, hP, hK⟩ := hv
  have hx := B.exec
  have hb := B.bytes
  have hr := B.returns
  have hts := atoms_spec (ws := wsX5_hasSkill) B.pre
  have hown : s.vm.findClass RX5 = some m.cls := findClass_of_methodNamed B.named
  have hlocks := B.notSynchronized
  have hS : va_S (aS 18 ad) s.heap s.heap [] := va_S.rf
  have hl := lv_entry ([.ref (ad 0), .int (J a1), .int (J a2)]) (n := 3) (Nat.le_of_ble_eq_true rfl)
  rw [lg_entry_eq]
  generalize (lg_sl ([.ref (ad 0), .int (J a1), .int (J a2)]) ++ List.replicate (3 - (lg_sl ([.ref (ad 0), .int (J a1), .int (J a2)])).length) Slot.unset).toArray = ls at hl ⊢
  have hl : lv_has ls 3 [(0, .ref (ad 0)), (1, .int (J a1)), (2, .int (J a2))] := hl
  unfold fX5_hasSkill at hf
  refine lv_aload_n hx hb dX5_hasSkill_0 rfl (lv_at hl 0 rfl) ?_
  refine lv_iload_n hx hb dX5_hasSkill_1 rfl (lv_at hl 1 rfl) ?_
  refine lv_iconst (v := J 1) hx hb dX5_hasSkill_2 rfl ?_
  obtain ⟨v1, qv1, hf⟩ := bnd_some hf
  refine jc_i (va_runV (As := [.int (J a1), .int (J 1)]) (rest := []) ⟨hx, hb, hml, hown, hts⟩ (kX5_van0 l D ca ad hI M hR a1 1 i1 (by decide : inR 1) v1 qv1) (cwV 2 hts gX5_hasSkill_X5_van0 rfl rfl rfl (by decide +kernel) ⟨Nat.le_of_ble_eq_true rfl, Nat.le_of_ble_eq_true rfl⟩) (pvY hK hP [.int (J a1), .int (J 1)]) rfl rfl hl.1 rfl (lv_room (Nat.le_of_ble_eq_true rfl)) dX5_hasSkill_3 ⟨Nat.zero_le _, Nat.zero_le _⟩) hS (fun H locs t ht hφ hO hS => ?_)
  have rv1 := hφ
  have hP : va_P D vwCl (wY ca ad M) H := by rw [← ht]; exact hO
  refine lv_aload_n hx hb dX5_hasSkill_6 rfl (lv_at hl 0 rfl) ?_
  refine lv_iload_n hx hb dX5_hasSkill_7 rfl (lv_at hl 2 rfl) ?_
  refine lv_iconst (v := J 1) hx hb dX5_hasSkill_8 rfl ?_
  obtain ⟨v3, qv3, hf⟩ := bnd_some hf
  refine jc_i (va_runV (As := [.int (J a2), .int (J 1)]) (rest := [.int (J v1)]) ⟨hx, hb, hml, hown, hts⟩ (kX5_visit0 l D ca ad hI M hR a2 1 i2 (by decide : inR 1) v3 qv3) (cwV 2 hts gX5_hasSkill_X5_visit0 rfl rfl rfl (by decide +kernel) ⟨Nat.le_of_ble_eq_true rfl, Nat.le_of_ble_eq_true rfl⟩) (pvY hK hP [.int (J a2), .int (J 1)]) rfl rfl hl.1 rfl (lv_room (Nat.le_of_ble_eq_true rfl)) dX5_hasSkill_9 ⟨Nat.zero_le _, Nat.zero_le _⟩) hS (fun H locs t ht hφ hO hS => ?_)
  have rv3 := hφ
  have hP : va_P D vwCl (wY ca ad M) H := by rw [← ht]; exact hO
  refine jv_ishr hx hb dX5_hasSkill_12 ?_
  refine lv_iconst (v := J 1) hx hb dX5_hasSkill_13 rfl ?_
  refine jv_iand hx hb dX5_hasSkill_14 ?_
  refine lv_iconst (v := J 1) hx hb dX5_hasSkill_15 rfl ?_
  obtain ⟨y6_0, h6, hf⟩ := bnd_some hf
  have K6 : ∀ (H : Heap) (locs : List Loc) (ls : Array Slot), inR y6_0 → va_P D vwCl (wY ca ad M) H → va_S (aS 18 ad) s.heap H locs → lv_has ls 3 [] → W p l e (headSpec wsX5_hasSkill (RmC 1 22)).room s m ([.ref (ad 0), .int (J a1), .int (J a2)] : List Value).toArray below meth c H locs 0 0 (MQ below (va_Qi (fun x (_ : Unit) => x = J res ∧ (inR res)) (fun _ => (OY D ca ad M)) (aS 18 ad)) ([.ref (ad 0), .int (J a1), .int (J a2)] : List Value).toArray s 0 0 (aS 18 ad)) (F0 m 24 ls [.int (J y6_0)]) := by
    intro H locs ls ry6_0  hP hS hl
    obtain ⟨g7, hf⟩ := gd_some hf
    have e1 := Option.some.inj hf
    exact jend_i hx hb hr (J_wZ g7).1 hS e1 (by rw [← e1]; exact ry6_0) (oY rfl hP) dX5_hasSkill_24 hlocks
  have hf := h6
  clear h6
  refine jv_icmp_ne (tgt := 23) hx hb dX5_hasSkill_16 (by decide) (J_inR _) (by decide : inR 1) (fun c5 => ?_) (fun c5 => ?_)
  · have hf := iten hf c5
    refine lv_iconst (v := J 0) hx hb dX5_hasSkill_23 rfl ?_
    cases hf
    exact K6 _ _ _ (by decide : inR 0)  hP hS (lv_sub hl [] rfl)
  · have hf := itep hf c5
    refine lv_iconst (v := J 1) hx hb dX5_hasSkill_19 rfl ?_
    refine lv_goto (tgt := 24) hx hb dX5_hasSkill_20 (by decide) ?_
    cases hf
    exact K6 _ _ _ (by decide : inR 1)  hP hS (lv_sub hl [] rfl)
def fX5_hasParts (a1 : Int) (a2 : Int) (M : MM) : Option (Int) := bnd (fX5_visit0 a2 2 M) (fun v1 => bnd (rd M 14 20 ((5 * a1) + v1)) (fun v3 => bnd (fX5_visit0 a2 3 M) (fun v4 => bnd (if v3 < v4 then some ((0 : Int)) else some ((1 : Int))) (fun y7_0 => gd (y7_0 = 0 ∨ y7_0 = 1) (some y7_0)))))
set_option maxHeartbeats 4000000 in
set_option maxRecDepth 100000 in
theorem kX5_hasParts (l : Launch) (D : va_G) (ca : Nat → ClassId) (ad : Nat → Nat) (hI : aInj 18 ad) (M : MM) (hR : RR M) (a1 : Int) (a2 : Int) (i1 : inR a1) (i2 : inR a2) (res : Int) (hf : fX5_hasParts a1 a2 M = some res) : CI l yX5_hasParts wsX5_hasParts 1 22 [.ref (ad 0), .int (J a1), .int (J a2)] (PY D ca ad M) res (inR res) (OY D ca ad M) (aS 18 ad) := by
  refine Met.ofW (cc := cX5_hasParts) (maxL := 3) (ret := (some .boolean)) (by decide) rfl ?_
  intro p e s m args below meth c s₁ B hml hv
  obtain ⟨rfl, hP, hK⟩ := hv
  have hx := B.exec
  have hb := B.bytes
  have hr := B.returns
  have hts := atoms_spec (ws := wsX5_hasParts) B.pre
  have hown : s.vm.findClass RX5 = some m.cls := findClass_of_methodNamed B.named
  have hlocks := B.notSynchronized
  have hS : va_S (aS 18 ad) s.heap s.heap [] := va_S.rf
  have hinX5 : ∀ w ∈ wsX50, w ∈ wsX5_hasParts := by decide +kernel
  have hl := lv_entry ([.ref (ad 0), .int (J a1), .int (J a2)]) (n := 3) (Nat.le_of_ble_eq_true rfl)
  rw [lg_entry_eq]
  generalize (lg_sl ([.ref (ad 0), .int (J a1), .int (J a2)]) ++ List.replicate (3 - (lg_sl ([.ref (ad 0), .int (J a1), .int (J a2)])).length) Slot.unset).toArray = ls at hl ⊢
  have hl : lv_has ls 3 [(0, .ref (ad 0)), (1, .int (J a1)), (2, .int (J a2))] := hl
  unfold fX5_hasParts at hf
  refine lv_aload_n hx hb dX5_hasParts_0 rfl (lv_at hl 0 rfl) ?_
  refine va_get (D := D) (ci := 5) (v := .ref (ad 14)) (C := RX5) (T := TX5) (N := 23) hx hb hts hinX5 hown hK hP 0 (wL_get (by decide) (gY_0 _)) rfl 16 (by decide) (hts (.fieldLink RX5 50 "VisitVansModel" "left" "[I") (List.mem_of_getElem? (i := 1) rfl)) (fun _ h => h) rfl dX5_hasParts_1 ?_
  refine lv_iconst (v := J 5) hx hb dX5_hasParts_4 rfl ?_
  refine lv_iload_n hx hb dX5_hasParts_5 rfl (lv_at hl 1 rfl) ?_
  refine jv_imul hx hb dX5_hasParts_6 ?_
  refine lv_aload_n hx hb dX5_hasParts_7 rfl (lv_at hl 0 rfl) ?_
  refine lv_iload_n hx hb dX5_hasParts_8 rfl (lv_at hl 2 rfl) ?_
  refine lv_iconst (v := J 2) hx hb dX5_hasParts_9 rfl ?_
  obtain ⟨v1, qv1, hf⟩ := bnd_some hf
  refine jc_i (va_runV (As := [.int (J a2), .int (J 2)]) (rest := [.int (J (5 * a1)), .ref (ad 14)]) ⟨hx, hb, hml, hown, hts⟩ (kX5_visit0 l D ca ad hI M hR a2 2 i2 (by decide : inR 2) v1 qv1) (cwV 2 hts gX5_hasParts_X5_visit0 rfl rfl rfl (by decide +kernel) ⟨Nat.le_of_ble_eq_true rfl, Nat.le_of_ble_eq_true rfl⟩) (pvY hK hP [.int (J a2), .int (J 2)]) rfl rfl hl.1 rfl (lv_room (Nat.le_of_ble_eq_true rfl)) dX5_hasParts_10 ⟨Nat.zero_le _, Nat.zero_le _⟩) hS (fun H locs t ht hφ hO hS => ?_)
  have rv1 := hφ
  have hP : va_P D vwCl (wY ca ad M) H := by rw [← ht]; exact hO
  refine jv_iadd hx hb dX5_hasParts_13 ?_
  obtain ⟨v3, qv3, hf⟩ := bnd_some hf
  obtain ⟨bv3, ev3⟩ := rd_some qv3
  have rv3 : inR v3 := by rw [ev3]; exact hR _ _
  refine jx_iald hx hb hK hP 14 0 (by decide) gY_14 rfl (by decide) bv3 ev3 dX5_hasParts_14 ?_
  refine lv_aload_n hx hb dX5_hasParts_15 rfl (lv_at hl 0 rfl) ?_
  refine lv_iload_n hx hb dX5_hasParts_16 rfl (lv_at hl 2 rfl) ?_
  refine lv_iconst (v := J 3) hx hb dX5_hasParts_17 rfl ?_
  obtain ⟨v4, qv4, hf⟩ := bnd_some hf
  refine jc_i (va_runV (As := [.int (J a2), .int (J 3)]) (rest := [.int (J v3)]) ⟨hx, hb, hml, hown, hts⟩ (kX5_visit0 l D ca ad hI M hR a2 3 i2 (by decide : inR 3) v4 qv4) (cwV 2 hts gX5_hasParts_X5_visit0 rfl rfl rfl (by decide +kernel) ⟨Nat.le_of_ble_eq_true rfl, Nat.le_of_ble_eq_true rfl⟩) (pvY hK hP [.int (J a2), .int (J 3)]) rfl rfl hl.1 rfl (lv_room (Nat.le_of_ble_eq_true rfl)) dX5_hasParts_18 ⟨Nat.zero_le _, Nat.zero_le _⟩) hS (fun H locs t ht hφ hO hS => ?_)
  have rv4 := hφ
  have hP : va_P D vwCl (wY ca ad M) H := by rw [← ht]; exact hO
  obtain ⟨y7_0, h7, hf⟩ := bnd_some hf
  have K7 : ∀ (H : Heap) (locs : List Loc) (ls : Array Slot), inR y7_0 → va_P D vwCl (wY ca ad M) H → va_S (aS 18 ad) s.heap H locs → lv_has ls 3 [] → W p l e (headSpec wsX5_hasParts (RmC 1 22)).room s m ([.ref (ad 0), .int (J a1), .int (J a2)] : List Value).toArray below meth c H locs 0 0 (MQ below (va_Qi (fun x (_ : Unit) => x = J res ∧ (inR res)) (fun _ => (OY D ca ad M)) (aS 18 ad)) ([.ref (ad 0), .int (J a1), .int (J a2)] : List Value).toArray s 0 0 (aS 18 ad)) (F0 m 29 ls [.int (J y7_0)]) := by
    intro H locs ls ry7_0  hP hS hl
    obtain ⟨g8, hf⟩ := gd_some hf
    have e1 := Option.some.inj hf
    exact jend_i hx hb hr (J_wZ g8).1 hS e1 (by rw [← e1]; exact ry7_0) (oY rfl hP) dX5_hasParts_29 hlocks
  have hf := h7
  clear h7
  refine jv_icmp_lt (tgt := 28) hx hb dX5_hasParts_21 (by decide) rv3 rv4 (fun c6 => ?_) (fun c6 => ?_)
  · have hf := itep hf c6
    refine lv_iconst (v := J 0) hx hb dX5_hasParts_28 rfl ?_
    cases hf
    exact K7 _ _ _ (by decide : inR 0)  hP hS (lv_sub hl [] rfl)
  · have hf := iten hf c6
    refine lv_iconst (v := J 1) hx hb dX5_hasParts_24 rfl ?_
    refine lv_goto (tgt := 29) hx hb dX5_hasParts_25 (by decide) ?_
    cases hf
    exact K7 _ _ _ (by decide : inR 1)  hP hS (lv_sub hl [] rfl)
def fX5_wayTo (a1 : Int) (a2 : Int) (M : MM) : Option (Int) := bnd (rd M 12 4 a1) (fun v1 => bnd (fX5_visit0 a2 0 M) (fun v2 => gd (inR (v1 - v2)) (bnd (if 0 ≤ (v1 - v2) then some ((v1 - v2)) else gd (inR (- (v1 - v2))) (some ((- (v1 - v2))))) (fun y6_0 => bnd (rd M 1 160 0) (fun v8 => gd (inR (y6_0 * v8)) (some (y6_0 * v8)))))))
set_option maxHeartbeats 4000000 in
set_option maxRecDepth 100000 in
theorem kX5_wayTo (l : Launch) (D : va_G) (ca : Nat → ClassId) (ad : Nat → Nat) (hI : aInj 18 ad) (M : MM) (hR : RR M) (a1 : Int) (a2 : Int) (i1 : inR a1) (i2 : inR a2) (res : Int) (hf : fX5_wayTo a1 a2 M = some res) : CI l yX5_wayTo wsX5_wayTo 1 22 [.ref (ad 0), .int (J a1), .int (J a2)] (PY D ca ad M) res (inR res) (OY D ca ad M) (aS 18 ad) := by
  refine Met.ofW (cc := cX5_wayTo) (maxL := 4) (ret := (some .int)) (by decide) rfl ?_
  intro p e s m args below meth c s₁ B hml hv
  obtain ⟨rfl, hP, hK⟩ := hv
  have hx := B.exec
  have hb := B.bytes
  have hr := B.returns
  have hts := atoms_spec (ws := wsX5_wayTo) B.pre
  have hown : s.vm.findClass RX5 = some m.cls := findClass_of_methodNamed B.named
  have hlocks := B.notSynchronized
  have hS : va_S (aS 18 ad) s.heap s.heap [] := va_S.rf
  have hinX5 : ∀ w ∈ wsX50, w ∈ wsX5_wayTo := by decide +kernel
  have hl := lv_entry ([.ref (ad 0), .int (J a1), .int (J a2)]) (n := 4) (Nat.le_of_ble_eq_true rfl)
  rw [lg_entry_eq]
  generalize (lg_sl ([.ref (ad 0), .int (J a1), .int (J a2)]) ++ List.replicate (4 - (lg_sl ([.ref (ad 0), .int (J a1), .int (J a2)])).length) Slot.unset).toArray = ls at hl ⊢
  have hl : lv_has ls 4 [(0, .ref (ad 0)), (1, .int (J a1)), (2, .int (J a2))] := hl
  unfold fX5_wayTo at hf
  refine lv_aload_n hx hb dX5_wayTo_0 rfl (lv_at hl 0 rfl) ?_
  refine va_get (D := D) (ci := 5) (v := .ref (ad 12)) (C := RX5) (T := TX5) (N := 23) hx hb hts hinX5 hown hK hP 0 (wL_get (by decide) (gY_0 _)) rfl 14 (by decide) (hts (.fieldLink RX5 44 "VisitVansModel" "placeOf" "[I") (List.mem_of_getElem? (i := 1) rfl)) (fun _ h => h) rfl dX5_wayTo_1 ?_
  refine lv_iload_n hx hb dX5_wayTo_4 rfl (lv_at hl 1 rfl) ?_
  obtain ⟨v1, qv1, hf⟩ := bnd_some hf
  obtain ⟨bv1, ev1⟩ := rd_some qv1
  have rv1 : inR v1 := by rw [ev1]; exact hR _ _
  refine jx_iald hx hb hK hP 12 0 (by decide) gY_12 rfl (by decide) bv1 ev1 dX5_wayTo_5 ?_
  refine lv_aload_n hx hb dX5_wayTo_6 rfl (lv_at hl 0 rfl) ?_
  refine lv_iload_n hx hb dX5_wayTo_7 rfl (lv_at hl 2 rfl) ?_
  refine lv_iconst (v := J 0) hx hb dX5_wayTo_8 rfl ?_
  obtain ⟨v2, qv2, hf⟩ := bnd_some hf
  refine jc_i (va_runV (As := [.int (J a2), .int (J 0)]) (rest := [.int (J v1)]) ⟨hx, hb, hml, hown, hts⟩ (kX5_visit0 l D ca ad hI M hR a2 0 i2 (by decide : inR 0) v2 qv2) (cwV 2 hts gX5_wayTo_X5_visit0 rfl rfl rfl (by decide +kernel) ⟨Nat.le_of_ble_eq_true rfl, Nat.le_of_ble_eq_true rfl⟩) (pvY hK hP [.int (J a2), .int (J 0)]) rfl rfl hl.1 rfl (lv_room (Nat.le_of_ble_eq_true rfl)) dX5_wayTo_9 ⟨Nat.zero_le _, Nat.zero_le _⟩) hS (fun H locs t ht hφ hO hS => ?_)
  have rv2 := hφ
  have hP : va_P D vwCl (wY ca ad M) H := by rw [← ht]; exact hO
  refine jv_isub hx hb dX5_wayTo_12 ?_
  refine lv_istore_n (lv' := [(3, .int (J (v1 - v2))), (0, .ref (ad 0)), (1, .int (J a1)), (2, .int (J a2))]) hx hb dX5_wayTo_13 rfl hl (by decide) rfl (fun ls hl => ?_)
  refine lv_iload_n hx hb dX5_wayTo_14 rfl (lv_at hl 0 rfl) ?_
  obtain ⟨g4, hf⟩ := gd_some hf
  obtain ⟨y6_0, h6, hf⟩ := bnd_some hf
  have K6 : ∀ (H : Heap) (locs : List Loc) (ls : Array Slot), inR y6_0 → va_P D vwCl (wY ca ad M) H → va_S (aS 18 ad) s.heap H locs → lv_has ls 4 [(0, .ref (ad 0))] → W p l e (headSpec wsX5_wayTo (RmC 1 22)).room s m ([.ref (ad 0), .int (J a1), .int (J a2)] : List Value).toArray below meth c H locs 0 0 (MQ below (va_Qi (fun x (_ : Unit) => x = J res ∧ (inR res)) (fun _ => (OY D ca ad M)) (aS 18 ad)) ([.ref (ad 0), .int (J a1), .int (J a2)] : List Value).toArray s 0 0 (aS 18 ad)) (F0 m 24 ls [.int (J y6_0)]) := by
    intro H locs ls ry6_0  hP hS hl
    refine lv_aload_n hx hb dX5_wayTo_24 rfl (lv_at hl 0 rfl) ?_
    refine va_get (D := D) (ci := 5) (v := .ref (ad 1)) (C := RX5) (T := TX5) (N := 23) hx hb hts hinX5 hown hK hP 0 (wL_get (by decide) (gY_0 _)) rfl 1 (by decide) (hts (.fieldLink RX5 7 "VisitVansModel" "s" "[I") (List.mem_of_getElem? (i := 2) rfl)) (fun _ h => h) rfl dX5_wayTo_25 ?_
    refine lv_iconst (v := J 0) hx hb dX5_wayTo_28 rfl ?_
    obtain ⟨v8, qv8, hf⟩ := bnd_some hf
    obtain ⟨bv8, ev8⟩ := rd_some qv8
    have rv8 : inR v8 := by rw [ev8]; exact hR _ _
    refine jx_iald hx hb hK hP 1 0 (by decide) gY_1 rfl (by decide) bv8 ev8 dX5_wayTo_29 ?_
    refine jv_imul hx hb dX5_wayTo_30 ?_
    obtain ⟨g9, hf⟩ := gd_some hf
    have e1 := Option.some.inj hf
    exact jend_i hx hb hr rfl hS e1 (by rw [← e1]; exact g9) (oY rfl hP) dX5_wayTo_31 hlocks
  have hf := h6
  clear h6
  refine jv_if_ge (tgt := 23) hx hb dX5_wayTo_15 (by decide) g4 (fun c5 => ?_) (fun c5 => ?_)
  · have hf := itep hf c5
    refine lv_iload_n hx hb dX5_wayTo_23 rfl (lv_at hl 0 rfl) ?_
    cases hf
    exact K6 _ _ _ g4  hP hS (lv_sub hl [1] rfl)
  · have hf := iten hf c5
    refine lv_iload_n hx hb dX5_wayTo_18 rfl (lv_at hl 0 rfl) ?_
    refine jv_ineg hx hb dX5_wayTo_19 ?_
    refine lv_goto (tgt := 24) hx hb dX5_wayTo_20 (by decide) ?_
    obtain ⟨g7, hf⟩ := gd_some hf
    cases hf
    exact K6 _ _ _ g7  hP hS (lv_sub hl [1] rfl)
def fX5_beginOf (a1 : Int) (a2 : Int) (a3 : Int) (M : MM) : Option (Int) := bnd (rd M 13 4 a1) (fun v1 => bnd (fX5_wayTo a1 a2 M) (fun v2 => bnd (fX5_visit0 a2 4 M) (fun v4 => gd (inR (v1 + v2)) (gd (inR (v4 + a3)) (bnd (if (v1 + v2) ≤ (v4 + a3) then some ((v4 + a3)) else some ((v1 + v2))) (fun y9_0 => some y9_0))))))
set_option maxHeartbeats 4000000 in
set_option maxRecDepth 100000 in
theorem kX5_beginOf (l : Launch) (D : va_G) (ca : Nat → ClassId) (ad : Nat → Nat) (hI : aInj 18 ad) (M : MM) (hR : RR M) (a1 : Int) (a2 : Int) (a3 : Int) (i1 : inR a1) (i2 : inR a2) (i3 : inR a3) (res : Int) (hf : fX5_beginOf a1 a2 a3 M = some res) : CI l yX5_beginOf wsX5_beginOf 2 45 [.ref (ad 0), .int (J a1), .int (J a2), .int (J a3)] (PY D ca ad M) res (inR res) (OY D ca ad M) (aS 18 ad) := by
  refine Met.ofW (cc := cX5_beginOf) (maxL := 6) (ret := (some .int)) (by decide) rfl ?_
  intro p e s m args below meth c s₁ B hml hv
  obtain ⟨rfl, hP, hK⟩ := hv
  have hx := B.exec
  have hb := B.bytes
  have hr := B.returns
  have hts := atoms_spec (ws := wsX5_beginOf) B.pre
  have hown : s.vm.findClass RX5 = some m.cls := findClass_of_methodNamed B.named
  have hlocks := B.notSynchronized
  have hS : va_S (aS 18 ad) s.heap s.heap [] := va_S.rf
  have hinX5 : ∀ w ∈ wsX50, w ∈ wsX5_beginOf := by decide +kernel
  have hl := lv_entry ([.ref (ad 0), .int (J a1), .int (J a2), .int (J a3)]) (n := 6) (Nat.le_of_ble_eq_true rfl)
  rw [lg_entry_eq]
  generalize (lg_sl ([.ref (ad 0), .int (J a1), .int (J a2), .int (J a3)]) ++ List.replicate (6 - (lg_sl ([.ref (ad 0), .int (J a1), .int (J a2), .int (J a3)])).length) Slot.unset).toArray = ls at hl ⊢
  have hl : lv_has ls 6 [(0, .ref (ad 0)), (1, .int (J a1)), (2, .int (J a2)), (3, .int (J a3))] := hl
  unfold fX5_beginOf at hf
  refine lv_aload_n hx hb dX5_beginOf_0 rfl (lv_at hl 0 rfl) ?_
  refine va_get (D := D) (ci := 5) (v := .ref (ad 13)) (C := RX5) (T := TX5) (N := 23) hx hb hts hinX5 hown hK hP 0 (wL_get (by decide) (gY_0 _)) rfl 15 (by decide) (hts (.fieldLink RX5 47 "VisitVansModel" "freeAt" "[I") (List.mem_of_getElem? (i := 1) rfl)) (fun _ h => h) rfl dX5_beginOf_1 ?_
  refine lv_iload_n hx hb dX5_beginOf_4 rfl (lv_at hl 1 rfl) ?_
  obtain ⟨v1, qv1, hf⟩ := bnd_some hf
  obtain ⟨bv1, ev1⟩ := rd_some qv1
  have rv1 : inR v1 := by rw [ev1]; exact hR _ _
  refine jx_iald hx hb hK hP 13 0 (by decide) gY_13 rfl (by decide) bv1 ev1 dX5_beginOf_5 ?_
  refine lv_aload_n hx hb dX5_beginOf_6 rfl (lv_at hl 0 rfl) ?_
  refine lv_iload_n hx hb dX5_beginOf_7 rfl (lv_at hl 1 rfl) ?_
  refine lv_iload_n hx hb dX5_beginOf_8 rfl (lv_at hl 2 rfl) ?_
  obtain ⟨v2, qv2, hf⟩ := bnd_some hf
  refine jc_i (va_runV (As := [.int (J a1), .int (J a2)]) (rest := [.int (J v1)]) ⟨hx, hb, hml, hown, hts⟩ (kX5_wayTo l D ca ad hI M hR a1 a2 i1 i2 v2 qv2) (cwV 2 hts gX5_beginOf_X5_wayTo rfl rfl rfl (by decide +kernel) ⟨Nat.le_of_ble_eq_true rfl, Nat.le_of_ble_eq_true rfl⟩) (pvY hK hP [.int (J a1), .int (J a2)]) rfl rfl hl.1 rfl (lv_room (Nat.le_of_ble_eq_true rfl)) dX5_beginOf_9 ⟨Nat.zero_le _, Nat.zero_le _⟩) hS (fun H locs t ht hφ hO hS => ?_)
  have rv2 := hφ
  have hP : va_P D vwCl (wY ca ad M) H := by rw [← ht]; exact hO
  refine jv_iadd hx hb dX5_beginOf_12 ?_
  refine lv_istore (lv' := [(4, .int (J (v1 + v2))), (0, .ref (ad 0)), (1, .int (J a1)), (2, .int (J a2)), (3, .int (J a3))]) hx hb dX5_beginOf_13 hl (by decide) rfl (fun ls hl => ?_)
  refine lv_aload_n hx hb dX5_beginOf_15 rfl (lv_at hl 1 rfl) ?_
  refine lv_iload_n hx hb dX5_beginOf_16 rfl (lv_at hl 3 rfl) ?_
  refine lv_iconst (v := J 4) hx hb dX5_beginOf_17 rfl ?_
  obtain ⟨v4, qv4, hf⟩ := bnd_some hf
  refine jc_i (va_runV (As := [.int (J a2), .int (J 4)]) (rest := []) ⟨hx, hb, hml, hown, hts⟩ (kX5_visit0 l D ca ad hI M hR a2 4 i2 (by decide : inR 4) v4 qv4) (cwV 2 hts gX5_beginOf_X5_visit0 rfl rfl rfl (by decide +kernel) ⟨Nat.le_of_ble_eq_true rfl, Nat.le_of_ble_eq_true rfl⟩) (pvY hK hP [.int (J a2), .int (J 4)]) rfl rfl hl.1 rfl (lv_room (Nat.le_of_ble_eq_true rfl)) dX5_beginOf_18 ⟨Nat.zero_le _, Nat.zero_le _⟩) hS (fun H locs t ht hφ hO hS => ?_)
  have rv4 := hφ
  have hP : va_P D vwCl (wY ca ad M) H := by rw [← ht]; exact hO
  refine lv_iload_n hx hb dX5_beginOf_21 rfl (lv_at hl 4 rfl) ?_
  refine jv_iadd hx hb dX5_beginOf_22 ?_
  refine lv_istore (lv' := [(5, .int (J (v4 + a3))), (4, .int (J (v1 + v2))), (0, .ref (ad 0)), (1, .int (J a1)), (2, .int (J a2)), (3, .int (J a3))]) hx hb dX5_beginOf_23 hl (by decide) rfl (fun ls hl => ?_)
  refine lv_iload hx hb dX5_beginOf_25 (lv_at hl 1 rfl) ?_
  refine lv_iload hx hb dX5_beginOf_27 (lv_at hl 0 rfl) ?_
  obtain ⟨g6, hf⟩ := gd_some hf
  obtain ⟨g7, hf⟩ := gd_some hf
  obtain ⟨y9_0, h9, hf⟩ := bnd_some hf
  have K9 : ∀ (H : Heap) (locs : List Loc) (ls : Array Slot), inR y9_0 → va_P D vwCl (wY ca ad M) H → va_S (aS 18 ad) s.heap H locs → lv_has ls 6 [] → W p l e (headSpec wsX5_beginOf (RmC 2 45)).room s m ([.ref (ad 0), .int (J a1), .int (J a2), .int (J a3)] : List Value).toArray below meth c H locs 0 0 (MQ below (va_Qi (fun x (_ : Unit) => x = J res ∧ (inR res)) (fun _ => (OY D ca ad M)) (aS 18 ad)) ([.ref (ad 0), .int (J a1), .int (J a2), .int (J a3)] : List Value).toArray s 0 0 (aS 18 ad)) (F0 m 39 ls [.int (J y9_0)]) := by
    intro H locs ls ry9_0  hP hS hl
    have e1 := Option.some.inj hf
    exact jend_i hx hb hr rfl hS e1 (by rw [← e1]; exact ry9_0) (oY rfl hP) dX5_beginOf_39 hlocks
  have hf := h9
  clear h9
  refine jv_icmp_le (tgt := 37) hx hb dX5_beginOf_29 (by decide) g6 g7 (fun c8 => ?_) (fun c8 => ?_)
  · have hf := itep hf c8
    refine lv_iload hx hb dX5_beginOf_37 (lv_at hl 0 rfl) ?_
    cases hf
    exact K9 _ _ _ g7  hP hS (lv_sub hl [] rfl)
  · have hf := iten hf c8
    refine lv_iload hx hb dX5_beginOf_32 (lv_at hl 1 rfl) ?_
    refine lv_goto (tgt := 39) hx hb dX5_beginOf_34 (by decide) ?_
    cases hf
    exact K9 _ _ _ g6  hP hS (lv_sub hl [] rfl)
def fX5_vanFor_L6 : Nat → Int → Int → Int → Int → MM → Option (Int)
  | 0, _, _, _, _, _ => none
  | n + 1, x1_1, x2_1, x3_1, x4_1, M_1 => bnd (rd M_1 1 160 4) (fun v2 => if v2 ≤ x4_1 then some x3_1 else bnd (fX5_hasSkill x4_1 x1_1 M_1) (fun v4 => bnd (if v4 = 0 then some ((0 : Int)) else bnd (fX5_hasParts x4_1 x1_1 M_1) (fun v8 => if v8 = 0 then some ((0 : Int)) else bnd (fX5_beginOf x4_1 x1_1 x2_1 M_1) (fun v11 => bnd (fX5_visit0 x1_1 5 M_1) (fun v13 => gd (inR (v13 + x2_1)) (if (v13 + x2_1) < v11 then some ((0 : Int)) else some ((1 : Int))))))) (fun y7_0 => bnd (if y7_0 = 0 then some (x3_1) else if x3_1 = (-6) then some (x4_1) else bnd (fX5_beginOf x4_1 x1_1 x2_1 M_1) (fun v20 => bnd (fX5_beginOf x3_1 x1_1 x2_1 M_1) (fun v22 => if v22 ≤ v20 then some (x3_1) else some (x4_1)))) (fun y18_0 => gd (inR (x4_1 + 1)) (fX5_vanFor_L6 n x1_1 x2_1 y18_0 (x4_1 + 1) M_1)))))
def fX5_vanFor (a1 : Int) (a2 : Int) (M : MM) : Option (Int) := bnd (fX5_vanFor_L6 4000 a1 a2 (-6) 0 M) (fun y1_0 => some y1_0)
set_option maxHeartbeats 4000000 in
set_option maxRecDepth 100000 in
theorem kX5_vanFor (l : Launch) (D : va_G) (ca : Nat → ClassId) (ad : Nat → Nat) (hI : aInj 18 ad) (M : MM) (hR : RR M) (a1 : Int) (a2 : Int) (i1 : inR a1) (i2 : inR a2) (res : Int) (hf : fX5_vanFor a1 a2 M = some res) : CI l yX5_vanFor wsX5_vanFor 3 70 [.ref (ad 0), .int (J a1), .int (J a2)] (PY D ca ad M) res (inR res) (OY D ca ad M) (aS 18 ad) := by
  refine Met.ofW (cc := cX5_vanFor) (maxL := 6) (ret := (some .int)) (by decide) rfl ?_
  intro p e s m args below meth c s₁ B hml hv
  obtain ⟨rfl, hP, hK⟩ := hv
  have hx := B.exec
  have hb := B.bytes
  have hr := B.returns
  have hts := atoms_spec (ws := wsX5_vanFor) B.pre
  have hown : s.vm.findClass RX5 = some m.cls := findClass_of_methodNamed B.named
  have hlocks := B.notSynchronized
  have hS : va_S (aS 18 ad) s.heap s.heap [] := va_S.rf
  have hinX5 : ∀ w ∈ wsX50, w ∈ wsX5_vanFor := by decide +kernel
  have hl := lv_entry ([.ref (ad 0), .int (J a1), .int (J a2)]) (n := 6) (Nat.le_of_ble_eq_true rfl)
  rw [lg_entry_eq]
  generalize (lg_sl ([.ref (ad 0), .int (J a1), .int (J a2)]) ++ List.replicate (6 - (lg_sl ([.ref (ad 0), .int (J a1), .int (J a2)])).length) Slot.unset).toArray = ls at hl ⊢
  have hl : lv_has ls 6 [(0, .ref (ad 0)), (1, .int (J a1)), (2, .int (J a2))] := hl
  unfold fX5_vanFor at hf
  refine lv_bipush (v := J (-6)) hx hb dX5_vanFor_0 (by decide +kernel) ?_
  refine lv_istore_n (lv' := [(3, .int (J (-6))), (0, .ref (ad 0)), (1, .int (J a1)), (2, .int (J a2))]) hx hb dX5_vanFor_2 rfl hl (by decide) rfl (fun ls hl => ?_)
  refine lv_iconst (v := J 0) hx hb dX5_vanFor_3 rfl ?_
  refine lv_istore (lv' := [(4, .int (J 0)), (3, .int (J (-6))), (0, .ref (ad 0)), (1, .int (J a1)), (2, .int (J a2))]) hx hb dX5_vanFor_4 hl (by decide) rfl (fun ls hl => ?_)
  obtain ⟨y1_0, h1, hf⟩ := bnd_some hf
  have K1 : ∀ (H : Heap) (locs : List Loc) (ls : Array Slot), inR y1_0 → va_P D vwCl (wY ca ad M) H → va_S (aS 18 ad) s.heap H locs → lv_has ls 6 [(3, .int (J y1_0))] → W p l e (headSpec wsX5_vanFor (RmC 3 70)).room s m ([.ref (ad 0), .int (J a1), .int (J a2)] : List Value).toArray below meth c H locs 0 0 (MQ below (va_Qi (fun x (_ : Unit) => x = J res ∧ (inR res)) (fun _ => (OY D ca ad M)) (aS 18 ad)) ([.ref (ad 0), .int (J a1), .int (J a2)] : List Value).toArray s 0 0 (aS 18 ad)) (F0 m 105 ls []) := by
    intro H locs ls ry1_0 hP hS hl
    refine lv_iload_n hx hb dX5_vanFor_105 rfl (lv_at hl 0 rfl) ?_
    have e1 := Option.some.inj hf
    exact jend_i hx hb hr rfl hS e1 (by rw [← e1]; exact ry1_0) (oY rfl hP) dX5_vanFor_106 hlocks
  have hL1 : ∀ (n : Nat) (x1_1 : Int) (x2_1 : Int) (x3_1 : Int) (x4_1 : Int) (M_1 : MM) (H : Heap) (locs : List Loc) (ls : Array Slot), inR x1_1 → inR x2_1 → inR x3_1 → inR x4_1 → RR M_1 → x1_1 = a1 → x2_1 = a2 → M_1 = M → va_P D vwCl (wY ca ad M_1) H → va_S (aS 18 ad) s.heap H locs → lv_has ls 6 [(0, .ref (ad 0)), (1, .int (J x1_1)), (2, .int (J x2_1)), (3, .int (J x3_1)), (4, .int (J x4_1))] → fX5_vanFor_L6 n x1_1 x2_1 x3_1 x4_1 M_1 = some y1_0 → W p l e (headSpec wsX5_vanFor (RmC 3 70)).room s m ([.ref (ad 0), .int (J a1), .int (J a2)] : List Value).toArray below meth c H locs 0 0 (MQ below (va_Qi (fun x (_ : Unit) => x = J res ∧ (inR res)) (fun _ => (OY D ca ad M)) (aS 18 ad)) ([.ref (ad 0), .int (J a1), .int (J a2)] : List Value).toArray s 0 0 (aS 18 ad)) (F0 m 6 ls []) := by
    intro n
    induction n with
    | zero =>
      intro x1_1 x2_1 x3_1 x4_1 M_1 H locs ls rx1_1 rx2_1 rx3_1 rx4_1 hRM_1 e_x1_1 e_x2_1 e_M_1 hP hS hl hf
      rw [fX5_vanFor_L6] at hf
      cases hf
    | succ n ih =>
      intro x1_1 x2_1 x3_1 x4_1 M_1 H locs ls rx1_1 rx2_1 rx3_1 rx4_1 hRM_1 e_x1_1 e_x2_1 e_M_1 hP hS hl hf
      rw [fX5_vanFor_L6] at hf
      refine lv_iload hx hb dX5_vanFor_6 (lv_at hl 4 rfl) ?_
      refine lv_aload_n hx hb dX5_vanFor_8 rfl (lv_at hl 0 rfl) ?_
      refine va_get (D := D) (ci := 5) (v := .ref (ad 1)) (C := RX5) (T := TX5) (N := 23) hx hb hts hinX5 hown hK hP 0 (wL_get (by decide) (gY_0 _)) rfl 1 (by decide) (hts (.fieldLink RX5 7 "VisitVansModel" "s" "[I") (List.mem_of_getElem? (i := 1) rfl)) (fun _ h => h) rfl dX5_vanFor_9 ?_
      refine lv_iconst (v := J 4) hx hb dX5_vanFor_12 rfl ?_
      obtain ⟨v2, qv2, hf⟩ := bnd_some hf
      obtain ⟨bv2, ev2⟩ := rd_some qv2
      have rv2 : inR v2 := by rw [ev2]; exact hRM_1 _ _
      refine jx_iald hx hb hK hP 1 0 (by decide) gY_1 rfl (by decide) bv2 ev2 dX5_vanFor_13 ?_
      refine jv_icmp_ge (tgt := 105) hx hb dX5_vanFor_14 (by decide) rx4_1 rv2 (fun c3 => ?_) (fun c3 => ?_)
      · have hf := itep hf c3
        cases hf
        exact K1 _ _ _ rx3_1  (e_M_1 ▸ hP) hS (lv_sub hl [3] (by subst e_x1_1; subst e_x2_1; rfl))
      · have hf := iten hf c3
        refine lv_aload_n hx hb dX5_vanFor_17 rfl (lv_at hl 0 rfl) ?_
        refine lv_iload hx hb dX5_vanFor_18 (lv_at hl 4 rfl) ?_
        refine lv_iload_n hx hb dX5_vanFor_20 rfl (lv_at hl 1 rfl) ?_
        obtain ⟨v4, qv4, hf⟩ := bnd_some hf
        refine jc_i (va_runV (As := [.int (J x4_1), .int (J x1_1)]) (rest := []) ⟨hx, hb, hml, hown, hts⟩ (kX5_hasSkill l D ca ad hI M_1 hRM_1 x4_1 x1_1 rx4_1 rx1_1 v4 qv4) (cwV 2 hts gX5_vanFor_X5_hasSkill rfl rfl rfl (by decide +kernel) ⟨Nat.le_of_ble_eq_true rfl, Nat.le_of_ble_eq_true rfl⟩) (pvY hK hP [.int (J x4_1), .int (J x1_1)]) rfl rfl hl.1 rfl (lv_room (Nat.le_of_ble_eq_true rfl)) dX5_vanFor_21 ⟨Nat.zero_le _, Nat.zero_le _⟩) hS (fun H locs t ht hφ hO hS => ?_)
        have rv4 := hφ
        have hP : va_P D vwCl (wY ca ad M_1) H := by rw [← ht]; exact hO
        obtain ⟨y7_0, h7, hf⟩ := bnd_some hf
        have K7 : ∀ (H : Heap) (locs : List Loc) (ls : Array Slot), inR y7_0 → va_P D vwCl (wY ca ad M_1) H → va_S (aS 18 ad) s.heap H locs → lv_has ls 6 [(0, .ref (ad 0)), (1, .int (J x1_1)), (2, .int (J x2_1)), (3, .int (J x3_1)), (4, .int (J x4_1))] → W p l e (headSpec wsX5_vanFor (RmC 3 70)).room s m ([.ref (ad 0), .int (J a1), .int (J a2)] : List Value).toArray below meth c H locs 0 0 (MQ below (va_Qi (fun x (_ : Unit) => x = J res ∧ (inR res)) (fun _ => (OY D ca ad M)) (aS 18 ad)) ([.ref (ad 0), .int (J a1), .int (J a2)] : List Value).toArray s 0 0 (aS 18 ad)) (F0 m 61 ls [.int (J y7_0)]) := by
          intro H locs ls ry7_0  hP hS hl
          refine lv_istore (lv' := [(5, .int (J y7_0)), (0, .ref (ad 0)), (1, .int (J x1_1)), (2, .int (J x2_1)), (3, .int (J x3_1)), (4, .int (J x4_1))]) hx hb dX5_vanFor_61 hl (by decide) rfl (fun ls hl => ?_)
          refine lv_iload hx hb dX5_vanFor_63 (lv_at hl 0 rfl) ?_
          obtain ⟨y18_0, h18, hf⟩ := bnd_some hf
          have K18 : ∀ (H : Heap) (locs : List Loc) (ls : Array Slot), inR y18_0 → va_P D vwCl (wY ca ad M_1) H → va_S (aS 18 ad) s.heap H locs → lv_has ls 6 [(0, .ref (ad 0)), (1, .int (J x1_1)), (2, .int (J x2_1)), (4, .int (J x4_1))] → W p l e (headSpec wsX5_vanFor (RmC 3 70)).room s m ([.ref (ad 0), .int (J a1), .int (J a2)] : List Value).toArray below meth c H locs 0 0 (MQ below (va_Qi (fun x (_ : Unit) => x = J res ∧ (inR res)) (fun _ => (OY D ca ad M)) (aS 18 ad)) ([.ref (ad 0), .int (J a1), .int (J a2)] : List Value).toArray s 0 0 (aS 18 ad)) (F0 m 98 ls [.int (J y18_0)]) := by
            intro H locs ls ry18_0  hP hS hl
            refine lv_istore_n (lv' := [(3, .int (J y18_0)), (0, .ref (ad 0)), (1, .int (J x1_1)), (2, .int (J x2_1)), (4, .int (J x4_1))]) hx hb dX5_vanFor_98 rfl hl (by decide) rfl (fun ls hl => ?_)
            refine lv_iinc (v := J (x4_1 + 1)) (lv' := [(4, .int (J (x4_1 + 1))), (3, .int (J y18_0)), (0, .ref (ad 0)), (1, .int (J x1_1)), (2, .int (J x2_1))]) hx hb dX5_vanFor_99 hl (k := 4) rfl (J_add _ _) (by decide) rfl (fun ls hl => ?_)
            refine lv_goto (tgt := 6) hx hb dX5_vanFor_102 (by decide) ?_
            obtain ⟨g25, hf⟩ := gd_some hf
            exact ih _ _ _ _ _ _ _ _ rx1_1 rx2_1 ry18_0 g25 hRM_1 e_x1_1 e_x2_1 e_M_1 hP hS (lv_sub hl [2, 3, 4, 1, 0] rfl) hf
          have hf := h18
          clear h18
          refine jv_if_eq (tgt := 97) hx hb dX5_vanFor_65 (by decide) ry7_0 (fun c17 => ?_) (fun c17 => ?_)
          · have hf := itep hf c17
            refine lv_iload_n hx hb dX5_vanFor_97 rfl (lv_at hl 4 rfl) ?_
            cases hf
            exact K18 _ _ _ rx3_1  hP hS (lv_sub hl [1, 2, 3, 5] rfl)
          · have hf := iten hf c17
            refine lv_iload_n hx hb dX5_vanFor_68 rfl (lv_at hl 4 rfl) ?_
            refine lv_bipush (v := J (-6)) hx hb dX5_vanFor_69 (by decide +kernel) ?_
            refine jv_icmp_eq (tgt := 92) hx hb dX5_vanFor_71 (by decide) rx3_1 (by decide : inR (-6)) (fun c19 => ?_) (fun c19 => ?_)
            · have hf := itep hf c19
              refine lv_iload hx hb dX5_vanFor_92 (lv_at hl 5 rfl) ?_
              refine lv_goto (tgt := 98) hx hb dX5_vanFor_94 (by decide) ?_
              cases hf
              exact K18 _ _ _ rx4_1  hP hS (lv_sub hl [1, 2, 3, 5] rfl)
            · have hf := iten hf c19
              refine lv_aload_n hx hb dX5_vanFor_74 rfl (lv_at hl 1 rfl) ?_
              refine lv_iload hx hb dX5_vanFor_75 (lv_at hl 5 rfl) ?_
              refine lv_iload_n hx hb dX5_vanFor_77 rfl (lv_at hl 2 rfl) ?_
              refine lv_iload_n hx hb dX5_vanFor_78 rfl (lv_at hl 3 rfl) ?_
              obtain ⟨v20, qv20, hf⟩ := bnd_some hf
              refine jc_i (va_runV (As := [.int (J x4_1), .int (J x1_1), .int (J x2_1)]) (rest := []) ⟨hx, hb, hml, hown, hts⟩ (kX5_beginOf l D ca ad hI M_1 hRM_1 x4_1 x1_1 x2_1 rx4_1 rx1_1 rx2_1 v20 qv20) (cwV 3 hts gX5_vanFor_X5_beginOf rfl rfl rfl (by decide +kernel) ⟨Nat.le_of_ble_eq_true rfl, Nat.le_of_ble_eq_true rfl⟩) (pvY hK hP [.int (J x4_1), .int (J x1_1), .int (J x2_1)]) rfl rfl hl.1 rfl (lv_room (Nat.le_of_ble_eq_true rfl)) dX5_vanFor_79 ⟨Nat.zero_le _, Nat.zero_le _⟩) hS (fun H locs t ht hφ hO hS => ?_)
              have rv20 := hφ
              have hP : va_P D vwCl (wY ca ad M_1) H := by rw [← ht]; exact hO
              refine lv_aload_n hx hb dX5_vanFor_82 rfl (lv_at hl 1 rfl) ?_
              refine lv_iload_n hx hb dX5_vanFor_83 rfl (lv_at hl 4 rfl) ?_
              refine lv_iload_n hx hb dX5_vanFor_84 rfl (lv_at hl 2 rfl) ?_
              refine lv_iload_n hx hb dX5_vanFor_85 rfl (lv_at hl 3 rfl) ?_
              obtain ⟨v22, qv22, hf⟩ := bnd_some hf
              refine jc_i (va_runV (As := [.int (J x3_1), .int (J x1_1), .int (J x2_1)]) (rest := [.int (J v20)]) ⟨hx, hb, hml, hown, hts⟩ (kX5_beginOf l D ca ad hI M_1 hRM_1 x3_1 x1_1 x2_1 rx3_1 rx1_1 rx2_1 v22 qv22) (cwV 3 hts gX5_vanFor_X5_beginOf rfl rfl rfl (by decide +kernel) ⟨Nat.le_of_ble_eq_true rfl, Nat.le_of_ble_eq_true rfl⟩) (pvY hK hP [.int (J x3_1), .int (J x1_1), .int (J x2_1)]) rfl rfl hl.1 rfl (lv_room (Nat.le_of_ble_eq_true rfl)) dX5_vanFor_86 ⟨Nat.zero_le _, Nat.zero_le _⟩) hS (fun H locs t ht hφ hO hS => ?_)
              have rv22 := hφ
              have hP : va_P D vwCl (wY ca ad M_1) H := by rw [← ht]; exact hO
              refine jv_icmp_ge (tgt := 97) hx hb dX5_vanFor_89 (by decide) rv20 rv22 (fun c24 => ?_) (fun c24 => ?_)
              · have hf := itep hf c24
                refine lv_iload_n hx hb dX5_vanFor_97 rfl (lv_at hl 4 rfl) ?_
                cases hf
                exact K18 _ _ _ rx3_1  hP hS (lv_sub hl [1, 2, 3, 5] rfl)
              · have hf := iten hf c24
                refine lv_iload hx hb dX5_vanFor_92 (lv_at hl 5 rfl) ?_
                refine lv_goto (tgt := 98) hx hb dX5_vanFor_94 (by decide) ?_
                cases hf
                exact K18 _ _ _ rx4_1  hP hS (lv_sub hl [1, 2, 3, 5] rfl)
        have hf := h7
        clear h7
        refine jv_if_eq (tgt := 60) hx hb dX5_vanFor_24 (by decide) rv4 (fun c6 => ?_) (fun c6 => ?_)
        · have hf := itep hf c6
          refine lv_iconst (v := J 0) hx hb dX5_vanFor_60 rfl ?_
          cases hf
          exact K7 _ _ _ (by decide : inR 0)  hP hS (lv_sub hl [0, 1, 2, 3, 4] rfl)
        · have hf := iten hf c6
          refine lv_aload_n hx hb dX5_vanFor_27 rfl (lv_at hl 0 rfl) ?_
          refine lv_iload hx hb dX5_vanFor_28 (lv_at hl 4 rfl) ?_
          refine lv_iload_n hx hb dX5_vanFor_30 rfl (lv_at hl 1 rfl) ?_
          obtain ⟨v8, qv8, hf⟩ := bnd_some hf
          refine jc_i (va_runV (As := [.int (J x4_1), .int (J x1_1)]) (rest := []) ⟨hx, hb, hml, hown, hts⟩ (kX5_hasParts l D ca ad hI M_1 hRM_1 x4_1 x1_1 rx4_1 rx1_1 v8 qv8) (cwV 2 hts gX5_vanFor_X5_hasParts rfl rfl rfl (by decide +kernel) ⟨Nat.le_of_ble_eq_true rfl, Nat.le_of_ble_eq_true rfl⟩) (pvY hK hP [.int (J x4_1), .int (J x1_1)]) rfl rfl hl.1 rfl (lv_room (Nat.le_of_ble_eq_true rfl)) dX5_vanFor_31 ⟨Nat.zero_le _, Nat.zero_le _⟩) hS (fun H locs t ht hφ hO hS => ?_)
          have rv8 := hφ
          have hP : va_P D vwCl (wY ca ad M_1) H := by rw [← ht]; exact hO
          refine jv_if_eq (tgt := 60) hx hb dX5_vanFor_34 (by decide) rv8 (fun c10 => ?_) (fun c10 => ?_)
          · have hf := itep hf c10
            refine lv_iconst (v := J 0) hx hb dX5_vanFor_60 rfl ?_
            cases hf
            exact K7 _ _ _ (by decide : inR 0)  hP hS (lv_sub hl [0, 1, 2, 3, 4] rfl)
          · have hf := iten hf c10
            refine lv_aload_n hx hb dX5_vanFor_37 rfl (lv_at hl 0 rfl) ?_
            refine lv_iload hx hb dX5_vanFor_38 (lv_at hl 4 rfl) ?_
            refine lv_iload_n hx hb dX5_vanFor_40 rfl (lv_at hl 1 rfl) ?_
            refine lv_iload_n hx hb dX5_vanFor_41 rfl (lv_at hl 2 rfl) ?_
            obtain ⟨v11, qv11, hf⟩ := bnd_some hf
            refine jc_i (va_runV (As := [.int (J x4_1), .int (J x1_1), .int (J x2_1)]) (rest := []) ⟨hx, hb, hml, hown, hts⟩ (kX5_beginOf l D ca ad hI M_1 hRM_1 x4_1 x1_1 x2_1 rx4_1 rx1_1 rx2_1 v11 qv11) (cwV 3 hts gX5_vanFor_X5_beginOf rfl rfl rfl (by decide +kernel) ⟨Nat.le_of_ble_eq_true rfl, Nat.le_of_ble_eq_true rfl⟩) (pvY hK hP [.int (J x4_1), .int (J x1_1), .int (J x2_1)]) rfl rfl hl.1 rfl (lv_room (Nat.le_of_ble_eq_true rfl)) dX5_vanFor_42 ⟨Nat.zero_le _, Nat.zero_le _⟩) hS (fun H locs t ht hφ hO hS => ?_)
            have rv11 := hφ
            have hP : va_P D vwCl (wY ca ad M_1) H := by rw [← ht]; exact hO
            refine lv_aload_n hx hb dX5_vanFor_45 rfl (lv_at hl 0 rfl) ?_
            refine lv_iload_n hx hb dX5_vanFor_46 rfl (lv_at hl 1 rfl) ?_
            refine lv_iconst (v := J 5) hx hb dX5_vanFor_47 rfl ?_
            obtain ⟨v13, qv13, hf⟩ := bnd_some hf
            refine jc_i (va_runV (As := [.int (J x1_1), .int (J 5)]) (rest := [.int (J v11)]) ⟨hx, hb, hml, hown, hts⟩ (kX5_visit0 l D ca ad hI M_1 hRM_1 x1_1 5 rx1_1 (by decide : inR 5) v13 qv13) (cwV 2 hts gX5_vanFor_X5_visit0 rfl rfl rfl (by decide +kernel) ⟨Nat.le_of_ble_eq_true rfl, Nat.le_of_ble_eq_true rfl⟩) (pvY hK hP [.int (J x1_1), .int (J 5)]) rfl rfl hl.1 rfl (lv_room (Nat.le_of_ble_eq_true rfl)) dX5_vanFor_48 ⟨Nat.zero_le _, Nat.zero_le _⟩) hS (fun H locs t ht hφ hO hS => ?_)
            have rv13 := hφ
            have hP : va_P D vwCl (wY ca ad M_1) H := by rw [← ht]; exact hO
            refine lv_iload_n hx hb dX5_vanFor_51 rfl (lv_at hl 2 rfl) ?_
            refine jv_iadd hx hb dX5_vanFor_52 ?_
            obtain ⟨g15, hf⟩ := gd_some hf
            refine jv_icmp_gt (tgt := 60) hx hb dX5_vanFor_53 (by decide) rv11 g15 (fun c16 => ?_) (fun c16 => ?_)
            · have hf := itep hf c16
              refine lv_iconst (v := J 0) hx hb dX5_vanFor_60 rfl ?_
              cases hf
              exact K7 _ _ _ (by decide : inR 0)  hP hS (lv_sub hl [0, 1, 2, 3, 4] rfl)
            · have hf := iten hf c16
              refine lv_iconst (v := J 1) hx hb dX5_vanFor_56 rfl ?_
              refine lv_goto (tgt := 61) hx hb dX5_vanFor_57 (by decide) ?_
              cases hf
              exact K7 _ _ _ (by decide : inR 1)  hP hS (lv_sub hl [0, 1, 2, 3, 4] rfl)
  exact hL1 4000 _ _ _ _ _ _ _ _ i1 i2 (by decide : inR (-6)) (by decide : inR 0) hR rfl rfl rfl hP hS (lv_sub hl [2, 3, 4, 1, 0] rfl) h1
def fX5_makes (a1 : Int) (a2 : Int) (a3 : Int) (M : MM) : Option (MM) := bnd (fX5_wayTo a1 a2 M) (fun v1 => bnd (fX5_beginOf a1 a2 a3 M) (fun v3 => bnd (wr M 8 21 a2 a1) (fun M5 => bnd (wr M5 9 21 a2 v3) (fun M6 => bnd (rd M6 13 4 a1) (fun v7 => bnd (wr M6 11 21 a2 v7) (fun M8 => bnd (rd M8 13 4 a1) (fun v9 => bnd (wr M8 10 21 a2 (v9 + v1)) (fun M10 => bnd (rd M10 15 4 a1) (fun v11 => bnd (wr M10 15 4 a1 (v11 + v1)) (fun M12 => bnd (rd M12 16 4 a1) (fun v13 => bnd (rd M12 10 21 a2) (fun v14 => bnd (wr M12 16 4 a1 (v13 + (v3 - v14))) (fun M15 => bnd (rd M15 1 160 1) (fun v16 => bnd (wr M15 13 4 a1 (v3 + v16)) (fun M17 => bnd (fX5_visit0 a2 0 M17) (fun v18 => bnd (wr M17 12 4 a1 v18) (fun M20 => bnd (fX5_visit0 a2 2 M20) (fun v21 => bnd (rd M20 14 20 ((5 * a1) + v21)) (fun v23 => bnd (fX5_visit0 a2 3 M20) (fun v24 => bnd (wr M20 14 20 ((5 * a1) + v21) (v23 - v24)) (fun M26 => some M26)))))))))))))))))))))
set_option maxHeartbeats 4000000 in
set_option maxRecDepth 100000 in
theorem kX5_makes (l : Launch) (D : va_G) (ca : Nat → ClassId) (ad : Nat → Nat) (hI : aInj 18 ad) (M : MM) (hR : RR M) (a1 : Int) (a2 : Int) (a3 : Int) (i1 : inR a1) (i2 : inR a2) (i3 : inR a3) (M' : MM) (hf : fX5_makes a1 a2 a3 M = some M') : CV l yX5_makes wsX5_makes 3 70 [.ref (ad 0), .int (J a1), .int (J a2), .int (J a3)] (PY D ca ad M) (RR M') (OY D ca ad M') (aS 18 ad) := by
  refine Met.ofW (cc := cX5_makes) (maxL := 6) (ret := none) (by decide) rfl ?_
  intro p e s m args below meth c s₁ B hml hv
  obtain ⟨rfl, hP, hK⟩ := hv
  have hx := B.exec
  have hb := B.bytes
  have hr := B.returns
  have hts := atoms_spec (ws := wsX5_makes) B.pre
  have hown : s.vm.findClass RX5 = some m.cls := findClass_of_methodNamed B.named
  have hlocks := B.notSynchronized
  have hS : va_S (aS 18 ad) s.heap s.heap [] := va_S.rf
  have hinX5 : ∀ w ∈ wsX50, w ∈ wsX5_makes := by decide +kernel
  have hl := lv_entry ([.ref (ad 0), .int (J a1), .int (J a2), .int (J a3)]) (n := 6) (Nat.le_of_ble_eq_true rfl)
  rw [lg_entry_eq]
  generalize (lg_sl ([.ref (ad 0), .int (J a1), .int (J a2), .int (J a3)]) ++ List.replicate (6 - (lg_sl ([.ref (ad 0), .int (J a1), .int (J a2), .int (J a3)])).length) Slot.unset).toArray = ls at hl ⊢
  have hl : lv_has ls 6 [(0, .ref (ad 0)), (1, .int (J a1)), (2, .int (J a2)), (3, .int (J a3))] := hl
  unfold fX5_makes at hf
  refine lv_aload_n hx hb dX5_makes_0 rfl (lv_at hl 0 rfl) ?_
  refine lv_iload_n hx hb dX5_makes_1 rfl (lv_at hl 1 rfl) ?_
  refine lv_iload_n hx hb dX5_makes_2 rfl (lv_at hl 2 rfl) ?_
  obtain ⟨v1, qv1, hf⟩ := bnd_some hf
  refine jc_i (va_runV (As := [.int (J a1), .int (J a2)]) (rest := []) ⟨hx, hb, hml, hown, hts⟩ (kX5_wayTo l D ca ad hI M hR a1 a2 i1 i2 v1 qv1) (cwV 2 hts gX5_makes_X5_wayTo rfl rfl rfl (by decide +kernel) ⟨Nat.le_of_ble_eq_true rfl, Nat.le_of_ble_eq_true rfl⟩) (pvY hK hP [.int (J a1), .int (J a2)]) rfl rfl hl.1 rfl (lv_room (Nat.le_of_ble_eq_true rfl)) dX5_makes_3 ⟨Nat.zero_le _, Nat.zero_le _⟩) hS (fun H locs t ht hφ hO hS => ?_)
  have rv1 := hφ
  have hP : va_P D vwCl (wY ca ad M) H := by rw [← ht]; exact hO
  refine lv_istore (lv' := [(4, .int (J v1)), (0, .ref (ad 0)), (1, .int (J a1)), (2, .int (J a2)), (3, .int (J a3))]) hx hb dX5_makes_6 hl (by decide) rfl (fun ls hl => ?_)
  refine lv_aload_n hx hb dX5_makes_8 rfl (lv_at hl 1 rfl) ?_
  refine lv_iload_n hx hb dX5_makes_9 rfl (lv_at hl 2 rfl) ?_
  refine lv_iload_n hx hb dX5_makes_10 rfl (lv_at hl 3 rfl) ?_
  refine lv_iload_n hx hb dX5_makes_11 rfl (lv_at hl 4 rfl) ?_
  obtain ⟨v3, qv3, hf⟩ := bnd_some hf
  refine jc_i (va_runV (As := [.int (J a1), .int (J a2), .int (J a3)]) (rest := []) ⟨hx, hb, hml, hown, hts⟩ (kX5_beginOf l D ca ad hI M hR a1 a2 a3 i1 i2 i3 v3 qv3) (cwV 3 hts gX5_makes_X5_beginOf rfl rfl rfl (by decide +kernel) ⟨Nat.le_of_ble_eq_true rfl, Nat.le_of_ble_eq_true rfl⟩) (pvY hK hP [.int (J a1), .int (J a2), .int (J a3)]) rfl rfl hl.1 rfl (lv_room (Nat.le_of_ble_eq_true rfl)) dX5_makes_12 ⟨Nat.zero_le _, Nat.zero_le _⟩) hS (fun H locs t ht hφ hO hS => ?_)
  have rv3 := hφ
  have hP : va_P D vwCl (wY ca ad M) H := by rw [← ht]; exact hO
  refine lv_istore (lv' := [(5, .int (J v3)), (4, .int (J v1)), (0, .ref (ad 0)), (1, .int (J a1)), (2, .int (J a2)), (3, .int (J a3))]) hx hb dX5_makes_15 hl (by decide) rfl (fun ls hl => ?_)
  refine lv_aload_n hx hb dX5_makes_17 rfl (lv_at hl 2 rfl) ?_
  refine va_get (D := D) (ci := 5) (v := .ref (ad 8)) (C := RX5) (T := TX5) (N := 23) hx hb hts hinX5 hown hK hP 0 (wL_get (by decide) (gY_0 _)) rfl 10 (by decide) (hts (.fieldLink RX5 32 "VisitVansModel" "vanOf" "[I") (List.mem_of_getElem? (i := 1) rfl)) (fun _ h => h) rfl dX5_makes_18 ?_
  refine lv_iload_n hx hb dX5_makes_21 rfl (lv_at hl 4 rfl) ?_
  refine lv_iload_n hx hb dX5_makes_22 rfl (lv_at hl 3 rfl) ?_
  obtain ⟨M5, qM5, hf⟩ := bnd_some hf
  obtain ⟨bM5, zM5, eM5⟩ := wr_some qM5
  have hRM5 : RR M5 := by rw [eM5]; exact RR_st hR _ _ zM5
  refine jx_iast hx hb hK hP hI hS 8 0 (by decide) gY_8 rfl (by decide) bM5 zM5 dX5_makes_23 (fun H locs hP hS => ?_)
  rw [← eM5] at hP
  refine lv_aload_n hx hb dX5_makes_24 rfl (lv_at hl 2 rfl) ?_
  refine va_get (D := D) (ci := 5) (v := .ref (ad 9)) (C := RX5) (T := TX5) (N := 23) hx hb hts hinX5 hown hK hP 0 (wL_get (by decide) (gY_0 _)) rfl 11 (by decide) (hts (.fieldLink RX5 35 "VisitVansModel" "begins" "[I") (List.mem_of_getElem? (i := 2) rfl)) (fun _ h => h) rfl dX5_makes_25 ?_
  refine lv_iload_n hx hb dX5_makes_28 rfl (lv_at hl 4 rfl) ?_
  refine lv_iload hx hb dX5_makes_29 (lv_at hl 0 rfl) ?_
  obtain ⟨M6, qM6, hf⟩ := bnd_some hf
  obtain ⟨bM6, zM6, eM6⟩ := wr_some qM6
  have hRM6 : RR M6 := by rw [eM6]; exact RR_st hRM5 _ _ zM6
  refine jx_iast hx hb hK hP hI hS 9 0 (by decide) gY_9 rfl (by decide) bM6 zM6 dX5_makes_31 (fun H locs hP hS => ?_)
  rw [← eM6] at hP
  refine lv_aload_n hx hb dX5_makes_32 rfl (lv_at hl 2 rfl) ?_
  refine va_get (D := D) (ci := 5) (v := .ref (ad 11)) (C := RX5) (T := TX5) (N := 23) hx hb hts hinX5 hown hK hP 0 (wL_get (by decide) (gY_0 _)) rfl 13 (by decide) (hts (.fieldLink RX5 41 "VisitVansModel" "leaves" "[I") (List.mem_of_getElem? (i := 3) rfl)) (fun _ h => h) rfl dX5_makes_33 ?_
  refine lv_iload_n hx hb dX5_makes_36 rfl (lv_at hl 4 rfl) ?_
  refine lv_aload_n hx hb dX5_makes_37 rfl (lv_at hl 2 rfl) ?_
  refine va_get (D := D) (ci := 5) (v := .ref (ad 13)) (C := RX5) (T := TX5) (N := 23) hx hb hts hinX5 hown hK hP 0 (wL_get (by decide) (gY_0 _)) rfl 15 (by decide) (hts (.fieldLink RX5 47 "VisitVansModel" "freeAt" "[I") (List.mem_of_getElem? (i := 4) rfl)) (fun _ h => h) rfl dX5_makes_38 ?_
  refine lv_iload_n hx hb dX5_makes_41 rfl (lv_at hl 3 rfl) ?_
  obtain ⟨v7, qv7, hf⟩ := bnd_some hf
  obtain ⟨bv7, ev7⟩ := rd_some qv7
  have rv7 : inR v7 := by rw [ev7]; exact hRM6 _ _
  refine jx_iald hx hb hK hP 13 0 (by decide) gY_13 rfl (by decide) bv7 ev7 dX5_makes_42 ?_
  obtain ⟨M8, qM8, hf⟩ := bnd_some hf
  obtain ⟨bM8, zM8, eM8⟩ := wr_some qM8
  have hRM8 : RR M8 := by rw [eM8]; exact RR_st hRM6 _ _ zM8
  refine jx_iast hx hb hK hP hI hS 11 0 (by decide) gY_11 rfl (by decide) bM8 zM8 dX5_makes_43 (fun H locs hP hS => ?_)
  rw [← eM8] at hP
  refine lv_aload_n hx hb dX5_makes_44 rfl (lv_at hl 2 rfl) ?_
  refine va_get (D := D) (ci := 5) (v := .ref (ad 10)) (C := RX5) (T := TX5) (N := 23) hx hb hts hinX5 hown hK hP 0 (wL_get (by decide) (gY_0 _)) rfl 12 (by decide) (hts (.fieldLink RX5 38 "VisitVansModel" "comes" "[I") (List.mem_of_getElem? (i := 5) rfl)) (fun _ h => h) rfl dX5_makes_45 ?_
  refine lv_iload_n hx hb dX5_makes_48 rfl (lv_at hl 4 rfl) ?_
  refine lv_aload_n hx hb dX5_makes_49 rfl (lv_at hl 2 rfl) ?_
  refine va_get (D := D) (ci := 5) (v := .ref (ad 13)) (C := RX5) (T := TX5) (N := 23) hx hb hts hinX5 hown hK hP 0 (wL_get (by decide) (gY_0 _)) rfl 15 (by decide) (hts (.fieldLink RX5 47 "VisitVansModel" "freeAt" "[I") (List.mem_of_getElem? (i := 4) rfl)) (fun _ h => h) rfl dX5_makes_50 ?_
  refine lv_iload_n hx hb dX5_makes_53 rfl (lv_at hl 3 rfl) ?_
  obtain ⟨v9, qv9, hf⟩ := bnd_some hf
  obtain ⟨bv9, ev9⟩ := rd_some qv9
  have rv9 : inR v9 := by rw [ev9]; exact hRM8 _ _
  refine jx_iald hx hb hK hP 13 0 (by decide) gY_13 rfl (by decide) bv9 ev9 dX5_makes_54 ?_
  refine lv_iload hx hb dX5_makes_55 (lv_at hl 1 rfl) ?_
  refine jv_iadd hx hb dX5_makes_57 ?_
  obtain ⟨M10, qM10, hf⟩ := bnd_some hf
  obtain ⟨bM10, zM10, eM10⟩ := wr_some qM10
  have hRM10 : RR M10 := by rw [eM10]; exact RR_st hRM8 _ _ zM10
  refine jx_iast hx hb hK hP hI hS 10 0 (by decide) gY_10 rfl (by decide) bM10 zM10 dX5_makes_58 (fun H locs hP hS => ?_)
  rw [← eM10] at hP
  refine lv_aload_n hx hb dX5_makes_59 rfl (lv_at hl 2 rfl) ?_
  refine va_get (D := D) (ci := 5) (v := .ref (ad 15)) (C := RX5) (T := TX5) (N := 23) hx hb hts hinX5 hown hK hP 0 (wL_get (by decide) (gY_0 _)) rfl 17 (by decide) (hts (.fieldLink RX5 53 "VisitVansModel" "ways" "[I") (List.mem_of_getElem? (i := 6) rfl)) (fun _ h => h) rfl dX5_makes_60 ?_
  refine lv_iload_n hx hb dX5_makes_63 rfl (lv_at hl 3 rfl) ?_
  refine lv_dup2_11 hx hb dX5_makes_64 rfl rfl ?_
  obtain ⟨v11, qv11, hf⟩ := bnd_some hf
  obtain ⟨bv11, ev11⟩ := rd_some qv11
  have rv11 : inR v11 := by rw [ev11]; exact hRM10 _ _
  refine jx_iald hx hb hK hP 15 0 (by decide) gY_15 rfl (by decide) bv11 ev11 dX5_makes_65 ?_
  refine lv_iload hx hb dX5_makes_66 (lv_at hl 1 rfl) ?_
  refine jv_iadd hx hb dX5_makes_68 ?_
  obtain ⟨M12, qM12, hf⟩ := bnd_some hf
  obtain ⟨bM12, zM12, eM12⟩ := wr_some qM12
  have hRM12 : RR M12 := by rw [eM12]; exact RR_st hRM10 _ _ zM12
  refine jx_iast hx hb hK hP hI hS 15 0 (by decide) gY_15 rfl (by decide) bM12 zM12 dX5_makes_69 (fun H locs hP hS => ?_)
  rw [← eM12] at hP
  refine lv_aload_n hx hb dX5_makes_70 rfl (lv_at hl 2 rfl) ?_
  refine va_get (D := D) (ci := 5) (v := .ref (ad 16)) (C := RX5) (T := TX5) (N := 23) hx hb hts hinX5 hown hK hP 0 (wL_get (by decide) (gY_0 _)) rfl 18 (by decide) (hts (.fieldLink RX5 56 "VisitVansModel" "waits" "[I") (List.mem_of_getElem? (i := 7) rfl)) (fun _ h => h) rfl dX5_makes_71 ?_
  refine lv_iload_n hx hb dX5_makes_74 rfl (lv_at hl 3 rfl) ?_
  refine lv_dup2_11 hx hb dX5_makes_75 rfl rfl ?_
  obtain ⟨v13, qv13, hf⟩ := bnd_some hf
  obtain ⟨bv13, ev13⟩ := rd_some qv13
  have rv13 : inR v13 := by rw [ev13]; exact hRM12 _ _
  refine jx_iald hx hb hK hP 16 0 (by decide) gY_16 rfl (by decide) bv13 ev13 dX5_makes_76 ?_
  refine lv_iload hx hb dX5_makes_77 (lv_at hl 0 rfl) ?_
  refine lv_aload_n hx hb dX5_makes_79 rfl (lv_at hl 2 rfl) ?_
  refine va_get (D := D) (ci := 5) (v := .ref (ad 10)) (C := RX5) (T := TX5) (N := 23) hx hb hts hinX5 hown hK hP 0 (wL_get (by decide) (gY_0 _)) rfl 12 (by decide) (hts (.fieldLink RX5 38 "VisitVansModel" "comes" "[I") (List.mem_of_getElem? (i := 5) rfl)) (fun _ h => h) rfl dX5_makes_80 ?_
  refine lv_iload_n hx hb dX5_makes_83 rfl (lv_at hl 4 rfl) ?_
  obtain ⟨v14, qv14, hf⟩ := bnd_some hf
  obtain ⟨bv14, ev14⟩ := rd_some qv14
  have rv14 : inR v14 := by rw [ev14]; exact hRM12 _ _
  refine jx_iald hx hb hK hP 10 0 (by decide) gY_10 rfl (by decide) bv14 ev14 dX5_makes_84 ?_
  refine jv_isub hx hb dX5_makes_85 ?_
  refine jv_iadd hx hb dX5_makes_86 ?_
  obtain ⟨M15, qM15, hf⟩ := bnd_some hf
  obtain ⟨bM15, zM15, eM15⟩ := wr_some qM15
  have hRM15 : RR M15 := by rw [eM15]; exact RR_st hRM12 _ _ zM15
  refine jx_iast hx hb hK hP hI hS 16 0 (by decide) gY_16 rfl (by decide) bM15 zM15 dX5_makes_87 (fun H locs hP hS => ?_)
  rw [← eM15] at hP
  refine lv_aload_n hx hb dX5_makes_88 rfl (lv_at hl 2 rfl) ?_
  refine va_get (D := D) (ci := 5) (v := .ref (ad 13)) (C := RX5) (T := TX5) (N := 23) hx hb hts hinX5 hown hK hP 0 (wL_get (by decide) (gY_0 _)) rfl 15 (by decide) (hts (.fieldLink RX5 47 "VisitVansModel" "freeAt" "[I") (List.mem_of_getElem? (i := 4) rfl)) (fun _ h => h) rfl dX5_makes_89 ?_
  refine lv_iload_n hx hb dX5_makes_92 rfl (lv_at hl 3 rfl) ?_
  refine lv_iload hx hb dX5_makes_93 (lv_at hl 0 rfl) ?_
  refine lv_aload_n hx hb dX5_makes_95 rfl (lv_at hl 2 rfl) ?_
  refine va_get (D := D) (ci := 5) (v := .ref (ad 1)) (C := RX5) (T := TX5) (N := 23) hx hb hts hinX5 hown hK hP 0 (wL_get (by decide) (gY_0 _)) rfl 1 (by decide) (hts (.fieldLink RX5 7 "VisitVansModel" "s" "[I") (List.mem_of_getElem? (i := 8) rfl)) (fun _ h => h) rfl dX5_makes_96 ?_
  refine lv_iconst (v := J 1) hx hb dX5_makes_99 rfl ?_
  obtain ⟨v16, qv16, hf⟩ := bnd_some hf
  obtain ⟨bv16, ev16⟩ := rd_some qv16
  have rv16 : inR v16 := by rw [ev16]; exact hRM15 _ _
  refine jx_iald hx hb hK hP 1 0 (by decide) gY_1 rfl (by decide) bv16 ev16 dX5_makes_100 ?_
  refine jv_iadd hx hb dX5_makes_101 ?_
  obtain ⟨M17, qM17, hf⟩ := bnd_some hf
  obtain ⟨bM17, zM17, eM17⟩ := wr_some qM17
  have hRM17 : RR M17 := by rw [eM17]; exact RR_st hRM15 _ _ zM17
  refine jx_iast hx hb hK hP hI hS 13 0 (by decide) gY_13 rfl (by decide) bM17 zM17 dX5_makes_102 (fun H locs hP hS => ?_)
  rw [← eM17] at hP
  refine lv_aload_n hx hb dX5_makes_103 rfl (lv_at hl 2 rfl) ?_
  refine va_get (D := D) (ci := 5) (v := .ref (ad 12)) (C := RX5) (T := TX5) (N := 23) hx hb hts hinX5 hown hK hP 0 (wL_get (by decide) (gY_0 _)) rfl 14 (by decide) (hts (.fieldLink RX5 44 "VisitVansModel" "placeOf" "[I") (List.mem_of_getElem? (i := 9) rfl)) (fun _ h => h) rfl dX5_makes_104 ?_
  refine lv_iload_n hx hb dX5_makes_107 rfl (lv_at hl 3 rfl) ?_
  refine lv_aload_n hx hb dX5_makes_108 rfl (lv_at hl 2 rfl) ?_
  refine lv_iload_n hx hb dX5_makes_109 rfl (lv_at hl 4 rfl) ?_
  refine lv_iconst (v := J 0) hx hb dX5_makes_110 rfl ?_
  obtain ⟨v18, qv18, hf⟩ := bnd_some hf
  refine jc_i (va_runV (As := [.int (J a2), .int (J 0)]) (rest := [.int (J a1), .ref (ad 12)]) ⟨hx, hb, hml, hown, hts⟩ (kX5_visit0 l D ca ad hI M17 hRM17 a2 0 i2 (by decide : inR 0) v18 qv18) (cwV 2 hts gX5_makes_X5_visit0 rfl rfl rfl (by decide +kernel) ⟨Nat.le_of_ble_eq_true rfl, Nat.le_of_ble_eq_true rfl⟩) (pvY hK hP [.int (J a2), .int (J 0)]) rfl rfl hl.1 rfl (lv_room (Nat.le_of_ble_eq_true rfl)) dX5_makes_111 ⟨Nat.zero_le _, Nat.zero_le _⟩) hS (fun H locs t ht hφ hO hS => ?_)
  have rv18 := hφ
  have hP : va_P D vwCl (wY ca ad M17) H := by rw [← ht]; exact hO
  obtain ⟨M20, qM20, hf⟩ := bnd_some hf
  obtain ⟨bM20, zM20, eM20⟩ := wr_some qM20
  have hRM20 : RR M20 := by rw [eM20]; exact RR_st hRM17 _ _ zM20
  refine jx_iast hx hb hK hP hI hS 12 0 (by decide) gY_12 rfl (by decide) bM20 zM20 dX5_makes_114 (fun H locs hP hS => ?_)
  rw [← eM20] at hP
  refine lv_aload_n hx hb dX5_makes_115 rfl (lv_at hl 2 rfl) ?_
  refine va_get (D := D) (ci := 5) (v := .ref (ad 14)) (C := RX5) (T := TX5) (N := 23) hx hb hts hinX5 hown hK hP 0 (wL_get (by decide) (gY_0 _)) rfl 16 (by decide) (hts (.fieldLink RX5 50 "VisitVansModel" "left" "[I") (List.mem_of_getElem? (i := 10) rfl)) (fun _ h => h) rfl dX5_makes_116 ?_
  refine lv_iconst (v := J 5) hx hb dX5_makes_119 rfl ?_
  refine lv_iload_n hx hb dX5_makes_120 rfl (lv_at hl 3 rfl) ?_
  refine jv_imul hx hb dX5_makes_121 ?_
  refine lv_aload_n hx hb dX5_makes_122 rfl (lv_at hl 2 rfl) ?_
  refine lv_iload_n hx hb dX5_makes_123 rfl (lv_at hl 4 rfl) ?_
  refine lv_iconst (v := J 2) hx hb dX5_makes_124 rfl ?_
  obtain ⟨v21, qv21, hf⟩ := bnd_some hf
  refine jc_i (va_runV (As := [.int (J a2), .int (J 2)]) (rest := [.int (J (5 * a1)), .ref (ad 14)]) ⟨hx, hb, hml, hown, hts⟩ (kX5_visit0 l D ca ad hI M20 hRM20 a2 2 i2 (by decide : inR 2) v21 qv21) (cwV 2 hts gX5_makes_X5_visit0 rfl rfl rfl (by decide +kernel) ⟨Nat.le_of_ble_eq_true rfl, Nat.le_of_ble_eq_true rfl⟩) (pvY hK hP [.int (J a2), .int (J 2)]) rfl rfl hl.1 rfl (lv_room (Nat.le_of_ble_eq_true rfl)) dX5_makes_125 ⟨Nat.zero_le _, Nat.zero_le _⟩) hS (fun H locs t ht hφ hO hS => ?_)
  have rv21 := hφ
  have hP : va_P D vwCl (wY ca ad M20) H := by rw [← ht]; exact hO
  refine jv_iadd hx hb dX5_makes_128 ?_
  refine lv_dup2_11 hx hb dX5_makes_129 rfl rfl ?_
  obtain ⟨v23, qv23, hf⟩ := bnd_some hf
  obtain ⟨bv23, ev23⟩ := rd_some qv23
  have rv23 : inR v23 := by rw [ev23]; exact hRM20 _ _
  refine jx_iald hx hb hK hP 14 0 (by decide) gY_14 rfl (by decide) bv23 ev23 dX5_makes_130 ?_
  refine lv_aload_n hx hb dX5_makes_131 rfl (lv_at hl 2 rfl) ?_
  refine lv_iload_n hx hb dX5_makes_132 rfl (lv_at hl 4 rfl) ?_
  refine lv_iconst (v := J 3) hx hb dX5_makes_133 rfl ?_
  obtain ⟨v24, qv24, hf⟩ := bnd_some hf
  refine jc_i (va_runV (As := [.int (J a2), .int (J 3)]) (rest := [.int (J v23), .int (J ((5 * a1) + v21)), .ref (ad 14)]) ⟨hx, hb, hml, hown, hts⟩ (kX5_visit0 l D ca ad hI M20 hRM20 a2 3 i2 (by decide : inR 3) v24 qv24) (cwV 2 hts gX5_makes_X5_visit0 rfl rfl rfl (by decide +kernel) ⟨Nat.le_of_ble_eq_true rfl, Nat.le_of_ble_eq_true rfl⟩) (pvY hK hP [.int (J a2), .int (J 3)]) rfl rfl hl.1 rfl (lv_room (Nat.le_of_ble_eq_true rfl)) dX5_makes_134 ⟨Nat.zero_le _, Nat.zero_le _⟩) hS (fun H locs t ht hφ hO hS => ?_)
  have rv24 := hφ
  have hP : va_P D vwCl (wY ca ad M20) H := by rw [← ht]; exact hO
  refine jv_isub hx hb dX5_makes_137 ?_
  obtain ⟨M26, qM26, hf⟩ := bnd_some hf
  obtain ⟨bM26, zM26, eM26⟩ := wr_some qM26
  have hRM26 : RR M26 := by rw [eM26]; exact RR_st hRM20 _ _ zM26
  refine jx_iast hx hb hK hP hI hS 14 0 (by decide) gY_14 rfl (by decide) bM26 zM26 dX5_makes_138 (fun H locs hP hS => ?_)
  rw [← eM26] at hP
  have e2 := Option.some.inj hf
  exact jend_v hx hb hr hS (by rw [← e2]; exact hRM26) (oY e2 hP) dX5_makes_139 hlocks
def fX5_reason_L4 : Nat → Int → Int → Int → MM → Option (Int)
  | 0, _, _, _, _ => none
  | n + 1, x1_1, x2_1, x3_1, M_1 => bnd (rd M_1 1 160 4) (fun v2 => if v2 ≤ x3_1 then some x2_1 else bnd (fX5_hasSkill x3_1 x1_1 M_1) (fun v4 => bnd (if v4 = 0 then some ((2 : Int)) else bnd (fX5_hasParts x3_1 x1_1 M_1) (fun v8 => if v8 = 0 then some ((3 : Int)) else some ((4 : Int)))) (fun y7_0 => bnd (if y7_0 ≤ x2_1 then some (x2_1) else some (y7_0)) (fun y12_0 => gd (inR (x3_1 + 1)) (fX5_reason_L4 n x1_1 y12_0 (x3_1 + 1) M_1)))))
def fX5_reason (a1 : Int) (M : MM) : Option (Int) := bnd (fX5_reason_L4 4000 a1 2 0 M) (fun y1_0 => some y1_0)
set_option maxHeartbeats 4000000 in
set_option maxRecDepth 100000 in
theorem kX5_reason (l : Launch) (D : va_G) (ca : Nat → ClassId) (ad : Nat → Nat) (hI : aInj 18 ad) (M : MM) (hR : RR M) (a1 : Int) (i1 : inR a1) (res : Int) (hf : fX5_reason a1 M = some res) : CI l yX5_reason wsX5_reason 2 44 [.ref (ad 0), .int (J a1)] (PY D ca ad M) res (inR res) (OY D ca ad M) (aS 18 ad) := by
  refine Met.ofW (cc := cX5_reason) (maxL := 5) (ret := (some .int)) (by decide) rfl ?_
  intro p e s m args below meth c s₁ B hml hv
  obtain ⟨rfl, hP, hK⟩ := hv
  have hx := B.exec
  have hb := B.bytes
  have hr := B.returns
  have hts := atoms_spec (ws := wsX5_reason) B.pre
  have hown : s.vm.findClass RX5 = some m.cls := findClass_of_methodNamed B.named
  have hlocks := B.notSynchronized
  have hS : va_S (aS 18 ad) s.heap s.heap [] := va_S.rf
  have hinX5 : ∀ w ∈ wsX50, w ∈ wsX5_reason := by decide +kernel
  have hl := lv_entry ([.ref (ad 0), .int (J a1)]) (n := 5) (Nat.le_of_ble_eq_true rfl)
  rw [lg_entry_eq]
  generalize (lg_sl ([.ref (ad 0), .int (J a1)]) ++ List.replicate (5 - (lg_sl ([.ref (ad 0), .int (J a1)])).length) Slot.unset).toArray = ls at hl ⊢
  have hl : lv_has ls 5 [(0, .ref (ad 0)), (1, .int (J a1))] := hl
  unfold fX5_reason at hf
  refine lv_iconst (v := J 2) hx hb dX5_reason_0 rfl ?_
  refine lv_istore_n (lv' := [(2, .int (J 2)), (0, .ref (ad 0)), (1, .int (J a1))]) hx hb dX5_reason_1 rfl hl (by decide) rfl (fun ls hl => ?_)
  refine lv_iconst (v := J 0) hx hb dX5_reason_2 rfl ?_
  refine lv_istore_n (lv' := [(3, .int (J 0)), (2, .int (J 2)), (0, .ref (ad 0)), (1, .int (J a1))]) hx hb dX5_reason_3 rfl hl (by decide) rfl (fun ls hl => ?_)
  obtain ⟨y1_0, h1, hf⟩ := bnd_some hf
  have K1 : ∀ (H : Heap) (locs : List Loc) (ls : Array Slot), inR y1_0 → va_P D vwCl (wY ca ad M) H → va_S (aS 18 ad) s.heap H locs → lv_has ls 5 [(2, .int (J y1_0))] → W p l e (headSpec wsX5_reason (RmC 2 44)).room s m ([.ref (ad 0), .int (J a1)] : List Value).toArray below meth c H locs 0 0 (MQ below (va_Qi (fun x (_ : Unit) => x = J res ∧ (inR res)) (fun _ => (OY D ca ad M)) (aS 18 ad)) ([.ref (ad 0), .int (J a1)] : List Value).toArray s 0 0 (aS 18 ad)) (F0 m 62 ls []) := by
    intro H locs ls ry1_0 hP hS hl
    refine lv_iload_n hx hb dX5_reason_62 rfl (lv_at hl 0 rfl) ?_
    have e1 := Option.some.inj hf
    exact jend_i hx hb hr rfl hS e1 (by rw [← e1]; exact ry1_0) (oY rfl hP) dX5_reason_63 hlocks
  have hL1 : ∀ (n : Nat) (x1_1 : Int) (x2_1 : Int) (x3_1 : Int) (M_1 : MM) (H : Heap) (locs : List Loc) (ls : Array Slot), inR x1_1 → inR x2_1 → inR x3_1 → RR M_1 → x1_1 = a1 → M_1 = M → va_P D vwCl (wY ca ad M_1) H → va_S (aS 18 ad) s.heap H locs → lv_has ls 5 [(0, .ref (ad 0)), (1, .int (J x1_1)), (2, .int (J x2_1)), (3, .int (J x3_1))] → fX5_reason_L4 n x1_1 x2_1 x3_1 M_1 = some y1_0 → W p l e (headSpec wsX5_reason (RmC 2 44)).room s m ([.ref (ad 0), .int (J a1)] : List Value).toArray below meth c H locs 0 0 (MQ below (va_Qi (fun x (_ : Unit) => x = J res ∧ (inR res)) (fun _ => (OY D ca ad M)) (aS 18 ad)) ([.ref (ad 0), .int (J a1)] : List Value).toArray s 0 0 (aS 18 ad)) (F0 m 4 ls []) := by
    intro n
    induction n with
    | zero =>
      intro x1_1 x2_1 x3_1 M_1 H locs ls rx1_1 rx2_1 rx3_1 hRM_1 e_x1_1 e_M_1 hP hS hl hf
      rw [fX5_reason_L4] at hf
      cases hf
    | succ n ih =>
      intro x1_1 x2_1 x3_1 M_1 H locs ls rx1_1 rx2_1 rx3_1 hRM_1 e_x1_1 e_M_1 hP hS hl hf
      rw [fX5_reason_L4] at hf
      refine lv_iload_n hx hb dX5_reason_4 rfl (lv_at hl 3 rfl) ?_
      refine lv_aload_n hx hb dX5_reason_5 rfl (lv_at hl 0 rfl) ?_
      refine va_get (D := D) (ci := 5) (v := .ref (ad 1)) (C := RX5) (T := TX5) (N := 23) hx hb hts hinX5 hown hK hP 0 (wL_get (by decide) (gY_0 _)) rfl 1 (by decide) (hts (.fieldLink RX5 7 "VisitVansModel" "s" "[I") (List.mem_of_getElem? (i := 1) rfl)) (fun _ h => h) rfl dX5_reason_6 ?_
      refine lv_iconst (v := J 4) hx hb dX5_reason_9 rfl ?_
      obtain ⟨v2, qv2, hf⟩ := bnd_some hf
      obtain ⟨bv2, ev2⟩ := rd_some qv2
      have rv2 : inR v2 := by rw [ev2]; exact hRM_1 _ _
      refine jx_iald hx hb hK hP 1 0 (by decide) gY_1 rfl (by decide) bv2 ev2 dX5_reason_10 ?_
      refine jv_icmp_ge (tgt := 62) hx hb dX5_reason_11 (by decide) rx3_1 rv2 (fun c3 => ?_) (fun c3 => ?_)
      · have hf := itep hf c3
        cases hf
        exact K1 _ _ _ rx2_1  (e_M_1 ▸ hP) hS (lv_sub hl [2] (by subst e_x1_1; rfl))
      · have hf := iten hf c3
        refine lv_aload_n hx hb dX5_reason_14 rfl (lv_at hl 0 rfl) ?_
        refine lv_iload_n hx hb dX5_reason_15 rfl (lv_at hl 3 rfl) ?_
        refine lv_iload_n hx hb dX5_reason_16 rfl (lv_at hl 1 rfl) ?_
        obtain ⟨v4, qv4, hf⟩ := bnd_some hf
        refine jc_i (va_runV (As := [.int (J x3_1), .int (J x1_1)]) (rest := []) ⟨hx, hb, hml, hown, hts⟩ (kX5_hasSkill l D ca ad hI M_1 hRM_1 x3_1 x1_1 rx3_1 rx1_1 v4 qv4) (cwV 2 hts gX5_reason_X5_hasSkill rfl rfl rfl (by decide +kernel) ⟨Nat.le_of_ble_eq_true rfl, Nat.le_of_ble_eq_true rfl⟩) (pvY hK hP [.int (J x3_1), .int (J x1_1)]) rfl rfl hl.1 rfl (lv_room (Nat.le_of_ble_eq_true rfl)) dX5_reason_17 ⟨Nat.zero_le _, Nat.zero_le _⟩) hS (fun H locs t ht hφ hO hS => ?_)
        have rv4 := hφ
        have hP : va_P D vwCl (wY ca ad M_1) H := by rw [← ht]; exact hO
        obtain ⟨y7_0, h7, hf⟩ := bnd_some hf
        have K7 : ∀ (H : Heap) (locs : List Loc) (ls : Array Slot), inR y7_0 → va_P D vwCl (wY ca ad M_1) H → va_S (aS 18 ad) s.heap H locs → lv_has ls 5 [(0, .ref (ad 0)), (1, .int (J x1_1)), (2, .int (J x2_1)), (3, .int (J x3_1))] → W p l e (headSpec wsX5_reason (RmC 2 44)).room s m ([.ref (ad 0), .int (J a1)] : List Value).toArray below meth c H locs 0 0 (MQ below (va_Qi (fun x (_ : Unit) => x = J res ∧ (inR res)) (fun _ => (OY D ca ad M)) (aS 18 ad)) ([.ref (ad 0), .int (J a1)] : List Value).toArray s 0 0 (aS 18 ad)) (F0 m 41 ls [.int (J y7_0)]) := by
          intro H locs ls ry7_0  hP hS hl
          refine lv_istore (lv' := [(4, .int (J y7_0)), (0, .ref (ad 0)), (1, .int (J x1_1)), (2, .int (J x2_1)), (3, .int (J x3_1))]) hx hb dX5_reason_41 hl (by decide) rfl (fun ls hl => ?_)
          refine lv_iload hx hb dX5_reason_43 (lv_at hl 0 rfl) ?_
          refine lv_iload_n hx hb dX5_reason_45 rfl (lv_at hl 3 rfl) ?_
          obtain ⟨y12_0, h12, hf⟩ := bnd_some hf
          have K12 : ∀ (H : Heap) (locs : List Loc) (ls : Array Slot), inR y12_0 → va_P D vwCl (wY ca ad M_1) H → va_S (aS 18 ad) s.heap H locs → lv_has ls 5 [(0, .ref (ad 0)), (1, .int (J x1_1)), (3, .int (J x3_1))] → W p l e (headSpec wsX5_reason (RmC 2 44)).room s m ([.ref (ad 0), .int (J a1)] : List Value).toArray below meth c H locs 0 0 (MQ below (va_Qi (fun x (_ : Unit) => x = J res ∧ (inR res)) (fun _ => (OY D ca ad M)) (aS 18 ad)) ([.ref (ad 0), .int (J a1)] : List Value).toArray s 0 0 (aS 18 ad)) (F0 m 55 ls [.int (J y12_0)]) := by
            intro H locs ls ry12_0  hP hS hl
            refine lv_istore_n (lv' := [(2, .int (J y12_0)), (0, .ref (ad 0)), (1, .int (J x1_1)), (3, .int (J x3_1))]) hx hb dX5_reason_55 rfl hl (by decide) rfl (fun ls hl => ?_)
            refine lv_iinc (v := J (x3_1 + 1)) (lv' := [(3, .int (J (x3_1 + 1))), (2, .int (J y12_0)), (0, .ref (ad 0)), (1, .int (J x1_1))]) hx hb dX5_reason_56 hl (k := 3) rfl (J_add _ _) (by decide) rfl (fun ls hl => ?_)
            refine lv_goto (tgt := 4) hx hb dX5_reason_59 (by decide) ?_
            obtain ⟨g13, hf⟩ := gd_some hf
            exact ih _ _ _ _ _ _ _ rx1_1 ry12_0 g13 hRM_1 e_x1_1 e_M_1 hP hS (lv_sub hl [2, 3, 1, 0] rfl) hf
          have hf := h12
          clear h12
          refine jv_icmp_le (tgt := 54) hx hb dX5_reason_46 (by decide) ry7_0 rx2_1 (fun c11 => ?_) (fun c11 => ?_)
          · have hf := itep hf c11
            refine lv_iload_n hx hb dX5_reason_54 rfl (lv_at hl 3 rfl) ?_
            cases hf
            exact K12 _ _ _ rx2_1  hP hS (lv_sub hl [1, 2, 4] rfl)
          · have hf := iten hf c11
            refine lv_iload hx hb dX5_reason_49 (lv_at hl 0 rfl) ?_
            refine lv_goto (tgt := 55) hx hb dX5_reason_51 (by decide) ?_
            cases hf
            exact K12 _ _ _ ry7_0  hP hS (lv_sub hl [1, 2, 4] rfl)
        have hf := h7
        clear h7
        refine jv_if_ne (tgt := 27) hx hb dX5_reason_20 (by decide) rv4 (fun c6 => ?_) (fun c6 => ?_)
        · have hf := iten hf c6
          refine lv_aload_n hx hb dX5_reason_27 rfl (lv_at hl 0 rfl) ?_
          refine lv_iload_n hx hb dX5_reason_28 rfl (lv_at hl 3 rfl) ?_
          refine lv_iload_n hx hb dX5_reason_29 rfl (lv_at hl 1 rfl) ?_
          obtain ⟨v8, qv8, hf⟩ := bnd_some hf
          refine jc_i (va_runV (As := [.int (J x3_1), .int (J x1_1)]) (rest := []) ⟨hx, hb, hml, hown, hts⟩ (kX5_hasParts l D ca ad hI M_1 hRM_1 x3_1 x1_1 rx3_1 rx1_1 v8 qv8) (cwV 2 hts gX5_reason_X5_hasParts rfl rfl rfl (by decide +kernel) ⟨Nat.le_of_ble_eq_true rfl, Nat.le_of_ble_eq_true rfl⟩) (pvY hK hP [.int (J x3_1), .int (J x1_1)]) rfl rfl hl.1 rfl (lv_room (Nat.le_of_ble_eq_true rfl)) dX5_reason_30 ⟨Nat.zero_le _, Nat.zero_le _⟩) hS (fun H locs t ht hφ hO hS => ?_)
          have rv8 := hφ
          have hP : va_P D vwCl (wY ca ad M_1) H := by rw [← ht]; exact hO
          refine jv_if_eq (tgt := 40) hx hb dX5_reason_33 (by decide) rv8 (fun c10 => ?_) (fun c10 => ?_)
          · have hf := itep hf c10
            refine lv_iconst (v := J 3) hx hb dX5_reason_40 rfl ?_
            cases hf
            exact K7 _ _ _ (by decide : inR 3)  hP hS (lv_sub hl [0, 1, 2, 3] rfl)
          · have hf := iten hf c10
            refine lv_iconst (v := J 4) hx hb dX5_reason_36 rfl ?_
            refine lv_goto (tgt := 41) hx hb dX5_reason_37 (by decide) ?_
            cases hf
            exact K7 _ _ _ (by decide : inR 4)  hP hS (lv_sub hl [0, 1, 2, 3] rfl)
        · have hf := itep hf c6
          refine lv_iconst (v := J 2) hx hb dX5_reason_23 rfl ?_
          refine lv_goto (tgt := 41) hx hb dX5_reason_24 (by decide) ?_
          cases hf
          exact K7 _ _ _ (by decide : inR 2)  hP hS (lv_sub hl [0, 1, 2, 3] rfl)
  exact hL1 4000 _ _ _ _ _ _ _ i1 (by decide : inR 2) (by decide : inR 0) hR rfl rfl hP hS (lv_sub hl [2, 3, 1, 0] rfl) h1
def fX5_looks (a1 : Int) (a2 : Int) (a3 : Int) (M : MM) : Option (Int × MM) := bnd (fX5_vanFor a1 a2 M) (fun v1 => if v1 = (-6) then bnd (fX5_reason a1 M) (fun v6 => some (v6, M)) else bnd (fX5_makes v1 a1 a2 M) (fun M5 => some (a3, M5)))
set_option maxHeartbeats 4000000 in
set_option maxRecDepth 100000 in
theorem kX5_looks (l : Launch) (D : va_G) (ca : Nat → ClassId) (ad : Nat → Nat) (hI : aInj 18 ad) (M : MM) (hR : RR M) (a1 : Int) (a2 : Int) (a3 : Int) (i1 : inR a1) (i2 : inR a2) (i3 : inR a3) (res : Int) (M' : MM) (hf : fX5_looks a1 a2 a3 M = some (res, M')) : CI l yX5_looks wsX5_looks 4 95 [.ref (ad 0), .int (J a1), .int (J a2), .int (J a3)] (PY D ca ad M) res (inR res ∧ RR M') (OY D ca ad M') (aS 18 ad) := by
  refine Met.ofW (cc := cX5_looks) (maxL := 5) (ret := (some .int)) (by decide) rfl ?_
  intro p e s m args below meth c s₁ B hml hv
  obtain ⟨rfl, hP, hK⟩ := hv
  have hx := B.exec
  have hb := B.bytes
  have hr := B.returns
  have hts := atoms_spec (ws := wsX5_looks) B.pre
  have hown : s.vm.findClass RX5 = some m.cls := findClass_of_methodNamed B.named
  have hlocks := B.notSynchronized
  have hS : va_S (aS 18 ad) s.heap s.heap [] := va_S.rf
  have hl := lv_entry ([.ref (ad 0), .int (J a1), .int (J a2), .int (J a3)]) (n := 5) (Nat.le_of_ble_eq_true rfl)
  rw [lg_entry_eq]
  generalize (lg_sl ([.ref (ad 0), .int (J a1), .int (J a2), .int (J a3)]) ++ List.replicate (5 - (lg_sl ([.ref (ad 0), .int (J a1), .int (J a2), .int (J a3)])).length) Slot.unset).toArray = ls at hl ⊢
  have hl : lv_has ls 5 [(0, .ref (ad 0)), (1, .int (J a1)), (2, .int (J a2)), (3, .int (J a3))] := hl
  unfold fX5_looks at hf
  refine lv_aload_n hx hb dX5_looks_0 rfl (lv_at hl 0 rfl) ?_
  refine lv_iload_n hx hb dX5_looks_1 rfl (lv_at hl 1 rfl) ?_
  refine lv_iload_n hx hb dX5_looks_2 rfl (lv_at hl 2 rfl) ?_
  obtain ⟨v1, qv1, hf⟩ := bnd_some hf
  refine jc_i (va_runV (As := [.int (J a1), .int (J a2)]) (rest := []) ⟨hx, hb, hml, hown, hts⟩ (kX5_vanFor l D ca ad hI M hR a1 a2 i1 i2 v1 qv1) (cwV 2 hts gX5_looks_X5_vanFor rfl rfl rfl (by decide +kernel) ⟨Nat.le_of_ble_eq_true rfl, Nat.le_of_ble_eq_true rfl⟩) (pvY hK hP [.int (J a1), .int (J a2)]) rfl rfl hl.1 rfl (lv_room (Nat.le_of_ble_eq_true rfl)) dX5_looks_3 ⟨Nat.zero_le _, Nat.zero_le _⟩) hS (fun H locs t ht hφ hO hS => ?_)
  have rv1 := hφ
  have hP : va_P D vwCl (wY ca ad M) H := by rw [← ht]; exact hO
  refine lv_istore (lv' := [(4, .int (J v1)), (0, .ref (ad 0)), (1, .int (J a1)), (2, .int (J a2)), (3, .int (J a3))]) hx hb dX5_looks_6 hl (by decide) rfl (fun ls hl => ?_)
  refine lv_iload hx hb dX5_looks_8 (lv_at hl 0 rfl) ?_
  refine lv_bipush (v := J (-6)) hx hb dX5_looks_10 (by decide +kernel) ?_
  refine jv_icmp_ne (tgt := 21) hx hb dX5_looks_12 (by decide) rv1 (by decide : inR (-6)) (fun c3 => ?_) (fun c3 => ?_)
  · have hf := iten hf c3
    refine lv_aload_n hx hb dX5_looks_21 rfl (lv_at hl 1 rfl) ?_
    refine lv_iload hx hb dX5_looks_22 (lv_at hl 0 rfl) ?_
    refine lv_iload_n hx hb dX5_looks_24 rfl (lv_at hl 2 rfl) ?_
    refine lv_iload_n hx hb dX5_looks_25 rfl (lv_at hl 3 rfl) ?_
    obtain ⟨M5, qM5, hf⟩ := bnd_some hf
    refine jc_v (va_runV (As := [.int (J v1), .int (J a1), .int (J a2)]) (rest := []) ⟨hx, hb, hml, hown, hts⟩ (kX5_makes l D ca ad hI M hR v1 a1 a2 rv1 i1 i2 M5 qM5) (cwV 3 hts gX5_looks_X5_makes rfl rfl rfl (by decide +kernel) ⟨Nat.le_of_ble_eq_true rfl, Nat.le_of_ble_eq_true rfl⟩) (pvY hK hP [.int (J v1), .int (J a1), .int (J a2)]) rfl rfl hl.1 rfl (lv_room (Nat.le_of_ble_eq_true rfl)) dX5_looks_26 ⟨Nat.zero_le _, Nat.zero_le _⟩) hS (fun H locs t ht hφ hO hS => ?_)
    have hRM5 := hφ
    have hP : va_P D vwCl (wY ca ad M5) H := by rw [← ht]; exact hO
    refine lv_iload_n hx hb dX5_looks_29 rfl (lv_at hl 4 rfl) ?_
    obtain ⟨e1, e2⟩ := Prod.mk.inj (Option.some.inj hf)
    exact jend_i hx hb hr rfl hS e1 ⟨by rw [← e1]; exact i3, by rw [← e2]; exact hRM5⟩ (oY e2 hP) dX5_looks_30 hlocks
  · have hf := itep hf c3
    refine lv_aload_n hx hb dX5_looks_15 rfl (lv_at hl 1 rfl) ?_
    refine lv_iload_n hx hb dX5_looks_16 rfl (lv_at hl 2 rfl) ?_
    obtain ⟨v6, qv6, hf⟩ := bnd_some hf
    refine jc_i (va_runV (As := [.int (J a1)]) (rest := []) ⟨hx, hb, hml, hown, hts⟩ (kX5_reason l D ca ad hI M hR a1 i1 v6 qv6) (cwV 1 hts gX5_looks_X5_reason rfl rfl rfl (by decide +kernel) ⟨Nat.le_of_ble_eq_true rfl, Nat.le_of_ble_eq_true rfl⟩) (pvY hK hP [.int (J a1)]) rfl rfl hl.1 rfl (lv_room (Nat.le_of_ble_eq_true rfl)) dX5_looks_17 ⟨Nat.zero_le _, Nat.zero_le _⟩) hS (fun H locs t ht hφ hO hS => ?_)
    have rv6 := hφ
    have hP : va_P D vwCl (wY ca ad M) H := by rw [← ht]; exact hO
    obtain ⟨e1, e2⟩ := Prod.mk.inj (Option.some.inj hf)
    exact jend_i hx hb hr rfl hS e1 ⟨by rw [← e1]; exact rv6, by rw [← e2]; exact hR⟩ (oY e2 hP) dX5_looks_20 hlocks
def fX5_rankOf_L4 : Nat → Int → Int → Int → MM → Option (Int)
  | 0, _, _, _, _ => none
  | n + 1, x1_1, x2_1, x3_1, M_1 => bnd (rd M_1 1 160 3) (fun v2 => if v2 ≤ x3_1 then some x2_1 else bnd (fX5_visit0 x1_1 5 M_1) (fun v4 => bnd (fX5_visit0 x3_1 5 M_1) (fun v6 => gd (inR (v4 - v6)) (bnd (if 0 < (v4 - v6) then some ((1 : Int)) else if (v4 - v6) = 0 then if x1_1 ≤ x3_1 then some ((0 : Int)) else some ((1 : Int)) else some ((0 : Int))) (fun y10_0 => gd (inR (x2_1 + y10_0)) (gd (inR (x3_1 + 1)) (fX5_rankOf_L4 n x1_1 (x2_1 + y10_0) (x3_1 + 1) M_1)))))))
def fX5_rankOf (a1 : Int) (M : MM) : Option (Int) := bnd (fX5_rankOf_L4 4000 a1 0 0 M) (fun y1_0 => some y1_0)
set_option maxHeartbeats 4000000 in
set_option maxRecDepth 100000 in
theorem kX5_rankOf (l : Launch) (D : va_G) (ca : Nat → ClassId) (ad : Nat → Nat) (hI : aInj 18 ad) (M : MM) (hR : RR M) (a1 : Int) (i1 : inR a1) (res : Int) (hf : fX5_rankOf a1 M = some res) : CI l yX5_rankOf wsX5_rankOf 1 22 [.ref (ad 0), .int (J a1)] (PY D ca ad M) res (inR res) (OY D ca ad M) (aS 18 ad) := by
  refine Met.ofW (cc := cX5_rankOf) (maxL := 5) (ret := (some .int)) (by decide) rfl ?_
  intro p e s m args below meth c s₁ B hml hv
  obtain ⟨rfl, hP, hK⟩ := hv
  have hx := B.exec
  have hb := B.bytes
  have hr := B.returns
  have hts := atoms_spec (ws := wsX5_rankOf) B.pre
  have hown : s.vm.findClass RX5 = some m.cls := findClass_of_methodNamed B.named
  have hlocks := B.notSynchronized
  have hS : va_S (aS 18 ad) s.heap s.heap [] := va_S.rf
  have hinX5 : ∀ w ∈ wsX50, w ∈ wsX5_rankOf := by decide +kernel
  have hl := lv_entry ([.ref (ad 0), .int (J a1)]) (n := 5) (Nat.le_of_ble_eq_true rfl)
  rw [lg_entry_eq]
  generalize (lg_sl ([.ref (ad 0), .int (J a1)]) ++ List.replicate (5 - (lg_sl ([.ref (ad 0), .int (J a1)])).length) Slot.unset).toArray = ls at hl ⊢
  have hl : lv_has ls 5 [(0, .ref (ad 0)), (1, .int (J a1))] := hl
  unfold fX5_rankOf at hf
  refine lv_iconst (v := J 0) hx hb dX5_rankOf_0 rfl ?_
  refine lv_istore_n (lv' := [(2, .int (J 0)), (0, .ref (ad 0)), (1, .int (J a1))]) hx hb dX5_rankOf_1 rfl hl (by decide) rfl (fun ls hl => ?_)
  refine lv_iconst (v := J 0) hx hb dX5_rankOf_2 rfl ?_
  refine lv_istore_n (lv' := [(3, .int (J 0)), (2, .int (J 0)), (0, .ref (ad 0)), (1, .int (J a1))]) hx hb dX5_rankOf_3 rfl hl (by decide) rfl (fun ls hl => ?_)
  obtain ⟨y1_0, h1, hf⟩ := bnd_some hf
  have K1 : ∀ (H : Heap) (locs : List Loc) (ls : Array Slot), inR y1_0 → va_P D vwCl (wY ca ad M) H → va_S (aS 18 ad) s.heap H locs → lv_has ls 5 [(2, .int (J y1_0))] → W p l e (headSpec wsX5_rankOf (RmC 1 22)).room s m ([.ref (ad 0), .int (J a1)] : List Value).toArray below meth c H locs 0 0 (MQ below (va_Qi (fun x (_ : Unit) => x = J res ∧ (inR res)) (fun _ => (OY D ca ad M)) (aS 18 ad)) ([.ref (ad 0), .int (J a1)] : List Value).toArray s 0 0 (aS 18 ad)) (F0 m 58 ls []) := by
    intro H locs ls ry1_0 hP hS hl
    refine lv_iload_n hx hb dX5_rankOf_58 rfl (lv_at hl 0 rfl) ?_
    have e1 := Option.some.inj hf
    exact jend_i hx hb hr rfl hS e1 (by rw [← e1]; exact ry1_0) (oY rfl hP) dX5_rankOf_59 hlocks
  have hL1 : ∀ (n : Nat) (x1_1 : Int) (x2_1 : Int) (x3_1 : Int) (M_1 : MM) (H : Heap) (locs : List Loc) (ls : Array Slot), inR x1_1 → inR x2_1 → inR x3_1 → RR M_1 → x1_1 = a1 → M_1 = M → va_P D vwCl (wY ca ad M_1) H → va_S (aS 18 ad) s.heap H locs → lv_has ls 5 [(0, .ref (ad 0)), (1, .int (J x1_1)), (2, .int (J x2_1)), (3, .int (J x3_1))] → fX5_rankOf_L4 n x1_1 x2_1 x3_1 M_1 = some y1_0 → W p l e (headSpec wsX5_rankOf (RmC 1 22)).room s m ([.ref (ad 0), .int (J a1)] : List Value).toArray below meth c H locs 0 0 (MQ below (va_Qi (fun x (_ : Unit) => x = J res ∧ (inR res)) (fun _ => (OY D ca ad M)) (aS 18 ad)) ([.ref (ad 0), .int (J a1)] : List Value).toArray s 0 0 (aS 18 ad)) (F0 m 4 ls []) := by
    intro n
    induction n with
    | zero =>
      intro x1_1 x2_1 x3_1 M_1 H locs ls rx1_1 rx2_1 rx3_1 hRM_1 e_x1_1 e_M_1 hP hS hl hf
      rw [fX5_rankOf_L4] at hf
      cases hf
    | succ n ih =>
      intro x1_1 x2_1 x3_1 M_1 H locs ls rx1_1 rx2_1 rx3_1 hRM_1 e_x1_1 e_M_1 hP hS hl hf
      rw [fX5_rankOf_L4] at hf
      refine lv_iload_n hx hb dX5_rankOf_4 rfl (lv_at hl 3 rfl) ?_
      refine lv_aload_n hx hb dX5_rankOf_5 rfl (lv_at hl 0 rfl) ?_
      refine va_get (D := D) (ci := 5) (v := .ref (ad 1)) (C := RX5) (T := TX5) (N := 23) hx hb hts hinX5 hown hK hP 0 (wL_get (by decide) (gY_0 _)) rfl 1 (by decide) (hts (.fieldLink RX5 7 "VisitVansModel" "s" "[I") (List.mem_of_getElem? (i := 1) rfl)) (fun _ h => h) rfl dX5_rankOf_6 ?_
      refine lv_iconst (v := J 3) hx hb dX5_rankOf_9 rfl ?_
      obtain ⟨v2, qv2, hf⟩ := bnd_some hf
      obtain ⟨bv2, ev2⟩ := rd_some qv2
      have rv2 : inR v2 := by rw [ev2]; exact hRM_1 _ _
      refine jx_iald hx hb hK hP 1 0 (by decide) gY_1 rfl (by decide) bv2 ev2 dX5_rankOf_10 ?_
      refine jv_icmp_ge (tgt := 58) hx hb dX5_rankOf_11 (by decide) rx3_1 rv2 (fun c3 => ?_) (fun c3 => ?_)
      · have hf := itep hf c3
        cases hf
        exact K1 _ _ _ rx2_1  (e_M_1 ▸ hP) hS (lv_sub hl [2] (by subst e_x1_1; rfl))
      · have hf := iten hf c3
        refine lv_aload_n hx hb dX5_rankOf_14 rfl (lv_at hl 0 rfl) ?_
        refine lv_iload_n hx hb dX5_rankOf_15 rfl (lv_at hl 1 rfl) ?_
        refine lv_iconst (v := J 5) hx hb dX5_rankOf_16 rfl ?_
        obtain ⟨v4, qv4, hf⟩ := bnd_some hf
        refine jc_i (va_runV (As := [.int (J x1_1), .int (J 5)]) (rest := []) ⟨hx, hb, hml, hown, hts⟩ (kX5_visit0 l D ca ad hI M_1 hRM_1 x1_1 5 rx1_1 (by decide : inR 5) v4 qv4) (cwV 2 hts gX5_rankOf_X5_visit0 rfl rfl rfl (by decide +kernel) ⟨Nat.le_of_ble_eq_true rfl, Nat.le_of_ble_eq_true rfl⟩) (pvY hK hP [.int (J x1_1), .int (J 5)]) rfl rfl hl.1 rfl (lv_room (Nat.le_of_ble_eq_true rfl)) dX5_rankOf_17 ⟨Nat.zero_le _, Nat.zero_le _⟩) hS (fun H locs t ht hφ hO hS => ?_)
        have rv4 := hφ
        have hP : va_P D vwCl (wY ca ad M_1) H := by rw [← ht]; exact hO
        refine lv_aload_n hx hb dX5_rankOf_20 rfl (lv_at hl 0 rfl) ?_
        refine lv_iload_n hx hb dX5_rankOf_21 rfl (lv_at hl 3 rfl) ?_
        refine lv_iconst (v := J 5) hx hb dX5_rankOf_22 rfl ?_
        obtain ⟨v6, qv6, hf⟩ := bnd_some hf
        refine jc_i (va_runV (As := [.int (J x3_1), .int (J 5)]) (rest := [.int (J v4)]) ⟨hx, hb, hml, hown, hts⟩ (kX5_visit0 l D ca ad hI M_1 hRM_1 x3_1 5 rx3_1 (by decide : inR 5) v6 qv6) (cwV 2 hts gX5_rankOf_X5_visit0 rfl rfl rfl (by decide +kernel) ⟨Nat.le_of_ble_eq_true rfl, Nat.le_of_ble_eq_true rfl⟩) (pvY hK hP [.int (J x3_1), .int (J 5)]) rfl rfl hl.1 rfl (lv_room (Nat.le_of_ble_eq_true rfl)) dX5_rankOf_23 ⟨Nat.zero_le _, Nat.zero_le _⟩) hS (fun H locs t ht hφ hO hS => ?_)
        have rv6 := hφ
        have hP : va_P D vwCl (wY ca ad M_1) H := by rw [← ht]; exact hO
        refine jv_isub hx hb dX5_rankOf_26 ?_
        refine lv_istore (lv' := [(4, .int (J (v4 - v6))), (0, .ref (ad 0)), (1, .int (J x1_1)), (2, .int (J x2_1)), (3, .int (J x3_1))]) hx hb dX5_rankOf_27 hl (by decide) rfl (fun ls hl => ?_)
        refine lv_iload_n hx hb dX5_rankOf_29 rfl (lv_at hl 3 rfl) ?_
        refine lv_iload hx hb dX5_rankOf_30 (lv_at hl 0 rfl) ?_
        obtain ⟨g8, hf⟩ := gd_some hf
        obtain ⟨y10_0, h10, hf⟩ := bnd_some hf
        have K10 : ∀ (H : Heap) (locs : List Loc) (ls : Array Slot), inR y10_0 → va_P D vwCl (wY ca ad M_1) H → va_S (aS 18 ad) s.heap H locs → lv_has ls 5 [(0, .ref (ad 0)), (1, .int (J x1_1)), (3, .int (J x3_1))] → W p l e (headSpec wsX5_rankOf (RmC 1 22)).room s m ([.ref (ad 0), .int (J a1)] : List Value).toArray below meth c H locs 0 0 (MQ below (va_Qi (fun x (_ : Unit) => x = J res ∧ (inR res)) (fun _ => (OY D ca ad M)) (aS 18 ad)) ([.ref (ad 0), .int (J a1)] : List Value).toArray s 0 0 (aS 18 ad)) (F0 m 50 ls [.int (J y10_0), .int (J x2_1)]) := by
          intro H locs ls ry10_0  hP hS hl
          refine jv_iadd hx hb dX5_rankOf_50 ?_
          refine lv_istore_n (lv' := [(2, .int (J (x2_1 + y10_0))), (0, .ref (ad 0)), (1, .int (J x1_1)), (3, .int (J x3_1))]) hx hb dX5_rankOf_51 rfl hl (by decide) rfl (fun ls hl => ?_)
          refine lv_iinc (v := J (x3_1 + 1)) (lv' := [(3, .int (J (x3_1 + 1))), (2, .int (J (x2_1 + y10_0))), (0, .ref (ad 0)), (1, .int (J x1_1))]) hx hb dX5_rankOf_52 hl (k := 3) rfl (J_add _ _) (by decide) rfl (fun ls hl => ?_)
          refine lv_goto (tgt := 4) hx hb dX5_rankOf_55 (by decide) ?_
          obtain ⟨g13, hf⟩ := gd_some hf
          obtain ⟨g14, hf⟩ := gd_some hf
          exact ih _ _ _ _ _ _ _ rx1_1 g13 g14 hRM_1 e_x1_1 e_M_1 hP hS (lv_sub hl [2, 3, 1, 0] rfl) hf
        have hf := h10
        clear h10
        refine jv_if_gt (tgt := 45) hx hb dX5_rankOf_32 (by decide) g8 (fun c9 => ?_) (fun c9 => ?_)
        · have hf := itep hf c9
          refine lv_iconst (v := J 1) hx hb dX5_rankOf_45 rfl ?_
          refine lv_goto (tgt := 50) hx hb dX5_rankOf_46 (by decide) ?_
          cases hf
          exact K10 _ _ _ (by decide : inR 1)  hP hS (lv_sub hl [1, 2, 4] rfl)
        · have hf := iten hf c9
          refine lv_iload hx hb dX5_rankOf_35 (lv_at hl 0 rfl) ?_
          refine jv_if_ne (tgt := 49) hx hb dX5_rankOf_37 (by decide) g8 (fun c11 => ?_) (fun c11 => ?_)
          · have hf := iten hf c11
            refine lv_iconst (v := J 0) hx hb dX5_rankOf_49 rfl ?_
            cases hf
            exact K10 _ _ _ (by decide : inR 0)  hP hS (lv_sub hl [1, 2, 4] rfl)
          · have hf := itep hf c11
            refine lv_iload_n hx hb dX5_rankOf_40 rfl (lv_at hl 4 rfl) ?_
            refine lv_iload_n hx hb dX5_rankOf_41 rfl (lv_at hl 2 rfl) ?_
            refine jv_icmp_ge (tgt := 49) hx hb dX5_rankOf_42 (by decide) rx3_1 rx1_1 (fun c12 => ?_) (fun c12 => ?_)
            · have hf := itep hf c12
              refine lv_iconst (v := J 0) hx hb dX5_rankOf_49 rfl ?_
              cases hf
              exact K10 _ _ _ (by decide : inR 0)  hP hS (lv_sub hl [1, 2, 4] rfl)
            · have hf := iten hf c12
              refine lv_iconst (v := J 1) hx hb dX5_rankOf_45 rfl ?_
              refine lv_goto (tgt := 50) hx hb dX5_rankOf_46 (by decide) ?_
              cases hf
              exact K10 _ _ _ (by decide : inR 1)  hP hS (lv_sub hl [1, 2, 4] rfl)
  exact hL1 4000 _ _ _ _ _ _ _ i1 (by decide : inR 0) (by decide : inR 0) hR rfl rfl hP hS (lv_sub hl [2, 3, 1, 0] rfl) h1
def fX5_plans_L47 : Nat → Int → Int → MM → Option (MM)
  | 0, _, _, _ => none
  | n + 1, x1_10, x2_10, M_10 => if 5 ≤ x2_10 then some M_10 else gd (inR (2 + x2_10)) (bnd (fX5_van0 x1_10 (2 + x2_10) M_10) (fun v13 => bnd (wr M_10 14 20 ((5 * x1_10) + x2_10) v13) (fun M15 => gd (inR (x2_10 + 1)) (fX5_plans_L47 n x1_10 (x2_10 + 1) M15))))
def fX5_plans_L2 : Nat → Int → MM → Option (MM)
  | 0, _, _ => none
  | n + 1, x1_1, M_1 => bnd (rd M_1 1 160 4) (fun v2 => if v2 ≤ x1_1 then some M_1 else bnd (fX5_van0 x1_1 0 M_1) (fun v4 => bnd (wr M_1 12 4 x1_1 v4) (fun M6 => bnd (wr M6 13 4 x1_1 0) (fun M7 => bnd (wr M7 15 4 x1_1 0) (fun M8 => bnd (wr M8 16 4 x1_1 0) (fun M9 => bnd (fX5_plans_L47 4000 x1_1 0 M9) (fun N_10 => gd (inR (x1_1 + 1)) (fX5_plans_L2 n (x1_1 + 1) N_10))))))))
def fX5_plans_L84 : Nat → Int → MM → Option (MM)
  | 0, _, _ => none
  | n + 1, x1_18, M_18 => bnd (rd M_18 1 160 3) (fun v19 => if v19 ≤ x1_18 then some M_18 else bnd (fX5_rankOf x1_18 M_18) (fun v21 => bnd (wr M_18 6 21 v21 x1_18) (fun M23 => bnd (wr M23 8 21 x1_18 (-6)) (fun M24 => bnd (wr M24 9 21 x1_18 (-6)) (fun M25 => gd (inR (x1_18 + 1)) (fX5_plans_L84 n (x1_18 + 1) M25))))))
def fX5_plans_L129 : Nat → Int → MM → Option (MM)
  | 0, _, _ => none
  | n + 1, x1_27, M_27 => bnd (rd M_27 1 160 3) (fun v28 => if v28 ≤ x1_27 then some M_27 else bnd (rd M_27 6 21 x1_27) (fun v30 => bnd (rd M_27 6 21 x1_27) (fun v31 => bnd2 (fX5_looks v31 0 0 M_27) (fun v32 M33 => bnd (wr M33 7 21 v30 v32) (fun M34 => gd (inR (x1_27 + 1)) (fX5_plans_L129 n (x1_27 + 1) M34))))))
def fX5_plans_L170 : Nat → Int → MM → Option (MM)
  | 0, _, _ => none
  | n + 1, x1_36, M_36 => bnd (rd M_36 1 160 3) (fun v37 => if v37 ≤ x1_36 then some M_36 else bnd (rd M_36 6 21 x1_36) (fun v39 => bnd (rd M_36 7 21 v39) (fun v40 => bnd (if v40 = 4 then bnd (rd M_36 6 21 x1_36) (fun v43 => bnd (rd M_36 6 21 x1_36) (fun v44 => bnd (rd M_36 1 160 2) (fun v45 => bnd2 (fX5_looks v44 v45 1 M_36) (fun v46 M47 => bnd (wr M47 7 21 v43 v46) (fun M48 => some (M48)))))) else some (M_36)) (fun M_42 => gd (inR (x1_36 + 1)) (fX5_plans_L170 n (x1_36 + 1) M_42)))))
def fX5_plans (M : MM) : Option (MM) := bnd (fX5_plans_L2 4000 0 M) (fun N_1 => bnd (fX5_plans_L84 4000 0 N_1) (fun N_18 => bnd (fX5_plans_L129 4000 0 N_18) (fun N_27 => bnd (fX5_plans_L170 4000 0 N_27) (fun N_36 => some N_36))))
set_option maxHeartbeats 4000000 in
set_option maxRecDepth 100000 in
theorem kX5_plans (l : Launch) (D : va_G) (ca : Nat → ClassId) (ad : Nat → Nat) (hI : aInj 18 ad) (M : MM) (hR : RR M) (M' : MM) (hf : fX5_plans M = some M') : CV l yX5_plans wsX5_plans 5 119 [.ref (ad 0)] (PY D ca ad M) (RR M') (OY D ca ad M') (aS 18 ad) := by
  refine Met.ofW (cc := cX5_plans) (maxL := 3) (ret := none) (by decide) rfl ?_
  intro p e s m args below meth c s₁ B hml hv
  obtain ⟨rfl, hP, hK⟩ := hv
  have hx := B.exec
  have hb := B.bytes
  have hr := B.returns
  have hts := atoms_spec (ws := wsX5_plans) B.pre
  have hown : s.vm.findClass RX5 = some m.cls := findClass_of_methodNamed B.named
  have hlocks := B.notSynchronized
  have hS : va_S (aS 18 ad) s.heap s.heap [] := va_S.rf
  have hinX5 : ∀ w ∈ wsX50, w ∈ wsX5_plans := by decide +kernel
  have hl := lv_entry ([.ref (ad 0)]) (n := 3) (Nat.le_of_ble_eq_true rfl)
  rw [lg_entry_eq]
  generalize (lg_sl ([.ref (ad 0)]) ++ List.replicate (3 - (lg_sl ([.ref (ad 0)])).length) Slot.unset).toArray = ls at hl ⊢
  have hl : lv_has ls 3 [(0, .ref (ad 0))] := hl
  unfold fX5_plans at hf
  refine lv_iconst (v := J 0) hx hb dX5_plans_0 rfl ?_
  refine lv_istore_n (lv' := [(1, .int (J 0)), (0, .ref (ad 0))]) hx hb dX5_plans_1 rfl hl (by decide) rfl (fun ls hl => ?_)
  obtain ⟨N_1, h1, hf⟩ := bnd_some hf
  have K1 : ∀ (H : Heap) (locs : List Loc) (ls : Array Slot), RR N_1 → va_P D vwCl (wY ca ad N_1) H → va_S (aS 18 ad) s.heap H locs → lv_has ls 3 [(0, .ref (ad 0))] → W p l e (headSpec wsX5_plans (RmC 5 119)).room s m ([.ref (ad 0)] : List Value).toArray below meth c H locs 0 0 (MQ below (va_Qv (fun (_ : Unit) => (RR M')) (fun _ => (OY D ca ad M')) (aS 18 ad)) ([.ref (ad 0)] : List Value).toArray s 0 0 (aS 18 ad)) (F0 m 82 ls []) := by
    intro H locs ls hRN_1 hP hS hl
    refine lv_iconst (v := J 0) hx hb dX5_plans_82 rfl ?_
    refine lv_istore_n (lv' := [(1, .int (J 0)), (0, .ref (ad 0))]) hx hb dX5_plans_83 rfl hl (by decide) rfl (fun ls hl => ?_)
    obtain ⟨N_18, h18, hf⟩ := bnd_some hf
    have K18 : ∀ (H : Heap) (locs : List Loc) (ls : Array Slot), RR N_18 → va_P D vwCl (wY ca ad N_18) H → va_S (aS 18 ad) s.heap H locs → lv_has ls 3 [(0, .ref (ad 0))] → W p l e (headSpec wsX5_plans (RmC 5 119)).room s m ([.ref (ad 0)] : List Value).toArray below meth c H locs 0 0 (MQ below (va_Qv (fun (_ : Unit) => (RR M')) (fun _ => (OY D ca ad M')) (aS 18 ad)) ([.ref (ad 0)] : List Value).toArray s 0 0 (aS 18 ad)) (F0 m 127 ls []) := by
      intro H locs ls hRN_18 hP hS hl
      refine lv_iconst (v := J 0) hx hb dX5_plans_127 rfl ?_
      refine lv_istore_n (lv' := [(1, .int (J 0)), (0, .ref (ad 0))]) hx hb dX5_plans_128 rfl hl (by decide) rfl (fun ls hl => ?_)
      obtain ⟨N_27, h27, hf⟩ := bnd_some hf
      have K27 : ∀ (H : Heap) (locs : List Loc) (ls : Array Slot), RR N_27 → va_P D vwCl (wY ca ad N_27) H → va_S (aS 18 ad) s.heap H locs → lv_has ls 3 [(0, .ref (ad 0))] → W p l e (headSpec wsX5_plans (RmC 5 119)).room s m ([.ref (ad 0)] : List Value).toArray below meth c H locs 0 0 (MQ below (va_Qv (fun (_ : Unit) => (RR M')) (fun _ => (OY D ca ad M')) (aS 18 ad)) ([.ref (ad 0)] : List Value).toArray s 0 0 (aS 18 ad)) (F0 m 168 ls []) := by
        intro H locs ls hRN_27 hP hS hl
        refine lv_iconst (v := J 0) hx hb dX5_plans_168 rfl ?_
        refine lv_istore_n (lv' := [(1, .int (J 0)), (0, .ref (ad 0))]) hx hb dX5_plans_169 rfl hl (by decide) rfl (fun ls hl => ?_)
        obtain ⟨N_36, h36, hf⟩ := bnd_some hf
        have K36 : ∀ (H : Heap) (locs : List Loc) (ls : Array Slot), RR N_36 → va_P D vwCl (wY ca ad N_36) H → va_S (aS 18 ad) s.heap H locs → lv_has ls 3 [] → W p l e (headSpec wsX5_plans (RmC 5 119)).room s m ([.ref (ad 0)] : List Value).toArray below meth c H locs 0 0 (MQ below (va_Qv (fun (_ : Unit) => (RR M')) (fun _ => (OY D ca ad M')) (aS 18 ad)) ([.ref (ad 0)] : List Value).toArray s 0 0 (aS 18 ad)) (F0 m 229 ls []) := by
          intro H locs ls hRN_36 hP hS hl
          have e2 := Option.some.inj hf
          exact jend_v hx hb hr hS (by rw [← e2]; exact hRN_36) (oY e2 hP) dX5_plans_229 hlocks
        have hL36 : ∀ (n : Nat) (x1_36 : Int) (M_36 : MM) (H : Heap) (locs : List Loc) (ls : Array Slot), inR x1_36 → RR M_36 → va_P D vwCl (wY ca ad M_36) H → va_S (aS 18 ad) s.heap H locs → lv_has ls 3 [(0, .ref (ad 0)), (1, .int (J x1_36))] → fX5_plans_L170 n x1_36 M_36 = some N_36 → W p l e (headSpec wsX5_plans (RmC 5 119)).room s m ([.ref (ad 0)] : List Value).toArray below meth c H locs 0 0 (MQ below (va_Qv (fun (_ : Unit) => (RR M')) (fun _ => (OY D ca ad M')) (aS 18 ad)) ([.ref (ad 0)] : List Value).toArray s 0 0 (aS 18 ad)) (F0 m 170 ls []) := by
          intro n
          induction n with
          | zero =>
            intro x1_36 M_36 H locs ls rx1_36 hRM_36 hP hS hl hf
            rw [fX5_plans_L170] at hf
            cases hf
          | succ n ih =>
            intro x1_36 M_36 H locs ls rx1_36 hRM_36 hP hS hl hf
            rw [fX5_plans_L170] at hf
            refine lv_iload_n hx hb dX5_plans_170 rfl (lv_at hl 1 rfl) ?_
            refine lv_aload_n hx hb dX5_plans_171 rfl (lv_at hl 0 rfl) ?_
            refine va_get (D := D) (ci := 5) (v := .ref (ad 1)) (C := RX5) (T := TX5) (N := 23) hx hb hts hinX5 hown hK hP 0 (wL_get (by decide) (gY_0 _)) rfl 1 (by decide) (hts (.fieldLink RX5 7 "VisitVansModel" "s" "[I") (List.mem_of_getElem? (i := 1) rfl)) (fun _ h => h) rfl dX5_plans_172 ?_
            refine lv_iconst (v := J 3) hx hb dX5_plans_175 rfl ?_
            obtain ⟨v37, qv37, hf⟩ := bnd_some hf
            obtain ⟨bv37, ev37⟩ := rd_some qv37
            have rv37 : inR v37 := by rw [ev37]; exact hRM_36 _ _
            refine jx_iald hx hb hK hP 1 0 (by decide) gY_1 rfl (by decide) bv37 ev37 dX5_plans_176 ?_
            refine jv_icmp_ge (tgt := 229) hx hb dX5_plans_177 (by decide) rx1_36 rv37 (fun c38 => ?_) (fun c38 => ?_)
            · have hf := itep hf c38
              cases hf
              exact K36 _ _ _ hRM_36 hP hS (lv_sub hl [] rfl)
            · have hf := iten hf c38
              refine lv_aload_n hx hb dX5_plans_180 rfl (lv_at hl 0 rfl) ?_
              refine va_get (D := D) (ci := 5) (v := .ref (ad 7)) (C := RX5) (T := TX5) (N := 23) hx hb hts hinX5 hown hK hP 0 (wL_get (by decide) (gY_0 _)) rfl 9 (by decide) (hts (.fieldLink RX5 29 "VisitVansModel" "promise" "[I") (List.mem_of_getElem? (i := 10) rfl)) (fun _ h => h) rfl dX5_plans_181 ?_
              refine lv_aload_n hx hb dX5_plans_184 rfl (lv_at hl 0 rfl) ?_
              refine va_get (D := D) (ci := 5) (v := .ref (ad 6)) (C := RX5) (T := TX5) (N := 23) hx hb hts hinX5 hown hK hP 0 (wL_get (by decide) (gY_0 _)) rfl 8 (by decide) (hts (.fieldLink RX5 26 "VisitVansModel" "order" "[I") (List.mem_of_getElem? (i := 7) rfl)) (fun _ h => h) rfl dX5_plans_185 ?_
              refine lv_iload_n hx hb dX5_plans_188 rfl (lv_at hl 1 rfl) ?_
              obtain ⟨v39, qv39, hf⟩ := bnd_some hf
              obtain ⟨bv39, ev39⟩ := rd_some qv39
              have rv39 : inR v39 := by rw [ev39]; exact hRM_36 _ _
              refine jx_iald hx hb hK hP 6 0 (by decide) gY_6 rfl (by decide) bv39 ev39 dX5_plans_189 ?_
              obtain ⟨v40, qv40, hf⟩ := bnd_some hf
              obtain ⟨bv40, ev40⟩ := rd_some qv40
              have rv40 : inR v40 := by rw [ev40]; exact hRM_36 _ _
              refine jx_iald hx hb hK hP 7 0 (by decide) gY_7 rfl (by decide) bv40 ev40 dX5_plans_190 ?_
              refine lv_iconst (v := J 4) hx hb dX5_plans_191 rfl ?_
              obtain ⟨M_42, h42, hf⟩ := bnd_some hf
              have K42 : ∀ (H : Heap) (locs : List Loc) (ls : Array Slot), RR M_42 → va_P D vwCl (wY ca ad M_42) H → va_S (aS 18 ad) s.heap H locs → lv_has ls 3 [(0, .ref (ad 0)), (1, .int (J x1_36))] → W p l e (headSpec wsX5_plans (RmC 5 119)).room s m ([.ref (ad 0)] : List Value).toArray below meth c H locs 0 0 (MQ below (va_Qv (fun (_ : Unit) => (RR M')) (fun _ => (OY D ca ad M')) (aS 18 ad)) ([.ref (ad 0)] : List Value).toArray s 0 0 (aS 18 ad)) (F0 m 223 ls []) := by
                intro H locs ls hRM_42  hP hS hl
                refine lv_iinc (v := J (x1_36 + 1)) (lv' := [(1, .int (J (x1_36 + 1))), (0, .ref (ad 0))]) hx hb dX5_plans_223 hl (k := 1) rfl (J_add _ _) (by decide) rfl (fun ls hl => ?_)
                refine lv_goto (tgt := 170) hx hb dX5_plans_226 (by decide) ?_
                obtain ⟨g49, hf⟩ := gd_some hf
                exact ih _ _ _ _ _ g49 hRM_42 hP hS (lv_sub hl [1, 0] rfl) hf
              have hf := h42
              clear h42
              refine jv_icmp_ne (tgt := 223) hx hb dX5_plans_192 (by decide) rv40 (by decide : inR 4) (fun c41 => ?_) (fun c41 => ?_)
              · have hf := iten hf c41
                cases hf
                exact K42 _ _ _ hRM_36 hP hS (lv_sub hl [0, 1] rfl)
              · have hf := itep hf c41
                refine lv_aload_n hx hb dX5_plans_195 rfl (lv_at hl 0 rfl) ?_
                refine va_get (D := D) (ci := 5) (v := .ref (ad 7)) (C := RX5) (T := TX5) (N := 23) hx hb hts hinX5 hown hK hP 0 (wL_get (by decide) (gY_0 _)) rfl 9 (by decide) (hts (.fieldLink RX5 29 "VisitVansModel" "promise" "[I") (List.mem_of_getElem? (i := 10) rfl)) (fun _ h => h) rfl dX5_plans_196 ?_
                refine lv_aload_n hx hb dX5_plans_199 rfl (lv_at hl 0 rfl) ?_
                refine va_get (D := D) (ci := 5) (v := .ref (ad 6)) (C := RX5) (T := TX5) (N := 23) hx hb hts hinX5 hown hK hP 0 (wL_get (by decide) (gY_0 _)) rfl 8 (by decide) (hts (.fieldLink RX5 26 "VisitVansModel" "order" "[I") (List.mem_of_getElem? (i := 7) rfl)) (fun _ h => h) rfl dX5_plans_200 ?_
                refine lv_iload_n hx hb dX5_plans_203 rfl (lv_at hl 1 rfl) ?_
                obtain ⟨v43, qv43, hf⟩ := bnd_some hf
                obtain ⟨bv43, ev43⟩ := rd_some qv43
                have rv43 : inR v43 := by rw [ev43]; exact hRM_36 _ _
                refine jx_iald hx hb hK hP 6 0 (by decide) gY_6 rfl (by decide) bv43 ev43 dX5_plans_204 ?_
                refine lv_aload_n hx hb dX5_plans_205 rfl (lv_at hl 0 rfl) ?_
                refine lv_aload_n hx hb dX5_plans_206 rfl (lv_at hl 0 rfl) ?_
                refine va_get (D := D) (ci := 5) (v := .ref (ad 6)) (C := RX5) (T := TX5) (N := 23) hx hb hts hinX5 hown hK hP 0 (wL_get (by decide) (gY_0 _)) rfl 8 (by decide) (hts (.fieldLink RX5 26 "VisitVansModel" "order" "[I") (List.mem_of_getElem? (i := 7) rfl)) (fun _ h => h) rfl dX5_plans_207 ?_
                refine lv_iload_n hx hb dX5_plans_210 rfl (lv_at hl 1 rfl) ?_
                obtain ⟨v44, qv44, hf⟩ := bnd_some hf
                obtain ⟨bv44, ev44⟩ := rd_some qv44
                have rv44 : inR v44 := by rw [ev44]; exact hRM_36 _ _
                refine jx_iald hx hb hK hP 6 0 (by decide) gY_6 rfl (by decide) bv44 ev44 dX5_plans_211 ?_
                refine lv_aload_n hx hb dX5_plans_212 rfl (lv_at hl 0 rfl) ?_
                refine va_get (D := D) (ci := 5) (v := .ref (ad 1)) (C := RX5) (T := TX5) (N := 23) hx hb hts hinX5 hown hK hP 0 (wL_get (by decide) (gY_0 _)) rfl 1 (by decide) (hts (.fieldLink RX5 7 "VisitVansModel" "s" "[I") (List.mem_of_getElem? (i := 1) rfl)) (fun _ h => h) rfl dX5_plans_213 ?_
                refine lv_iconst (v := J 2) hx hb dX5_plans_216 rfl ?_
                obtain ⟨v45, qv45, hf⟩ := bnd_some hf
                obtain ⟨bv45, ev45⟩ := rd_some qv45
                have rv45 : inR v45 := by rw [ev45]; exact hRM_36 _ _
                refine jx_iald hx hb hK hP 1 0 (by decide) gY_1 rfl (by decide) bv45 ev45 dX5_plans_217 ?_
                refine lv_iconst (v := J 1) hx hb dX5_plans_218 rfl ?_
                obtain ⟨v46, M47, qv46, hf⟩ := bnd2_some hf
                refine jc_i (va_runV (As := [.int (J v44), .int (J v45), .int (J 1)]) (rest := [.int (J v43), .ref (ad 7)]) ⟨hx, hb, hml, hown, hts⟩ (kX5_looks l D ca ad hI M_36 hRM_36 v44 v45 1 rv44 rv45 (by decide : inR 1) v46 M47 qv46) (cwV 3 hts gX5_plans_X5_looks rfl rfl rfl (by decide +kernel) ⟨Nat.le_of_ble_eq_true rfl, Nat.le_of_ble_eq_true rfl⟩) (pvY hK hP [.int (J v44), .int (J v45), .int (J 1)]) rfl rfl hl.1 rfl (lv_room (Nat.le_of_ble_eq_true rfl)) dX5_plans_219 ⟨Nat.zero_le _, Nat.zero_le _⟩) hS (fun H locs t ht hφ hO hS => ?_)
                obtain ⟨rv46, hRM47⟩ := hφ
                have hP : va_P D vwCl (wY ca ad M47) H := by rw [← ht]; exact hO
                obtain ⟨M48, qM48, hf⟩ := bnd_some hf
                obtain ⟨bM48, zM48, eM48⟩ := wr_some qM48
                have hRM48 : RR M48 := by rw [eM48]; exact RR_st hRM47 _ _ zM48
                refine jx_iast hx hb hK hP hI hS 7 0 (by decide) gY_7 rfl (by decide) bM48 zM48 dX5_plans_222 (fun H locs hP hS => ?_)
                rw [← eM48] at hP
                cases hf
                exact K42 _ _ _ hRM48 hP hS (lv_sub hl [0, 1] rfl)
        exact hL36 4000 _ _ _ _ _ (by decide : inR 0) hRN_27 hP hS (lv_sub hl [1, 0] rfl) h36
      have hL27 : ∀ (n : Nat) (x1_27 : Int) (M_27 : MM) (H : Heap) (locs : List Loc) (ls : Array Slot), inR x1_27 → RR M_27 → va_P D vwCl (wY ca ad M_27) H → va_S (aS 18 ad) s.heap H locs → lv_has ls 3 [(0, .ref (ad 0)), (1, .int (J x1_27))] → fX5_plans_L129 n x1_27 M_27 = some N_27 → W p l e (headSpec wsX5_plans (RmC 5 119)).room s m ([.ref (ad 0)] : List Value).toArray below meth c H locs 0 0 (MQ below (va_Qv (fun (_ : Unit) => (RR M')) (fun _ => (OY D ca ad M')) (aS 18 ad)) ([.ref (ad 0)] : List Value).toArray s 0 0 (aS 18 ad)) (F0 m 129 ls []) := by
        intro n
        induction n with
        | zero =>
          intro x1_27 M_27 H locs ls rx1_27 hRM_27 hP hS hl hf
          rw [fX5_plans_L129] at hf
          cases hf
        | succ n ih =>
          intro x1_27 M_27 H locs ls rx1_27 hRM_27 hP hS hl hf
          rw [fX5_plans_L129] at hf
          refine lv_iload_n hx hb dX5_plans_129 rfl (lv_at hl 1 rfl) ?_
          refine lv_aload_n hx hb dX5_plans_130 rfl (lv_at hl 0 rfl) ?_
          refine va_get (D := D) (ci := 5) (v := .ref (ad 1)) (C := RX5) (T := TX5) (N := 23) hx hb hts hinX5 hown hK hP 0 (wL_get (by decide) (gY_0 _)) rfl 1 (by decide) (hts (.fieldLink RX5 7 "VisitVansModel" "s" "[I") (List.mem_of_getElem? (i := 1) rfl)) (fun _ h => h) rfl dX5_plans_131 ?_
          refine lv_iconst (v := J 3) hx hb dX5_plans_134 rfl ?_
          obtain ⟨v28, qv28, hf⟩ := bnd_some hf
          obtain ⟨bv28, ev28⟩ := rd_some qv28
          have rv28 : inR v28 := by rw [ev28]; exact hRM_27 _ _
          refine jx_iald hx hb hK hP 1 0 (by decide) gY_1 rfl (by decide) bv28 ev28 dX5_plans_135 ?_
          refine jv_icmp_ge (tgt := 168) hx hb dX5_plans_136 (by decide) rx1_27 rv28 (fun c29 => ?_) (fun c29 => ?_)
          · have hf := itep hf c29
            cases hf
            exact K27 _ _ _ hRM_27 hP hS (lv_sub hl [0] rfl)
          · have hf := iten hf c29
            refine lv_aload_n hx hb dX5_plans_139 rfl (lv_at hl 0 rfl) ?_
            refine va_get (D := D) (ci := 5) (v := .ref (ad 7)) (C := RX5) (T := TX5) (N := 23) hx hb hts hinX5 hown hK hP 0 (wL_get (by decide) (gY_0 _)) rfl 9 (by decide) (hts (.fieldLink RX5 29 "VisitVansModel" "promise" "[I") (List.mem_of_getElem? (i := 10) rfl)) (fun _ h => h) rfl dX5_plans_140 ?_
            refine lv_aload_n hx hb dX5_plans_143 rfl (lv_at hl 0 rfl) ?_
            refine va_get (D := D) (ci := 5) (v := .ref (ad 6)) (C := RX5) (T := TX5) (N := 23) hx hb hts hinX5 hown hK hP 0 (wL_get (by decide) (gY_0 _)) rfl 8 (by decide) (hts (.fieldLink RX5 26 "VisitVansModel" "order" "[I") (List.mem_of_getElem? (i := 7) rfl)) (fun _ h => h) rfl dX5_plans_144 ?_
            refine lv_iload_n hx hb dX5_plans_147 rfl (lv_at hl 1 rfl) ?_
            obtain ⟨v30, qv30, hf⟩ := bnd_some hf
            obtain ⟨bv30, ev30⟩ := rd_some qv30
            have rv30 : inR v30 := by rw [ev30]; exact hRM_27 _ _
            refine jx_iald hx hb hK hP 6 0 (by decide) gY_6 rfl (by decide) bv30 ev30 dX5_plans_148 ?_
            refine lv_aload_n hx hb dX5_plans_149 rfl (lv_at hl 0 rfl) ?_
            refine lv_aload_n hx hb dX5_plans_150 rfl (lv_at hl 0 rfl) ?_
            refine va_get (D := D) (ci := 5) (v := .ref (ad 6)) (C := RX5) (T := TX5) (N := 23) hx hb hts hinX5 hown hK hP 0 (wL_get (by decide) (gY_0 _)) rfl 8 (by decide) (hts (.fieldLink RX5 26 "VisitVansModel" "order" "[I") (List.mem_of_getElem? (i := 7) rfl)) (fun _ h => h) rfl dX5_plans_151 ?_
            refine lv_iload_n hx hb dX5_plans_154 rfl (lv_at hl 1 rfl) ?_
            obtain ⟨v31, qv31, hf⟩ := bnd_some hf
            obtain ⟨bv31, ev31⟩ := rd_some qv31
            have rv31 : inR v31 := by rw [ev31]; exact hRM_27 _ _
            refine jx_iald hx hb hK hP 6 0 (by decide) gY_6 rfl (by decide) bv31 ev31 dX5_plans_155 ?_
            refine lv_iconst (v := J 0) hx hb dX5_plans_156 rfl ?_
            refine lv_iconst (v := J 0) hx hb dX5_plans_157 rfl ?_
            obtain ⟨v32, M33, qv32, hf⟩ := bnd2_some hf
            refine jc_i (va_runV (As := [.int (J v31), .int (J 0), .int (J 0)]) (rest := [.int (J v30), .ref (ad 7)]) ⟨hx, hb, hml, hown, hts⟩ (kX5_looks l D ca ad hI M_27 hRM_27 v31 0 0 rv31 (by decide : inR 0) (by decide : inR 0) v32 M33 qv32) (cwV 3 hts gX5_plans_X5_looks rfl rfl rfl (by decide +kernel) ⟨Nat.le_of_ble_eq_true rfl, Nat.le_of_ble_eq_true rfl⟩) (pvY hK hP [.int (J v31), .int (J 0), .int (J 0)]) rfl rfl hl.1 rfl (lv_room (Nat.le_of_ble_eq_true rfl)) dX5_plans_158 ⟨Nat.zero_le _, Nat.zero_le _⟩) hS (fun H locs t ht hφ hO hS => ?_)
            obtain ⟨rv32, hRM33⟩ := hφ
            have hP : va_P D vwCl (wY ca ad M33) H := by rw [← ht]; exact hO
            obtain ⟨M34, qM34, hf⟩ := bnd_some hf
            obtain ⟨bM34, zM34, eM34⟩ := wr_some qM34
            have hRM34 : RR M34 := by rw [eM34]; exact RR_st hRM33 _ _ zM34
            refine jx_iast hx hb hK hP hI hS 7 0 (by decide) gY_7 rfl (by decide) bM34 zM34 dX5_plans_161 (fun H locs hP hS => ?_)
            rw [← eM34] at hP
            refine lv_iinc (v := J (x1_27 + 1)) (lv' := [(1, .int (J (x1_27 + 1))), (0, .ref (ad 0))]) hx hb dX5_plans_162 hl (k := 1) rfl (J_add _ _) (by decide) rfl (fun ls hl => ?_)
            refine lv_goto (tgt := 129) hx hb dX5_plans_165 (by decide) ?_
            obtain ⟨g35, hf⟩ := gd_some hf
            exact ih _ _ _ _ _ g35 hRM34 hP hS (lv_sub hl [1, 0] rfl) hf
      exact hL27 4000 _ _ _ _ _ (by decide : inR 0) hRN_18 hP hS (lv_sub hl [1, 0] rfl) h27
    have hL18 : ∀ (n : Nat) (x1_18 : Int) (M_18 : MM) (H : Heap) (locs : List Loc) (ls : Array Slot), inR x1_18 → RR M_18 → va_P D vwCl (wY ca ad M_18) H → va_S (aS 18 ad) s.heap H locs → lv_has ls 3 [(0, .ref (ad 0)), (1, .int (J x1_18))] → fX5_plans_L84 n x1_18 M_18 = some N_18 → W p l e (headSpec wsX5_plans (RmC 5 119)).room s m ([.ref (ad 0)] : List Value).toArray below meth c H locs 0 0 (MQ below (va_Qv (fun (_ : Unit) => (RR M')) (fun _ => (OY D ca ad M')) (aS 18 ad)) ([.ref (ad 0)] : List Value).toArray s 0 0 (aS 18 ad)) (F0 m 84 ls []) := by
      intro n
      induction n with
      | zero =>
        intro x1_18 M_18 H locs ls rx1_18 hRM_18 hP hS hl hf
        rw [fX5_plans_L84] at hf
        cases hf
      | succ n ih =>
        intro x1_18 M_18 H locs ls rx1_18 hRM_18 hP hS hl hf
        rw [fX5_plans_L84] at hf
        refine lv_iload_n hx hb dX5_plans_84 rfl (lv_at hl 1 rfl) ?_
        refine lv_aload_n hx hb dX5_plans_85 rfl (lv_at hl 0 rfl) ?_
        refine va_get (D := D) (ci := 5) (v := .ref (ad 1)) (C := RX5) (T := TX5) (N := 23) hx hb hts hinX5 hown hK hP 0 (wL_get (by decide) (gY_0 _)) rfl 1 (by decide) (hts (.fieldLink RX5 7 "VisitVansModel" "s" "[I") (List.mem_of_getElem? (i := 1) rfl)) (fun _ h => h) rfl dX5_plans_86 ?_
        refine lv_iconst (v := J 3) hx hb dX5_plans_89 rfl ?_
        obtain ⟨v19, qv19, hf⟩ := bnd_some hf
        obtain ⟨bv19, ev19⟩ := rd_some qv19
        have rv19 : inR v19 := by rw [ev19]; exact hRM_18 _ _
        refine jx_iald hx hb hK hP 1 0 (by decide) gY_1 rfl (by decide) bv19 ev19 dX5_plans_90 ?_
        refine jv_icmp_ge (tgt := 127) hx hb dX5_plans_91 (by decide) rx1_18 rv19 (fun c20 => ?_) (fun c20 => ?_)
        · have hf := itep hf c20
          cases hf
          exact K18 _ _ _ hRM_18 hP hS (lv_sub hl [0] rfl)
        · have hf := iten hf c20
          refine lv_aload_n hx hb dX5_plans_94 rfl (lv_at hl 0 rfl) ?_
          refine va_get (D := D) (ci := 5) (v := .ref (ad 6)) (C := RX5) (T := TX5) (N := 23) hx hb hts hinX5 hown hK hP 0 (wL_get (by decide) (gY_0 _)) rfl 8 (by decide) (hts (.fieldLink RX5 26 "VisitVansModel" "order" "[I") (List.mem_of_getElem? (i := 7) rfl)) (fun _ h => h) rfl dX5_plans_95 ?_
          refine lv_aload_n hx hb dX5_plans_98 rfl (lv_at hl 0 rfl) ?_
          refine lv_iload_n hx hb dX5_plans_99 rfl (lv_at hl 1 rfl) ?_
          obtain ⟨v21, qv21, hf⟩ := bnd_some hf
          refine jc_i (va_runV (As := [.int (J x1_18)]) (rest := [.ref (ad 6)]) ⟨hx, hb, hml, hown, hts⟩ (kX5_rankOf l D ca ad hI M_18 hRM_18 x1_18 rx1_18 v21 qv21) (cwV 1 hts gX5_plans_X5_rankOf rfl rfl rfl (by decide +kernel) ⟨Nat.le_of_ble_eq_true rfl, Nat.le_of_ble_eq_true rfl⟩) (pvY hK hP [.int (J x1_18)]) rfl rfl hl.1 rfl (lv_room (Nat.le_of_ble_eq_true rfl)) dX5_plans_100 ⟨Nat.zero_le _, Nat.zero_le _⟩) hS (fun H locs t ht hφ hO hS => ?_)
          have rv21 := hφ
          have hP : va_P D vwCl (wY ca ad M_18) H := by rw [← ht]; exact hO
          refine lv_iload_n hx hb dX5_plans_103 rfl (lv_at hl 1 rfl) ?_
          obtain ⟨M23, qM23, hf⟩ := bnd_some hf
          obtain ⟨bM23, zM23, eM23⟩ := wr_some qM23
          have hRM23 : RR M23 := by rw [eM23]; exact RR_st hRM_18 _ _ zM23
          refine jx_iast hx hb hK hP hI hS 6 0 (by decide) gY_6 rfl (by decide) bM23 zM23 dX5_plans_104 (fun H locs hP hS => ?_)
          rw [← eM23] at hP
          refine lv_aload_n hx hb dX5_plans_105 rfl (lv_at hl 0 rfl) ?_
          refine va_get (D := D) (ci := 5) (v := .ref (ad 8)) (C := RX5) (T := TX5) (N := 23) hx hb hts hinX5 hown hK hP 0 (wL_get (by decide) (gY_0 _)) rfl 10 (by decide) (hts (.fieldLink RX5 32 "VisitVansModel" "vanOf" "[I") (List.mem_of_getElem? (i := 8) rfl)) (fun _ h => h) rfl dX5_plans_106 ?_
          refine lv_iload_n hx hb dX5_plans_109 rfl (lv_at hl 1 rfl) ?_
          refine lv_bipush (v := J (-6)) hx hb dX5_plans_110 (by decide +kernel) ?_
          obtain ⟨M24, qM24, hf⟩ := bnd_some hf
          obtain ⟨bM24, zM24, eM24⟩ := wr_some qM24
          have hRM24 : RR M24 := by rw [eM24]; exact RR_st hRM23 _ _ zM24
          refine jx_iast hx hb hK hP hI hS 8 0 (by decide) gY_8 rfl (by decide) bM24 zM24 dX5_plans_112 (fun H locs hP hS => ?_)
          rw [← eM24] at hP
          refine lv_aload_n hx hb dX5_plans_113 rfl (lv_at hl 0 rfl) ?_
          refine va_get (D := D) (ci := 5) (v := .ref (ad 9)) (C := RX5) (T := TX5) (N := 23) hx hb hts hinX5 hown hK hP 0 (wL_get (by decide) (gY_0 _)) rfl 11 (by decide) (hts (.fieldLink RX5 35 "VisitVansModel" "begins" "[I") (List.mem_of_getElem? (i := 9) rfl)) (fun _ h => h) rfl dX5_plans_114 ?_
          refine lv_iload_n hx hb dX5_plans_117 rfl (lv_at hl 1 rfl) ?_
          refine lv_bipush (v := J (-6)) hx hb dX5_plans_118 (by decide +kernel) ?_
          obtain ⟨M25, qM25, hf⟩ := bnd_some hf
          obtain ⟨bM25, zM25, eM25⟩ := wr_some qM25
          have hRM25 : RR M25 := by rw [eM25]; exact RR_st hRM24 _ _ zM25
          refine jx_iast hx hb hK hP hI hS 9 0 (by decide) gY_9 rfl (by decide) bM25 zM25 dX5_plans_120 (fun H locs hP hS => ?_)
          rw [← eM25] at hP
          refine lv_iinc (v := J (x1_18 + 1)) (lv' := [(1, .int (J (x1_18 + 1))), (0, .ref (ad 0))]) hx hb dX5_plans_121 hl (k := 1) rfl (J_add _ _) (by decide) rfl (fun ls hl => ?_)
          refine lv_goto (tgt := 84) hx hb dX5_plans_124 (by decide) ?_
          obtain ⟨g26, hf⟩ := gd_some hf
          exact ih _ _ _ _ _ g26 hRM25 hP hS (lv_sub hl [1, 0] rfl) hf
    exact hL18 4000 _ _ _ _ _ (by decide : inR 0) hRN_1 hP hS (lv_sub hl [1, 0] rfl) h18
  have hL1 : ∀ (n : Nat) (x1_1 : Int) (M_1 : MM) (H : Heap) (locs : List Loc) (ls : Array Slot), inR x1_1 → RR M_1 → va_P D vwCl (wY ca ad M_1) H → va_S (aS 18 ad) s.heap H locs → lv_has ls 3 [(0, .ref (ad 0)), (1, .int (J x1_1))] → fX5_plans_L2 n x1_1 M_1 = some N_1 → W p l e (headSpec wsX5_plans (RmC 5 119)).room s m ([.ref (ad 0)] : List Value).toArray below meth c H locs 0 0 (MQ below (va_Qv (fun (_ : Unit) => (RR M')) (fun _ => (OY D ca ad M')) (aS 18 ad)) ([.ref (ad 0)] : List Value).toArray s 0 0 (aS 18 ad)) (F0 m 2 ls []) := by
    intro n
    induction n with
    | zero =>
      intro x1_1 M_1 H locs ls rx1_1 hRM_1 hP hS hl hf
      rw [fX5_plans_L2] at hf
      cases hf
    | succ n ih =>
      intro x1_1 M_1 H locs ls rx1_1 hRM_1 hP hS hl hf
      rw [fX5_plans_L2] at hf
      refine lv_iload_n hx hb dX5_plans_2 rfl (lv_at hl 1 rfl) ?_
      refine lv_aload_n hx hb dX5_plans_3 rfl (lv_at hl 0 rfl) ?_
      refine va_get (D := D) (ci := 5) (v := .ref (ad 1)) (C := RX5) (T := TX5) (N := 23) hx hb hts hinX5 hown hK hP 0 (wL_get (by decide) (gY_0 _)) rfl 1 (by decide) (hts (.fieldLink RX5 7 "VisitVansModel" "s" "[I") (List.mem_of_getElem? (i := 1) rfl)) (fun _ h => h) rfl dX5_plans_4 ?_
      refine lv_iconst (v := J 4) hx hb dX5_plans_7 rfl ?_
      obtain ⟨v2, qv2, hf⟩ := bnd_some hf
      obtain ⟨bv2, ev2⟩ := rd_some qv2
      have rv2 : inR v2 := by rw [ev2]; exact hRM_1 _ _
      refine jx_iald hx hb hK hP 1 0 (by decide) gY_1 rfl (by decide) bv2 ev2 dX5_plans_8 ?_
      refine jv_icmp_ge (tgt := 82) hx hb dX5_plans_9 (by decide) rx1_1 rv2 (fun c3 => ?_) (fun c3 => ?_)
      · have hf := itep hf c3
        cases hf
        exact K1 _ _ _ hRM_1 hP hS (lv_sub hl [0] rfl)
      · have hf := iten hf c3
        refine lv_aload_n hx hb dX5_plans_12 rfl (lv_at hl 0 rfl) ?_
        refine va_get (D := D) (ci := 5) (v := .ref (ad 12)) (C := RX5) (T := TX5) (N := 23) hx hb hts hinX5 hown hK hP 0 (wL_get (by decide) (gY_0 _)) rfl 14 (by decide) (hts (.fieldLink RX5 44 "VisitVansModel" "placeOf" "[I") (List.mem_of_getElem? (i := 2) rfl)) (fun _ h => h) rfl dX5_plans_13 ?_
        refine lv_iload_n hx hb dX5_plans_16 rfl (lv_at hl 1 rfl) ?_
        refine lv_aload_n hx hb dX5_plans_17 rfl (lv_at hl 0 rfl) ?_
        refine lv_iload_n hx hb dX5_plans_18 rfl (lv_at hl 1 rfl) ?_
        refine lv_iconst (v := J 0) hx hb dX5_plans_19 rfl ?_
        obtain ⟨v4, qv4, hf⟩ := bnd_some hf
        refine jc_i (va_runV (As := [.int (J x1_1), .int (J 0)]) (rest := [.int (J x1_1), .ref (ad 12)]) ⟨hx, hb, hml, hown, hts⟩ (kX5_van0 l D ca ad hI M_1 hRM_1 x1_1 0 rx1_1 (by decide : inR 0) v4 qv4) (cwV 2 hts gX5_plans_X5_van0 rfl rfl rfl (by decide +kernel) ⟨Nat.le_of_ble_eq_true rfl, Nat.le_of_ble_eq_true rfl⟩) (pvY hK hP [.int (J x1_1), .int (J 0)]) rfl rfl hl.1 rfl (lv_room (Nat.le_of_ble_eq_true rfl)) dX5_plans_20 ⟨Nat.zero_le _, Nat.zero_le _⟩) hS (fun H locs t ht hφ hO hS => ?_)
        have rv4 := hφ
        have hP : va_P D vwCl (wY ca ad M_1) H := by rw [← ht]; exact hO
        obtain ⟨M6, qM6, hf⟩ := bnd_some hf
        obtain ⟨bM6, zM6, eM6⟩ := wr_some qM6
        have hRM6 : RR M6 := by rw [eM6]; exact RR_st hRM_1 _ _ zM6
        refine jx_iast hx hb hK hP hI hS 12 0 (by decide) gY_12 rfl (by decide) bM6 zM6 dX5_plans_23 (fun H locs hP hS => ?_)
        rw [← eM6] at hP
        refine lv_aload_n hx hb dX5_plans_24 rfl (lv_at hl 0 rfl) ?_
        refine va_get (D := D) (ci := 5) (v := .ref (ad 13)) (C := RX5) (T := TX5) (N := 23) hx hb hts hinX5 hown hK hP 0 (wL_get (by decide) (gY_0 _)) rfl 15 (by decide) (hts (.fieldLink RX5 47 "VisitVansModel" "freeAt" "[I") (List.mem_of_getElem? (i := 3) rfl)) (fun _ h => h) rfl dX5_plans_25 ?_
        refine lv_iload_n hx hb dX5_plans_28 rfl (lv_at hl 1 rfl) ?_
        refine lv_iconst (v := J 0) hx hb dX5_plans_29 rfl ?_
        obtain ⟨M7, qM7, hf⟩ := bnd_some hf
        obtain ⟨bM7, zM7, eM7⟩ := wr_some qM7
        have hRM7 : RR M7 := by rw [eM7]; exact RR_st hRM6 _ _ zM7
        refine jx_iast hx hb hK hP hI hS 13 0 (by decide) gY_13 rfl (by decide) bM7 zM7 dX5_plans_30 (fun H locs hP hS => ?_)
        rw [← eM7] at hP
        refine lv_aload_n hx hb dX5_plans_31 rfl (lv_at hl 0 rfl) ?_
        refine va_get (D := D) (ci := 5) (v := .ref (ad 15)) (C := RX5) (T := TX5) (N := 23) hx hb hts hinX5 hown hK hP 0 (wL_get (by decide) (gY_0 _)) rfl 17 (by decide) (hts (.fieldLink RX5 53 "VisitVansModel" "ways" "[I") (List.mem_of_getElem? (i := 4) rfl)) (fun _ h => h) rfl dX5_plans_32 ?_
        refine lv_iload_n hx hb dX5_plans_35 rfl (lv_at hl 1 rfl) ?_
        refine lv_iconst (v := J 0) hx hb dX5_plans_36 rfl ?_
        obtain ⟨M8, qM8, hf⟩ := bnd_some hf
        obtain ⟨bM8, zM8, eM8⟩ := wr_some qM8
        have hRM8 : RR M8 := by rw [eM8]; exact RR_st hRM7 _ _ zM8
        refine jx_iast hx hb hK hP hI hS 15 0 (by decide) gY_15 rfl (by decide) bM8 zM8 dX5_plans_37 (fun H locs hP hS => ?_)
        rw [← eM8] at hP
        refine lv_aload_n hx hb dX5_plans_38 rfl (lv_at hl 0 rfl) ?_
        refine va_get (D := D) (ci := 5) (v := .ref (ad 16)) (C := RX5) (T := TX5) (N := 23) hx hb hts hinX5 hown hK hP 0 (wL_get (by decide) (gY_0 _)) rfl 18 (by decide) (hts (.fieldLink RX5 56 "VisitVansModel" "waits" "[I") (List.mem_of_getElem? (i := 5) rfl)) (fun _ h => h) rfl dX5_plans_39 ?_
        refine lv_iload_n hx hb dX5_plans_42 rfl (lv_at hl 1 rfl) ?_
        refine lv_iconst (v := J 0) hx hb dX5_plans_43 rfl ?_
        obtain ⟨M9, qM9, hf⟩ := bnd_some hf
        obtain ⟨bM9, zM9, eM9⟩ := wr_some qM9
        have hRM9 : RR M9 := by rw [eM9]; exact RR_st hRM8 _ _ zM9
        refine jx_iast hx hb hK hP hI hS 16 0 (by decide) gY_16 rfl (by decide) bM9 zM9 dX5_plans_44 (fun H locs hP hS => ?_)
        rw [← eM9] at hP
        refine lv_iconst (v := J 0) hx hb dX5_plans_45 rfl ?_
        refine lv_istore_n (lv' := [(2, .int (J 0)), (0, .ref (ad 0)), (1, .int (J x1_1))]) hx hb dX5_plans_46 rfl hl (by decide) rfl (fun ls hl => ?_)
        obtain ⟨N_10, h10, hf⟩ := bnd_some hf
        have K10 : ∀ (H : Heap) (locs : List Loc) (ls : Array Slot), RR N_10 → va_P D vwCl (wY ca ad N_10) H → va_S (aS 18 ad) s.heap H locs → lv_has ls 3 [(0, .ref (ad 0)), (1, .int (J x1_1))] → W p l e (headSpec wsX5_plans (RmC 5 119)).room s m ([.ref (ad 0)] : List Value).toArray below meth c H locs 0 0 (MQ below (va_Qv (fun (_ : Unit) => (RR M')) (fun _ => (OY D ca ad M')) (aS 18 ad)) ([.ref (ad 0)] : List Value).toArray s 0 0 (aS 18 ad)) (F0 m 76 ls []) := by
          intro H locs ls hRN_10 hP hS hl
          refine lv_iinc (v := J (x1_1 + 1)) (lv' := [(1, .int (J (x1_1 + 1))), (0, .ref (ad 0))]) hx hb dX5_plans_76 hl (k := 1) rfl (J_add _ _) (by decide) rfl (fun ls hl => ?_)
          refine lv_goto (tgt := 2) hx hb dX5_plans_79 (by decide) ?_
          obtain ⟨g17, hf⟩ := gd_some hf
          exact ih _ _ _ _ _ g17 hRN_10 hP hS (lv_sub hl [1, 0] rfl) hf
        have hL10 : ∀ (n : Nat) (x1_10 : Int) (x2_10 : Int) (M_10 : MM) (H : Heap) (locs : List Loc) (ls : Array Slot), inR x1_10 → inR x2_10 → RR M_10 → x1_10 = x1_1 → va_P D vwCl (wY ca ad M_10) H → va_S (aS 18 ad) s.heap H locs → lv_has ls 3 [(0, .ref (ad 0)), (1, .int (J x1_10)), (2, .int (J x2_10))] → fX5_plans_L47 n x1_10 x2_10 M_10 = some N_10 → W p l e (headSpec wsX5_plans (RmC 5 119)).room s m ([.ref (ad 0)] : List Value).toArray below meth c H locs 0 0 (MQ below (va_Qv (fun (_ : Unit) => (RR M')) (fun _ => (OY D ca ad M')) (aS 18 ad)) ([.ref (ad 0)] : List Value).toArray s 0 0 (aS 18 ad)) (F0 m 47 ls []) := by
          intro n
          induction n with
          | zero =>
            intro x1_10 x2_10 M_10 H locs ls rx1_10 rx2_10 hRM_10 e_x1_10 hP hS hl hf
            rw [fX5_plans_L47] at hf
            cases hf
          | succ n ih =>
            intro x1_10 x2_10 M_10 H locs ls rx1_10 rx2_10 hRM_10 e_x1_10 hP hS hl hf
            rw [fX5_plans_L47] at hf
            refine lv_iload_n hx hb dX5_plans_47 rfl (lv_at hl 2 rfl) ?_
            refine lv_iconst (v := J 5) hx hb dX5_plans_48 rfl ?_
            refine jv_icmp_ge (tgt := 76) hx hb dX5_plans_49 (by decide) rx2_10 (by decide : inR 5) (fun c11 => ?_) (fun c11 => ?_)
            · have hf := itep hf c11
              cases hf
              exact K10 _ _ _ hRM_10 hP hS (lv_sub hl [0, 1] (by subst e_x1_10; rfl))
            · have hf := iten hf c11
              refine lv_aload_n hx hb dX5_plans_52 rfl (lv_at hl 0 rfl) ?_
              refine va_get (D := D) (ci := 5) (v := .ref (ad 14)) (C := RX5) (T := TX5) (N := 23) hx hb hts hinX5 hown hK hP 0 (wL_get (by decide) (gY_0 _)) rfl 16 (by decide) (hts (.fieldLink RX5 50 "VisitVansModel" "left" "[I") (List.mem_of_getElem? (i := 6) rfl)) (fun _ h => h) rfl dX5_plans_53 ?_
              refine lv_iconst (v := J 5) hx hb dX5_plans_56 rfl ?_
              refine lv_iload_n hx hb dX5_plans_57 rfl (lv_at hl 1 rfl) ?_
              refine jv_imul hx hb dX5_plans_58 ?_
              refine lv_iload_n hx hb dX5_plans_59 rfl (lv_at hl 2 rfl) ?_
              refine jv_iadd hx hb dX5_plans_60 ?_
              refine lv_aload_n hx hb dX5_plans_61 rfl (lv_at hl 0 rfl) ?_
              refine lv_iload_n hx hb dX5_plans_62 rfl (lv_at hl 1 rfl) ?_
              refine lv_iconst (v := J 2) hx hb dX5_plans_63 rfl ?_
              refine lv_iload_n hx hb dX5_plans_64 rfl (lv_at hl 2 rfl) ?_
              refine jv_iadd hx hb dX5_plans_65 ?_
              obtain ⟨g12, hf⟩ := gd_some hf
              obtain ⟨v13, qv13, hf⟩ := bnd_some hf
              refine jc_i (va_runV (As := [.int (J x1_10), .int (J (2 + x2_10))]) (rest := [.int (J ((5 * x1_10) + x2_10)), .ref (ad 14)]) ⟨hx, hb, hml, hown, hts⟩ (kX5_van0 l D ca ad hI M_10 hRM_10 x1_10 (2 + x2_10) rx1_10 g12 v13 qv13) (cwV 2 hts gX5_plans_X5_van0 rfl rfl rfl (by decide +kernel) ⟨Nat.le_of_ble_eq_true rfl, Nat.le_of_ble_eq_true rfl⟩) (pvY hK hP [.int (J x1_10), .int (J (2 + x2_10))]) rfl rfl hl.1 rfl (lv_room (Nat.le_of_ble_eq_true rfl)) dX5_plans_66 ⟨Nat.zero_le _, Nat.zero_le _⟩) hS (fun H locs t ht hφ hO hS => ?_)
              have rv13 := hφ
              have hP : va_P D vwCl (wY ca ad M_10) H := by rw [← ht]; exact hO
              obtain ⟨M15, qM15, hf⟩ := bnd_some hf
              obtain ⟨bM15, zM15, eM15⟩ := wr_some qM15
              have hRM15 : RR M15 := by rw [eM15]; exact RR_st hRM_10 _ _ zM15
              refine jx_iast hx hb hK hP hI hS 14 0 (by decide) gY_14 rfl (by decide) bM15 zM15 dX5_plans_69 (fun H locs hP hS => ?_)
              rw [← eM15] at hP
              refine lv_iinc (v := J (x2_10 + 1)) (lv' := [(2, .int (J (x2_10 + 1))), (0, .ref (ad 0)), (1, .int (J x1_10))]) hx hb dX5_plans_70 hl (k := 2) rfl (J_add _ _) (by decide) rfl (fun ls hl => ?_)
              refine lv_goto (tgt := 47) hx hb dX5_plans_73 (by decide) ?_
              obtain ⟨g16, hf⟩ := gd_some hf
              exact ih _ _ _ _ _ _ rx1_10 g16 hRM15 e_x1_10 hP hS (lv_sub hl [1, 2, 0] rfl) hf
        exact hL10 4000 _ _ _ _ _ _ rx1_1 (by decide : inR 0) hRM9 rfl hP hS (lv_sub hl [1, 2, 0] rfl) h10
  exact hL1 4000 _ _ _ _ _ (by decide : inR 0) hR hP hS (lv_sub hl [1, 0] rfl) h1
def fX5_withPromise_L5 : Nat → Int → Int → Int → Int → MM → Option (Int)
  | 0, _, _, _, _, _ => none
  | n + 1, x1_1, x2_1, x3_1, x4_1, M_1 => bnd (rd M_1 1 160 3) (fun v2 => if v2 ≤ x4_1 then some x3_1 else bnd (rd M_1 7 21 x4_1) (fun v4 => bnd (fX5_in v4 x1_1 x2_1) (fun v5 => bnd (if v5 = 0 then some ((0 : Int)) else some ((1 : Int))) (fun y8_0 => gd (inR (x3_1 + y8_0)) (gd (inR (x4_1 + 1)) (fX5_withPromise_L5 n x1_1 x2_1 (x3_1 + y8_0) (x4_1 + 1) M_1))))))
def fX5_withPromise (a1 : Int) (a2 : Int) (M : MM) : Option (Int) := bnd (fX5_withPromise_L5 4000 a1 a2 0 0 M) (fun y1_0 => some y1_0)
set_option maxHeartbeats 4000000 in
set_option maxRecDepth 100000 in
theorem kX5_withPromise (l : Launch) (D : va_G) (ca : Nat → ClassId) (ad : Nat → Nat) (hI : aInj 18 ad) (M : MM) (hR : RR M) (a1 : Int) (a2 : Int) (i1 : inR a1) (i2 : inR a2) (res : Int) (hf : fX5_withPromise a1 a2 M = some res) : CI l yX5_withPromise wsX5_withPromise 1 22 [.ref (ad 0), .int (J a1), .int (J a2)] (PY D ca ad M) res (inR res) (OY D ca ad M) (aS 18 ad) := by
  refine Met.ofW (cc := cX5_withPromise) (maxL := 5) (ret := (some .int)) (by decide) rfl ?_
  intro p e s m args below meth c s₁ B hml hv
  obtain ⟨rfl, hP, hK⟩ := hv
  have hx := B.exec
  have hb := B.bytes
  have hr := B.returns
  have hts := atoms_spec (ws := wsX5_withPromise) B.pre
  have hown : s.vm.findClass RX5 = some m.cls := findClass_of_methodNamed B.named
  have hlocks := B.notSynchronized
  have hS : va_S (aS 18 ad) s.heap s.heap [] := va_S.rf
  have hinX5 : ∀ w ∈ wsX50, w ∈ wsX5_withPromise := by decide +kernel
  have hl := lv_entry ([.ref (ad 0), .int (J a1), .int (J a2)]) (n := 5) (Nat.le_of_ble_eq_true rfl)
  rw [lg_entry_eq]
  generalize (lg_sl ([.ref (ad 0), .int (J a1), .int (J a2)]) ++ List.replicate (5 - (lg_sl ([.ref (ad 0), .int (J a1), .int (J a2)])).length) Slot.unset).toArray = ls at hl ⊢
  have hl : lv_has ls 5 [(0, .ref (ad 0)), (1, .int (J a1)), (2, .int (J a2))] := hl
  unfold fX5_withPromise at hf
  refine lv_iconst (v := J 0) hx hb dX5_withPromise_0 rfl ?_
  refine lv_istore_n (lv' := [(3, .int (J 0)), (0, .ref (ad 0)), (1, .int (J a1)), (2, .int (J a2))]) hx hb dX5_withPromise_1 rfl hl (by decide) rfl (fun ls hl => ?_)
  refine lv_iconst (v := J 0) hx hb dX5_withPromise_2 rfl ?_
  refine lv_istore (lv' := [(4, .int (J 0)), (3, .int (J 0)), (0, .ref (ad 0)), (1, .int (J a1)), (2, .int (J a2))]) hx hb dX5_withPromise_3 hl (by decide) rfl (fun ls hl => ?_)
  obtain ⟨y1_0, h1, hf⟩ := bnd_some hf
  have K1 : ∀ (H : Heap) (locs : List Loc) (ls : Array Slot), inR y1_0 → va_P D vwCl (wY ca ad M) H → va_S (aS 18 ad) s.heap H locs → lv_has ls 5 [(3, .int (J y1_0))] → W p l e (headSpec wsX5_withPromise (RmC 1 22)).room s m ([.ref (ad 0), .int (J a1), .int (J a2)] : List Value).toArray below meth c H locs 0 0 (MQ below (va_Qi (fun x (_ : Unit) => x = J res ∧ (inR res)) (fun _ => (OY D ca ad M)) (aS 18 ad)) ([.ref (ad 0), .int (J a1), .int (J a2)] : List Value).toArray s 0 0 (aS 18 ad)) (F0 m 45 ls []) := by
    intro H locs ls ry1_0 hP hS hl
    refine lv_iload_n hx hb dX5_withPromise_45 rfl (lv_at hl 0 rfl) ?_
    have e1 := Option.some.inj hf
    exact jend_i hx hb hr rfl hS e1 (by rw [← e1]; exact ry1_0) (oY rfl hP) dX5_withPromise_46 hlocks
  have hL1 : ∀ (n : Nat) (x1_1 : Int) (x2_1 : Int) (x3_1 : Int) (x4_1 : Int) (M_1 : MM) (H : Heap) (locs : List Loc) (ls : Array Slot), inR x1_1 → inR x2_1 → inR x3_1 → inR x4_1 → RR M_1 → x1_1 = a1 → x2_1 = a2 → M_1 = M → va_P D vwCl (wY ca ad M_1) H → va_S (aS 18 ad) s.heap H locs → lv_has ls 5 [(0, .ref (ad 0)), (1, .int (J x1_1)), (2, .int (J x2_1)), (3, .int (J x3_1)), (4, .int (J x4_1))] → fX5_withPromise_L5 n x1_1 x2_1 x3_1 x4_1 M_1 = some y1_0 → W p l e (headSpec wsX5_withPromise (RmC 1 22)).room s m ([.ref (ad 0), .int (J a1), .int (J a2)] : List Value).toArray below meth c H locs 0 0 (MQ below (va_Qi (fun x (_ : Unit) => x = J res ∧ (inR res)) (fun _ => (OY D ca ad M)) (aS 18 ad)) ([.ref (ad 0), .int (J a1), .int (J a2)] : List Value).toArray s 0 0 (aS 18 ad)) (F0 m 5 ls []) := by
    intro n
    induction n with
    | zero =>
      intro x1_1 x2_1 x3_1 x4_1 M_1 H locs ls rx1_1 rx2_1 rx3_1 rx4_1 hRM_1 e_x1_1 e_x2_1 e_M_1 hP hS hl hf
      rw [fX5_withPromise_L5] at hf
      cases hf
    | succ n ih =>
      intro x1_1 x2_1 x3_1 x4_1 M_1 H locs ls rx1_1 rx2_1 rx3_1 rx4_1 hRM_1 e_x1_1 e_x2_1 e_M_1 hP hS hl hf
      rw [fX5_withPromise_L5] at hf
      refine lv_iload hx hb dX5_withPromise_5 (lv_at hl 4 rfl) ?_
      refine lv_aload_n hx hb dX5_withPromise_7 rfl (lv_at hl 0 rfl) ?_
      refine va_get (D := D) (ci := 5) (v := .ref (ad 1)) (C := RX5) (T := TX5) (N := 23) hx hb hts hinX5 hown hK hP 0 (wL_get (by decide) (gY_0 _)) rfl 1 (by decide) (hts (.fieldLink RX5 7 "VisitVansModel" "s" "[I") (List.mem_of_getElem? (i := 1) rfl)) (fun _ h => h) rfl dX5_withPromise_8 ?_
      refine lv_iconst (v := J 3) hx hb dX5_withPromise_11 rfl ?_
      obtain ⟨v2, qv2, hf⟩ := bnd_some hf
      obtain ⟨bv2, ev2⟩ := rd_some qv2
      have rv2 : inR v2 := by rw [ev2]; exact hRM_1 _ _
      refine jx_iald hx hb hK hP 1 0 (by decide) gY_1 rfl (by decide) bv2 ev2 dX5_withPromise_12 ?_
      refine jv_icmp_ge (tgt := 45) hx hb dX5_withPromise_13 (by decide) rx4_1 rv2 (fun c3 => ?_) (fun c3 => ?_)
      · have hf := itep hf c3
        cases hf
        exact K1 _ _ _ rx3_1  (e_M_1 ▸ hP) hS (lv_sub hl [3] (by subst e_x1_1; subst e_x2_1; rfl))
      · have hf := iten hf c3
        refine lv_iload_n hx hb dX5_withPromise_16 rfl (lv_at hl 3 rfl) ?_
        refine lv_aload_n hx hb dX5_withPromise_17 rfl (lv_at hl 0 rfl) ?_
        refine va_get (D := D) (ci := 5) (v := .ref (ad 7)) (C := RX5) (T := TX5) (N := 23) hx hb hts hinX5 hown hK hP 0 (wL_get (by decide) (gY_0 _)) rfl 9 (by decide) (hts (.fieldLink RX5 29 "VisitVansModel" "promise" "[I") (List.mem_of_getElem? (i := 2) rfl)) (fun _ h => h) rfl dX5_withPromise_18 ?_
        refine lv_iload hx hb dX5_withPromise_21 (lv_at hl 4 rfl) ?_
        obtain ⟨v4, qv4, hf⟩ := bnd_some hf
        obtain ⟨bv4, ev4⟩ := rd_some qv4
        have rv4 : inR v4 := by rw [ev4]; exact hRM_1 _ _
        refine jx_iald hx hb hK hP 7 0 (by decide) gY_7 rfl (by decide) bv4 ev4 dX5_withPromise_23 ?_
        refine lv_iload_n hx hb dX5_withPromise_24 rfl (lv_at hl 1 rfl) ?_
        refine lv_iload_n hx hb dX5_withPromise_25 rfl (lv_at hl 2 rfl) ?_
        obtain ⟨v5, qv5, hf⟩ := bnd_some hf
        refine jc_i (va_runS (As := [.int (J v4), .int (J x1_1), .int (J x2_1)]) (rest := [.int (J x3_1)]) ⟨hx, hb, hml, hown, hts⟩ (kX5_in l D ca ad hI M_1 hRM_1 v4 x1_1 x2_1 rv4 rx1_1 rx2_1 v5 qv5) (va_cwS 3 hts gX5_withPromise_X5_in rfl rfl rfl (by decide +kernel) ⟨Nat.le_of_ble_eq_true rfl, Nat.le_of_ble_eq_true rfl⟩) (psY hK hP [.int (J v4), .int (J x1_1), .int (J x2_1)]) rfl rfl hl.1 rfl (lv_room (Nat.le_of_ble_eq_true rfl)) dX5_withPromise_26 ⟨Nat.zero_le _, Nat.zero_le _⟩) hS (fun H locs t ht hφ hO hS => ?_)
        have rv5 := hφ
        have hP : va_P D vwCl (wY ca ad M_1) H := by rw [← ht]; exact hO
        obtain ⟨y8_0, h8, hf⟩ := bnd_some hf
        have K8 : ∀ (H : Heap) (locs : List Loc) (ls : Array Slot), inR y8_0 → va_P D vwCl (wY ca ad M_1) H → va_S (aS 18 ad) s.heap H locs → lv_has ls 5 [(0, .ref (ad 0)), (1, .int (J x1_1)), (2, .int (J x2_1)), (4, .int (J x4_1))] → W p l e (headSpec wsX5_withPromise (RmC 1 22)).room s m ([.ref (ad 0), .int (J a1), .int (J a2)] : List Value).toArray below meth c H locs 0 0 (MQ below (va_Qi (fun x (_ : Unit) => x = J res ∧ (inR res)) (fun _ => (OY D ca ad M)) (aS 18 ad)) ([.ref (ad 0), .int (J a1), .int (J a2)] : List Value).toArray s 0 0 (aS 18 ad)) (F0 m 37 ls [.int (J y8_0), .int (J x3_1)]) := by
          intro H locs ls ry8_0  hP hS hl
          refine jv_iadd hx hb dX5_withPromise_37 ?_
          refine lv_istore_n (lv' := [(3, .int (J (x3_1 + y8_0))), (0, .ref (ad 0)), (1, .int (J x1_1)), (2, .int (J x2_1)), (4, .int (J x4_1))]) hx hb dX5_withPromise_38 rfl hl (by decide) rfl (fun ls hl => ?_)
          refine lv_iinc (v := J (x4_1 + 1)) (lv' := [(4, .int (J (x4_1 + 1))), (3, .int (J (x3_1 + y8_0))), (0, .ref (ad 0)), (1, .int (J x1_1)), (2, .int (J x2_1))]) hx hb dX5_withPromise_39 hl (k := 4) rfl (J_add _ _) (by decide) rfl (fun ls hl => ?_)
          refine lv_goto (tgt := 5) hx hb dX5_withPromise_42 (by decide) ?_
          obtain ⟨g9, hf⟩ := gd_some hf
          obtain ⟨g10, hf⟩ := gd_some hf
          exact ih _ _ _ _ _ _ _ _ rx1_1 rx2_1 g9 g10 hRM_1 e_x1_1 e_x2_1 e_M_1 hP hS (lv_sub hl [2, 3, 4, 1, 0] rfl) hf
        have hf := h8
        clear h8
        refine jv_if_eq (tgt := 36) hx hb dX5_withPromise_29 (by decide) rv5 (fun c7 => ?_) (fun c7 => ?_)
        · have hf := itep hf c7
          refine lv_iconst (v := J 0) hx hb dX5_withPromise_36 rfl ?_
          cases hf
          exact K8 _ _ _ (by decide : inR 0)  hP hS (lv_sub hl [0, 1, 2, 4] rfl)
        · have hf := iten hf c7
          refine lv_iconst (v := J 1) hx hb dX5_withPromise_32 rfl ?_
          refine lv_goto (tgt := 37) hx hb dX5_withPromise_33 (by decide) ?_
          cases hf
          exact K8 _ _ _ (by decide : inR 1)  hP hS (lv_sub hl [0, 1, 2, 4] rfl)
  exact hL1 4000 _ _ _ _ _ _ _ _ i1 i2 (by decide : inR 0) (by decide : inR 0) hR rfl rfl rfl hP hS (lv_sub hl [2, 3, 4, 1, 0] rfl) h1
def fX5_isSetting (a1 : Int) (a2 : Int) : Option (Int) := if a1 = 0 then bnd (fX5_in a2 1 9) (fun v2 => gd (v2 = 0 ∨ v2 = 1) (some v2)) else if a1 = 1 then bnd (fX5_in a2 1 120) (fun v5 => gd (v5 = 0 ∨ v5 = 1) (some v5)) else if a1 = 2 then bnd (fX5_in a2 0 300) (fun v8 => gd (v8 = 0 ∨ v8 = 1) (some v8)) else some 0
set_option maxHeartbeats 4000000 in
set_option maxRecDepth 100000 in
theorem kX5_isSetting (l : Launch) (D : va_G) (ca : Nat → ClassId) (ad : Nat → Nat) (hI : aInj 18 ad) (M : MM) (hR : RR M) (a1 : Int) (a2 : Int) (i1 : inR a1) (i2 : inR a2) (res : Int) (hf : fX5_isSetting a1 a2 = some res) : CI l yX5_isSetting wsX5_isSetting 1 22 [.int (J a1), .int (J a2)] (PY D ca ad M) res (inR res) (OY D ca ad M) (aS 18 ad) := by
  refine Met.ofW (cc := cX5_isSetting) (maxL := 2) (ret := (some .boolean)) (by decide) rfl ?_
  intro p e s m args below meth c s₁ B hml hv
  obtain ⟨rfl, hP, hK⟩ := hv
  have hx := B.exec
  have hb := B.bytes
  have hr := B.returns
  have hts := atoms_spec (ws := wsX5_isSetting) B.pre
  have hown : s.vm.findClass RX5 = some m.cls := findClass_of_methodNamed B.named
  have hlocks := B.notSynchronized
  have hS : va_S (aS 18 ad) s.heap s.heap [] := va_S.rf
  have hl := lv_entry ([.int (J a1), .int (J a2)]) (n := 2) (Nat.le_of_ble_eq_true rfl)
  rw [lg_entry_eq]
  generalize (lg_sl ([.int (J a1), .int (J a2)]) ++ List.replicate (2 - (lg_sl ([.int (J a1), .int (J a2)])).length) Slot.unset).toArray = ls at hl ⊢
  have hl : lv_has ls 2 [(0, .int (J a1)), (1, .int (J a2))] := hl
  unfold fX5_isSetting at hf
  refine lv_iload_n hx hb dX5_isSetting_0 rfl (lv_at hl 0 rfl) ?_
  by_cases c1_0 : a1 = 0
  · have hf := itep hf c1_0
    refine jv_tIn (k := 0) (tgt := 28) hx hb dX5_isSetting_1 i1 c1_0 (by decide) (by decide) rfl (by decide) ?_
    refine lv_iload_n hx hb dX5_isSetting_28 rfl (lv_at hl 1 rfl) ?_
    refine lv_iconst (v := J 1) hx hb dX5_isSetting_29 rfl ?_
    refine lv_bipush (v := J 9) hx hb dX5_isSetting_30 (by decide +kernel) ?_
    obtain ⟨v2, qv2, hf⟩ := bnd_some hf
    refine jc_i (va_runS (As := [.int (J a2), .int (J 1), .int (J 9)]) (rest := []) ⟨hx, hb, hml, hown, hts⟩ (kX5_in l D ca ad hI M hR a2 1 9 i2 (by decide : inR 1) (by decide : inR 9) v2 qv2) (va_cwS 3 hts gX5_isSetting_X5_in rfl rfl rfl (by decide +kernel) ⟨Nat.le_of_ble_eq_true rfl, Nat.le_of_ble_eq_true rfl⟩) (psY hK hP [.int (J a2), .int (J 1), .int (J 9)]) rfl rfl hl.1 rfl (lv_room (Nat.le_of_ble_eq_true rfl)) dX5_isSetting_32 ⟨Nat.zero_le _, Nat.zero_le _⟩) hS (fun H locs t ht hφ hO hS => ?_)
    have rv2 := hφ
    have hP : va_P D vwCl (wY ca ad M) H := by rw [← ht]; exact hO
    obtain ⟨g4, hf⟩ := gd_some hf
    have e1 := Option.some.inj hf
    exact jend_i hx hb hr (J_wZ g4).1 hS e1 (by rw [← e1]; exact rv2) (oY rfl hP) dX5_isSetting_35 hlocks
  · have hf := iten hf c1_0
    by_cases c1_1 : a1 = 1
    · have hf := itep hf c1_1
      refine jv_tIn (k := 1) (tgt := 36) hx hb dX5_isSetting_1 i1 c1_1 (by decide) (by decide) rfl (by decide) ?_
      refine lv_iload_n hx hb dX5_isSetting_36 rfl (lv_at hl 1 rfl) ?_
      refine lv_iconst (v := J 1) hx hb dX5_isSetting_37 rfl ?_
      refine lv_bipush (v := J 120) hx hb dX5_isSetting_38 (by decide +kernel) ?_
      obtain ⟨v5, qv5, hf⟩ := bnd_some hf
      refine jc_i (va_runS (As := [.int (J a2), .int (J 1), .int (J 120)]) (rest := []) ⟨hx, hb, hml, hown, hts⟩ (kX5_in l D ca ad hI M hR a2 1 120 i2 (by decide : inR 1) (by decide : inR 120) v5 qv5) (va_cwS 3 hts gX5_isSetting_X5_in rfl rfl rfl (by decide +kernel) ⟨Nat.le_of_ble_eq_true rfl, Nat.le_of_ble_eq_true rfl⟩) (psY hK hP [.int (J a2), .int (J 1), .int (J 120)]) rfl rfl hl.1 rfl (lv_room (Nat.le_of_ble_eq_true rfl)) dX5_isSetting_40 ⟨Nat.zero_le _, Nat.zero_le _⟩) hS (fun H locs t ht hφ hO hS => ?_)
      have rv5 := hφ
      have hP : va_P D vwCl (wY ca ad M) H := by rw [← ht]; exact hO
      obtain ⟨g7, hf⟩ := gd_some hf
      have e1 := Option.some.inj hf
      exact jend_i hx hb hr (J_wZ g7).1 hS e1 (by rw [← e1]; exact rv5) (oY rfl hP) dX5_isSetting_43 hlocks
    · have hf := iten hf c1_1
      by_cases c1_2 : a1 = 2
      · have hf := itep hf c1_2
        refine jv_tIn (k := 2) (tgt := 44) hx hb dX5_isSetting_1 i1 c1_2 (by decide) (by decide) rfl (by decide) ?_
        refine lv_iload_n hx hb dX5_isSetting_44 rfl (lv_at hl 1 rfl) ?_
        refine lv_iconst (v := J 0) hx hb dX5_isSetting_45 rfl ?_
        refine lv_sipush (v := J 300) hx hb dX5_isSetting_46 (by decide +kernel) ?_
        obtain ⟨v8, qv8, hf⟩ := bnd_some hf
        refine jc_i (va_runS (As := [.int (J a2), .int (J 0), .int (J 300)]) (rest := []) ⟨hx, hb, hml, hown, hts⟩ (kX5_in l D ca ad hI M hR a2 0 300 i2 (by decide : inR 0) (by decide : inR 300) v8 qv8) (va_cwS 3 hts gX5_isSetting_X5_in rfl rfl rfl (by decide +kernel) ⟨Nat.le_of_ble_eq_true rfl, Nat.le_of_ble_eq_true rfl⟩) (psY hK hP [.int (J a2), .int (J 0), .int (J 300)]) rfl rfl hl.1 rfl (lv_room (Nat.le_of_ble_eq_true rfl)) dX5_isSetting_49 ⟨Nat.zero_le _, Nat.zero_le _⟩) hS (fun H locs t ht hφ hO hS => ?_)
        have rv8 := hφ
        have hP : va_P D vwCl (wY ca ad M) H := by rw [← ht]; exact hO
        obtain ⟨g10, hf⟩ := gd_some hf
        have e1 := Option.some.inj hf
        exact jend_i hx hb hr (J_wZ g10).1 hS e1 (by rw [← e1]; exact rv8) (oY rfl hP) dX5_isSetting_52 hlocks
      · have hf := iten hf c1_2
        refine jv_tOut (tgt := 53) hx hb dX5_isSetting_1 i1 (by omega) (by decide) ?_
        refine lv_iconst (v := J 0) hx hb dX5_isSetting_53 rfl ?_
        have e1 := Option.some.inj hf
        exact jend_i hx hb hr (by decide) hS e1 (by rw [← e1]; exact (by decide : inR 0)) (oY rfl hP) dX5_isSetting_54 hlocks
def fX5_set (a1 : Int) (a2 : Int) (M : MM) : Option (Int × MM) := bnd (some (stM M 0 0 0)) (fun M1 => bnd (fX5_isSetting a1 a2) (fun v2 => if v2 = 0 then some ((-2), M1) else bnd (fX5_records M1) (fun M6 => bnd (rd M6 1 160 a1) (fun v7 => bnd (wr M6 1 160 a1 a2) (fun M8 => some (v7, M8))))))
set_option maxHeartbeats 4000000 in
set_option maxRecDepth 100000 in
theorem kX5_set (l : Launch) (D : va_G) (ca : Nat → ClassId) (ad : Nat → Nat) (hI : aInj 18 ad) (M : MM) (hR : RR M) (a1 : Int) (a2 : Int) (i1 : inR a1) (i2 : inR a2) (res : Int) (M' : MM) (hf : fX5_set a1 a2 M = some (res, M')) : CI l yX5_set wsX5_set 2 43 [.ref (ad 0), .int (J a1), .int (J a2)] (PY D ca ad M) res (inR res ∧ RR M') (OY D ca ad M') (aS 18 ad) := by
  refine Met.ofW (cc := cX5_set) (maxL := 4) (ret := (some .int)) (by decide) rfl ?_
  intro p e s m args below meth c s₁ B hml hv
  obtain ⟨rfl, hP, hK⟩ := hv
  have hx := B.exec
  have hb := B.bytes
  have hr := B.returns
  have hts := atoms_spec (ws := wsX5_set) B.pre
  have hown : s.vm.findClass RX5 = some m.cls := findClass_of_methodNamed B.named
  have hlocks := B.notSynchronized
  have hS : va_S (aS 18 ad) s.heap s.heap [] := va_S.rf
  have hinX5 : ∀ w ∈ wsX50, w ∈ wsX5_set := by decide +kernel
  have hl := lv_entry ([.ref (ad 0), .int (J a1), .int (J a2)]) (n := 4) (Nat.le_of_ble_eq_true rfl)
  rw [lg_entry_eq]
  generalize (lg_sl ([.ref (ad 0), .int (J a1), .int (J a2)]) ++ List.replicate (4 - (lg_sl ([.ref (ad 0), .int (J a1), .int (J a2)])).length) Slot.unset).toArray = ls at hl ⊢
  have hl : lv_has ls 4 [(0, .ref (ad 0)), (1, .int (J a1)), (2, .int (J a2))] := hl
  unfold fX5_set at hf
  refine lv_aload_n hx hb dX5_set_0 rfl (lv_at hl 0 rfl) ?_
  refine lv_iconst (v := J 0) hx hb dX5_set_1 rfl ?_
  obtain ⟨M1, eM1, hf⟩ := bnd_some hf
  have eM1 := Option.some.inj eM1
  have hRM1 : RR M1 := by rw [← eM1]; exact RR_st hR 0 0 (by decide : inR 0)
  refine va_put (D := D) (ci := 5) (v := .int (J 0)) (ty := .int) (C := RX5) (T := TX5) (N := 23) hx hb hts hinX5 tyX5 tyX5_ok nmX5 hown hK hP (wL_D hI M) hS 0 (wL_get (by decide) (gY_0 _)) rfl 0 (by decide) (hts (.fieldLink RX5 62 "VisitVansModel" "thrown" "I") (List.mem_of_getElem? (i := 1) rfl)) (fun _ h => h) rfl rfl rfl rfl (Nat.le_of_ble_eq_true rfl) dX5_set_2 (fun H locs hP hD hS => ?_)
  have hP : va_P D vwCl (wY ca ad M1) H := by rw [← eM1]; exact hPset (gY_0_s0) stM_o hP
  refine lv_iload_n hx hb dX5_set_5 rfl (lv_at hl 1 rfl) ?_
  refine lv_iload_n hx hb dX5_set_6 rfl (lv_at hl 2 rfl) ?_
  obtain ⟨v2, qv2, hf⟩ := bnd_some hf
  refine jc_i (va_runS (As := [.int (J a1), .int (J a2)]) (rest := []) ⟨hx, hb, hml, hown, hts⟩ (kX5_isSetting l D ca ad hI M1 hRM1 a1 a2 i1 i2 v2 qv2) (va_cwS 2 hts gX5_set_X5_isSetting rfl rfl rfl (by decide +kernel) ⟨Nat.le_of_ble_eq_true rfl, Nat.le_of_ble_eq_true rfl⟩) (psY hK hP [.int (J a1), .int (J a2)]) rfl rfl hl.1 rfl (lv_room (Nat.le_of_ble_eq_true rfl)) dX5_set_7 ⟨Nat.zero_le _, Nat.zero_le _⟩) hS (fun H locs t ht hφ hO hS => ?_)
  have rv2 := hφ
  have hP : va_P D vwCl (wY ca ad M1) H := by rw [← ht]; exact hO
  refine jv_if_ne (tgt := 16) hx hb dX5_set_10 (by decide) rv2 (fun c4 => ?_) (fun c4 => ?_)
  · have hf := iten hf c4
    refine lv_aload_n hx hb dX5_set_16 rfl (lv_at hl 0 rfl) ?_
    obtain ⟨M6, qM6, hf⟩ := bnd_some hf
    refine jc_v (va_runV (As := []) (rest := []) ⟨hx, hb, hml, hown, hts⟩ (kX5_records l D ca ad hI M1 hRM1 M6 qM6) (cwV 0 hts gX5_set_X5_records rfl rfl rfl (by decide +kernel) ⟨Nat.le_of_ble_eq_true rfl, Nat.le_of_ble_eq_true rfl⟩) (pvY hK hP []) rfl rfl hl.1 rfl (lv_room (Nat.le_of_ble_eq_true rfl)) dX5_set_17 ⟨Nat.zero_le _, Nat.zero_le _⟩) hS (fun H locs t ht hφ hO hS => ?_)
    have hRM6 := hφ
    have hP : va_P D vwCl (wY ca ad M6) H := by rw [← ht]; exact hO
    refine lv_aload_n hx hb dX5_set_20 rfl (lv_at hl 0 rfl) ?_
    refine va_get (D := D) (ci := 5) (v := .ref (ad 1)) (C := RX5) (T := TX5) (N := 23) hx hb hts hinX5 hown hK hP 0 (wL_get (by decide) (gY_0 _)) rfl 1 (by decide) (hts (.fieldLink RX5 7 "VisitVansModel" "s" "[I") (List.mem_of_getElem? (i := 2) rfl)) (fun _ h => h) rfl dX5_set_21 ?_
    refine lv_iload_n hx hb dX5_set_24 rfl (lv_at hl 1 rfl) ?_
    obtain ⟨v7, qv7, hf⟩ := bnd_some hf
    obtain ⟨bv7, ev7⟩ := rd_some qv7
    have rv7 : inR v7 := by rw [ev7]; exact hRM6 _ _
    refine jx_iald hx hb hK hP 1 0 (by decide) gY_1 rfl (by decide) bv7 ev7 dX5_set_25 ?_
    refine lv_istore_n (lv' := [(3, .int (J v7)), (0, .ref (ad 0)), (1, .int (J a1)), (2, .int (J a2))]) hx hb dX5_set_26 rfl hl (by decide) rfl (fun ls hl => ?_)
    refine lv_aload_n hx hb dX5_set_27 rfl (lv_at hl 1 rfl) ?_
    refine va_get (D := D) (ci := 5) (v := .ref (ad 1)) (C := RX5) (T := TX5) (N := 23) hx hb hts hinX5 hown hK hP 0 (wL_get (by decide) (gY_0 _)) rfl 1 (by decide) (hts (.fieldLink RX5 7 "VisitVansModel" "s" "[I") (List.mem_of_getElem? (i := 2) rfl)) (fun _ h => h) rfl dX5_set_28 ?_
    refine lv_iload_n hx hb dX5_set_31 rfl (lv_at hl 2 rfl) ?_
    refine lv_iload_n hx hb dX5_set_32 rfl (lv_at hl 3 rfl) ?_
    obtain ⟨M8, qM8, hf⟩ := bnd_some hf
    obtain ⟨bM8, zM8, eM8⟩ := wr_some qM8
    have hRM8 : RR M8 := by rw [eM8]; exact RR_st hRM6 _ _ zM8
    refine jx_iast hx hb hK hP hI hS 1 0 (by decide) gY_1 rfl (by decide) bM8 zM8 dX5_set_33 (fun H locs hP hS => ?_)
    rw [← eM8] at hP
    refine lv_iload_n hx hb dX5_set_34 rfl (lv_at hl 0 rfl) ?_
    obtain ⟨e1, e2⟩ := Prod.mk.inj (Option.some.inj hf)
    exact jend_i hx hb hr rfl hS e1 ⟨by rw [← e1]; exact rv7, by rw [← e2]; exact hRM8⟩ (oY e2 hP) dX5_set_35 hlocks
  · have hf := itep hf c4
    refine lv_bipush (v := J (-2)) hx hb dX5_set_13 (by decide +kernel) ?_
    obtain ⟨e1, e2⟩ := Prod.mk.inj (Option.some.inj hf)
    exact jend_i hx hb hr rfl hS e1 ⟨by rw [← e1]; exact (by decide : inR (-2)), by rw [← e2]; exact hRM1⟩ (oY e2 hP) dX5_set_15 hlocks
def fX5_refuses (a1 : Int) (a2 : Int) (a3 : Int) (a4 : Int) (a5 : Int) (a6 : Int) : Option (Int) := bnd (fX5_in a2 0 3) (fun v1 => if v1 = 0 then some (-1) else bnd (fX5_in a3 0 4) (fun v4 => if v4 = 0 then some (-1) else bnd (fX5_in a1 0 99) (fun v7 => bnd (if v7 = 0 then some (((-2) : Int)) else bnd (fX5_in a4 0 9) (fun v11 => if v11 = 0 then some (((-2) : Int)) else bnd (fX5_in a5 0 999) (fun v14 => if v14 = 0 then some (((-2) : Int)) else bnd (fX5_in a6 a5 999) (fun v17 => if v17 = 0 then some (((-2) : Int)) else some ((0 : Int)))))) (fun y10_0 => some y10_0))))
set_option maxHeartbeats 4000000 in
set_option maxRecDepth 100000 in
theorem kX5_refuses (l : Launch) (D : va_G) (ca : Nat → ClassId) (ad : Nat → Nat) (hI : aInj 18 ad) (M : MM) (hR : RR M) (a1 : Int) (a2 : Int) (a3 : Int) (a4 : Int) (a5 : Int) (a6 : Int) (i1 : inR a1) (i2 : inR a2) (i3 : inR a3) (i4 : inR a4) (i5 : inR a5) (i6 : inR a6) (res : Int) (hf : fX5_refuses a1 a2 a3 a4 a5 a6 = some res) : CI l yX5_refuses wsX5_refuses 1 22 [.int (J a1), .int (J a2), .int (J a3), .int (J a4), .int (J a5), .int (J a6)] (PY D ca ad M) res (inR res) (OY D ca ad M) (aS 18 ad) := by
  refine Met.ofW (cc := cX5_refuses) (maxL := 6) (ret := (some .int)) (by decide) rfl ?_
  intro p e s m args below meth c s₁ B hml hv
  obtain ⟨rfl, hP, hK⟩ := hv
  have hx := B.exec
  have hb := B.bytes
  have hr := B.returns
  have hts := atoms_spec (ws := wsX5_refuses) B.pre
  have hown : s.vm.findClass RX5 = some m.cls := findClass_of_methodNamed B.named
  have hlocks := B.notSynchronized
  have hS : va_S (aS 18 ad) s.heap s.heap [] := va_S.rf
  have hl := lv_entry ([.int (J a1), .int (J a2), .int (J a3), .int (J a4), .int (J a5), .int (J a6)]) (n := 6) (Nat.le_of_ble_eq_true rfl)
  rw [lg_entry_eq]
  generalize (lg_sl ([.int (J a1), .int (J a2), .int (J a3), .int (J a4), .int (J a5), .int (J a6)]) ++ List.replicate (6 - (lg_sl ([.int (J a1), .int (J a2), .int (J a3), .int (J a4), .int (J a5), .int (J a6)])).length) Slot.unset).toArray = ls at hl ⊢
  have hl : lv_has ls 6 [(0, .int (J a1)), (1, .int (J a2)), (2, .int (J a3)), (3, .int (J a4)), (4, .int (J a5)), (5, .int (J a6))] := hl
  unfold fX5_refuses at hf
  refine lv_iload_n hx hb dX5_refuses_0 rfl (lv_at hl 1 rfl) ?_
  refine lv_iconst (v := J 0) hx hb dX5_refuses_1 rfl ?_
  refine lv_iconst (v := J 3) hx hb dX5_refuses_2 rfl ?_
  obtain ⟨v1, qv1, hf⟩ := bnd_some hf
  refine jc_i (va_runS (As := [.int (J a2), .int (J 0), .int (J 3)]) (rest := []) ⟨hx, hb, hml, hown, hts⟩ (kX5_in l D ca ad hI M hR a2 0 3 i2 (by decide : inR 0) (by decide : inR 3) v1 qv1) (va_cwS 3 hts gX5_refuses_X5_in rfl rfl rfl (by decide +kernel) ⟨Nat.le_of_ble_eq_true rfl, Nat.le_of_ble_eq_true rfl⟩) (psY hK hP [.int (J a2), .int (J 0), .int (J 3)]) rfl rfl hl.1 rfl (lv_room (Nat.le_of_ble_eq_true rfl)) dX5_refuses_3 ⟨Nat.zero_le _, Nat.zero_le _⟩) hS (fun H locs t ht hφ hO hS => ?_)
  have rv1 := hφ
  have hP : va_P D vwCl (wY ca ad M) H := by rw [← ht]; exact hO
  refine jv_if_eq (tgt := 18) hx hb dX5_refuses_6 (by decide) rv1 (fun c3 => ?_) (fun c3 => ?_)
  · have hf := itep hf c3
    refine lv_iconst (v := J (-1)) hx hb dX5_refuses_18 rfl ?_
    have e1 := Option.some.inj hf
    exact jend_i hx hb hr rfl hS e1 (by rw [← e1]; exact (by decide : inR (-1))) (oY rfl hP) dX5_refuses_19 hlocks
  · have hf := iten hf c3
    refine lv_iload_n hx hb dX5_refuses_9 rfl (lv_at hl 2 rfl) ?_
    refine lv_iconst (v := J 0) hx hb dX5_refuses_10 rfl ?_
    refine lv_iconst (v := J 4) hx hb dX5_refuses_11 rfl ?_
    obtain ⟨v4, qv4, hf⟩ := bnd_some hf
    refine jc_i (va_runS (As := [.int (J a3), .int (J 0), .int (J 4)]) (rest := []) ⟨hx, hb, hml, hown, hts⟩ (kX5_in l D ca ad hI M hR a3 0 4 i3 (by decide : inR 0) (by decide : inR 4) v4 qv4) (va_cwS 3 hts gX5_refuses_X5_in rfl rfl rfl (by decide +kernel) ⟨Nat.le_of_ble_eq_true rfl, Nat.le_of_ble_eq_true rfl⟩) (psY hK hP [.int (J a3), .int (J 0), .int (J 4)]) rfl rfl hl.1 rfl (lv_room (Nat.le_of_ble_eq_true rfl)) dX5_refuses_12 ⟨Nat.zero_le _, Nat.zero_le _⟩) hS (fun H locs t ht hφ hO hS => ?_)
    have rv4 := hφ
    have hP : va_P D vwCl (wY ca ad M) H := by rw [← ht]; exact hO
    refine jv_if_ne (tgt := 20) hx hb dX5_refuses_15 (by decide) rv4 (fun c6 => ?_) (fun c6 => ?_)
    · have hf := iten hf c6
      refine lv_iload_n hx hb dX5_refuses_20 rfl (lv_at hl 0 rfl) ?_
      refine lv_iconst (v := J 0) hx hb dX5_refuses_21 rfl ?_
      refine lv_bipush (v := J 99) hx hb dX5_refuses_22 (by decide +kernel) ?_
      obtain ⟨v7, qv7, hf⟩ := bnd_some hf
      refine jc_i (va_runS (As := [.int (J a1), .int (J 0), .int (J 99)]) (rest := []) ⟨hx, hb, hml, hown, hts⟩ (kX5_in l D ca ad hI M hR a1 0 99 i1 (by decide : inR 0) (by decide : inR 99) v7 qv7) (va_cwS 3 hts gX5_refuses_X5_in rfl rfl rfl (by decide +kernel) ⟨Nat.le_of_ble_eq_true rfl, Nat.le_of_ble_eq_true rfl⟩) (psY hK hP [.int (J a1), .int (J 0), .int (J 99)]) rfl rfl hl.1 rfl (lv_room (Nat.le_of_ble_eq_true rfl)) dX5_refuses_24 ⟨Nat.zero_le _, Nat.zero_le _⟩) hS (fun H locs t ht hφ hO hS => ?_)
      have rv7 := hφ
      have hP : va_P D vwCl (wY ca ad M) H := by rw [← ht]; exact hO
      obtain ⟨y10_0, h10, hf⟩ := bnd_some hf
      have K10 : ∀ (H : Heap) (locs : List Loc) (ls : Array Slot), inR y10_0 → va_P D vwCl (wY ca ad M) H → va_S (aS 18 ad) s.heap H locs → lv_has ls 6 [] → W p l e (headSpec wsX5_refuses (RmC 1 22)).room s m ([.int (J a1), .int (J a2), .int (J a3), .int (J a4), .int (J a5), .int (J a6)] : List Value).toArray below meth c H locs 0 0 (MQ below (va_Qi (fun x (_ : Unit) => x = J res ∧ (inR res)) (fun _ => (OY D ca ad M)) (aS 18 ad)) ([.int (J a1), .int (J a2), .int (J a3), .int (J a4), .int (J a5), .int (J a6)] : List Value).toArray s 0 0 (aS 18 ad)) (F0 m 71 ls [.int (J y10_0)]) := by
        intro H locs ls ry10_0  hP hS hl
        have e1 := Option.some.inj hf
        exact jend_i hx hb hr rfl hS e1 (by rw [← e1]; exact ry10_0) (oY rfl hP) dX5_refuses_71 hlocks
      have hf := h10
      clear h10
      refine jv_if_eq (tgt := 69) hx hb dX5_refuses_27 (by decide) rv7 (fun c9 => ?_) (fun c9 => ?_)
      · have hf := itep hf c9
        refine lv_bipush (v := J (-2)) hx hb dX5_refuses_69 (by decide +kernel) ?_
        cases hf
        exact K10 _ _ _ (by decide : inR (-2))  hP hS (lv_sub hl [] rfl)
      · have hf := iten hf c9
        refine lv_iload_n hx hb dX5_refuses_30 rfl (lv_at hl 3 rfl) ?_
        refine lv_iconst (v := J 0) hx hb dX5_refuses_31 rfl ?_
        refine lv_bipush (v := J 9) hx hb dX5_refuses_32 (by decide +kernel) ?_
        obtain ⟨v11, qv11, hf⟩ := bnd_some hf
        refine jc_i (va_runS (As := [.int (J a4), .int (J 0), .int (J 9)]) (rest := []) ⟨hx, hb, hml, hown, hts⟩ (kX5_in l D ca ad hI M hR a4 0 9 i4 (by decide : inR 0) (by decide : inR 9) v11 qv11) (va_cwS 3 hts gX5_refuses_X5_in rfl rfl rfl (by decide +kernel) ⟨Nat.le_of_ble_eq_true rfl, Nat.le_of_ble_eq_true rfl⟩) (psY hK hP [.int (J a4), .int (J 0), .int (J 9)]) rfl rfl hl.1 rfl (lv_room (Nat.le_of_ble_eq_true rfl)) dX5_refuses_34 ⟨Nat.zero_le _, Nat.zero_le _⟩) hS (fun H locs t ht hφ hO hS => ?_)
        have rv11 := hφ
        have hP : va_P D vwCl (wY ca ad M) H := by rw [← ht]; exact hO
        refine jv_if_eq (tgt := 69) hx hb dX5_refuses_37 (by decide) rv11 (fun c13 => ?_) (fun c13 => ?_)
        · have hf := itep hf c13
          refine lv_bipush (v := J (-2)) hx hb dX5_refuses_69 (by decide +kernel) ?_
          cases hf
          exact K10 _ _ _ (by decide : inR (-2))  hP hS (lv_sub hl [] rfl)
        · have hf := iten hf c13
          refine lv_iload hx hb dX5_refuses_40 (lv_at hl 4 rfl) ?_
          refine lv_iconst (v := J 0) hx hb dX5_refuses_42 rfl ?_
          refine lv_sipush (v := J 999) hx hb dX5_refuses_43 (by decide +kernel) ?_
          obtain ⟨v14, qv14, hf⟩ := bnd_some hf
          refine jc_i (va_runS (As := [.int (J a5), .int (J 0), .int (J 999)]) (rest := []) ⟨hx, hb, hml, hown, hts⟩ (kX5_in l D ca ad hI M hR a5 0 999 i5 (by decide : inR 0) (by decide : inR 999) v14 qv14) (va_cwS 3 hts gX5_refuses_X5_in rfl rfl rfl (by decide +kernel) ⟨Nat.le_of_ble_eq_true rfl, Nat.le_of_ble_eq_true rfl⟩) (psY hK hP [.int (J a5), .int (J 0), .int (J 999)]) rfl rfl hl.1 rfl (lv_room (Nat.le_of_ble_eq_true rfl)) dX5_refuses_46 ⟨Nat.zero_le _, Nat.zero_le _⟩) hS (fun H locs t ht hφ hO hS => ?_)
          have rv14 := hφ
          have hP : va_P D vwCl (wY ca ad M) H := by rw [← ht]; exact hO
          refine jv_if_eq (tgt := 69) hx hb dX5_refuses_49 (by decide) rv14 (fun c16 => ?_) (fun c16 => ?_)
          · have hf := itep hf c16
            refine lv_bipush (v := J (-2)) hx hb dX5_refuses_69 (by decide +kernel) ?_
            cases hf
            exact K10 _ _ _ (by decide : inR (-2))  hP hS (lv_sub hl [] rfl)
          · have hf := iten hf c16
            refine lv_iload hx hb dX5_refuses_52 (lv_at hl 5 rfl) ?_
            refine lv_iload hx hb dX5_refuses_54 (lv_at hl 4 rfl) ?_
            refine lv_sipush (v := J 999) hx hb dX5_refuses_56 (by decide +kernel) ?_
            obtain ⟨v17, qv17, hf⟩ := bnd_some hf
            refine jc_i (va_runS (As := [.int (J a6), .int (J a5), .int (J 999)]) (rest := []) ⟨hx, hb, hml, hown, hts⟩ (kX5_in l D ca ad hI M hR a6 a5 999 i6 i5 (by decide : inR 999) v17 qv17) (va_cwS 3 hts gX5_refuses_X5_in rfl rfl rfl (by decide +kernel) ⟨Nat.le_of_ble_eq_true rfl, Nat.le_of_ble_eq_true rfl⟩) (psY hK hP [.int (J a6), .int (J a5), .int (J 999)]) rfl rfl hl.1 rfl (lv_room (Nat.le_of_ble_eq_true rfl)) dX5_refuses_59 ⟨Nat.zero_le _, Nat.zero_le _⟩) hS (fun H locs t ht hφ hO hS => ?_)
            have rv17 := hφ
            have hP : va_P D vwCl (wY ca ad M) H := by rw [← ht]; exact hO
            refine jv_if_eq (tgt := 69) hx hb dX5_refuses_62 (by decide) rv17 (fun c19 => ?_) (fun c19 => ?_)
            · have hf := itep hf c19
              refine lv_bipush (v := J (-2)) hx hb dX5_refuses_69 (by decide +kernel) ?_
              cases hf
              exact K10 _ _ _ (by decide : inR (-2))  hP hS (lv_sub hl [] rfl)
            · have hf := iten hf c19
              refine lv_iconst (v := J 0) hx hb dX5_refuses_65 rfl ?_
              refine lv_goto (tgt := 71) hx hb dX5_refuses_66 (by decide) ?_
              cases hf
              exact K10 _ _ _ (by decide : inR 0)  hP hS (lv_sub hl [] rfl)
    · have hf := itep hf c6
      refine lv_iconst (v := J (-1)) hx hb dX5_refuses_18 rfl ?_
      have e1 := Option.some.inj hf
      exact jend_i hx hb hr rfl hS e1 (by rw [← e1]; exact (by decide : inR (-1))) (oY rfl hP) dX5_refuses_19 hlocks
def fX5_refusesVisit (a1 : Int) (a2 : Int) (a3 : Int) (a4 : Int) (a5 : Int) (a6 : Int) (M : MM) : Option (Int) := bnd (fX5_refuses a1 a2 a3 a4 a5 a6) (fun v1 => bnd (if v1 = 0 then bnd (rd M 1 160 3) (fun v5 => if v5 = 20 then some (((-4) : Int)) else some ((0 : Int))) else some (v1)) (fun y4_0 => some y4_0))
set_option maxHeartbeats 4000000 in
set_option maxRecDepth 100000 in
theorem kX5_refusesVisit (l : Launch) (D : va_G) (ca : Nat → ClassId) (ad : Nat → Nat) (hI : aInj 18 ad) (M : MM) (hR : RR M) (a1 : Int) (a2 : Int) (a3 : Int) (a4 : Int) (a5 : Int) (a6 : Int) (i1 : inR a1) (i2 : inR a2) (i3 : inR a3) (i4 : inR a4) (i5 : inR a5) (i6 : inR a6) (res : Int) (hf : fX5_refusesVisit a1 a2 a3 a4 a5 a6 M = some res) : CI l yX5_refusesVisit wsX5_refusesVisit 2 47 [.ref (ad 0), .int (J a1), .int (J a2), .int (J a3), .int (J a4), .int (J a5), .int (J a6)] (PY D ca ad M) res (inR res) (OY D ca ad M) (aS 18 ad) := by
  refine Met.ofW (cc := cX5_refusesVisit) (maxL := 8) (ret := (some .int)) (by decide) rfl ?_
  intro p e s m args below meth c s₁ B hml hv
  obtain ⟨rfl, hP, hK⟩ := hv
  have hx := B.exec
  have hb := B.bytes
  have hr := B.returns
  have hts := atoms_spec (ws := wsX5_refusesVisit) B.pre
  have hown : s.vm.findClass RX5 = some m.cls := findClass_of_methodNamed B.named
  have hlocks := B.notSynchronized
  have hS : va_S (aS 18 ad) s.heap s.heap [] := va_S.rf
  have hinX5 : ∀ w ∈ wsX50, w ∈ wsX5_refusesVisit := by decide +kernel
  have hl := lv_entry ([.ref (ad 0), .int (J a1), .int (J a2), .int (J a3), .int (J a4), .int (J a5), .int (J a6)]) (n := 8) (Nat.le_of_ble_eq_true rfl)
  rw [lg_entry_eq]
  generalize (lg_sl ([.ref (ad 0), .int (J a1), .int (J a2), .int (J a3), .int (J a4), .int (J a5), .int (J a6)]) ++ List.replicate (8 - (lg_sl ([.ref (ad 0), .int (J a1), .int (J a2), .int (J a3), .int (J a4), .int (J a5), .int (J a6)])).length) Slot.unset).toArray = ls at hl ⊢
  have hl : lv_has ls 8 [(0, .ref (ad 0)), (1, .int (J a1)), (2, .int (J a2)), (3, .int (J a3)), (4, .int (J a4)), (5, .int (J a5)), (6, .int (J a6))] := hl
  unfold fX5_refusesVisit at hf
  refine lv_iload_n hx hb dX5_refusesVisit_0 rfl (lv_at hl 1 rfl) ?_
  refine lv_iload_n hx hb dX5_refusesVisit_1 rfl (lv_at hl 2 rfl) ?_
  refine lv_iload_n hx hb dX5_refusesVisit_2 rfl (lv_at hl 3 rfl) ?_
  refine lv_iload hx hb dX5_refusesVisit_3 (lv_at hl 4 rfl) ?_
  refine lv_iload hx hb dX5_refusesVisit_5 (lv_at hl 5 rfl) ?_
  refine lv_iload hx hb dX5_refusesVisit_7 (lv_at hl 6 rfl) ?_
  obtain ⟨v1, qv1, hf⟩ := bnd_some hf
  refine jc_i (va_runS (As := [.int (J a1), .int (J a2), .int (J a3), .int (J a4), .int (J a5), .int (J a6)]) (rest := []) ⟨hx, hb, hml, hown, hts⟩ (kX5_refuses l D ca ad hI M hR a1 a2 a3 a4 a5 a6 i1 i2 i3 i4 i5 i6 v1 qv1) (va_cwS 6 hts gX5_refusesVisit_X5_refuses rfl rfl rfl (by decide +kernel) ⟨Nat.le_of_ble_eq_true rfl, Nat.le_of_ble_eq_true rfl⟩) (psY hK hP [.int (J a1), .int (J a2), .int (J a3), .int (J a4), .int (J a5), .int (J a6)]) rfl rfl hl.1 rfl (lv_room (Nat.le_of_ble_eq_true rfl)) dX5_refusesVisit_9 ⟨Nat.zero_le _, Nat.zero_le _⟩) hS (fun H locs t ht hφ hO hS => ?_)
  have rv1 := hφ
  have hP : va_P D vwCl (wY ca ad M) H := by rw [← ht]; exact hO
  refine lv_istore (lv' := [(7, .int (J v1)), (0, .ref (ad 0)), (1, .int (J a1)), (2, .int (J a2)), (3, .int (J a3)), (4, .int (J a4)), (5, .int (J a5)), (6, .int (J a6))]) hx hb dX5_refusesVisit_12 hl (by decide) rfl (fun ls hl => ?_)
  refine lv_iload hx hb dX5_refusesVisit_14 (lv_at hl 0 rfl) ?_
  obtain ⟨y4_0, h4, hf⟩ := bnd_some hf
  have K4 : ∀ (H : Heap) (locs : List Loc) (ls : Array Slot), inR y4_0 → va_P D vwCl (wY ca ad M) H → va_S (aS 18 ad) s.heap H locs → lv_has ls 8 [] → W p l e (headSpec wsX5_refusesVisit (RmC 2 47)).room s m ([.ref (ad 0), .int (J a1), .int (J a2), .int (J a3), .int (J a4), .int (J a5), .int (J a6)] : List Value).toArray below meth c H locs 0 0 (MQ below (va_Qi (fun x (_ : Unit) => x = J res ∧ (inR res)) (fun _ => (OY D ca ad M)) (aS 18 ad)) ([.ref (ad 0), .int (J a1), .int (J a2), .int (J a3), .int (J a4), .int (J a5), .int (J a6)] : List Value).toArray s 0 0 (aS 18 ad)) (F0 m 41 ls [.int (J y4_0)]) := by
    intro H locs ls ry4_0  hP hS hl
    have e1 := Option.some.inj hf
    exact jend_i hx hb hr rfl hS e1 (by rw [← e1]; exact ry4_0) (oY rfl hP) dX5_refusesVisit_41 hlocks
  have hf := h4
  clear h4
  refine jv_if_eq (tgt := 24) hx hb dX5_refusesVisit_16 (by decide) rv1 (fun c3 => ?_) (fun c3 => ?_)
  · have hf := itep hf c3
    refine lv_aload_n hx hb dX5_refusesVisit_24 rfl (lv_at hl 1 rfl) ?_
    refine va_get (D := D) (ci := 5) (v := .ref (ad 1)) (C := RX5) (T := TX5) (N := 23) hx hb hts hinX5 hown hK hP 0 (wL_get (by decide) (gY_0 _)) rfl 1 (by decide) (hts (.fieldLink RX5 7 "VisitVansModel" "s" "[I") (List.mem_of_getElem? (i := 1) rfl)) (fun _ h => h) rfl dX5_refusesVisit_25 ?_
    refine lv_iconst (v := J 3) hx hb dX5_refusesVisit_28 rfl ?_
    obtain ⟨v5, qv5, hf⟩ := bnd_some hf
    obtain ⟨bv5, ev5⟩ := rd_some qv5
    have rv5 : inR v5 := by rw [ev5]; exact hR _ _
    refine jx_iald hx hb hK hP 1 0 (by decide) gY_1 rfl (by decide) bv5 ev5 dX5_refusesVisit_29 ?_
    refine lv_bipush (v := J 20) hx hb dX5_refusesVisit_30 (by decide +kernel) ?_
    refine jv_icmp_ne (tgt := 40) hx hb dX5_refusesVisit_32 (by decide) rv5 (by decide : inR 20) (fun c6 => ?_) (fun c6 => ?_)
    · have hf := iten hf c6
      refine lv_iconst (v := J 0) hx hb dX5_refusesVisit_40 rfl ?_
      cases hf
      exact K4 _ _ _ (by decide : inR 0)  hP hS (lv_sub hl [] rfl)
    · have hf := itep hf c6
      refine lv_bipush (v := J (-4)) hx hb dX5_refusesVisit_35 (by decide +kernel) ?_
      refine lv_goto (tgt := 41) hx hb dX5_refusesVisit_37 (by decide) ?_
      cases hf
      exact K4 _ _ _ (by decide : inR (-4))  hP hS (lv_sub hl [] rfl)
  · have hf := iten hf c3
    refine lv_iload hx hb dX5_refusesVisit_19 (lv_at hl 0 rfl) ?_
    refine lv_goto (tgt := 41) hx hb dX5_refusesVisit_21 (by decide) ?_
    cases hf
    exact K4 _ _ _ rv1  hP hS (lv_sub hl [] rfl)
def fX5_laysVisit (a1 : Int) (a2 : Int) (a3 : Int) (a4 : Int) (a5 : Int) (a6 : Int) (M : MM) : Option (Int × MM) := bnd (rd M 1 160 3) (fun v1 => bnd (wr M 1 160 ((33 + (6 * v1)) + 0) a1) (fun M2 => bnd (wr M2 1 160 ((33 + (6 * v1)) + 1) a2) (fun M3 => bnd (wr M3 1 160 ((33 + (6 * v1)) + 2) a3) (fun M4 => bnd (wr M4 1 160 ((33 + (6 * v1)) + 3) a4) (fun M5 => bnd (wr M5 1 160 ((33 + (6 * v1)) + 4) a5) (fun M6 => bnd (wr M6 1 160 ((33 + (6 * v1)) + 5) a6) (fun M7 => bnd (rd M7 1 160 3) (fun v8 => bnd (wr M7 1 160 3 (v8 + 1)) (fun M9 => bnd (rd M9 1 160 3) (fun v10 => gd (inR (v10 - 1)) (some ((v10 - 1), M9))))))))))))
set_option maxHeartbeats 4000000 in
set_option maxRecDepth 100000 in
theorem kX5_laysVisit (l : Launch) (D : va_G) (ca : Nat → ClassId) (ad : Nat → Nat) (hI : aInj 18 ad) (M : MM) (hR : RR M) (a1 : Int) (a2 : Int) (a3 : Int) (a4 : Int) (a5 : Int) (a6 : Int) (i1 : inR a1) (i2 : inR a2) (i3 : inR a3) (i4 : inR a4) (i5 : inR a5) (i6 : inR a6) (res : Int) (M' : MM) (hf : fX5_laysVisit a1 a2 a3 a4 a5 a6 M = some (res, M')) : CI l yX5_laysVisit wsX5_laysVisit 0 0 [.ref (ad 0), .int (J a1), .int (J a2), .int (J a3), .int (J a4), .int (J a5), .int (J a6)] (PY D ca ad M) res (inR res ∧ RR M') (OY D ca ad M') (aS 18 ad) := by
  refine Met.ofW (cc := cX5_laysVisit) (maxL := 8) (ret := (some .int)) (by decide) rfl ?_
  intro p e s m args below meth c s₁ B hml hv
  obtain ⟨rfl, hP, hK⟩ := hv
  have hx := B.exec
  have hb := B.bytes
  have hr := B.returns
  have hts := atoms_spec (ws := wsX5_laysVisit) B.pre
  have hown : s.vm.findClass RX5 = some m.cls := findClass_of_methodNamed B.named
  have hlocks := B.notSynchronized
  have hS : va_S (aS 18 ad) s.heap s.heap [] := va_S.rf
  have hinX5 : ∀ w ∈ wsX50, w ∈ wsX5_laysVisit := by decide +kernel
  have hl := lv_entry ([.ref (ad 0), .int (J a1), .int (J a2), .int (J a3), .int (J a4), .int (J a5), .int (J a6)]) (n := 8) (Nat.le_of_ble_eq_true rfl)
  rw [lg_entry_eq]
  generalize (lg_sl ([.ref (ad 0), .int (J a1), .int (J a2), .int (J a3), .int (J a4), .int (J a5), .int (J a6)]) ++ List.replicate (8 - (lg_sl ([.ref (ad 0), .int (J a1), .int (J a2), .int (J a3), .int (J a4), .int (J a5), .int (J a6)])).length) Slot.unset).toArray = ls at hl ⊢
  have hl : lv_has ls 8 [(0, .ref (ad 0)), (1, .int (J a1)), (2, .int (J a2)), (3, .int (J a3)), (4, .int (J a4)), (5, .int (J a5)), (6, .int (J a6))] := hl
  unfold fX5_laysVisit at hf
  refine lv_bipush (v := J 33) hx hb dX5_laysVisit_0 (by decide +kernel) ?_
  refine lv_bipush (v := J 6) hx hb dX5_laysVisit_2 (by decide +kernel) ?_
  refine lv_aload_n hx hb dX5_laysVisit_4 rfl (lv_at hl 0 rfl) ?_
  refine va_get (D := D) (ci := 5) (v := .ref (ad 1)) (C := RX5) (T := TX5) (N := 23) hx hb hts hinX5 hown hK hP 0 (wL_get (by decide) (gY_0 _)) rfl 1 (by decide) (hts (.fieldLink RX5 7 "VisitVansModel" "s" "[I") (List.mem_of_getElem? (i := 1) rfl)) (fun _ h => h) rfl dX5_laysVisit_5 ?_
  refine lv_iconst (v := J 3) hx hb dX5_laysVisit_8 rfl ?_
  obtain ⟨v1, qv1, hf⟩ := bnd_some hf
  obtain ⟨bv1, ev1⟩ := rd_some qv1
  have rv1 : inR v1 := by rw [ev1]; exact hR _ _
  refine jx_iald hx hb hK hP 1 0 (by decide) gY_1 rfl (by decide) bv1 ev1 dX5_laysVisit_9 ?_
  refine jv_imul hx hb dX5_laysVisit_10 ?_
  refine jv_iadd hx hb dX5_laysVisit_11 ?_
  refine lv_istore (lv' := [(7, .int (J (33 + (6 * v1)))), (0, .ref (ad 0)), (1, .int (J a1)), (2, .int (J a2)), (3, .int (J a3)), (4, .int (J a4)), (5, .int (J a5)), (6, .int (J a6))]) hx hb dX5_laysVisit_12 hl (by decide) rfl (fun ls hl => ?_)
  refine lv_aload_n hx hb dX5_laysVisit_14 rfl (lv_at hl 1 rfl) ?_
  refine va_get (D := D) (ci := 5) (v := .ref (ad 1)) (C := RX5) (T := TX5) (N := 23) hx hb hts hinX5 hown hK hP 0 (wL_get (by decide) (gY_0 _)) rfl 1 (by decide) (hts (.fieldLink RX5 7 "VisitVansModel" "s" "[I") (List.mem_of_getElem? (i := 1) rfl)) (fun _ h => h) rfl dX5_laysVisit_15 ?_
  refine lv_iload hx hb dX5_laysVisit_18 (lv_at hl 0 rfl) ?_
  refine lv_iconst (v := J 0) hx hb dX5_laysVisit_20 rfl ?_
  refine jv_iadd hx hb dX5_laysVisit_21 ?_
  refine lv_iload_n hx hb dX5_laysVisit_22 rfl (lv_at hl 2 rfl) ?_
  obtain ⟨M2, qM2, hf⟩ := bnd_some hf
  obtain ⟨bM2, zM2, eM2⟩ := wr_some qM2
  have hRM2 : RR M2 := by rw [eM2]; exact RR_st hR _ _ zM2
  refine jx_iast hx hb hK hP hI hS 1 0 (by decide) gY_1 rfl (by decide) bM2 zM2 dX5_laysVisit_23 (fun H locs hP hS => ?_)
  rw [← eM2] at hP
  refine lv_aload_n hx hb dX5_laysVisit_24 rfl (lv_at hl 1 rfl) ?_
  refine va_get (D := D) (ci := 5) (v := .ref (ad 1)) (C := RX5) (T := TX5) (N := 23) hx hb hts hinX5 hown hK hP 0 (wL_get (by decide) (gY_0 _)) rfl 1 (by decide) (hts (.fieldLink RX5 7 "VisitVansModel" "s" "[I") (List.mem_of_getElem? (i := 1) rfl)) (fun _ h => h) rfl dX5_laysVisit_25 ?_
  refine lv_iload hx hb dX5_laysVisit_28 (lv_at hl 0 rfl) ?_
  refine lv_iconst (v := J 1) hx hb dX5_laysVisit_30 rfl ?_
  refine jv_iadd hx hb dX5_laysVisit_31 ?_
  refine lv_iload_n hx hb dX5_laysVisit_32 rfl (lv_at hl 3 rfl) ?_
  obtain ⟨M3, qM3, hf⟩ := bnd_some hf
  obtain ⟨bM3, zM3, eM3⟩ := wr_some qM3
  have hRM3 : RR M3 := by rw [eM3]; exact RR_st hRM2 _ _ zM3
  refine jx_iast hx hb hK hP hI hS 1 0 (by decide) gY_1 rfl (by decide) bM3 zM3 dX5_laysVisit_33 (fun H locs hP hS => ?_)
  rw [← eM3] at hP
  refine lv_aload_n hx hb dX5_laysVisit_34 rfl (lv_at hl 1 rfl) ?_
  refine va_get (D := D) (ci := 5) (v := .ref (ad 1)) (C := RX5) (T := TX5) (N := 23) hx hb hts hinX5 hown hK hP 0 (wL_get (by decide) (gY_0 _)) rfl 1 (by decide) (hts (.fieldLink RX5 7 "VisitVansModel" "s" "[I") (List.mem_of_getElem? (i := 1) rfl)) (fun _ h => h) rfl dX5_laysVisit_35 ?_
  refine lv_iload hx hb dX5_laysVisit_38 (lv_at hl 0 rfl) ?_
  refine lv_iconst (v := J 2) hx hb dX5_laysVisit_40 rfl ?_
  refine jv_iadd hx hb dX5_laysVisit_41 ?_
  refine lv_iload_n hx hb dX5_laysVisit_42 rfl (lv_at hl 4 rfl) ?_
  obtain ⟨M4, qM4, hf⟩ := bnd_some hf
  obtain ⟨bM4, zM4, eM4⟩ := wr_some qM4
  have hRM4 : RR M4 := by rw [eM4]; exact RR_st hRM3 _ _ zM4
  refine jx_iast hx hb hK hP hI hS 1 0 (by decide) gY_1 rfl (by decide) bM4 zM4 dX5_laysVisit_43 (fun H locs hP hS => ?_)
  rw [← eM4] at hP
  refine lv_aload_n hx hb dX5_laysVisit_44 rfl (lv_at hl 1 rfl) ?_
  refine va_get (D := D) (ci := 5) (v := .ref (ad 1)) (C := RX5) (T := TX5) (N := 23) hx hb hts hinX5 hown hK hP 0 (wL_get (by decide) (gY_0 _)) rfl 1 (by decide) (hts (.fieldLink RX5 7 "VisitVansModel" "s" "[I") (List.mem_of_getElem? (i := 1) rfl)) (fun _ h => h) rfl dX5_laysVisit_45 ?_
  refine lv_iload hx hb dX5_laysVisit_48 (lv_at hl 0 rfl) ?_
  refine lv_iconst (v := J 3) hx hb dX5_laysVisit_50 rfl ?_
  refine jv_iadd hx hb dX5_laysVisit_51 ?_
  refine lv_iload hx hb dX5_laysVisit_52 (lv_at hl 5 rfl) ?_
  obtain ⟨M5, qM5, hf⟩ := bnd_some hf
  obtain ⟨bM5, zM5, eM5⟩ := wr_some qM5
  have hRM5 : RR M5 := by rw [eM5]; exact RR_st hRM4 _ _ zM5
  refine jx_iast hx hb hK hP hI hS 1 0 (by decide) gY_1 rfl (by decide) bM5 zM5 dX5_laysVisit_54 (fun H locs hP hS => ?_)
  rw [← eM5] at hP
  refine lv_aload_n hx hb dX5_laysVisit_55 rfl (lv_at hl 1 rfl) ?_
  refine va_get (D := D) (ci := 5) (v := .ref (ad 1)) (C := RX5) (T := TX5) (N := 23) hx hb hts hinX5 hown hK hP 0 (wL_get (by decide) (gY_0 _)) rfl 1 (by decide) (hts (.fieldLink RX5 7 "VisitVansModel" "s" "[I") (List.mem_of_getElem? (i := 1) rfl)) (fun _ h => h) rfl dX5_laysVisit_56 ?_
  refine lv_iload hx hb dX5_laysVisit_59 (lv_at hl 0 rfl) ?_
  refine lv_iconst (v := J 4) hx hb dX5_laysVisit_61 rfl ?_
  refine jv_iadd hx hb dX5_laysVisit_62 ?_
  refine lv_iload hx hb dX5_laysVisit_63 (lv_at hl 6 rfl) ?_
  obtain ⟨M6, qM6, hf⟩ := bnd_some hf
  obtain ⟨bM6, zM6, eM6⟩ := wr_some qM6
  have hRM6 : RR M6 := by rw [eM6]; exact RR_st hRM5 _ _ zM6
  refine jx_iast hx hb hK hP hI hS 1 0 (by decide) gY_1 rfl (by decide) bM6 zM6 dX5_laysVisit_65 (fun H locs hP hS => ?_)
  rw [← eM6] at hP
  refine lv_aload_n hx hb dX5_laysVisit_66 rfl (lv_at hl 1 rfl) ?_
  refine va_get (D := D) (ci := 5) (v := .ref (ad 1)) (C := RX5) (T := TX5) (N := 23) hx hb hts hinX5 hown hK hP 0 (wL_get (by decide) (gY_0 _)) rfl 1 (by decide) (hts (.fieldLink RX5 7 "VisitVansModel" "s" "[I") (List.mem_of_getElem? (i := 1) rfl)) (fun _ h => h) rfl dX5_laysVisit_67 ?_
  refine lv_iload hx hb dX5_laysVisit_70 (lv_at hl 0 rfl) ?_
  refine lv_iconst (v := J 5) hx hb dX5_laysVisit_72 rfl ?_
  refine jv_iadd hx hb dX5_laysVisit_73 ?_
  refine lv_iload hx hb dX5_laysVisit_74 (lv_at hl 7 rfl) ?_
  obtain ⟨M7, qM7, hf⟩ := bnd_some hf
  obtain ⟨bM7, zM7, eM7⟩ := wr_some qM7
  have hRM7 : RR M7 := by rw [eM7]; exact RR_st hRM6 _ _ zM7
  refine jx_iast hx hb hK hP hI hS 1 0 (by decide) gY_1 rfl (by decide) bM7 zM7 dX5_laysVisit_76 (fun H locs hP hS => ?_)
  rw [← eM7] at hP
  refine lv_aload_n hx hb dX5_laysVisit_77 rfl (lv_at hl 1 rfl) ?_
  refine va_get (D := D) (ci := 5) (v := .ref (ad 1)) (C := RX5) (T := TX5) (N := 23) hx hb hts hinX5 hown hK hP 0 (wL_get (by decide) (gY_0 _)) rfl 1 (by decide) (hts (.fieldLink RX5 7 "VisitVansModel" "s" "[I") (List.mem_of_getElem? (i := 1) rfl)) (fun _ h => h) rfl dX5_laysVisit_78 ?_
  refine lv_iconst (v := J 3) hx hb dX5_laysVisit_81 rfl ?_
  refine lv_dup2_11 hx hb dX5_laysVisit_82 rfl rfl ?_
  obtain ⟨v8, qv8, hf⟩ := bnd_some hf
  obtain ⟨bv8, ev8⟩ := rd_some qv8
  have rv8 : inR v8 := by rw [ev8]; exact hRM7 _ _
  refine jx_iald hx hb hK hP 1 0 (by decide) gY_1 rfl (by decide) bv8 ev8 dX5_laysVisit_83 ?_
  refine lv_iconst (v := J 1) hx hb dX5_laysVisit_84 rfl ?_
  refine jv_iadd hx hb dX5_laysVisit_85 ?_
  obtain ⟨M9, qM9, hf⟩ := bnd_some hf
  obtain ⟨bM9, zM9, eM9⟩ := wr_some qM9
  have hRM9 : RR M9 := by rw [eM9]; exact RR_st hRM7 _ _ zM9
  refine jx_iast hx hb hK hP hI hS 1 0 (by decide) gY_1 rfl (by decide) bM9 zM9 dX5_laysVisit_86 (fun H locs hP hS => ?_)
  rw [← eM9] at hP
  refine lv_aload_n hx hb dX5_laysVisit_87 rfl (lv_at hl 1 rfl) ?_
  refine va_get (D := D) (ci := 5) (v := .ref (ad 1)) (C := RX5) (T := TX5) (N := 23) hx hb hts hinX5 hown hK hP 0 (wL_get (by decide) (gY_0 _)) rfl 1 (by decide) (hts (.fieldLink RX5 7 "VisitVansModel" "s" "[I") (List.mem_of_getElem? (i := 1) rfl)) (fun _ h => h) rfl dX5_laysVisit_88 ?_
  refine lv_iconst (v := J 3) hx hb dX5_laysVisit_91 rfl ?_
  obtain ⟨v10, qv10, hf⟩ := bnd_some hf
  obtain ⟨bv10, ev10⟩ := rd_some qv10
  have rv10 : inR v10 := by rw [ev10]; exact hRM9 _ _
  refine jx_iald hx hb hK hP 1 0 (by decide) gY_1 rfl (by decide) bv10 ev10 dX5_laysVisit_92 ?_
  refine lv_iconst (v := J 1) hx hb dX5_laysVisit_93 rfl ?_
  refine jv_isub hx hb dX5_laysVisit_94 ?_
  obtain ⟨g11, hf⟩ := gd_some hf
  obtain ⟨e1, e2⟩ := Prod.mk.inj (Option.some.inj hf)
  exact jend_i hx hb hr rfl hS e1 ⟨by rw [← e1]; exact g11, by rw [← e2]; exact hRM9⟩ (oY e2 hP) dX5_laysVisit_95 hlocks
def fX5_visit (a1 : Int) (a2 : Int) (a3 : Int) (a4 : Int) (a5 : Int) (a6 : Int) (M : MM) : Option (Int × MM) := bnd (some (stM M 0 0 0)) (fun M1 => bnd (fX5_refusesVisit a1 a2 a3 a4 a5 a6 M1) (fun v2 => if v2 = 0 then bnd (fX5_records M1) (fun M6 => bnd2 (fX5_laysVisit a1 a2 a3 a4 a5 a6 M6) (fun v7 M8 => some (v7, M8))) else some (v2, M1)))
set_option maxHeartbeats 4000000 in
set_option maxRecDepth 100000 in
theorem kX5_visit (l : Launch) (D : va_G) (ca : Nat → ClassId) (ad : Nat → Nat) (hI : aInj 18 ad) (M : MM) (hR : RR M) (a1 : Int) (a2 : Int) (a3 : Int) (a4 : Int) (a5 : Int) (a6 : Int) (i1 : inR a1) (i2 : inR a2) (i3 : inR a3) (i4 : inR a4) (i5 : inR a5) (i6 : inR a6) (res : Int) (M' : MM) (hf : fX5_visit a1 a2 a3 a4 a5 a6 M = some (res, M')) : CI l yX5_visit wsX5_visit 3 74 [.ref (ad 0), .int (J a1), .int (J a2), .int (J a3), .int (J a4), .int (J a5), .int (J a6)] (PY D ca ad M) res (inR res ∧ RR M') (OY D ca ad M') (aS 18 ad) := by
  refine Met.ofW (cc := cX5_visit) (maxL := 8) (ret := (some .int)) (by decide) rfl ?_
  intro p e s m args below meth c s₁ B hml hv
  obtain ⟨rfl, hP, hK⟩ := hv
  have hx := B.exec
  have hb := B.bytes
  have hr := B.returns
  have hts := atoms_spec (ws := wsX5_visit) B.pre
  have hown : s.vm.findClass RX5 = some m.cls := findClass_of_methodNamed B.named
  have hlocks := B.notSynchronized
  have hS : va_S (aS 18 ad) s.heap s.heap [] := va_S.rf
  have hinX5 : ∀ w ∈ wsX50, w ∈ wsX5_visit := by decide +kernel
  have hl := lv_entry ([.ref (ad 0), .int (J a1), .int (J a2), .int (J a3), .int (J a4), .int (J a5), .int (J a6)]) (n := 8) (Nat.le_of_ble_eq_true rfl)
  rw [lg_entry_eq]
  generalize (lg_sl ([.ref (ad 0), .int (J a1), .int (J a2), .int (J a3), .int (J a4), .int (J a5), .int (J a6)]) ++ List.replicate (8 - (lg_sl ([.ref (ad 0), .int (J a1), .int (J a2), .int (J a3), .int (J a4), .int (J a5), .int (J a6)])).length) Slot.unset).toArray = ls at hl ⊢
  have hl : lv_has ls 8 [(0, .ref (ad 0)), (1, .int (J a1)), (2, .int (J a2)), (3, .int (J a3)), (4, .int (J a4)), (5, .int (J a5)), (6, .int (J a6))] := hl
  unfold fX5_visit at hf
  refine lv_aload_n hx hb dX5_visit_0 rfl (lv_at hl 0 rfl) ?_
  refine lv_iconst (v := J 0) hx hb dX5_visit_1 rfl ?_
  obtain ⟨M1, eM1, hf⟩ := bnd_some hf
  have eM1 := Option.some.inj eM1
  have hRM1 : RR M1 := by rw [← eM1]; exact RR_st hR 0 0 (by decide : inR 0)
  refine va_put (D := D) (ci := 5) (v := .int (J 0)) (ty := .int) (C := RX5) (T := TX5) (N := 23) hx hb hts hinX5 tyX5 tyX5_ok nmX5 hown hK hP (wL_D hI M) hS 0 (wL_get (by decide) (gY_0 _)) rfl 0 (by decide) (hts (.fieldLink RX5 62 "VisitVansModel" "thrown" "I") (List.mem_of_getElem? (i := 1) rfl)) (fun _ h => h) rfl rfl rfl rfl (Nat.le_of_ble_eq_true rfl) dX5_visit_2 (fun H locs hP hD hS => ?_)
  have hP : va_P D vwCl (wY ca ad M1) H := by rw [← eM1]; exact hPset (gY_0_s0) stM_o hP
  refine lv_aload_n hx hb dX5_visit_5 rfl (lv_at hl 0 rfl) ?_
  refine lv_iload_n hx hb dX5_visit_6 rfl (lv_at hl 1 rfl) ?_
  refine lv_iload_n hx hb dX5_visit_7 rfl (lv_at hl 2 rfl) ?_
  refine lv_iload_n hx hb dX5_visit_8 rfl (lv_at hl 3 rfl) ?_
  refine lv_iload hx hb dX5_visit_9 (lv_at hl 4 rfl) ?_
  refine lv_iload hx hb dX5_visit_11 (lv_at hl 5 rfl) ?_
  refine lv_iload hx hb dX5_visit_13 (lv_at hl 6 rfl) ?_
  obtain ⟨v2, qv2, hf⟩ := bnd_some hf
  refine jc_i (va_runV (As := [.int (J a1), .int (J a2), .int (J a3), .int (J a4), .int (J a5), .int (J a6)]) (rest := []) ⟨hx, hb, hml, hown, hts⟩ (kX5_refusesVisit l D ca ad hI M1 hRM1 a1 a2 a3 a4 a5 a6 i1 i2 i3 i4 i5 i6 v2 qv2) (cwV 6 hts gX5_visit_X5_refusesVisit rfl rfl rfl (by decide +kernel) ⟨Nat.le_of_ble_eq_true rfl, Nat.le_of_ble_eq_true rfl⟩) (pvY hK hP [.int (J a1), .int (J a2), .int (J a3), .int (J a4), .int (J a5), .int (J a6)]) rfl rfl hl.1 rfl (lv_room (Nat.le_of_ble_eq_true rfl)) dX5_visit_15 ⟨Nat.zero_le _, Nat.zero_le _⟩) hS (fun H locs t ht hφ hO hS => ?_)
  have rv2 := hφ
  have hP : va_P D vwCl (wY ca ad M1) H := by rw [← ht]; exact hO
  refine lv_istore (lv' := [(7, .int (J v2)), (0, .ref (ad 0)), (1, .int (J a1)), (2, .int (J a2)), (3, .int (J a3)), (4, .int (J a4)), (5, .int (J a5)), (6, .int (J a6))]) hx hb dX5_visit_18 hl (by decide) rfl (fun ls hl => ?_)
  refine lv_iload hx hb dX5_visit_20 (lv_at hl 0 rfl) ?_
  refine jv_if_eq (tgt := 28) hx hb dX5_visit_22 (by decide) rv2 (fun c4 => ?_) (fun c4 => ?_)
  · have hf := itep hf c4
    refine lv_aload_n hx hb dX5_visit_28 rfl (lv_at hl 1 rfl) ?_
    obtain ⟨M6, qM6, hf⟩ := bnd_some hf
    refine jc_v (va_runV (As := []) (rest := []) ⟨hx, hb, hml, hown, hts⟩ (kX5_records l D ca ad hI M1 hRM1 M6 qM6) (cwV 0 hts gX5_visit_X5_records rfl rfl rfl (by decide +kernel) ⟨Nat.le_of_ble_eq_true rfl, Nat.le_of_ble_eq_true rfl⟩) (pvY hK hP []) rfl rfl hl.1 rfl (lv_room (Nat.le_of_ble_eq_true rfl)) dX5_visit_29 ⟨Nat.zero_le _, Nat.zero_le _⟩) hS (fun H locs t ht hφ hO hS => ?_)
    have hRM6 := hφ
    have hP : va_P D vwCl (wY ca ad M6) H := by rw [← ht]; exact hO
    refine lv_aload_n hx hb dX5_visit_32 rfl (lv_at hl 1 rfl) ?_
    refine lv_iload_n hx hb dX5_visit_33 rfl (lv_at hl 2 rfl) ?_
    refine lv_iload_n hx hb dX5_visit_34 rfl (lv_at hl 3 rfl) ?_
    refine lv_iload_n hx hb dX5_visit_35 rfl (lv_at hl 4 rfl) ?_
    refine lv_iload hx hb dX5_visit_36 (lv_at hl 5 rfl) ?_
    refine lv_iload hx hb dX5_visit_38 (lv_at hl 6 rfl) ?_
    refine lv_iload hx hb dX5_visit_40 (lv_at hl 7 rfl) ?_
    obtain ⟨v7, M8, qv7, hf⟩ := bnd2_some hf
    refine jc_i (va_runV (As := [.int (J a1), .int (J a2), .int (J a3), .int (J a4), .int (J a5), .int (J a6)]) (rest := []) ⟨hx, hb, hml, hown, hts⟩ (kX5_laysVisit l D ca ad hI M6 hRM6 a1 a2 a3 a4 a5 a6 i1 i2 i3 i4 i5 i6 v7 M8 qv7) (cwV 6 hts gX5_visit_X5_laysVisit rfl rfl rfl (by decide +kernel) ⟨Nat.le_of_ble_eq_true rfl, Nat.le_of_ble_eq_true rfl⟩) (pvY hK hP [.int (J a1), .int (J a2), .int (J a3), .int (J a4), .int (J a5), .int (J a6)]) rfl rfl hl.1 rfl (lv_room (Nat.le_of_ble_eq_true rfl)) dX5_visit_42 ⟨Nat.zero_le _, Nat.zero_le _⟩) hS (fun H locs t ht hφ hO hS => ?_)
    obtain ⟨rv7, hRM8⟩ := hφ
    have hP : va_P D vwCl (wY ca ad M8) H := by rw [← ht]; exact hO
    obtain ⟨e1, e2⟩ := Prod.mk.inj (Option.some.inj hf)
    exact jend_i hx hb hr rfl hS e1 ⟨by rw [← e1]; exact rv7, by rw [← e2]; exact hRM8⟩ (oY e2 hP) dX5_visit_45 hlocks
  · have hf := iten hf c4
    refine lv_iload hx hb dX5_visit_25 (lv_at hl 0 rfl) ?_
    obtain ⟨e1, e2⟩ := Prod.mk.inj (Option.some.inj hf)
    exact jend_i hx hb hr rfl hS e1 ⟨by rw [← e1]; exact rv2, by rw [← e2]; exact hRM1⟩ (oY e2 hP) dX5_visit_27 hlocks
def fX5_isVisit (a1 : Int) (M : MM) : Option (Int) := bnd (rd M 1 160 3) (fun v1 => gd (inR (v1 - 1)) (bnd (fX5_in a1 0 (v1 - 1)) (fun v3 => gd (v3 = 0 ∨ v3 = 1) (some v3))))
set_option maxHeartbeats 4000000 in
set_option maxRecDepth 100000 in
theorem kX5_isVisit (l : Launch) (D : va_G) (ca : Nat → ClassId) (ad : Nat → Nat) (hI : aInj 18 ad) (M : MM) (hR : RR M) (a1 : Int) (i1 : inR a1) (res : Int) (hf : fX5_isVisit a1 M = some res) : CI l yX5_isVisit wsX5_isVisit 1 22 [.ref (ad 0), .int (J a1)] (PY D ca ad M) res (inR res) (OY D ca ad M) (aS 18 ad) := by
  refine Met.ofW (cc := cX5_isVisit) (maxL := 2) (ret := (some .boolean)) (by decide) rfl ?_
  intro p e s m args below meth c s₁ B hml hv
  obtain ⟨rfl, hP, hK⟩ := hv
  have hx := B.exec
  have hb := B.bytes
  have hr := B.returns
  have hts := atoms_spec (ws := wsX5_isVisit) B.pre
  have hown : s.vm.findClass RX5 = some m.cls := findClass_of_methodNamed B.named
  have hlocks := B.notSynchronized
  have hS : va_S (aS 18 ad) s.heap s.heap [] := va_S.rf
  have hinX5 : ∀ w ∈ wsX50, w ∈ wsX5_isVisit := by decide +kernel
  have hl := lv_entry ([.ref (ad 0), .int (J a1)]) (n := 2) (Nat.le_of_ble_eq_true rfl)
  rw [lg_entry_eq]
  generalize (lg_sl ([.ref (ad 0), .int (J a1)]) ++ List.replicate (2 - (lg_sl ([.ref (ad 0), .int (J a1)])).length) Slot.unset).toArray = ls at hl ⊢
  have hl : lv_has ls 2 [(0, .ref (ad 0)), (1, .int (J a1))] := hl
  unfold fX5_isVisit at hf
  refine lv_iload_n hx hb dX5_isVisit_0 rfl (lv_at hl 1 rfl) ?_
  refine lv_iconst (v := J 0) hx hb dX5_isVisit_1 rfl ?_
  refine lv_aload_n hx hb dX5_isVisit_2 rfl (lv_at hl 0 rfl) ?_
  refine va_get (D := D) (ci := 5) (v := .ref (ad 1)) (C := RX5) (T := TX5) (N := 23) hx hb hts hinX5 hown hK hP 0 (wL_get (by decide) (gY_0 _)) rfl 1 (by decide) (hts (.fieldLink RX5 7 "VisitVansModel" "s" "[I") (List.mem_of_getElem? (i := 1) rfl)) (fun _ h => h) rfl dX5_isVisit_3 ?_
  refine lv_iconst (v := J 3) hx hb dX5_isVisit_6 rfl ?_
  obtain ⟨v1, qv1, hf⟩ := bnd_some hf
  obtain ⟨bv1, ev1⟩ := rd_some qv1
  have rv1 : inR v1 := by rw [ev1]; exact hR _ _
  refine jx_iald hx hb hK hP 1 0 (by decide) gY_1 rfl (by decide) bv1 ev1 dX5_isVisit_7 ?_
  refine lv_iconst (v := J 1) hx hb dX5_isVisit_8 rfl ?_
  refine jv_isub hx hb dX5_isVisit_9 ?_
  obtain ⟨g2, hf⟩ := gd_some hf
  obtain ⟨v3, qv3, hf⟩ := bnd_some hf
  refine jc_i (va_runS (As := [.int (J a1), .int (J 0), .int (J (v1 - 1))]) (rest := []) ⟨hx, hb, hml, hown, hts⟩ (kX5_in l D ca ad hI M hR a1 0 (v1 - 1) i1 (by decide : inR 0) g2 v3 qv3) (va_cwS 3 hts gX5_isVisit_X5_in rfl rfl rfl (by decide +kernel) ⟨Nat.le_of_ble_eq_true rfl, Nat.le_of_ble_eq_true rfl⟩) (psY hK hP [.int (J a1), .int (J 0), .int (J (v1 - 1))]) rfl rfl hl.1 rfl (lv_room (Nat.le_of_ble_eq_true rfl)) dX5_isVisit_10 ⟨Nat.zero_le _, Nat.zero_le _⟩) hS (fun H locs t ht hφ hO hS => ?_)
  have rv3 := hφ
  have hP : va_P D vwCl (wY ca ad M) H := by rw [← ht]; exact hO
  obtain ⟨g5, hf⟩ := gd_some hf
  have e1 := Option.some.inj hf
  exact jend_i hx hb hr (J_wZ g5).1 hS e1 (by rw [← e1]; exact rv3) (oY rfl hP) dX5_isVisit_13 hlocks
def fX5_dropsVisit_L15 : Nat → Int → MM → Option (MM)
  | 0, _, _ => none
  | n + 1, x2_3, M_3 => bnd (rd M_3 1 160 3) (fun v5 => gd (inR (6 * v5)) (if (6 * v5) ≤ x2_3 then some M_3 else bnd (rd M_3 1 160 ((33 + x2_3) + 6)) (fun v8 => bnd (wr M_3 1 160 (33 + x2_3) v8) (fun M9 => gd (inR (x2_3 + 1)) (fX5_dropsVisit_L15 n (x2_3 + 1) M9)))))
def fX5_dropsVisit_L57 : Nat → Int → MM → Option (MM)
  | 0, _, _ => none
  | n + 1, x2_11, M_11 => if 6 ≤ x2_11 then some M_11 else bnd (rd M_11 1 160 3) (fun v13 => bnd (wr M_11 1 160 ((33 + (6 * v13)) + x2_11) 0) (fun M14 => gd (inR (x2_11 + 1)) (fX5_dropsVisit_L57 n (x2_11 + 1) M14)))
def fX5_dropsVisit (a1 : Int) (M : MM) : Option (Int × MM) := bnd (rd M 1 160 3) (fun v1 => bnd (wr M 1 160 3 (v1 - 1)) (fun M2 => gd (inR (6 * a1)) (bnd (fX5_dropsVisit_L15 4000 (6 * a1) M2) (fun N_3 => bnd (fX5_dropsVisit_L57 4000 0 N_3) (fun N_11 => bnd (rd N_11 1 160 3) (fun v16 => some (v16, N_11)))))))
set_option maxHeartbeats 4000000 in
set_option maxRecDepth 100000 in
theorem kX5_dropsVisit (l : Launch) (D : va_G) (ca : Nat → ClassId) (ad : Nat → Nat) (hI : aInj 18 ad) (M : MM) (hR : RR M) (a1 : Int) (i1 : inR a1) (res : Int) (M' : MM) (hf : fX5_dropsVisit a1 M = some (res, M')) : CI l yX5_dropsVisit wsX5_dropsVisit 0 0 [.ref (ad 0), .int (J a1)] (PY D ca ad M) res (inR res ∧ RR M') (OY D ca ad M') (aS 18 ad) := by
  refine Met.ofW (cc := cX5_dropsVisit) (maxL := 3) (ret := (some .int)) (by decide) rfl ?_
  intro p e s m args below meth c s₁ B hml hv
  obtain ⟨rfl, hP, hK⟩ := hv
  have hx := B.exec
  have hb := B.bytes
  have hr := B.returns
  have hts := atoms_spec (ws := wsX5_dropsVisit) B.pre
  have hown : s.vm.findClass RX5 = some m.cls := findClass_of_methodNamed B.named
  have hlocks := B.notSynchronized
  have hS : va_S (aS 18 ad) s.heap s.heap [] := va_S.rf
  have hinX5 : ∀ w ∈ wsX50, w ∈ wsX5_dropsVisit := by decide +kernel
  have hl := lv_entry ([.ref (ad 0), .int (J a1)]) (n := 3) (Nat.le_of_ble_eq_true rfl)
  rw [lg_entry_eq]
  generalize (lg_sl ([.ref (ad 0), .int (J a1)]) ++ List.replicate (3 - (lg_sl ([.ref (ad 0), .int (J a1)])).length) Slot.unset).toArray = ls at hl ⊢
  have hl : lv_has ls 3 [(0, .ref (ad 0)), (1, .int (J a1))] := hl
  unfold fX5_dropsVisit at hf
  refine lv_aload_n hx hb dX5_dropsVisit_0 rfl (lv_at hl 0 rfl) ?_
  refine va_get (D := D) (ci := 5) (v := .ref (ad 1)) (C := RX5) (T := TX5) (N := 23) hx hb hts hinX5 hown hK hP 0 (wL_get (by decide) (gY_0 _)) rfl 1 (by decide) (hts (.fieldLink RX5 7 "VisitVansModel" "s" "[I") (List.mem_of_getElem? (i := 1) rfl)) (fun _ h => h) rfl dX5_dropsVisit_1 ?_
  refine lv_iconst (v := J 3) hx hb dX5_dropsVisit_4 rfl ?_
  refine lv_dup2_11 hx hb dX5_dropsVisit_5 rfl rfl ?_
  obtain ⟨v1, qv1, hf⟩ := bnd_some hf
  obtain ⟨bv1, ev1⟩ := rd_some qv1
  have rv1 : inR v1 := by rw [ev1]; exact hR _ _
  refine jx_iald hx hb hK hP 1 0 (by decide) gY_1 rfl (by decide) bv1 ev1 dX5_dropsVisit_6 ?_
  refine lv_iconst (v := J 1) hx hb dX5_dropsVisit_7 rfl ?_
  refine jv_isub hx hb dX5_dropsVisit_8 ?_
  obtain ⟨M2, qM2, hf⟩ := bnd_some hf
  obtain ⟨bM2, zM2, eM2⟩ := wr_some qM2
  have hRM2 : RR M2 := by rw [eM2]; exact RR_st hR _ _ zM2
  refine jx_iast hx hb hK hP hI hS 1 0 (by decide) gY_1 rfl (by decide) bM2 zM2 dX5_dropsVisit_9 (fun H locs hP hS => ?_)
  rw [← eM2] at hP
  refine lv_bipush (v := J 6) hx hb dX5_dropsVisit_10 (by decide +kernel) ?_
  refine lv_iload_n hx hb dX5_dropsVisit_12 rfl (lv_at hl 1 rfl) ?_
  refine jv_imul hx hb dX5_dropsVisit_13 ?_
  refine lv_istore_n (lv' := [(2, .int (J (6 * a1))), (0, .ref (ad 0)), (1, .int (J a1))]) hx hb dX5_dropsVisit_14 rfl hl (by decide) rfl (fun ls hl => ?_)
  obtain ⟨g4, hf⟩ := gd_some hf
  obtain ⟨N_3, h3, hf⟩ := bnd_some hf
  have K3 : ∀ (H : Heap) (locs : List Loc) (ls : Array Slot), RR N_3 → va_P D vwCl (wY ca ad N_3) H → va_S (aS 18 ad) s.heap H locs → lv_has ls 3 [(0, .ref (ad 0))] → W p l e (headSpec wsX5_dropsVisit (RmC 0 0)).room s m ([.ref (ad 0), .int (J a1)] : List Value).toArray below meth c H locs 0 0 (MQ below (va_Qi (fun x (_ : Unit) => x = J res ∧ (inR res ∧ RR M')) (fun _ => (OY D ca ad M')) (aS 18 ad)) ([.ref (ad 0), .int (J a1)] : List Value).toArray s 0 0 (aS 18 ad)) (F0 m 55 ls []) := by
    intro H locs ls hRN_3 hP hS hl
    refine lv_iconst (v := J 0) hx hb dX5_dropsVisit_55 rfl ?_
    refine lv_istore_n (lv' := [(2, .int (J 0)), (0, .ref (ad 0))]) hx hb dX5_dropsVisit_56 rfl hl (by decide) rfl (fun ls hl => ?_)
    obtain ⟨N_11, h11, hf⟩ := bnd_some hf
    have K11 : ∀ (H : Heap) (locs : List Loc) (ls : Array Slot), RR N_11 → va_P D vwCl (wY ca ad N_11) H → va_S (aS 18 ad) s.heap H locs → lv_has ls 3 [(0, .ref (ad 0))] → W p l e (headSpec wsX5_dropsVisit (RmC 0 0)).room s m ([.ref (ad 0), .int (J a1)] : List Value).toArray below meth c H locs 0 0 (MQ below (va_Qi (fun x (_ : Unit) => x = J res ∧ (inR res ∧ RR M')) (fun _ => (OY D ca ad M')) (aS 18 ad)) ([.ref (ad 0), .int (J a1)] : List Value).toArray s 0 0 (aS 18 ad)) (F0 m 89 ls []) := by
      intro H locs ls hRN_11 hP hS hl
      refine lv_aload_n hx hb dX5_dropsVisit_89 rfl (lv_at hl 0 rfl) ?_
      refine va_get (D := D) (ci := 5) (v := .ref (ad 1)) (C := RX5) (T := TX5) (N := 23) hx hb hts hinX5 hown hK hP 0 (wL_get (by decide) (gY_0 _)) rfl 1 (by decide) (hts (.fieldLink RX5 7 "VisitVansModel" "s" "[I") (List.mem_of_getElem? (i := 1) rfl)) (fun _ h => h) rfl dX5_dropsVisit_90 ?_
      refine lv_iconst (v := J 3) hx hb dX5_dropsVisit_93 rfl ?_
      obtain ⟨v16, qv16, hf⟩ := bnd_some hf
      obtain ⟨bv16, ev16⟩ := rd_some qv16
      have rv16 : inR v16 := by rw [ev16]; exact hRN_11 _ _
      refine jx_iald hx hb hK hP 1 0 (by decide) gY_1 rfl (by decide) bv16 ev16 dX5_dropsVisit_94 ?_
      obtain ⟨e1, e2⟩ := Prod.mk.inj (Option.some.inj hf)
      exact jend_i hx hb hr rfl hS e1 ⟨by rw [← e1]; exact rv16, by rw [← e2]; exact hRN_11⟩ (oY e2 hP) dX5_dropsVisit_95 hlocks
    have hL11 : ∀ (n : Nat) (x2_11 : Int) (M_11 : MM) (H : Heap) (locs : List Loc) (ls : Array Slot), inR x2_11 → RR M_11 → va_P D vwCl (wY ca ad M_11) H → va_S (aS 18 ad) s.heap H locs → lv_has ls 3 [(0, .ref (ad 0)), (2, .int (J x2_11))] → fX5_dropsVisit_L57 n x2_11 M_11 = some N_11 → W p l e (headSpec wsX5_dropsVisit (RmC 0 0)).room s m ([.ref (ad 0), .int (J a1)] : List Value).toArray below meth c H locs 0 0 (MQ below (va_Qi (fun x (_ : Unit) => x = J res ∧ (inR res ∧ RR M')) (fun _ => (OY D ca ad M')) (aS 18 ad)) ([.ref (ad 0), .int (J a1)] : List Value).toArray s 0 0 (aS 18 ad)) (F0 m 57 ls []) := by
      intro n
      induction n with
      | zero =>
        intro x2_11 M_11 H locs ls rx2_11 hRM_11 hP hS hl hf
        rw [fX5_dropsVisit_L57] at hf
        cases hf
      | succ n ih =>
        intro x2_11 M_11 H locs ls rx2_11 hRM_11 hP hS hl hf
        rw [fX5_dropsVisit_L57] at hf
        refine lv_iload_n hx hb dX5_dropsVisit_57 rfl (lv_at hl 1 rfl) ?_
        refine lv_bipush (v := J 6) hx hb dX5_dropsVisit_58 (by decide +kernel) ?_
        refine jv_icmp_ge (tgt := 89) hx hb dX5_dropsVisit_60 (by decide) rx2_11 (by decide : inR 6) (fun c12 => ?_) (fun c12 => ?_)
        · have hf := itep hf c12
          cases hf
          exact K11 _ _ _ hRM_11 hP hS (lv_sub hl [0] rfl)
        · have hf := iten hf c12
          refine lv_aload_n hx hb dX5_dropsVisit_63 rfl (lv_at hl 0 rfl) ?_
          refine va_get (D := D) (ci := 5) (v := .ref (ad 1)) (C := RX5) (T := TX5) (N := 23) hx hb hts hinX5 hown hK hP 0 (wL_get (by decide) (gY_0 _)) rfl 1 (by decide) (hts (.fieldLink RX5 7 "VisitVansModel" "s" "[I") (List.mem_of_getElem? (i := 1) rfl)) (fun _ h => h) rfl dX5_dropsVisit_64 ?_
          refine lv_bipush (v := J 33) hx hb dX5_dropsVisit_67 (by decide +kernel) ?_
          refine lv_bipush (v := J 6) hx hb dX5_dropsVisit_69 (by decide +kernel) ?_
          refine lv_aload_n hx hb dX5_dropsVisit_71 rfl (lv_at hl 0 rfl) ?_
          refine va_get (D := D) (ci := 5) (v := .ref (ad 1)) (C := RX5) (T := TX5) (N := 23) hx hb hts hinX5 hown hK hP 0 (wL_get (by decide) (gY_0 _)) rfl 1 (by decide) (hts (.fieldLink RX5 7 "VisitVansModel" "s" "[I") (List.mem_of_getElem? (i := 1) rfl)) (fun _ h => h) rfl dX5_dropsVisit_72 ?_
          refine lv_iconst (v := J 3) hx hb dX5_dropsVisit_75 rfl ?_
          obtain ⟨v13, qv13, hf⟩ := bnd_some hf
          obtain ⟨bv13, ev13⟩ := rd_some qv13
          have rv13 : inR v13 := by rw [ev13]; exact hRM_11 _ _
          refine jx_iald hx hb hK hP 1 0 (by decide) gY_1 rfl (by decide) bv13 ev13 dX5_dropsVisit_76 ?_
          refine jv_imul hx hb dX5_dropsVisit_77 ?_
          refine jv_iadd hx hb dX5_dropsVisit_78 ?_
          refine lv_iload_n hx hb dX5_dropsVisit_79 rfl (lv_at hl 1 rfl) ?_
          refine jv_iadd hx hb dX5_dropsVisit_80 ?_
          refine lv_iconst (v := J 0) hx hb dX5_dropsVisit_81 rfl ?_
          obtain ⟨M14, qM14, hf⟩ := bnd_some hf
          obtain ⟨bM14, zM14, eM14⟩ := wr_some qM14
          have hRM14 : RR M14 := by rw [eM14]; exact RR_st hRM_11 _ _ zM14
          refine jx_iast hx hb hK hP hI hS 1 0 (by decide) gY_1 rfl (by decide) bM14 zM14 dX5_dropsVisit_82 (fun H locs hP hS => ?_)
          rw [← eM14] at hP
          refine lv_iinc (v := J (x2_11 + 1)) (lv' := [(2, .int (J (x2_11 + 1))), (0, .ref (ad 0))]) hx hb dX5_dropsVisit_83 hl (k := 1) rfl (J_add _ _) (by decide) rfl (fun ls hl => ?_)
          refine lv_goto (tgt := 57) hx hb dX5_dropsVisit_86 (by decide) ?_
          obtain ⟨g15, hf⟩ := gd_some hf
          exact ih _ _ _ _ _ g15 hRM14 hP hS (lv_sub hl [1, 0] rfl) hf
    exact hL11 4000 _ _ _ _ _ (by decide : inR 0) hRN_3 hP hS (lv_sub hl [1, 0] rfl) h11
  have hL3 : ∀ (n : Nat) (x2_3 : Int) (M_3 : MM) (H : Heap) (locs : List Loc) (ls : Array Slot), inR x2_3 → RR M_3 → va_P D vwCl (wY ca ad M_3) H → va_S (aS 18 ad) s.heap H locs → lv_has ls 3 [(0, .ref (ad 0)), (2, .int (J x2_3))] → fX5_dropsVisit_L15 n x2_3 M_3 = some N_3 → W p l e (headSpec wsX5_dropsVisit (RmC 0 0)).room s m ([.ref (ad 0), .int (J a1)] : List Value).toArray below meth c H locs 0 0 (MQ below (va_Qi (fun x (_ : Unit) => x = J res ∧ (inR res ∧ RR M')) (fun _ => (OY D ca ad M')) (aS 18 ad)) ([.ref (ad 0), .int (J a1)] : List Value).toArray s 0 0 (aS 18 ad)) (F0 m 15 ls []) := by
    intro n
    induction n with
    | zero =>
      intro x2_3 M_3 H locs ls rx2_3 hRM_3 hP hS hl hf
      rw [fX5_dropsVisit_L15] at hf
      cases hf
    | succ n ih =>
      intro x2_3 M_3 H locs ls rx2_3 hRM_3 hP hS hl hf
      rw [fX5_dropsVisit_L15] at hf
      refine lv_iload_n hx hb dX5_dropsVisit_15 rfl (lv_at hl 1 rfl) ?_
      refine lv_bipush (v := J 6) hx hb dX5_dropsVisit_16 (by decide +kernel) ?_
      refine lv_aload_n hx hb dX5_dropsVisit_18 rfl (lv_at hl 0 rfl) ?_
      refine va_get (D := D) (ci := 5) (v := .ref (ad 1)) (C := RX5) (T := TX5) (N := 23) hx hb hts hinX5 hown hK hP 0 (wL_get (by decide) (gY_0 _)) rfl 1 (by decide) (hts (.fieldLink RX5 7 "VisitVansModel" "s" "[I") (List.mem_of_getElem? (i := 1) rfl)) (fun _ h => h) rfl dX5_dropsVisit_19 ?_
      refine lv_iconst (v := J 3) hx hb dX5_dropsVisit_22 rfl ?_
      obtain ⟨v5, qv5, hf⟩ := bnd_some hf
      obtain ⟨bv5, ev5⟩ := rd_some qv5
      have rv5 : inR v5 := by rw [ev5]; exact hRM_3 _ _
      refine jx_iald hx hb hK hP 1 0 (by decide) gY_1 rfl (by decide) bv5 ev5 dX5_dropsVisit_23 ?_
      refine jv_imul hx hb dX5_dropsVisit_24 ?_
      obtain ⟨g6, hf⟩ := gd_some hf
      refine jv_icmp_ge (tgt := 55) hx hb dX5_dropsVisit_25 (by decide) rx2_3 g6 (fun c7 => ?_) (fun c7 => ?_)
      · have hf := itep hf c7
        cases hf
        exact K3 _ _ _ hRM_3 hP hS (lv_sub hl [0] rfl)
      · have hf := iten hf c7
        refine lv_aload_n hx hb dX5_dropsVisit_28 rfl (lv_at hl 0 rfl) ?_
        refine va_get (D := D) (ci := 5) (v := .ref (ad 1)) (C := RX5) (T := TX5) (N := 23) hx hb hts hinX5 hown hK hP 0 (wL_get (by decide) (gY_0 _)) rfl 1 (by decide) (hts (.fieldLink RX5 7 "VisitVansModel" "s" "[I") (List.mem_of_getElem? (i := 1) rfl)) (fun _ h => h) rfl dX5_dropsVisit_29 ?_
        refine lv_bipush (v := J 33) hx hb dX5_dropsVisit_32 (by decide +kernel) ?_
        refine lv_iload_n hx hb dX5_dropsVisit_34 rfl (lv_at hl 1 rfl) ?_
        refine jv_iadd hx hb dX5_dropsVisit_35 ?_
        refine lv_aload_n hx hb dX5_dropsVisit_36 rfl (lv_at hl 0 rfl) ?_
        refine va_get (D := D) (ci := 5) (v := .ref (ad 1)) (C := RX5) (T := TX5) (N := 23) hx hb hts hinX5 hown hK hP 0 (wL_get (by decide) (gY_0 _)) rfl 1 (by decide) (hts (.fieldLink RX5 7 "VisitVansModel" "s" "[I") (List.mem_of_getElem? (i := 1) rfl)) (fun _ h => h) rfl dX5_dropsVisit_37 ?_
        refine lv_bipush (v := J 33) hx hb dX5_dropsVisit_40 (by decide +kernel) ?_
        refine lv_iload_n hx hb dX5_dropsVisit_42 rfl (lv_at hl 1 rfl) ?_
        refine jv_iadd hx hb dX5_dropsVisit_43 ?_
        refine lv_bipush (v := J 6) hx hb dX5_dropsVisit_44 (by decide +kernel) ?_
        refine jv_iadd hx hb dX5_dropsVisit_46 ?_
        obtain ⟨v8, qv8, hf⟩ := bnd_some hf
        obtain ⟨bv8, ev8⟩ := rd_some qv8
        have rv8 : inR v8 := by rw [ev8]; exact hRM_3 _ _
        refine jx_iald hx hb hK hP 1 0 (by decide) gY_1 rfl (by decide) bv8 ev8 dX5_dropsVisit_47 ?_
        obtain ⟨M9, qM9, hf⟩ := bnd_some hf
        obtain ⟨bM9, zM9, eM9⟩ := wr_some qM9
        have hRM9 : RR M9 := by rw [eM9]; exact RR_st hRM_3 _ _ zM9
        refine jx_iast hx hb hK hP hI hS 1 0 (by decide) gY_1 rfl (by decide) bM9 zM9 dX5_dropsVisit_48 (fun H locs hP hS => ?_)
        rw [← eM9] at hP
        refine lv_iinc (v := J (x2_3 + 1)) (lv' := [(2, .int (J (x2_3 + 1))), (0, .ref (ad 0))]) hx hb dX5_dropsVisit_49 hl (k := 1) rfl (J_add _ _) (by decide) rfl (fun ls hl => ?_)
        refine lv_goto (tgt := 15) hx hb dX5_dropsVisit_52 (by decide) ?_
        obtain ⟨g10, hf⟩ := gd_some hf
        exact ih _ _ _ _ _ g10 hRM9 hP hS (lv_sub hl [1, 0] rfl) hf
  exact hL3 4000 _ _ _ _ _ g4 hRM2 hP hS (lv_sub hl [1, 0] rfl) h3
def fX5_drop (a1 : Int) (M : MM) : Option (Int × MM) := bnd (some (stM M 0 0 0)) (fun M1 => bnd (fX5_isVisit a1 M1) (fun v2 => if v2 = 0 then some ((-1), M1) else bnd (fX5_records M1) (fun M6 => bnd2 (fX5_dropsVisit a1 M6) (fun v7 M8 => some (v7, M8)))))
set_option maxHeartbeats 4000000 in
set_option maxRecDepth 100000 in
theorem kX5_drop (l : Launch) (D : va_G) (ca : Nat → ClassId) (ad : Nat → Nat) (hI : aInj 18 ad) (M : MM) (hR : RR M) (a1 : Int) (i1 : inR a1) (res : Int) (M' : MM) (hf : fX5_drop a1 M = some (res, M')) : CI l yX5_drop wsX5_drop 2 43 [.ref (ad 0), .int (J a1)] (PY D ca ad M) res (inR res ∧ RR M') (OY D ca ad M') (aS 18 ad) := by
  refine Met.ofW (cc := cX5_drop) (maxL := 2) (ret := (some .int)) (by decide) rfl ?_
  intro p e s m args below meth c s₁ B hml hv
  obtain ⟨rfl, hP, hK⟩ := hv
  have hx := B.exec
  have hb := B.bytes
  have hr := B.returns
  have hts := atoms_spec (ws := wsX5_drop) B.pre
  have hown : s.vm.findClass RX5 = some m.cls := findClass_of_methodNamed B.named
  have hlocks := B.notSynchronized
  have hS : va_S (aS 18 ad) s.heap s.heap [] := va_S.rf
  have hinX5 : ∀ w ∈ wsX50, w ∈ wsX5_drop := by decide +kernel
  have hl := lv_entry ([.ref (ad 0), .int (J a1)]) (n := 2) (Nat.le_of_ble_eq_true rfl)
  rw [lg_entry_eq]
  generalize (lg_sl ([.ref (ad 0), .int (J a1)]) ++ List.replicate (2 - (lg_sl ([.ref (ad 0), .int (J a1)])).length) Slot.unset).toArray = ls at hl ⊢
  have hl : lv_has ls 2 [(0, .ref (ad 0)), (1, .int (J a1))] := hl
  unfold fX5_drop at hf
  refine lv_aload_n hx hb dX5_drop_0 rfl (lv_at hl 0 rfl) ?_
  refine lv_iconst (v := J 0) hx hb dX5_drop_1 rfl ?_
  obtain ⟨M1, eM1, hf⟩ := bnd_some hf
  have eM1 := Option.some.inj eM1
  have hRM1 : RR M1 := by rw [← eM1]; exact RR_st hR 0 0 (by decide : inR 0)
  refine va_put (D := D) (ci := 5) (v := .int (J 0)) (ty := .int) (C := RX5) (T := TX5) (N := 23) hx hb hts hinX5 tyX5 tyX5_ok nmX5 hown hK hP (wL_D hI M) hS 0 (wL_get (by decide) (gY_0 _)) rfl 0 (by decide) (hts (.fieldLink RX5 62 "VisitVansModel" "thrown" "I") (List.mem_of_getElem? (i := 1) rfl)) (fun _ h => h) rfl rfl rfl rfl (Nat.le_of_ble_eq_true rfl) dX5_drop_2 (fun H locs hP hD hS => ?_)
  have hP : va_P D vwCl (wY ca ad M1) H := by rw [← eM1]; exact hPset (gY_0_s0) stM_o hP
  refine lv_aload_n hx hb dX5_drop_5 rfl (lv_at hl 0 rfl) ?_
  refine lv_iload_n hx hb dX5_drop_6 rfl (lv_at hl 1 rfl) ?_
  obtain ⟨v2, qv2, hf⟩ := bnd_some hf
  refine jc_i (va_runV (As := [.int (J a1)]) (rest := []) ⟨hx, hb, hml, hown, hts⟩ (kX5_isVisit l D ca ad hI M1 hRM1 a1 i1 v2 qv2) (cwV 1 hts gX5_drop_X5_isVisit rfl rfl rfl (by decide +kernel) ⟨Nat.le_of_ble_eq_true rfl, Nat.le_of_ble_eq_true rfl⟩) (pvY hK hP [.int (J a1)]) rfl rfl hl.1 rfl (lv_room (Nat.le_of_ble_eq_true rfl)) dX5_drop_7 ⟨Nat.zero_le _, Nat.zero_le _⟩) hS (fun H locs t ht hφ hO hS => ?_)
  have rv2 := hφ
  have hP : va_P D vwCl (wY ca ad M1) H := by rw [← ht]; exact hO
  refine jv_if_ne (tgt := 15) hx hb dX5_drop_10 (by decide) rv2 (fun c4 => ?_) (fun c4 => ?_)
  · have hf := iten hf c4
    refine lv_aload_n hx hb dX5_drop_15 rfl (lv_at hl 0 rfl) ?_
    obtain ⟨M6, qM6, hf⟩ := bnd_some hf
    refine jc_v (va_runV (As := []) (rest := []) ⟨hx, hb, hml, hown, hts⟩ (kX5_records l D ca ad hI M1 hRM1 M6 qM6) (cwV 0 hts gX5_drop_X5_records rfl rfl rfl (by decide +kernel) ⟨Nat.le_of_ble_eq_true rfl, Nat.le_of_ble_eq_true rfl⟩) (pvY hK hP []) rfl rfl hl.1 rfl (lv_room (Nat.le_of_ble_eq_true rfl)) dX5_drop_16 ⟨Nat.zero_le _, Nat.zero_le _⟩) hS (fun H locs t ht hφ hO hS => ?_)
    have hRM6 := hφ
    have hP : va_P D vwCl (wY ca ad M6) H := by rw [← ht]; exact hO
    refine lv_aload_n hx hb dX5_drop_19 rfl (lv_at hl 0 rfl) ?_
    refine lv_iload_n hx hb dX5_drop_20 rfl (lv_at hl 1 rfl) ?_
    obtain ⟨v7, M8, qv7, hf⟩ := bnd2_some hf
    refine jc_i (va_runV (As := [.int (J a1)]) (rest := []) ⟨hx, hb, hml, hown, hts⟩ (kX5_dropsVisit l D ca ad hI M6 hRM6 a1 i1 v7 M8 qv7) (cwV 1 hts gX5_drop_X5_dropsVisit rfl rfl rfl (by decide +kernel) ⟨Nat.le_of_ble_eq_true rfl, Nat.le_of_ble_eq_true rfl⟩) (pvY hK hP [.int (J a1)]) rfl rfl hl.1 rfl (lv_room (Nat.le_of_ble_eq_true rfl)) dX5_drop_21 ⟨Nat.zero_le _, Nat.zero_le _⟩) hS (fun H locs t ht hφ hO hS => ?_)
    obtain ⟨rv7, hRM8⟩ := hφ
    have hP : va_P D vwCl (wY ca ad M8) H := by rw [← ht]; exact hO
    obtain ⟨e1, e2⟩ := Prod.mk.inj (Option.some.inj hf)
    exact jend_i hx hb hr rfl hS e1 ⟨by rw [← e1]; exact rv7, by rw [← e2]; exact hRM8⟩ (oY e2 hP) dX5_drop_24 hlocks
  · have hf := itep hf c4
    refine lv_iconst (v := J (-1)) hx hb dX5_drop_13 rfl ?_
    obtain ⟨e1, e2⟩ := Prod.mk.inj (Option.some.inj hf)
    exact jend_i hx hb hr rfl hS e1 ⟨by rw [← e1]; exact (by decide : inR (-1)), by rw [← e2]; exact hRM1⟩ (oY e2 hP) dX5_drop_14 hlocks
def fX5_refusesVan (a1 : Int) (a2 : Int) (M : MM) : Option (Int) := bnd (fX5_in a1 0 99) (fun v1 => if v1 = 0 then some (-2) else bnd (fX5_in a2 0 15) (fun v4 => if v4 = 0 then some (-2) else bnd (rd M 1 160 4) (fun v7 => bnd (if v7 = 4 then some (((-4) : Int)) else some ((0 : Int))) (fun y9_0 => some y9_0))))
set_option maxHeartbeats 4000000 in
set_option maxRecDepth 100000 in
theorem kX5_refusesVan (l : Launch) (D : va_G) (ca : Nat → ClassId) (ad : Nat → Nat) (hI : aInj 18 ad) (M : MM) (hR : RR M) (a1 : Int) (a2 : Int) (i1 : inR a1) (i2 : inR a2) (res : Int) (hf : fX5_refusesVan a1 a2 M = some res) : CI l yX5_refusesVan wsX5_refusesVan 1 22 [.ref (ad 0), .int (J a1), .int (J a2)] (PY D ca ad M) res (inR res) (OY D ca ad M) (aS 18 ad) := by
  refine Met.ofW (cc := cX5_refusesVan) (maxL := 3) (ret := (some .int)) (by decide) rfl ?_
  intro p e s m args below meth c s₁ B hml hv
  obtain ⟨rfl, hP, hK⟩ := hv
  have hx := B.exec
  have hb := B.bytes
  have hr := B.returns
  have hts := atoms_spec (ws := wsX5_refusesVan) B.pre
  have hown : s.vm.findClass RX5 = some m.cls := findClass_of_methodNamed B.named
  have hlocks := B.notSynchronized
  have hS : va_S (aS 18 ad) s.heap s.heap [] := va_S.rf
  have hinX5 : ∀ w ∈ wsX50, w ∈ wsX5_refusesVan := by decide +kernel
  have hl := lv_entry ([.ref (ad 0), .int (J a1), .int (J a2)]) (n := 3) (Nat.le_of_ble_eq_true rfl)
  rw [lg_entry_eq]
  generalize (lg_sl ([.ref (ad 0), .int (J a1), .int (J a2)]) ++ List.replicate (3 - (lg_sl ([.ref (ad 0), .int (J a1), .int (J a2)])).length) Slot.unset).toArray = ls at hl ⊢
  have hl : lv_has ls 3 [(0, .ref (ad 0)), (1, .int (J a1)), (2, .int (J a2))] := hl
  unfold fX5_refusesVan at hf
  refine lv_iload_n hx hb dX5_refusesVan_0 rfl (lv_at hl 1 rfl) ?_
  refine lv_iconst (v := J 0) hx hb dX5_refusesVan_1 rfl ?_
  refine lv_bipush (v := J 99) hx hb dX5_refusesVan_2 (by decide +kernel) ?_
  obtain ⟨v1, qv1, hf⟩ := bnd_some hf
  refine jc_i (va_runS (As := [.int (J a1), .int (J 0), .int (J 99)]) (rest := []) ⟨hx, hb, hml, hown, hts⟩ (kX5_in l D ca ad hI M hR a1 0 99 i1 (by decide : inR 0) (by decide : inR 99) v1 qv1) (va_cwS 3 hts gX5_refusesVan_X5_in rfl rfl rfl (by decide +kernel) ⟨Nat.le_of_ble_eq_true rfl, Nat.le_of_ble_eq_true rfl⟩) (psY hK hP [.int (J a1), .int (J 0), .int (J 99)]) rfl rfl hl.1 rfl (lv_room (Nat.le_of_ble_eq_true rfl)) dX5_refusesVan_4 ⟨Nat.zero_le _, Nat.zero_le _⟩) hS (fun H locs t ht hφ hO hS => ?_)
  have rv1 := hφ
  have hP : va_P D vwCl (wY ca ad M) H := by rw [← ht]; exact hO
  refine jv_if_eq (tgt := 20) hx hb dX5_refusesVan_7 (by decide) rv1 (fun c3 => ?_) (fun c3 => ?_)
  · have hf := itep hf c3
    refine lv_bipush (v := J (-2)) hx hb dX5_refusesVan_20 (by decide +kernel) ?_
    have e1 := Option.some.inj hf
    exact jend_i hx hb hr rfl hS e1 (by rw [← e1]; exact (by decide : inR (-2))) (oY rfl hP) dX5_refusesVan_22 hlocks
  · have hf := iten hf c3
    refine lv_iload_n hx hb dX5_refusesVan_10 rfl (lv_at hl 2 rfl) ?_
    refine lv_iconst (v := J 0) hx hb dX5_refusesVan_11 rfl ?_
    refine lv_bipush (v := J 15) hx hb dX5_refusesVan_12 (by decide +kernel) ?_
    obtain ⟨v4, qv4, hf⟩ := bnd_some hf
    refine jc_i (va_runS (As := [.int (J a2), .int (J 0), .int (J 15)]) (rest := []) ⟨hx, hb, hml, hown, hts⟩ (kX5_in l D ca ad hI M hR a2 0 15 i2 (by decide : inR 0) (by decide : inR 15) v4 qv4) (va_cwS 3 hts gX5_refusesVan_X5_in rfl rfl rfl (by decide +kernel) ⟨Nat.le_of_ble_eq_true rfl, Nat.le_of_ble_eq_true rfl⟩) (psY hK hP [.int (J a2), .int (J 0), .int (J 15)]) rfl rfl hl.1 rfl (lv_room (Nat.le_of_ble_eq_true rfl)) dX5_refusesVan_14 ⟨Nat.zero_le _, Nat.zero_le _⟩) hS (fun H locs t ht hφ hO hS => ?_)
    have rv4 := hφ
    have hP : va_P D vwCl (wY ca ad M) H := by rw [← ht]; exact hO
    refine jv_if_ne (tgt := 23) hx hb dX5_refusesVan_17 (by decide) rv4 (fun c6 => ?_) (fun c6 => ?_)
    · have hf := iten hf c6
      refine lv_aload_n hx hb dX5_refusesVan_23 rfl (lv_at hl 0 rfl) ?_
      refine va_get (D := D) (ci := 5) (v := .ref (ad 1)) (C := RX5) (T := TX5) (N := 23) hx hb hts hinX5 hown hK hP 0 (wL_get (by decide) (gY_0 _)) rfl 1 (by decide) (hts (.fieldLink RX5 7 "VisitVansModel" "s" "[I") (List.mem_of_getElem? (i := 1) rfl)) (fun _ h => h) rfl dX5_refusesVan_24 ?_
      refine lv_iconst (v := J 4) hx hb dX5_refusesVan_27 rfl ?_
      obtain ⟨v7, qv7, hf⟩ := bnd_some hf
      obtain ⟨bv7, ev7⟩ := rd_some qv7
      have rv7 : inR v7 := by rw [ev7]; exact hR _ _
      refine jx_iald hx hb hK hP 1 0 (by decide) gY_1 rfl (by decide) bv7 ev7 dX5_refusesVan_28 ?_
      refine lv_iconst (v := J 4) hx hb dX5_refusesVan_29 rfl ?_
      obtain ⟨y9_0, h9, hf⟩ := bnd_some hf
      have K9 : ∀ (H : Heap) (locs : List Loc) (ls : Array Slot), inR y9_0 → va_P D vwCl (wY ca ad M) H → va_S (aS 18 ad) s.heap H locs → lv_has ls 3 [] → W p l e (headSpec wsX5_refusesVan (RmC 1 22)).room s m ([.ref (ad 0), .int (J a1), .int (J a2)] : List Value).toArray below meth c H locs 0 0 (MQ below (va_Qi (fun x (_ : Unit) => x = J res ∧ (inR res)) (fun _ => (OY D ca ad M)) (aS 18 ad)) ([.ref (ad 0), .int (J a1), .int (J a2)] : List Value).toArray s 0 0 (aS 18 ad)) (F0 m 39 ls [.int (J y9_0)]) := by
        intro H locs ls ry9_0  hP hS hl
        have e1 := Option.some.inj hf
        exact jend_i hx hb hr rfl hS e1 (by rw [← e1]; exact ry9_0) (oY rfl hP) dX5_refusesVan_39 hlocks
      have hf := h9
      clear h9
      refine jv_icmp_ne (tgt := 38) hx hb dX5_refusesVan_30 (by decide) rv7 (by decide : inR 4) (fun c8 => ?_) (fun c8 => ?_)
      · have hf := iten hf c8
        refine lv_iconst (v := J 0) hx hb dX5_refusesVan_38 rfl ?_
        cases hf
        exact K9 _ _ _ (by decide : inR 0)  hP hS (lv_sub hl [] rfl)
      · have hf := itep hf c8
        refine lv_bipush (v := J (-4)) hx hb dX5_refusesVan_33 (by decide +kernel) ?_
        refine lv_goto (tgt := 39) hx hb dX5_refusesVan_35 (by decide) ?_
        cases hf
        exact K9 _ _ _ (by decide : inR (-4))  hP hS (lv_sub hl [] rfl)
    · have hf := itep hf c6
      refine lv_bipush (v := J (-2)) hx hb dX5_refusesVan_20 (by decide +kernel) ?_
      have e1 := Option.some.inj hf
      exact jend_i hx hb hr rfl hS e1 (by rw [← e1]; exact (by decide : inR (-2))) (oY rfl hP) dX5_refusesVan_22 hlocks
def fX5_laysVan_L36 : Nat → Int → Int → Int → MM → Option (MM)
  | 0, _, _, _, _ => none
  | n + 1, x3_4, x4_4, x5_4, M_4 => if 5 ≤ x5_4 then some M_4 else bnd (wr M_4 1 160 ((x4_4 + 2) + x5_4) x3_4) (fun M7 => gd (inR (x5_4 + 1)) (fX5_laysVan_L36 n x3_4 x4_4 (x5_4 + 1) M7))
def fX5_laysVan (a1 : Int) (a2 : Int) (a3 : Int) (M : MM) : Option (Int × MM) := bnd (rd M 1 160 4) (fun v1 => bnd (wr M 1 160 ((5 + (7 * v1)) + 0) a1) (fun M2 => bnd (wr M2 1 160 ((5 + (7 * v1)) + 1) a2) (fun M3 => gd (inR (5 + (7 * v1))) (bnd (fX5_laysVan_L36 4000 a3 (5 + (7 * v1)) 0 M3) (fun N_4 => bnd (rd N_4 1 160 4) (fun v9 => bnd (wr N_4 1 160 4 (v9 + 1)) (fun M10 => bnd (rd M10 1 160 4) (fun v11 => gd (inR (v11 - 1)) (some ((v11 - 1), M10))))))))))
set_option maxHeartbeats 4000000 in
set_option maxRecDepth 100000 in
theorem kX5_laysVan (l : Launch) (D : va_G) (ca : Nat → ClassId) (ad : Nat → Nat) (hI : aInj 18 ad) (M : MM) (hR : RR M) (a1 : Int) (a2 : Int) (a3 : Int) (i1 : inR a1) (i2 : inR a2) (i3 : inR a3) (res : Int) (M' : MM) (hf : fX5_laysVan a1 a2 a3 M = some (res, M')) : CI l yX5_laysVan wsX5_laysVan 0 0 [.ref (ad 0), .int (J a1), .int (J a2), .int (J a3)] (PY D ca ad M) res (inR res ∧ RR M') (OY D ca ad M') (aS 18 ad) := by
  refine Met.ofW (cc := cX5_laysVan) (maxL := 6) (ret := (some .int)) (by decide) rfl ?_
  intro p e s m args below meth c s₁ B hml hv
  obtain ⟨rfl, hP, hK⟩ := hv
  have hx := B.exec
  have hb := B.bytes
  have hr := B.returns
  have hts := atoms_spec (ws := wsX5_laysVan) B.pre
  have hown : s.vm.findClass RX5 = some m.cls := findClass_of_methodNamed B.named
  have hlocks := B.notSynchronized
  have hS : va_S (aS 18 ad) s.heap s.heap [] := va_S.rf
  have hinX5 : ∀ w ∈ wsX50, w ∈ wsX5_laysVan := by decide +kernel
  have hl := lv_entry ([.ref (ad 0), .int (J a1), .int (J a2), .int (J a3)]) (n := 6) (Nat.le_of_ble_eq_true rfl)
  rw [lg_entry_eq]
  generalize (lg_sl ([.ref (ad 0), .int (J a1), .int (J a2), .int (J a3)]) ++ List.replicate (6 - (lg_sl ([.ref (ad 0), .int (J a1), .int (J a2), .int (J a3)])).length) Slot.unset).toArray = ls at hl ⊢
  have hl : lv_has ls 6 [(0, .ref (ad 0)), (1, .int (J a1)), (2, .int (J a2)), (3, .int (J a3))] := hl
  unfold fX5_laysVan at hf
  refine lv_iconst (v := J 5) hx hb dX5_laysVan_0 rfl ?_
  refine lv_bipush (v := J 7) hx hb dX5_laysVan_1 (by decide +kernel) ?_
  refine lv_aload_n hx hb dX5_laysVan_3 rfl (lv_at hl 0 rfl) ?_
  refine va_get (D := D) (ci := 5) (v := .ref (ad 1)) (C := RX5) (T := TX5) (N := 23) hx hb hts hinX5 hown hK hP 0 (wL_get (by decide) (gY_0 _)) rfl 1 (by decide) (hts (.fieldLink RX5 7 "VisitVansModel" "s" "[I") (List.mem_of_getElem? (i := 1) rfl)) (fun _ h => h) rfl dX5_laysVan_4 ?_
  refine lv_iconst (v := J 4) hx hb dX5_laysVan_7 rfl ?_
  obtain ⟨v1, qv1, hf⟩ := bnd_some hf
  obtain ⟨bv1, ev1⟩ := rd_some qv1
  have rv1 : inR v1 := by rw [ev1]; exact hR _ _
  refine jx_iald hx hb hK hP 1 0 (by decide) gY_1 rfl (by decide) bv1 ev1 dX5_laysVan_8 ?_
  refine jv_imul hx hb dX5_laysVan_9 ?_
  refine jv_iadd hx hb dX5_laysVan_10 ?_
  refine lv_istore (lv' := [(4, .int (J (5 + (7 * v1)))), (0, .ref (ad 0)), (1, .int (J a1)), (2, .int (J a2)), (3, .int (J a3))]) hx hb dX5_laysVan_11 hl (by decide) rfl (fun ls hl => ?_)
  refine lv_aload_n hx hb dX5_laysVan_13 rfl (lv_at hl 1 rfl) ?_
  refine va_get (D := D) (ci := 5) (v := .ref (ad 1)) (C := RX5) (T := TX5) (N := 23) hx hb hts hinX5 hown hK hP 0 (wL_get (by decide) (gY_0 _)) rfl 1 (by decide) (hts (.fieldLink RX5 7 "VisitVansModel" "s" "[I") (List.mem_of_getElem? (i := 1) rfl)) (fun _ h => h) rfl dX5_laysVan_14 ?_
  refine lv_iload hx hb dX5_laysVan_17 (lv_at hl 0 rfl) ?_
  refine lv_iconst (v := J 0) hx hb dX5_laysVan_19 rfl ?_
  refine jv_iadd hx hb dX5_laysVan_20 ?_
  refine lv_iload_n hx hb dX5_laysVan_21 rfl (lv_at hl 2 rfl) ?_
  obtain ⟨M2, qM2, hf⟩ := bnd_some hf
  obtain ⟨bM2, zM2, eM2⟩ := wr_some qM2
  have hRM2 : RR M2 := by rw [eM2]; exact RR_st hR _ _ zM2
  refine jx_iast hx hb hK hP hI hS 1 0 (by decide) gY_1 rfl (by decide) bM2 zM2 dX5_laysVan_22 (fun H locs hP hS => ?_)
  rw [← eM2] at hP
  refine lv_aload_n hx hb dX5_laysVan_23 rfl (lv_at hl 1 rfl) ?_
  refine va_get (D := D) (ci := 5) (v := .ref (ad 1)) (C := RX5) (T := TX5) (N := 23) hx hb hts hinX5 hown hK hP 0 (wL_get (by decide) (gY_0 _)) rfl 1 (by decide) (hts (.fieldLink RX5 7 "VisitVansModel" "s" "[I") (List.mem_of_getElem? (i := 1) rfl)) (fun _ h => h) rfl dX5_laysVan_24 ?_
  refine lv_iload hx hb dX5_laysVan_27 (lv_at hl 0 rfl) ?_
  refine lv_iconst (v := J 1) hx hb dX5_laysVan_29 rfl ?_
  refine jv_iadd hx hb dX5_laysVan_30 ?_
  refine lv_iload_n hx hb dX5_laysVan_31 rfl (lv_at hl 3 rfl) ?_
  obtain ⟨M3, qM3, hf⟩ := bnd_some hf
  obtain ⟨bM3, zM3, eM3⟩ := wr_some qM3
  have hRM3 : RR M3 := by rw [eM3]; exact RR_st hRM2 _ _ zM3
  refine jx_iast hx hb hK hP hI hS 1 0 (by decide) gY_1 rfl (by decide) bM3 zM3 dX5_laysVan_32 (fun H locs hP hS => ?_)
  rw [← eM3] at hP
  refine lv_iconst (v := J 0) hx hb dX5_laysVan_33 rfl ?_
  refine lv_istore (lv' := [(5, .int (J 0)), (4, .int (J (5 + (7 * v1)))), (0, .ref (ad 0)), (1, .int (J a1)), (2, .int (J a2)), (3, .int (J a3))]) hx hb dX5_laysVan_34 hl (by decide) rfl (fun ls hl => ?_)
  obtain ⟨g5, hf⟩ := gd_some hf
  obtain ⟨N_4, h4, hf⟩ := bnd_some hf
  have K4 : ∀ (H : Heap) (locs : List Loc) (ls : Array Slot), RR N_4 → va_P D vwCl (wY ca ad N_4) H → va_S (aS 18 ad) s.heap H locs → lv_has ls 6 [(0, .ref (ad 0))] → W p l e (headSpec wsX5_laysVan (RmC 0 0)).room s m ([.ref (ad 0), .int (J a1), .int (J a2), .int (J a3)] : List Value).toArray below meth c H locs 0 0 (MQ below (va_Qi (fun x (_ : Unit) => x = J res ∧ (inR res ∧ RR M')) (fun _ => (OY D ca ad M')) (aS 18 ad)) ([.ref (ad 0), .int (J a1), .int (J a2), .int (J a3)] : List Value).toArray s 0 0 (aS 18 ad)) (F0 m 61 ls []) := by
    intro H locs ls hRN_4 hP hS hl
    refine lv_aload_n hx hb dX5_laysVan_61 rfl (lv_at hl 0 rfl) ?_
    refine va_get (D := D) (ci := 5) (v := .ref (ad 1)) (C := RX5) (T := TX5) (N := 23) hx hb hts hinX5 hown hK hP 0 (wL_get (by decide) (gY_0 _)) rfl 1 (by decide) (hts (.fieldLink RX5 7 "VisitVansModel" "s" "[I") (List.mem_of_getElem? (i := 1) rfl)) (fun _ h => h) rfl dX5_laysVan_62 ?_
    refine lv_iconst (v := J 4) hx hb dX5_laysVan_65 rfl ?_
    refine lv_dup2_11 hx hb dX5_laysVan_66 rfl rfl ?_
    obtain ⟨v9, qv9, hf⟩ := bnd_some hf
    obtain ⟨bv9, ev9⟩ := rd_some qv9
    have rv9 : inR v9 := by rw [ev9]; exact hRN_4 _ _
    refine jx_iald hx hb hK hP 1 0 (by decide) gY_1 rfl (by decide) bv9 ev9 dX5_laysVan_67 ?_
    refine lv_iconst (v := J 1) hx hb dX5_laysVan_68 rfl ?_
    refine jv_iadd hx hb dX5_laysVan_69 ?_
    obtain ⟨M10, qM10, hf⟩ := bnd_some hf
    obtain ⟨bM10, zM10, eM10⟩ := wr_some qM10
    have hRM10 : RR M10 := by rw [eM10]; exact RR_st hRN_4 _ _ zM10
    refine jx_iast hx hb hK hP hI hS 1 0 (by decide) gY_1 rfl (by decide) bM10 zM10 dX5_laysVan_70 (fun H locs hP hS => ?_)
    rw [← eM10] at hP
    refine lv_aload_n hx hb dX5_laysVan_71 rfl (lv_at hl 0 rfl) ?_
    refine va_get (D := D) (ci := 5) (v := .ref (ad 1)) (C := RX5) (T := TX5) (N := 23) hx hb hts hinX5 hown hK hP 0 (wL_get (by decide) (gY_0 _)) rfl 1 (by decide) (hts (.fieldLink RX5 7 "VisitVansModel" "s" "[I") (List.mem_of_getElem? (i := 1) rfl)) (fun _ h => h) rfl dX5_laysVan_72 ?_
    refine lv_iconst (v := J 4) hx hb dX5_laysVan_75 rfl ?_
    obtain ⟨v11, qv11, hf⟩ := bnd_some hf
    obtain ⟨bv11, ev11⟩ := rd_some qv11
    have rv11 : inR v11 := by rw [ev11]; exact hRM10 _ _
    refine jx_iald hx hb hK hP 1 0 (by decide) gY_1 rfl (by decide) bv11 ev11 dX5_laysVan_76 ?_
    refine lv_iconst (v := J 1) hx hb dX5_laysVan_77 rfl ?_
    refine jv_isub hx hb dX5_laysVan_78 ?_
    obtain ⟨g12, hf⟩ := gd_some hf
    obtain ⟨e1, e2⟩ := Prod.mk.inj (Option.some.inj hf)
    exact jend_i hx hb hr rfl hS e1 ⟨by rw [← e1]; exact g12, by rw [← e2]; exact hRM10⟩ (oY e2 hP) dX5_laysVan_79 hlocks
  have hL4 : ∀ (n : Nat) (x3_4 : Int) (x4_4 : Int) (x5_4 : Int) (M_4 : MM) (H : Heap) (locs : List Loc) (ls : Array Slot), inR x3_4 → inR x4_4 → inR x5_4 → RR M_4 → x3_4 = a3 → x4_4 = (5 + (7 * v1)) → va_P D vwCl (wY ca ad M_4) H → va_S (aS 18 ad) s.heap H locs → lv_has ls 6 [(0, .ref (ad 0)), (3, .int (J x3_4)), (4, .int (J x4_4)), (5, .int (J x5_4))] → fX5_laysVan_L36 n x3_4 x4_4 x5_4 M_4 = some N_4 → W p l e (headSpec wsX5_laysVan (RmC 0 0)).room s m ([.ref (ad 0), .int (J a1), .int (J a2), .int (J a3)] : List Value).toArray below meth c H locs 0 0 (MQ below (va_Qi (fun x (_ : Unit) => x = J res ∧ (inR res ∧ RR M')) (fun _ => (OY D ca ad M')) (aS 18 ad)) ([.ref (ad 0), .int (J a1), .int (J a2), .int (J a3)] : List Value).toArray s 0 0 (aS 18 ad)) (F0 m 36 ls []) := by
    intro n
    induction n with
    | zero =>
      intro x3_4 x4_4 x5_4 M_4 H locs ls rx3_4 rx4_4 rx5_4 hRM_4 e_x3_4 e_x4_4 hP hS hl hf
      rw [fX5_laysVan_L36] at hf
      cases hf
    | succ n ih =>
      intro x3_4 x4_4 x5_4 M_4 H locs ls rx3_4 rx4_4 rx5_4 hRM_4 e_x3_4 e_x4_4 hP hS hl hf
      rw [fX5_laysVan_L36] at hf
      refine lv_iload hx hb dX5_laysVan_36 (lv_at hl 3 rfl) ?_
      refine lv_iconst (v := J 5) hx hb dX5_laysVan_38 rfl ?_
      refine jv_icmp_ge (tgt := 61) hx hb dX5_laysVan_39 (by decide) rx5_4 (by decide : inR 5) (fun c6 => ?_) (fun c6 => ?_)
      · have hf := itep hf c6
        cases hf
        exact K4 _ _ _ hRM_4 hP hS (lv_sub hl [0] (by subst e_x3_4; subst e_x4_4; rfl))
      · have hf := iten hf c6
        refine lv_aload_n hx hb dX5_laysVan_42 rfl (lv_at hl 0 rfl) ?_
        refine va_get (D := D) (ci := 5) (v := .ref (ad 1)) (C := RX5) (T := TX5) (N := 23) hx hb hts hinX5 hown hK hP 0 (wL_get (by decide) (gY_0 _)) rfl 1 (by decide) (hts (.fieldLink RX5 7 "VisitVansModel" "s" "[I") (List.mem_of_getElem? (i := 1) rfl)) (fun _ h => h) rfl dX5_laysVan_43 ?_
        refine lv_iload hx hb dX5_laysVan_46 (lv_at hl 2 rfl) ?_
        refine lv_iconst (v := J 2) hx hb dX5_laysVan_48 rfl ?_
        refine jv_iadd hx hb dX5_laysVan_49 ?_
        refine lv_iload hx hb dX5_laysVan_50 (lv_at hl 3 rfl) ?_
        refine jv_iadd hx hb dX5_laysVan_52 ?_
        refine lv_iload_n hx hb dX5_laysVan_53 rfl (lv_at hl 1 rfl) ?_
        obtain ⟨M7, qM7, hf⟩ := bnd_some hf
        obtain ⟨bM7, zM7, eM7⟩ := wr_some qM7
        have hRM7 : RR M7 := by rw [eM7]; exact RR_st hRM_4 _ _ zM7
        refine jx_iast hx hb hK hP hI hS 1 0 (by decide) gY_1 rfl (by decide) bM7 zM7 dX5_laysVan_54 (fun H locs hP hS => ?_)
        rw [← eM7] at hP
        refine lv_iinc (v := J (x5_4 + 1)) (lv' := [(5, .int (J (x5_4 + 1))), (0, .ref (ad 0)), (3, .int (J x3_4)), (4, .int (J x4_4))]) hx hb dX5_laysVan_55 hl (k := 3) rfl (J_add _ _) (by decide) rfl (fun ls hl => ?_)
        refine lv_goto (tgt := 36) hx hb dX5_laysVan_58 (by decide) ?_
        obtain ⟨g8, hf⟩ := gd_some hf
        exact ih _ _ _ _ _ _ _ rx3_4 rx4_4 g8 hRM7 e_x3_4 e_x4_4 hP hS (lv_sub hl [1, 2, 3, 0] rfl) hf
  exact hL4 4000 _ _ _ _ _ _ _ i3 g5 (by decide : inR 0) hRM3 rfl rfl hP hS (lv_sub hl [2, 5, 1, 0] rfl) h4
def fX5_van (a1 : Int) (a2 : Int) (M : MM) : Option (Int × MM) := bnd (some (stM M 0 0 0)) (fun M1 => bnd (fX5_refusesVan a1 a2 M1) (fun v2 => if v2 = 0 then bnd (fX5_records M1) (fun M6 => bnd2 (fX5_laysVan a1 a2 0 M6) (fun v7 M8 => some (v7, M8))) else some (v2, M1)))
set_option maxHeartbeats 4000000 in
set_option maxRecDepth 100000 in
theorem kX5_van (l : Launch) (D : va_G) (ca : Nat → ClassId) (ad : Nat → Nat) (hI : aInj 18 ad) (M : MM) (hR : RR M) (a1 : Int) (a2 : Int) (i1 : inR a1) (i2 : inR a2) (res : Int) (M' : MM) (hf : fX5_van a1 a2 M = some (res, M')) : CI l yX5_van wsX5_van 2 44 [.ref (ad 0), .int (J a1), .int (J a2)] (PY D ca ad M) res (inR res ∧ RR M') (OY D ca ad M') (aS 18 ad) := by
  refine Met.ofW (cc := cX5_van) (maxL := 4) (ret := (some .int)) (by decide) rfl ?_
  intro p e s m args below meth c s₁ B hml hv
  obtain ⟨rfl, hP, hK⟩ := hv
  have hx := B.exec
  have hb := B.bytes
  have hr := B.returns
  have hts := atoms_spec (ws := wsX5_van) B.pre
  have hown : s.vm.findClass RX5 = some m.cls := findClass_of_methodNamed B.named
  have hlocks := B.notSynchronized
  have hS : va_S (aS 18 ad) s.heap s.heap [] := va_S.rf
  have hinX5 : ∀ w ∈ wsX50, w ∈ wsX5_van := by decide +kernel
  have hl := lv_entry ([.ref (ad 0), .int (J a1), .int (J a2)]) (n := 4) (Nat.le_of_ble_eq_true rfl)
  rw [lg_entry_eq]
  generalize (lg_sl ([.ref (ad 0), .int (J a1), .int (J a2)]) ++ List.replicate (4 - (lg_sl ([.ref (ad 0), .int (J a1), .int (J a2)])).length) Slot.unset).toArray = ls at hl ⊢
  have hl : lv_has ls 4 [(0, .ref (ad 0)), (1, .int (J a1)), (2, .int (J a2))] := hl
  unfold fX5_van at hf
  refine lv_aload_n hx hb dX5_van_0 rfl (lv_at hl 0 rfl) ?_
  refine lv_iconst (v := J 0) hx hb dX5_van_1 rfl ?_
  obtain ⟨M1, eM1, hf⟩ := bnd_some hf
  have eM1 := Option.some.inj eM1
  have hRM1 : RR M1 := by rw [← eM1]; exact RR_st hR 0 0 (by decide : inR 0)
  refine va_put (D := D) (ci := 5) (v := .int (J 0)) (ty := .int) (C := RX5) (T := TX5) (N := 23) hx hb hts hinX5 tyX5 tyX5_ok nmX5 hown hK hP (wL_D hI M) hS 0 (wL_get (by decide) (gY_0 _)) rfl 0 (by decide) (hts (.fieldLink RX5 62 "VisitVansModel" "thrown" "I") (List.mem_of_getElem? (i := 1) rfl)) (fun _ h => h) rfl rfl rfl rfl (Nat.le_of_ble_eq_true rfl) dX5_van_2 (fun H locs hP hD hS => ?_)
  have hP : va_P D vwCl (wY ca ad M1) H := by rw [← eM1]; exact hPset (gY_0_s0) stM_o hP
  refine lv_aload_n hx hb dX5_van_5 rfl (lv_at hl 0 rfl) ?_
  refine lv_iload_n hx hb dX5_van_6 rfl (lv_at hl 1 rfl) ?_
  refine lv_iload_n hx hb dX5_van_7 rfl (lv_at hl 2 rfl) ?_
  obtain ⟨v2, qv2, hf⟩ := bnd_some hf
  refine jc_i (va_runV (As := [.int (J a1), .int (J a2)]) (rest := []) ⟨hx, hb, hml, hown, hts⟩ (kX5_refusesVan l D ca ad hI M1 hRM1 a1 a2 i1 i2 v2 qv2) (cwV 2 hts gX5_van_X5_refusesVan rfl rfl rfl (by decide +kernel) ⟨Nat.le_of_ble_eq_true rfl, Nat.le_of_ble_eq_true rfl⟩) (pvY hK hP [.int (J a1), .int (J a2)]) rfl rfl hl.1 rfl (lv_room (Nat.le_of_ble_eq_true rfl)) dX5_van_8 ⟨Nat.zero_le _, Nat.zero_le _⟩) hS (fun H locs t ht hφ hO hS => ?_)
  have rv2 := hφ
  have hP : va_P D vwCl (wY ca ad M1) H := by rw [← ht]; exact hO
  refine lv_istore_n (lv' := [(3, .int (J v2)), (0, .ref (ad 0)), (1, .int (J a1)), (2, .int (J a2))]) hx hb dX5_van_11 rfl hl (by decide) rfl (fun ls hl => ?_)
  refine lv_iload_n hx hb dX5_van_12 rfl (lv_at hl 0 rfl) ?_
  refine jv_if_eq (tgt := 18) hx hb dX5_van_13 (by decide) rv2 (fun c4 => ?_) (fun c4 => ?_)
  · have hf := itep hf c4
    refine lv_aload_n hx hb dX5_van_18 rfl (lv_at hl 1 rfl) ?_
    obtain ⟨M6, qM6, hf⟩ := bnd_some hf
    refine jc_v (va_runV (As := []) (rest := []) ⟨hx, hb, hml, hown, hts⟩ (kX5_records l D ca ad hI M1 hRM1 M6 qM6) (cwV 0 hts gX5_van_X5_records rfl rfl rfl (by decide +kernel) ⟨Nat.le_of_ble_eq_true rfl, Nat.le_of_ble_eq_true rfl⟩) (pvY hK hP []) rfl rfl hl.1 rfl (lv_room (Nat.le_of_ble_eq_true rfl)) dX5_van_19 ⟨Nat.zero_le _, Nat.zero_le _⟩) hS (fun H locs t ht hφ hO hS => ?_)
    have hRM6 := hφ
    have hP : va_P D vwCl (wY ca ad M6) H := by rw [← ht]; exact hO
    refine lv_aload_n hx hb dX5_van_22 rfl (lv_at hl 1 rfl) ?_
    refine lv_iload_n hx hb dX5_van_23 rfl (lv_at hl 2 rfl) ?_
    refine lv_iload_n hx hb dX5_van_24 rfl (lv_at hl 3 rfl) ?_
    refine lv_iconst (v := J 0) hx hb dX5_van_25 rfl ?_
    obtain ⟨v7, M8, qv7, hf⟩ := bnd2_some hf
    refine jc_i (va_runV (As := [.int (J a1), .int (J a2), .int (J 0)]) (rest := []) ⟨hx, hb, hml, hown, hts⟩ (kX5_laysVan l D ca ad hI M6 hRM6 a1 a2 0 i1 i2 (by decide : inR 0) v7 M8 qv7) (cwV 3 hts gX5_van_X5_laysVan rfl rfl rfl (by decide +kernel) ⟨Nat.le_of_ble_eq_true rfl, Nat.le_of_ble_eq_true rfl⟩) (pvY hK hP [.int (J a1), .int (J a2), .int (J 0)]) rfl rfl hl.1 rfl (lv_room (Nat.le_of_ble_eq_true rfl)) dX5_van_26 ⟨Nat.zero_le _, Nat.zero_le _⟩) hS (fun H locs t ht hφ hO hS => ?_)
    obtain ⟨rv7, hRM8⟩ := hφ
    have hP : va_P D vwCl (wY ca ad M8) H := by rw [← ht]; exact hO
    obtain ⟨e1, e2⟩ := Prod.mk.inj (Option.some.inj hf)
    exact jend_i hx hb hr rfl hS e1 ⟨by rw [← e1]; exact rv7, by rw [← e2]; exact hRM8⟩ (oY e2 hP) dX5_van_29 hlocks
  · have hf := iten hf c4
    refine lv_iload_n hx hb dX5_van_16 rfl (lv_at hl 0 rfl) ?_
    obtain ⟨e1, e2⟩ := Prod.mk.inj (Option.some.inj hf)
    exact jend_i hx hb hr rfl hS e1 ⟨by rw [← e1]; exact rv2, by rw [← e2]; exact hRM1⟩ (oY e2 hP) dX5_van_17 hlocks
def fX5_isVan (a1 : Int) (M : MM) : Option (Int) := bnd (rd M 1 160 4) (fun v1 => gd (inR (v1 - 1)) (bnd (fX5_in a1 0 (v1 - 1)) (fun v3 => gd (v3 = 0 ∨ v3 = 1) (some v3))))
set_option maxHeartbeats 4000000 in
set_option maxRecDepth 100000 in
theorem kX5_isVan (l : Launch) (D : va_G) (ca : Nat → ClassId) (ad : Nat → Nat) (hI : aInj 18 ad) (M : MM) (hR : RR M) (a1 : Int) (i1 : inR a1) (res : Int) (hf : fX5_isVan a1 M = some res) : CI l yX5_isVan wsX5_isVan 1 22 [.ref (ad 0), .int (J a1)] (PY D ca ad M) res (inR res) (OY D ca ad M) (aS 18 ad) := by
  refine Met.ofW (cc := cX5_isVan) (maxL := 2) (ret := (some .boolean)) (by decide) rfl ?_
  intro p e s m args below meth c s₁ B hml hv
  obtain ⟨rfl, hP, hK⟩ := hv
  have hx := B.exec
  have hb := B.bytes
  have hr := B.returns
  have hts := atoms_spec (ws := wsX5_isVan) B.pre
  have hown : s.vm.findClass RX5 = some m.cls := findClass_of_methodNamed B.named
  have hlocks := B.notSynchronized
  have hS : va_S (aS 18 ad) s.heap s.heap [] := va_S.rf
  have hinX5 : ∀ w ∈ wsX50, w ∈ wsX5_isVan := by decide +kernel
  have hl := lv_entry ([.ref (ad 0), .int (J a1)]) (n := 2) (Nat.le_of_ble_eq_true rfl)
  rw [lg_entry_eq]
  generalize (lg_sl ([.ref (ad 0), .int (J a1)]) ++ List.replicate (2 - (lg_sl ([.ref (ad 0), .int (J a1)])).length) Slot.unset).toArray = ls at hl ⊢
  have hl : lv_has ls 2 [(0, .ref (ad 0)), (1, .int (J a1))] := hl
  unfold fX5_isVan at hf
  refine lv_iload_n hx hb dX5_isVan_0 rfl (lv_at hl 1 rfl) ?_
  refine lv_iconst (v := J 0) hx hb dX5_isVan_1 rfl ?_
  refine lv_aload_n hx hb dX5_isVan_2 rfl (lv_at hl 0 rfl) ?_
  refine va_get (D := D) (ci := 5) (v := .ref (ad 1)) (C := RX5) (T := TX5) (N := 23) hx hb hts hinX5 hown hK hP 0 (wL_get (by decide) (gY_0 _)) rfl 1 (by decide) (hts (.fieldLink RX5 7 "VisitVansModel" "s" "[I") (List.mem_of_getElem? (i := 1) rfl)) (fun _ h => h) rfl dX5_isVan_3 ?_
  refine lv_iconst (v := J 4) hx hb dX5_isVan_6 rfl ?_
  obtain ⟨v1, qv1, hf⟩ := bnd_some hf
  obtain ⟨bv1, ev1⟩ := rd_some qv1
  have rv1 : inR v1 := by rw [ev1]; exact hR _ _
  refine jx_iald hx hb hK hP 1 0 (by decide) gY_1 rfl (by decide) bv1 ev1 dX5_isVan_7 ?_
  refine lv_iconst (v := J 1) hx hb dX5_isVan_8 rfl ?_
  refine jv_isub hx hb dX5_isVan_9 ?_
  obtain ⟨g2, hf⟩ := gd_some hf
  obtain ⟨v3, qv3, hf⟩ := bnd_some hf
  refine jc_i (va_runS (As := [.int (J a1), .int (J 0), .int (J (v1 - 1))]) (rest := []) ⟨hx, hb, hml, hown, hts⟩ (kX5_in l D ca ad hI M hR a1 0 (v1 - 1) i1 (by decide : inR 0) g2 v3 qv3) (va_cwS 3 hts gX5_isVan_X5_in rfl rfl rfl (by decide +kernel) ⟨Nat.le_of_ble_eq_true rfl, Nat.le_of_ble_eq_true rfl⟩) (psY hK hP [.int (J a1), .int (J 0), .int (J (v1 - 1))]) rfl rfl hl.1 rfl (lv_room (Nat.le_of_ble_eq_true rfl)) dX5_isVan_10 ⟨Nat.zero_le _, Nat.zero_le _⟩) hS (fun H locs t ht hφ hO hS => ?_)
  have rv3 := hφ
  have hP : va_P D vwCl (wY ca ad M) H := by rw [← ht]; exact hO
  obtain ⟨g5, hf⟩ := gd_some hf
  have e1 := Option.some.inj hf
  exact jend_i hx hb hr (J_wZ g5).1 hS e1 (by rw [← e1]; exact rv3) (oY rfl hP) dX5_isVan_13 hlocks
def fX5_refusesLoad (a1 : Int) (a2 : Int) (a3 : Int) (M : MM) : Option (Int) := bnd (fX5_isVan a1 M) (fun v1 => bnd (if v1 = 0 then some (((-1) : Int)) else bnd (fX5_in a2 0 4) (fun v5 => if v5 = 0 then some (((-1) : Int)) else bnd (fX5_in a3 0 99) (fun v8 => if v8 = 0 then some (((-2) : Int)) else some ((0 : Int))))) (fun y4_0 => some y4_0))
set_option maxHeartbeats 4000000 in
set_option maxRecDepth 100000 in
theorem kX5_refusesLoad (l : Launch) (D : va_G) (ca : Nat → ClassId) (ad : Nat → Nat) (hI : aInj 18 ad) (M : MM) (hR : RR M) (a1 : Int) (a2 : Int) (a3 : Int) (i1 : inR a1) (i2 : inR a2) (i3 : inR a3) (res : Int) (hf : fX5_refusesLoad a1 a2 a3 M = some res) : CI l yX5_refusesLoad wsX5_refusesLoad 2 43 [.ref (ad 0), .int (J a1), .int (J a2), .int (J a3)] (PY D ca ad M) res (inR res) (OY D ca ad M) (aS 18 ad) := by
  refine Met.ofW (cc := cX5_refusesLoad) (maxL := 4) (ret := (some .int)) (by decide) rfl ?_
  intro p e s m args below meth c s₁ B hml hv
  obtain ⟨rfl, hP, hK⟩ := hv
  have hx := B.exec
  have hb := B.bytes
  have hr := B.returns
  have hts := atoms_spec (ws := wsX5_refusesLoad) B.pre
  have hown : s.vm.findClass RX5 = some m.cls := findClass_of_methodNamed B.named
  have hlocks := B.notSynchronized
  have hS : va_S (aS 18 ad) s.heap s.heap [] := va_S.rf
  have hl := lv_entry ([.ref (ad 0), .int (J a1), .int (J a2), .int (J a3)]) (n := 4) (Nat.le_of_ble_eq_true rfl)
  rw [lg_entry_eq]
  generalize (lg_sl ([.ref (ad 0), .int (J a1), .int (J a2), .int (J a3)]) ++ List.replicate (4 - (lg_sl ([.ref (ad 0), .int (J a1), .int (J a2), .int (J a3)])).length) Slot.unset).toArray = ls at hl ⊢
  have hl : lv_has ls 4 [(0, .ref (ad 0)), (1, .int (J a1)), (2, .int (J a2)), (3, .int (J a3))] := hl
  unfold fX5_refusesLoad at hf
  refine lv_aload_n hx hb dX5_refusesLoad_0 rfl (lv_at hl 0 rfl) ?_
  refine lv_iload_n hx hb dX5_refusesLoad_1 rfl (lv_at hl 1 rfl) ?_
  obtain ⟨v1, qv1, hf⟩ := bnd_some hf
  refine jc_i (va_runV (As := [.int (J a1)]) (rest := []) ⟨hx, hb, hml, hown, hts⟩ (kX5_isVan l D ca ad hI M hR a1 i1 v1 qv1) (cwV 1 hts gX5_refusesLoad_X5_isVan rfl rfl rfl (by decide +kernel) ⟨Nat.le_of_ble_eq_true rfl, Nat.le_of_ble_eq_true rfl⟩) (pvY hK hP [.int (J a1)]) rfl rfl hl.1 rfl (lv_room (Nat.le_of_ble_eq_true rfl)) dX5_refusesLoad_2 ⟨Nat.zero_le _, Nat.zero_le _⟩) hS (fun H locs t ht hφ hO hS => ?_)
  have rv1 := hφ
  have hP : va_P D vwCl (wY ca ad M) H := by rw [← ht]; exact hO
  obtain ⟨y4_0, h4, hf⟩ := bnd_some hf
  have K4 : ∀ (H : Heap) (locs : List Loc) (ls : Array Slot), inR y4_0 → va_P D vwCl (wY ca ad M) H → va_S (aS 18 ad) s.heap H locs → lv_has ls 4 [] → W p l e (headSpec wsX5_refusesLoad (RmC 2 43)).room s m ([.ref (ad 0), .int (J a1), .int (J a2), .int (J a3)] : List Value).toArray below meth c H locs 0 0 (MQ below (va_Qi (fun x (_ : Unit) => x = J res ∧ (inR res)) (fun _ => (OY D ca ad M)) (aS 18 ad)) ([.ref (ad 0), .int (J a1), .int (J a2), .int (J a3)] : List Value).toArray s 0 0 (aS 18 ad)) (F0 m 37 ls [.int (J y4_0)]) := by
    intro H locs ls ry4_0  hP hS hl
    have e1 := Option.some.inj hf
    exact jend_i hx hb hr rfl hS e1 (by rw [← e1]; exact ry4_0) (oY rfl hP) dX5_refusesLoad_37 hlocks
  have hf := h4
  clear h4
  refine jv_if_eq (tgt := 17) hx hb dX5_refusesLoad_5 (by decide) rv1 (fun c3 => ?_) (fun c3 => ?_)
  · have hf := itep hf c3
    refine lv_iconst (v := J (-1)) hx hb dX5_refusesLoad_17 rfl ?_
    refine lv_goto (tgt := 37) hx hb dX5_refusesLoad_18 (by decide) ?_
    cases hf
    exact K4 _ _ _ (by decide : inR (-1))  hP hS (lv_sub hl [] rfl)
  · have hf := iten hf c3
    refine lv_iload_n hx hb dX5_refusesLoad_8 rfl (lv_at hl 2 rfl) ?_
    refine lv_iconst (v := J 0) hx hb dX5_refusesLoad_9 rfl ?_
    refine lv_iconst (v := J 4) hx hb dX5_refusesLoad_10 rfl ?_
    obtain ⟨v5, qv5, hf⟩ := bnd_some hf
    refine jc_i (va_runS (As := [.int (J a2), .int (J 0), .int (J 4)]) (rest := []) ⟨hx, hb, hml, hown, hts⟩ (kX5_in l D ca ad hI M hR a2 0 4 i2 (by decide : inR 0) (by decide : inR 4) v5 qv5) (va_cwS 3 hts gX5_refusesLoad_X5_in rfl rfl rfl (by decide +kernel) ⟨Nat.le_of_ble_eq_true rfl, Nat.le_of_ble_eq_true rfl⟩) (psY hK hP [.int (J a2), .int (J 0), .int (J 4)]) rfl rfl hl.1 rfl (lv_room (Nat.le_of_ble_eq_true rfl)) dX5_refusesLoad_11 ⟨Nat.zero_le _, Nat.zero_le _⟩) hS (fun H locs t ht hφ hO hS => ?_)
    have rv5 := hφ
    have hP : va_P D vwCl (wY ca ad M) H := by rw [← ht]; exact hO
    refine jv_if_ne (tgt := 21) hx hb dX5_refusesLoad_14 (by decide) rv5 (fun c7 => ?_) (fun c7 => ?_)
    · have hf := iten hf c7
      refine lv_iload_n hx hb dX5_refusesLoad_21 rfl (lv_at hl 3 rfl) ?_
      refine lv_iconst (v := J 0) hx hb dX5_refusesLoad_22 rfl ?_
      refine lv_bipush (v := J 99) hx hb dX5_refusesLoad_23 (by decide +kernel) ?_
      obtain ⟨v8, qv8, hf⟩ := bnd_some hf
      refine jc_i (va_runS (As := [.int (J a3), .int (J 0), .int (J 99)]) (rest := []) ⟨hx, hb, hml, hown, hts⟩ (kX5_in l D ca ad hI M hR a3 0 99 i3 (by decide : inR 0) (by decide : inR 99) v8 qv8) (va_cwS 3 hts gX5_refusesLoad_X5_in rfl rfl rfl (by decide +kernel) ⟨Nat.le_of_ble_eq_true rfl, Nat.le_of_ble_eq_true rfl⟩) (psY hK hP [.int (J a3), .int (J 0), .int (J 99)]) rfl rfl hl.1 rfl (lv_room (Nat.le_of_ble_eq_true rfl)) dX5_refusesLoad_25 ⟨Nat.zero_le _, Nat.zero_le _⟩) hS (fun H locs t ht hφ hO hS => ?_)
      have rv8 := hφ
      have hP : va_P D vwCl (wY ca ad M) H := by rw [← ht]; exact hO
      refine jv_if_eq (tgt := 35) hx hb dX5_refusesLoad_28 (by decide) rv8 (fun c10 => ?_) (fun c10 => ?_)
      · have hf := itep hf c10
        refine lv_bipush (v := J (-2)) hx hb dX5_refusesLoad_35 (by decide +kernel) ?_
        cases hf
        exact K4 _ _ _ (by decide : inR (-2))  hP hS (lv_sub hl [] rfl)
      · have hf := iten hf c10
        refine lv_iconst (v := J 0) hx hb dX5_refusesLoad_31 rfl ?_
        refine lv_goto (tgt := 37) hx hb dX5_refusesLoad_32 (by decide) ?_
        cases hf
        exact K4 _ _ _ (by decide : inR 0)  hP hS (lv_sub hl [] rfl)
    · have hf := itep hf c7
      refine lv_iconst (v := J (-1)) hx hb dX5_refusesLoad_17 rfl ?_
      refine lv_goto (tgt := 37) hx hb dX5_refusesLoad_18 (by decide) ?_
      cases hf
      exact K4 _ _ _ (by decide : inR (-1))  hP hS (lv_sub hl [] rfl)
def fX5_load (a1 : Int) (a2 : Int) (a3 : Int) (M : MM) : Option (Int × MM) := bnd (some (stM M 0 0 0)) (fun M1 => bnd (fX5_refusesLoad a1 a2 a3 M1) (fun v2 => if v2 = 0 then bnd (fX5_records M1) (fun M6 => gd (inR (2 + a2)) (bnd (fX5_van0 a1 (2 + a2) M6) (fun v8 => bnd (wr M6 1 160 (((5 + (7 * a1)) + 2) + a2) a3) (fun M10 => some (v8, M10))))) else some (v2, M1)))
set_option maxHeartbeats 4000000 in
set_option maxRecDepth 100000 in
theorem kX5_load (l : Launch) (D : va_G) (ca : Nat → ClassId) (ad : Nat → Nat) (hI : aInj 18 ad) (M : MM) (hR : RR M) (a1 : Int) (a2 : Int) (a3 : Int) (i1 : inR a1) (i2 : inR a2) (i3 : inR a3) (res : Int) (M' : MM) (hf : fX5_load a1 a2 a3 M = some (res, M')) : CI l yX5_load wsX5_load 3 66 [.ref (ad 0), .int (J a1), .int (J a2), .int (J a3)] (PY D ca ad M) res (inR res ∧ RR M') (OY D ca ad M') (aS 18 ad) := by
  refine Met.ofW (cc := cX5_load) (maxL := 6) (ret := (some .int)) (by decide) rfl ?_
  intro p e s m args below meth c s₁ B hml hv
  obtain ⟨rfl, hP, hK⟩ := hv
  have hx := B.exec
  have hb := B.bytes
  have hr := B.returns
  have hts := atoms_spec (ws := wsX5_load) B.pre
  have hown : s.vm.findClass RX5 = some m.cls := findClass_of_methodNamed B.named
  have hlocks := B.notSynchronized
  have hS : va_S (aS 18 ad) s.heap s.heap [] := va_S.rf
  have hinX5 : ∀ w ∈ wsX50, w ∈ wsX5_load := by decide +kernel
  have hl := lv_entry ([.ref (ad 0), .int (J a1), .int (J a2), .int (J a3)]) (n := 6) (Nat.le_of_ble_eq_true rfl)
  rw [lg_entry_eq]
  generalize (lg_sl ([.ref (ad 0), .int (J a1), .int (J a2), .int (J a3)]) ++ List.replicate (6 - (lg_sl ([.ref (ad 0), .int (J a1), .int (J a2), .int (J a3)])).length) Slot.unset).toArray = ls at hl ⊢
  have hl : lv_has ls 6 [(0, .ref (ad 0)), (1, .int (J a1)), (2, .int (J a2)), (3, .int (J a3))] := hl
  unfold fX5_load at hf
  refine lv_aload_n hx hb dX5_load_0 rfl (lv_at hl 0 rfl) ?_
  refine lv_iconst (v := J 0) hx hb dX5_load_1 rfl ?_
  obtain ⟨M1, eM1, hf⟩ := bnd_some hf
  have eM1 := Option.some.inj eM1
  have hRM1 : RR M1 := by rw [← eM1]; exact RR_st hR 0 0 (by decide : inR 0)
  refine va_put (D := D) (ci := 5) (v := .int (J 0)) (ty := .int) (C := RX5) (T := TX5) (N := 23) hx hb hts hinX5 tyX5 tyX5_ok nmX5 hown hK hP (wL_D hI M) hS 0 (wL_get (by decide) (gY_0 _)) rfl 0 (by decide) (hts (.fieldLink RX5 62 "VisitVansModel" "thrown" "I") (List.mem_of_getElem? (i := 1) rfl)) (fun _ h => h) rfl rfl rfl rfl (Nat.le_of_ble_eq_true rfl) dX5_load_2 (fun H locs hP hD hS => ?_)
  have hP : va_P D vwCl (wY ca ad M1) H := by rw [← eM1]; exact hPset (gY_0_s0) stM_o hP
  refine lv_aload_n hx hb dX5_load_5 rfl (lv_at hl 0 rfl) ?_
  refine lv_iload_n hx hb dX5_load_6 rfl (lv_at hl 1 rfl) ?_
  refine lv_iload_n hx hb dX5_load_7 rfl (lv_at hl 2 rfl) ?_
  refine lv_iload_n hx hb dX5_load_8 rfl (lv_at hl 3 rfl) ?_
  obtain ⟨v2, qv2, hf⟩ := bnd_some hf
  refine jc_i (va_runV (As := [.int (J a1), .int (J a2), .int (J a3)]) (rest := []) ⟨hx, hb, hml, hown, hts⟩ (kX5_refusesLoad l D ca ad hI M1 hRM1 a1 a2 a3 i1 i2 i3 v2 qv2) (cwV 3 hts gX5_load_X5_refusesLoad rfl rfl rfl (by decide +kernel) ⟨Nat.le_of_ble_eq_true rfl, Nat.le_of_ble_eq_true rfl⟩) (pvY hK hP [.int (J a1), .int (J a2), .int (J a3)]) rfl rfl hl.1 rfl (lv_room (Nat.le_of_ble_eq_true rfl)) dX5_load_9 ⟨Nat.zero_le _, Nat.zero_le _⟩) hS (fun H locs t ht hφ hO hS => ?_)
  have rv2 := hφ
  have hP : va_P D vwCl (wY ca ad M1) H := by rw [← ht]; exact hO
  refine lv_istore (lv' := [(4, .int (J v2)), (0, .ref (ad 0)), (1, .int (J a1)), (2, .int (J a2)), (3, .int (J a3))]) hx hb dX5_load_12 hl (by decide) rfl (fun ls hl => ?_)
  refine lv_iload hx hb dX5_load_14 (lv_at hl 0 rfl) ?_
  refine jv_if_eq (tgt := 22) hx hb dX5_load_16 (by decide) rv2 (fun c4 => ?_) (fun c4 => ?_)
  · have hf := itep hf c4
    refine lv_aload_n hx hb dX5_load_22 rfl (lv_at hl 1 rfl) ?_
    obtain ⟨M6, qM6, hf⟩ := bnd_some hf
    refine jc_v (va_runV (As := []) (rest := []) ⟨hx, hb, hml, hown, hts⟩ (kX5_records l D ca ad hI M1 hRM1 M6 qM6) (cwV 0 hts gX5_load_X5_records rfl rfl rfl (by decide +kernel) ⟨Nat.le_of_ble_eq_true rfl, Nat.le_of_ble_eq_true rfl⟩) (pvY hK hP []) rfl rfl hl.1 rfl (lv_room (Nat.le_of_ble_eq_true rfl)) dX5_load_23 ⟨Nat.zero_le _, Nat.zero_le _⟩) hS (fun H locs t ht hφ hO hS => ?_)
    have hRM6 := hφ
    have hP : va_P D vwCl (wY ca ad M6) H := by rw [← ht]; exact hO
    refine lv_aload_n hx hb dX5_load_26 rfl (lv_at hl 1 rfl) ?_
    refine lv_iload_n hx hb dX5_load_27 rfl (lv_at hl 2 rfl) ?_
    refine lv_iconst (v := J 2) hx hb dX5_load_28 rfl ?_
    refine lv_iload_n hx hb dX5_load_29 rfl (lv_at hl 3 rfl) ?_
    refine jv_iadd hx hb dX5_load_30 ?_
    obtain ⟨g7, hf⟩ := gd_some hf
    obtain ⟨v8, qv8, hf⟩ := bnd_some hf
    refine jc_i (va_runV (As := [.int (J a1), .int (J (2 + a2))]) (rest := []) ⟨hx, hb, hml, hown, hts⟩ (kX5_van0 l D ca ad hI M6 hRM6 a1 (2 + a2) i1 g7 v8 qv8) (cwV 2 hts gX5_load_X5_van0 rfl rfl rfl (by decide +kernel) ⟨Nat.le_of_ble_eq_true rfl, Nat.le_of_ble_eq_true rfl⟩) (pvY hK hP [.int (J a1), .int (J (2 + a2))]) rfl rfl hl.1 rfl (lv_room (Nat.le_of_ble_eq_true rfl)) dX5_load_31 ⟨Nat.zero_le _, Nat.zero_le _⟩) hS (fun H locs t ht hφ hO hS => ?_)
    have rv8 := hφ
    have hP : va_P D vwCl (wY ca ad M6) H := by rw [← ht]; exact hO
    refine lv_istore (lv' := [(5, .int (J v8)), (4, .int (J v2)), (0, .ref (ad 0)), (1, .int (J a1)), (2, .int (J a2)), (3, .int (J a3))]) hx hb dX5_load_34 hl (by decide) rfl (fun ls hl => ?_)
    refine lv_aload_n hx hb dX5_load_36 rfl (lv_at hl 2 rfl) ?_
    refine va_get (D := D) (ci := 5) (v := .ref (ad 1)) (C := RX5) (T := TX5) (N := 23) hx hb hts hinX5 hown hK hP 0 (wL_get (by decide) (gY_0 _)) rfl 1 (by decide) (hts (.fieldLink RX5 7 "VisitVansModel" "s" "[I") (List.mem_of_getElem? (i := 2) rfl)) (fun _ h => h) rfl dX5_load_37 ?_
    refine lv_iconst (v := J 5) hx hb dX5_load_40 rfl ?_
    refine lv_bipush (v := J 7) hx hb dX5_load_41 (by decide +kernel) ?_
    refine lv_iload_n hx hb dX5_load_43 rfl (lv_at hl 3 rfl) ?_
    refine jv_imul hx hb dX5_load_44 ?_
    refine jv_iadd hx hb dX5_load_45 ?_
    refine lv_iconst (v := J 2) hx hb dX5_load_46 rfl ?_
    refine jv_iadd hx hb dX5_load_47 ?_
    refine lv_iload_n hx hb dX5_load_48 rfl (lv_at hl 4 rfl) ?_
    refine jv_iadd hx hb dX5_load_49 ?_
    refine lv_iload_n hx hb dX5_load_50 rfl (lv_at hl 5 rfl) ?_
    obtain ⟨M10, qM10, hf⟩ := bnd_some hf
    obtain ⟨bM10, zM10, eM10⟩ := wr_some qM10
    have hRM10 : RR M10 := by rw [eM10]; exact RR_st hRM6 _ _ zM10
    refine jx_iast hx hb hK hP hI hS 1 0 (by decide) gY_1 rfl (by decide) bM10 zM10 dX5_load_51 (fun H locs hP hS => ?_)
    rw [← eM10] at hP
    refine lv_iload hx hb dX5_load_52 (lv_at hl 0 rfl) ?_
    obtain ⟨e1, e2⟩ := Prod.mk.inj (Option.some.inj hf)
    exact jend_i hx hb hr rfl hS e1 ⟨by rw [← e1]; exact rv8, by rw [← e2]; exact hRM10⟩ (oY e2 hP) dX5_load_54 hlocks
  · have hf := iten hf c4
    refine lv_iload hx hb dX5_load_19 (lv_at hl 0 rfl) ?_
    obtain ⟨e1, e2⟩ := Prod.mk.inj (Option.some.inj hf)
    exact jend_i hx hb hr rfl hS e1 ⟨by rw [← e1]; exact rv2, by rw [← e2]; exact hRM1⟩ (oY e2 hP) dX5_load_21 hlocks
