/-! METHODS: pure functions and the walks of their bytecode, laid by program (wip/whole): X3_copyFrom X4_within X3_changeSetting X3_vanFact X3_partsOf X3_visitFact X4_isPart X4_visitError X3_putVisit X3_addVisit X3_hasVisit X3_removeVisit X3_addVan X3_hasVan X3_changeStock -/
def fX3_copyFrom (r0 : Nat) (r1 : Nat) (M : MM) : Option (MM) := bnd (cpy M (5 * r1 + 1) 3 0 (5 * r0 + 1) 3 0 3) (fun M1 => bnd (cpy M1 (5 * r1 + 2) 126 0 (5 * r0 + 2) 126 0 126) (fun M2 => bnd (cpy M2 (5 * r1 + 3) 8 0 (5 * r0 + 3) 8 0 8) (fun M3 => bnd (cpy M3 (5 * r1 + 4) 20 0 (5 * r0 + 4) 20 0 20) (fun M4 => bnd (some (stM M4 (5 * r0) 4 (M4 (5 * r1) 4))) (fun M5 => bnd (some (stM M5 (5 * r0) 5 (M5 (5 * r1) 5))) (fun M6 => some M6))))))
set_option maxHeartbeats 4000000 in
set_option maxRecDepth 100000 in
theorem kX3_copyFrom (l : Launch) (D : va_G) (ca : Nat → ClassId) (v : EV) (ad : Nat → Nat) (hI : aInj 75 ad) (M : MM) (hR : RR M) (r0 : Nat) (hr0 : r0 < 11) (r1 : Nat) (hr1 : r1 < 11) (M' : MM) (hf : fX3_copyFrom r0 r1 M = some M') : CV l yX3_copyFrom wsX3_copyFrom 1 40 [.ref (ad (5 * r0)), .ref (ad (5 * r1))] (PX D ca v ad M) (RR M') (OX D ca ad M') (aS 75 ad) := by
  refine Met.ofW (cc := cX3_copyFrom) (maxL := 2) (ret := none) (by decide) rfl ?_
  intro p e s m args below meth c s₁ B hml hv
  obtain ⟨rfl, hP, hK, hE⟩ := hv
  have hx := B.exec
  have hb := B.bytes
  have hr := B.returns
  have hts := atoms_spec (ws := wsX3_copyFrom) B.pre
  have hown : s.vm.findClass RX3 = some m.cls := findClass_of_methodNamed B.named
  have hlocks := B.notSynchronized
  have hS : va_S (aS 75 ad) s.heap s.heap [] := va_S.rf
  have hinX3 : ∀ w ∈ wsX30, w ∈ wsX3_copyFrom := by decide +kernel
  have hl := lv_entry ([.ref (ad (5 * r0)), .ref (ad (5 * r1))]) (n := 2) (Nat.le_of_ble_eq_true rfl)
  rw [lg_entry_eq]
  generalize (lg_sl ([.ref (ad (5 * r0)), .ref (ad (5 * r1))]) ++ List.replicate (2 - (lg_sl ([.ref (ad (5 * r0)), .ref (ad (5 * r1))])).length) Slot.unset).toArray = ls at hl ⊢
  have hl : lv_has ls 2 [(0, .ref (ad (5 * r0))), (1, .ref (ad (5 * r1)))] := hl
  unfold fX3_copyFrom at hf
  refine lv_aload_n hx hb dX3_copyFrom_0 rfl (lv_at hl 1 rfl) ?_
  refine va_get (D := D) (ci := 3) (v := .ref (ad (5 * r1 + 1))) (C := RX3) (T := TX3) (N := 6) hx hb hts hinX3 hown hK hP (5 * r1) (wL_get (by omega) (gX_r0 hr1 _)) rfl 0 (by decide) (hts (.fieldLink RX3 18 "VisitVans$Road" "settings" "[I") (List.mem_of_getElem? (i := 1) rfl)) (fun _ h => h) rfl dX3_copyFrom_1 ?_
  refine lv_iconst (v := J 0) hx hb dX3_copyFrom_4 rfl ?_
  refine lv_aload_n hx hb dX3_copyFrom_5 rfl (lv_at hl 0 rfl) ?_
  refine va_get (D := D) (ci := 3) (v := .ref (ad (5 * r0 + 1))) (C := RX3) (T := TX3) (N := 6) hx hb hts hinX3 hown hK hP (5 * r0) (wL_get (by omega) (gX_r0 hr0 _)) rfl 0 (by decide) (hts (.fieldLink RX3 18 "VisitVans$Road" "settings" "[I") (List.mem_of_getElem? (i := 1) rfl)) (fun _ h => h) rfl dX3_copyFrom_6 ?_
  refine lv_iconst (v := J 0) hx hb dX3_copyFrom_9 rfl ?_
  refine lv_iconst (v := J 3) hx hb dX3_copyFrom_10 rfl ?_
  obtain ⟨M1, qM1, hf⟩ := bnd_some hf
  obtain ⟨bM1, eM1⟩ := cpy_some qM1
  have hRM1 : RR M1 := by rw [eM1]; exact RR_cp hR _ _ _ _ _
  refine jx_copy hx hb (by rw [hml]; exact hl.1.symm) hown (hts (.methodLink RX3 32 arraycopyName) (List.mem_of_getElem? (i := 2) rfl)) (hts (.native arraycopyName) (List.mem_of_getElem? (i := 3) rfl)) (hts (.static arraycopyName) (List.mem_of_getElem? (i := 4) rfl)) (hts (.initialized "java/lang/System") (List.mem_of_getElem? (i := 5) rfl)) hK hP hI hS (5 * r1 + 1) (5 * r0 + 1) 0 (by omega) (by omega) (gX_r1 hr1) (gX_r1 hr0) rfl (by decide) (by decide) bM1 (Nat.le_of_ble_eq_true rfl) (Nat.le_of_ble_eq_true rfl) dX3_copyFrom_11 (fun H locs hP hS => ?_)
  rw [← eM1] at hP
  refine lv_aload_n hx hb dX3_copyFrom_14 rfl (lv_at hl 1 rfl) ?_
  refine va_get (D := D) (ci := 3) (v := .ref (ad (5 * r1 + 2))) (C := RX3) (T := TX3) (N := 6) hx hb hts hinX3 hown hK hP (5 * r1) (wL_get (by omega) (gX_r0 hr1 _)) rfl 1 (by decide) (hts (.fieldLink RX3 23 "VisitVans$Road" "visits" "[I") (List.mem_of_getElem? (i := 6) rfl)) (fun _ h => h) rfl dX3_copyFrom_15 ?_
  refine lv_iconst (v := J 0) hx hb dX3_copyFrom_18 rfl ?_
  refine lv_aload_n hx hb dX3_copyFrom_19 rfl (lv_at hl 0 rfl) ?_
  refine va_get (D := D) (ci := 3) (v := .ref (ad (5 * r0 + 2))) (C := RX3) (T := TX3) (N := 6) hx hb hts hinX3 hown hK hP (5 * r0) (wL_get (by omega) (gX_r0 hr0 _)) rfl 1 (by decide) (hts (.fieldLink RX3 23 "VisitVans$Road" "visits" "[I") (List.mem_of_getElem? (i := 6) rfl)) (fun _ h => h) rfl dX3_copyFrom_20 ?_
  refine lv_iconst (v := J 0) hx hb dX3_copyFrom_23 rfl ?_
  refine lv_aload_n hx hb dX3_copyFrom_24 rfl (lv_at hl 0 rfl) ?_
  refine va_get (D := D) (ci := 3) (v := .ref (ad (5 * r0 + 2))) (C := RX3) (T := TX3) (N := 6) hx hb hts hinX3 hown hK hP (5 * r0) (wL_get (by omega) (gX_r0 hr0 _)) rfl 1 (by decide) (hts (.fieldLink RX3 23 "VisitVans$Road" "visits" "[I") (List.mem_of_getElem? (i := 6) rfl)) (fun _ h => h) rfl dX3_copyFrom_25 ?_
  refine jx_alen (v := 126) hx hb hK hP (5 * r0 + 2) 0 (by omega) (gX_r2 hr0) rfl rfl dX3_copyFrom_28 ?_
  obtain ⟨M2, qM2, hf⟩ := bnd_some hf
  obtain ⟨bM2, eM2⟩ := cpy_some qM2
  have hRM2 : RR M2 := by rw [eM2]; exact RR_cp hRM1 _ _ _ _ _
  refine jx_copy hx hb (by rw [hml]; exact hl.1.symm) hown (hts (.methodLink RX3 32 arraycopyName) (List.mem_of_getElem? (i := 2) rfl)) (hts (.native arraycopyName) (List.mem_of_getElem? (i := 3) rfl)) (hts (.static arraycopyName) (List.mem_of_getElem? (i := 4) rfl)) (hts (.initialized "java/lang/System") (List.mem_of_getElem? (i := 5) rfl)) hK hP hI hS (5 * r1 + 2) (5 * r0 + 2) 0 (by omega) (by omega) (gX_r2 hr1) (gX_r2 hr0) rfl (by decide) (by decide) bM2 (Nat.le_of_ble_eq_true rfl) (Nat.le_of_ble_eq_true rfl) dX3_copyFrom_29 (fun H locs hP hS => ?_)
  rw [← eM2] at hP
  refine lv_aload_n hx hb dX3_copyFrom_32 rfl (lv_at hl 1 rfl) ?_
  refine va_get (D := D) (ci := 3) (v := .ref (ad (5 * r1 + 3))) (C := RX3) (T := TX3) (N := 6) hx hb hts hinX3 hown hK hP (5 * r1) (wL_get (by omega) (gX_r0 hr1 _)) rfl 2 (by decide) (hts (.fieldLink RX3 26 "VisitVans$Road" "vans" "[I") (List.mem_of_getElem? (i := 7) rfl)) (fun _ h => h) rfl dX3_copyFrom_33 ?_
  refine lv_iconst (v := J 0) hx hb dX3_copyFrom_36 rfl ?_
  refine lv_aload_n hx hb dX3_copyFrom_37 rfl (lv_at hl 0 rfl) ?_
  refine va_get (D := D) (ci := 3) (v := .ref (ad (5 * r0 + 3))) (C := RX3) (T := TX3) (N := 6) hx hb hts hinX3 hown hK hP (5 * r0) (wL_get (by omega) (gX_r0 hr0 _)) rfl 2 (by decide) (hts (.fieldLink RX3 26 "VisitVans$Road" "vans" "[I") (List.mem_of_getElem? (i := 7) rfl)) (fun _ h => h) rfl dX3_copyFrom_38 ?_
  refine lv_iconst (v := J 0) hx hb dX3_copyFrom_41 rfl ?_
  refine lv_aload_n hx hb dX3_copyFrom_42 rfl (lv_at hl 0 rfl) ?_
  refine va_get (D := D) (ci := 3) (v := .ref (ad (5 * r0 + 3))) (C := RX3) (T := TX3) (N := 6) hx hb hts hinX3 hown hK hP (5 * r0) (wL_get (by omega) (gX_r0 hr0 _)) rfl 2 (by decide) (hts (.fieldLink RX3 26 "VisitVans$Road" "vans" "[I") (List.mem_of_getElem? (i := 7) rfl)) (fun _ h => h) rfl dX3_copyFrom_43 ?_
  refine jx_alen (v := 8) hx hb hK hP (5 * r0 + 3) 0 (by omega) (gX_r3 hr0) rfl rfl dX3_copyFrom_46 ?_
  obtain ⟨M3, qM3, hf⟩ := bnd_some hf
  obtain ⟨bM3, eM3⟩ := cpy_some qM3
  have hRM3 : RR M3 := by rw [eM3]; exact RR_cp hRM2 _ _ _ _ _
  refine jx_copy hx hb (by rw [hml]; exact hl.1.symm) hown (hts (.methodLink RX3 32 arraycopyName) (List.mem_of_getElem? (i := 2) rfl)) (hts (.native arraycopyName) (List.mem_of_getElem? (i := 3) rfl)) (hts (.static arraycopyName) (List.mem_of_getElem? (i := 4) rfl)) (hts (.initialized "java/lang/System") (List.mem_of_getElem? (i := 5) rfl)) hK hP hI hS (5 * r1 + 3) (5 * r0 + 3) 0 (by omega) (by omega) (gX_r3 hr1) (gX_r3 hr0) rfl (by decide) (by decide) bM3 (Nat.le_of_ble_eq_true rfl) (Nat.le_of_ble_eq_true rfl) dX3_copyFrom_47 (fun H locs hP hS => ?_)
  rw [← eM3] at hP
  refine lv_aload_n hx hb dX3_copyFrom_50 rfl (lv_at hl 1 rfl) ?_
  refine va_get (D := D) (ci := 3) (v := .ref (ad (5 * r1 + 4))) (C := RX3) (T := TX3) (N := 6) hx hb hts hinX3 hown hK hP (5 * r1) (wL_get (by omega) (gX_r0 hr1 _)) rfl 3 (by decide) (hts (.fieldLink RX3 29 "VisitVans$Road" "parts" "[I") (List.mem_of_getElem? (i := 8) rfl)) (fun _ h => h) rfl dX3_copyFrom_51 ?_
  refine lv_iconst (v := J 0) hx hb dX3_copyFrom_54 rfl ?_
  refine lv_aload_n hx hb dX3_copyFrom_55 rfl (lv_at hl 0 rfl) ?_
  refine va_get (D := D) (ci := 3) (v := .ref (ad (5 * r0 + 4))) (C := RX3) (T := TX3) (N := 6) hx hb hts hinX3 hown hK hP (5 * r0) (wL_get (by omega) (gX_r0 hr0 _)) rfl 3 (by decide) (hts (.fieldLink RX3 29 "VisitVans$Road" "parts" "[I") (List.mem_of_getElem? (i := 8) rfl)) (fun _ h => h) rfl dX3_copyFrom_56 ?_
  refine lv_iconst (v := J 0) hx hb dX3_copyFrom_59 rfl ?_
  refine lv_aload_n hx hb dX3_copyFrom_60 rfl (lv_at hl 0 rfl) ?_
  refine va_get (D := D) (ci := 3) (v := .ref (ad (5 * r0 + 4))) (C := RX3) (T := TX3) (N := 6) hx hb hts hinX3 hown hK hP (5 * r0) (wL_get (by omega) (gX_r0 hr0 _)) rfl 3 (by decide) (hts (.fieldLink RX3 29 "VisitVans$Road" "parts" "[I") (List.mem_of_getElem? (i := 8) rfl)) (fun _ h => h) rfl dX3_copyFrom_61 ?_
  refine jx_alen (v := 20) hx hb hK hP (5 * r0 + 4) 0 (by omega) (gX_r4 hr0) rfl rfl dX3_copyFrom_64 ?_
  obtain ⟨M4, qM4, hf⟩ := bnd_some hf
  obtain ⟨bM4, eM4⟩ := cpy_some qM4
  have hRM4 : RR M4 := by rw [eM4]; exact RR_cp hRM3 _ _ _ _ _
  refine jx_copy hx hb (by rw [hml]; exact hl.1.symm) hown (hts (.methodLink RX3 32 arraycopyName) (List.mem_of_getElem? (i := 2) rfl)) (hts (.native arraycopyName) (List.mem_of_getElem? (i := 3) rfl)) (hts (.static arraycopyName) (List.mem_of_getElem? (i := 4) rfl)) (hts (.initialized "java/lang/System") (List.mem_of_getElem? (i := 5) rfl)) hK hP hI hS (5 * r1 + 4) (5 * r0 + 4) 0 (by omega) (by omega) (gX_r4 hr1) (gX_r4 hr0) rfl (by decide) (by decide) bM4 (Nat.le_of_ble_eq_true rfl) (Nat.le_of_ble_eq_true rfl) dX3_copyFrom_65 (fun H locs hP hS => ?_)
  rw [← eM4] at hP
  refine lv_aload_n hx hb dX3_copyFrom_68 rfl (lv_at hl 0 rfl) ?_
  refine lv_aload_n hx hb dX3_copyFrom_69 rfl (lv_at hl 1 rfl) ?_
  refine va_get (D := D) (ci := 3) (v := .int (J (M4 (5 * r1) 4))) (C := RX3) (T := TX3) (N := 6) hx hb hts hinX3 hown hK hP (5 * r1) (wL_get (by omega) (gX_r0 hr1 _)) rfl 4 (by decide) (hts (.fieldLink RX3 38 "VisitVans$Road" "visitCount" "I") (List.mem_of_getElem? (i := 9) rfl)) (fun _ h => h) rfl dX3_copyFrom_70 ?_
  obtain ⟨M5, eM5, hf⟩ := bnd_some hf
  have eM5 := Option.some.inj eM5
  have hRM5 : RR M5 := by rw [← eM5]; exact RR_st hRM4 (5 * r0) 4 (hRM4 (5 * r1) 4)
  refine va_put (D := D) (ci := 3) (v := .int (J (M4 (5 * r1) 4))) (ty := .int) (C := RX3) (T := TX3) (N := 6) hx hb hts hinX3 tyX3 tyX3_ok nmX3 hown hK hP (wL_D hI M4) hS (5 * r0) (wL_get (by omega) (gX_r0 hr0 _)) rfl 4 (by decide) (hts (.fieldLink RX3 38 "VisitVans$Road" "visitCount" "I") (List.mem_of_getElem? (i := 9) rfl)) (fun _ h => h) rfl rfl rfl rfl (Nat.le_of_ble_eq_true rfl) dX3_copyFrom_73 (fun H locs hP hD hS => ?_)
  have hP : va_P D vwCl (wX ca ad M5) H := by rw [← eM5]; exact hPset (gX_r0_s4 hr0) stM_o hP
  refine lv_aload_n hx hb dX3_copyFrom_76 rfl (lv_at hl 0 rfl) ?_
  refine lv_aload_n hx hb dX3_copyFrom_77 rfl (lv_at hl 1 rfl) ?_
  refine va_get (D := D) (ci := 3) (v := .int (J (M5 (5 * r1) 5))) (C := RX3) (T := TX3) (N := 6) hx hb hts hinX3 hown hK hP (5 * r1) (wL_get (by omega) (gX_r0 hr1 _)) rfl 5 (by decide) (hts (.fieldLink RX3 42 "VisitVans$Road" "vanCount" "I") (List.mem_of_getElem? (i := 10) rfl)) (fun _ h => h) rfl dX3_copyFrom_78 ?_
  obtain ⟨M6, eM6, hf⟩ := bnd_some hf
  have eM6 := Option.some.inj eM6
  have hRM6 : RR M6 := by rw [← eM6]; exact RR_st hRM5 (5 * r0) 5 (hRM5 (5 * r1) 5)
  refine va_put (D := D) (ci := 3) (v := .int (J (M5 (5 * r1) 5))) (ty := .int) (C := RX3) (T := TX3) (N := 6) hx hb hts hinX3 tyX3 tyX3_ok nmX3 hown hK hP (wL_D hI M5) hS (5 * r0) (wL_get (by omega) (gX_r0 hr0 _)) rfl 5 (by decide) (hts (.fieldLink RX3 42 "VisitVans$Road" "vanCount" "I") (List.mem_of_getElem? (i := 10) rfl)) (fun _ h => h) rfl rfl rfl rfl (Nat.le_of_ble_eq_true rfl) dX3_copyFrom_81 (fun H locs hP hD hS => ?_)
  have hP : va_P D vwCl (wX ca ad M6) H := by rw [← eM6]; exact hPset (gX_r0_s5 hr0) stM_o hP
  have e2 := Option.some.inj hf
  exact jend_v hx hb hr hS (by rw [← e2]; exact hRM6) (oX e2 hP) dX3_copyFrom_84 hlocks
def fX4_within (a1 : Int) (a2 : Int) (a3 : Int) : Option (Int) := bnd (if a1 < a2 then some ((0 : Int)) else if a3 < a1 then some ((0 : Int)) else some ((1 : Int))) (fun y2_0 => gd (y2_0 = 0 ∨ y2_0 = 1) (some y2_0))
set_option maxHeartbeats 4000000 in
set_option maxRecDepth 100000 in
theorem kX4_within (l : Launch) (D : va_G) (ca : Nat → ClassId) (v : EV) (ad : Nat → Nat) (hI : aInj 75 ad) (M : MM) (hR : RR M) (a1 : Int) (a2 : Int) (a3 : Int) (i1 : inR a1) (i2 : inR a2) (i3 : inR a3) (res : Int) (hf : fX4_within a1 a2 a3 = some res) : CI l yX4_within wsX4_within 0 0 [.int (J a1), .int (J a2), .int (J a3)] (PX D ca v ad M) res (inR res) (OX D ca ad M) (aS 75 ad) := by
  refine Met.ofW (cc := cX4_within) (maxL := 3) (ret := (some .boolean)) (by decide) rfl ?_
  intro p e s m args below meth c s₁ B hml hv
  obtain ⟨rfl, hP, hK, hE⟩ := hv
  have hx := B.exec
  have hb := B.bytes
  have hr := B.returns
  have hts := atoms_spec (ws := wsX4_within) B.pre
  have hown : s.vm.findClass RX4 = some m.cls := findClass_of_methodNamed B.named
  have hlocks := B.notSynchronized
  have hS : va_S (aS 75 ad) s.heap s.heap [] := va_S.rf
  have hl := lv_entry ([.int (J a1), .int (J a2), .int (J a3)]) (n := 3) (Nat.le_of_ble_eq_true rfl)
  rw [lg_entry_eq]
  generalize (lg_sl ([.int (J a1), .int (J a2), .int (J a3)]) ++ List.replicate (3 - (lg_sl ([.int (J a1), .int (J a2), .int (J a3)])).length) Slot.unset).toArray = ls at hl ⊢
  have hl : lv_has ls 3 [(0, .int (J a1)), (1, .int (J a2)), (2, .int (J a3))] := hl
  unfold fX4_within at hf
  refine lv_iload_n hx hb dX4_within_0 rfl (lv_at hl 0 rfl) ?_
  refine lv_iload_n hx hb dX4_within_1 rfl (lv_at hl 1 rfl) ?_
  obtain ⟨y2_0, h2, hf⟩ := bnd_some hf
  have K2 : ∀ (H : Heap) (locs : List Loc) (ls : Array Slot), inR y2_0 → va_P D vwCl (wX ca ad M) H → va_S (aS 75 ad) s.heap H locs → lv_has ls 3 [] → W p l e (headSpec wsX4_within (RmC 0 0)).room s m ([.int (J a1), .int (J a2), .int (J a3)] : List Value).toArray below meth c H locs 0 0 (MQ below (va_Qi (fun x (_ : Unit) => x = J res ∧ (inR res)) (fun _ => (OX D ca ad M)) (aS 75 ad)) ([.int (J a1), .int (J a2), .int (J a3)] : List Value).toArray s 0 0 (aS 75 ad)) (F0 m 15 ls [.int (J y2_0)]) := by
    intro H locs ls ry2_0  hP hS hl
    obtain ⟨g4, hf⟩ := gd_some hf
    have e1 := Option.some.inj hf
    exact jend_i hx hb hr (J_wZ g4).1 hS e1 (by rw [← e1]; exact ry2_0) (oX rfl hP) dX4_within_15 hlocks
  have hf := h2
  clear h2
  refine jv_icmp_lt (tgt := 14) hx hb dX4_within_2 (by decide) i1 i2 (fun c1 => ?_) (fun c1 => ?_)
  · have hf := itep hf c1
    refine lv_iconst (v := J 0) hx hb dX4_within_14 rfl ?_
    cases hf
    exact K2 _ _ _ (by decide : inR 0)  hP hS (lv_sub hl [] rfl)
  · have hf := iten hf c1
    refine lv_iload_n hx hb dX4_within_5 rfl (lv_at hl 0 rfl) ?_
    refine lv_iload_n hx hb dX4_within_6 rfl (lv_at hl 2 rfl) ?_
    refine jv_icmp_gt (tgt := 14) hx hb dX4_within_7 (by decide) i1 i3 (fun c3 => ?_) (fun c3 => ?_)
    · have hf := itep hf c3
      refine lv_iconst (v := J 0) hx hb dX4_within_14 rfl ?_
      cases hf
      exact K2 _ _ _ (by decide : inR 0)  hP hS (lv_sub hl [] rfl)
    · have hf := iten hf c3
      refine lv_iconst (v := J 1) hx hb dX4_within_10 rfl ?_
      refine lv_goto (tgt := 15) hx hb dX4_within_11 (by decide) ?_
      cases hf
      exact K2 _ _ _ (by decide : inR 1)  hP hS (lv_sub hl [] rfl)
def fX3_changeSetting (r0 : Nat) (a1 : Int) (a2 : Int) (M : MM) : Option (Int × MM) := bnd (fX4_within a1 0 2) (fun v1 => if v1 = 0 then some ((-2), M) else gd (0 ≤ a1 ∧ a1 < 3) (gd (0 ≤ a1 ∧ a1 < 3) (bnd (fX4_within a2 (lsM (a1).toNat) (msM (a1).toNat)) (fun v6 => if v6 = 0 then some ((-2), M) else bnd (rd M (5 * r0 + 1) 3 a1) (fun v9 => bnd (wr M (5 * r0 + 1) 3 a1 a2) (fun M10 => some (v9, M10)))))))
set_option maxHeartbeats 4000000 in
set_option maxRecDepth 100000 in
theorem kX3_changeSetting (l : Launch) (D : va_G) (ca : Nat → ClassId) (v : EV) (ad : Nat → Nat) (hI : aInj 75 ad) (M : MM) (hR : RR M) (r0 : Nat) (hr0 : r0 < 11) (a1 : Int) (a2 : Int) (i1 : inR a1) (i2 : inR a2) (res : Int) (M' : MM) (hf : fX3_changeSetting r0 a1 a2 M = some (res, M')) : CI l yX3_changeSetting wsX3_changeSetting 1 22 [.ref (ad (5 * r0)), .int (J a1), .int (J a2)] (PX D ca v ad M) res (inR res ∧ RR M') (OX D ca ad M') (aS 75 ad) := by
  refine Met.ofW (cc := cX3_changeSetting) (maxL := 4) (ret := (some .int)) (by decide) rfl ?_
  intro p e s m args below meth c s₁ B hml hv
  obtain ⟨rfl, hP, hK, hE⟩ := hv
  have hx := B.exec
  have hb := B.bytes
  have hr := B.returns
  have hts := atoms_spec (ws := wsX3_changeSetting) B.pre
  have hown : s.vm.findClass RX3 = some m.cls := findClass_of_methodNamed B.named
  have hlocks := B.notSynchronized
  have hS : va_S (aS 75 ad) s.heap s.heap [] := va_S.rf
  have hinX3 : ∀ w ∈ wsX30, w ∈ wsX3_changeSetting := by decide +kernel
  have hl := lv_entry ([.ref (ad (5 * r0)), .int (J a1), .int (J a2)]) (n := 4) (Nat.le_of_ble_eq_true rfl)
  rw [lg_entry_eq]
  generalize (lg_sl ([.ref (ad (5 * r0)), .int (J a1), .int (J a2)]) ++ List.replicate (4 - (lg_sl ([.ref (ad (5 * r0)), .int (J a1), .int (J a2)])).length) Slot.unset).toArray = ls at hl ⊢
  have hl : lv_has ls 4 [(0, .ref (ad (5 * r0))), (1, .int (J a1)), (2, .int (J a2))] := hl
  unfold fX3_changeSetting at hf
  refine lv_iload_n hx hb dX3_changeSetting_0 rfl (lv_at hl 1 rfl) ?_
  refine lv_iconst (v := J 0) hx hb dX3_changeSetting_1 rfl ?_
  refine lv_iconst (v := J 2) hx hb dX3_changeSetting_2 rfl ?_
  obtain ⟨v1, qv1, hf⟩ := bnd_some hf
  refine jc_i (va_runSN (As := [.int (J a1), .int (J 0), .int (J 2)]) (rest := []) ⟨hx, hb, hml, hown, hts⟩ (kX4_within l D ca v ad hI M hR a1 0 2 i1 (by decide : inR 0) (by decide : inR 2) v1 qv1) ⟨va_cnB 3 hts gX3_changeSetting_X4_within_n45 rfl rfl rfl hE.1.1 (hts (.initialized RX4) (List.mem_of_getElem? (i := 3) rfl)) (by decide +kernel) ⟨Nat.le_of_ble_eq_true rfl, Nat.le_of_ble_eq_true rfl⟩, (hts (.static yX4_within) (List.mem_of_getElem? (i := 2) rfl)), trivial⟩ (psX hK hE hP hS [.int (J a1), .int (J 0), .int (J 2)]) rfl rfl hl.1 rfl (lv_room (Nat.le_of_ble_eq_true rfl)) dX3_changeSetting_3 ⟨Nat.zero_le _, Nat.zero_le _⟩) hS (fun H locs t ht hφ hO hS => ?_)
  have rv1 := hφ
  have hP : va_P D vwCl (wX ca ad M) H := by rw [← ht]; exact hO
  refine jv_if_ne (tgt := 12) hx hb dX3_changeSetting_6 (by decide) rv1 (fun c3 => ?_) (fun c3 => ?_)
  · have hf := iten hf c3
    refine lv_iload_n hx hb dX3_changeSetting_12 rfl (lv_at hl 2 rfl) ?_
    refine va_getsN hx hb hE.2.1.1 hS hown (va_Nw.use rfl hE.1.2.2.2.2.1) (fun _ h => h) dX3_changeSetting_13 ?_
    refine lv_iload_n hx hb dX3_changeSetting_16 rfl (lv_at hl 1 rfl) ?_
    obtain ⟨g4, hf⟩ := gd_some hf
    refine va_ti hx hb hE.2.1.2.1 hS (J_in (n := 3) (by decide) g4) (v := .int (J (lsM (a1).toNat))) (by rw [J_nat g4.1 (by omega)]) dX3_changeSetting_17 ?_
    refine va_getsN hx hb hE.2.1.2.2.1 hS hown (va_Nw.use rfl hE.1.2.2.2.2.2) (fun _ h => h) dX3_changeSetting_18 ?_
    refine lv_iload_n hx hb dX3_changeSetting_21 rfl (lv_at hl 1 rfl) ?_
    obtain ⟨g5, hf⟩ := gd_some hf
    refine va_ti hx hb hE.2.1.2.2.2 hS (J_in (n := 3) (by decide) g5) (v := .int (J (msM (a1).toNat))) (by rw [J_nat g5.1 (by omega)]) dX3_changeSetting_22 ?_
    obtain ⟨v6, qv6, hf⟩ := bnd_some hf
    refine jc_i (va_runSN (As := [.int (J a2), .int (J (lsM (a1).toNat)), .int (J (msM (a1).toNat))]) (rest := []) ⟨hx, hb, hml, hown, hts⟩ (kX4_within l D ca v ad hI M hR a2 (lsM (a1).toNat) (msM (a1).toNat) i2 (lsM_R _) (msM_R _) v6 qv6) ⟨va_cnB 3 hts gX3_changeSetting_X4_within_n45 rfl rfl rfl hE.1.1 (hts (.initialized RX4) (List.mem_of_getElem? (i := 3) rfl)) (by decide +kernel) ⟨Nat.le_of_ble_eq_true rfl, Nat.le_of_ble_eq_true rfl⟩, (hts (.static yX4_within) (List.mem_of_getElem? (i := 2) rfl)), trivial⟩ (psX hK hE hP hS [.int (J a2), .int (J (lsM (a1).toNat)), .int (J (msM (a1).toNat))]) rfl rfl hl.1 rfl (lv_room (Nat.le_of_ble_eq_true rfl)) dX3_changeSetting_23 ⟨Nat.zero_le _, Nat.zero_le _⟩) hS (fun H locs t ht hφ hO hS => ?_)
    have rv6 := hφ
    have hP : va_P D vwCl (wX ca ad M) H := by rw [← ht]; exact hO
    refine jv_if_ne (tgt := 32) hx hb dX3_changeSetting_26 (by decide) rv6 (fun c8 => ?_) (fun c8 => ?_)
    · have hf := iten hf c8
      refine lv_aload_n hx hb dX3_changeSetting_32 rfl (lv_at hl 0 rfl) ?_
      refine va_get (D := D) (ci := 3) (v := .ref (ad (5 * r0 + 1))) (C := RX3) (T := TX3) (N := 6) hx hb hts hinX3 hown hK hP (5 * r0) (wL_get (by omega) (gX_r0 hr0 _)) rfl 0 (by decide) (hts (.fieldLink RX3 18 "VisitVans$Road" "settings" "[I") (List.mem_of_getElem? (i := 1) rfl)) (fun _ h => h) rfl dX3_changeSetting_33 ?_
      refine lv_iload_n hx hb dX3_changeSetting_36 rfl (lv_at hl 1 rfl) ?_
      obtain ⟨v9, qv9, hf⟩ := bnd_some hf
      obtain ⟨bv9, ev9⟩ := rd_some qv9
      have rv9 : inR v9 := by rw [ev9]; exact hR _ _
      refine jx_iald hx hb hK hP (5 * r0 + 1) 0 (by omega) (gX_r1 hr0) rfl (by decide) bv9 ev9 dX3_changeSetting_37 ?_
      refine lv_istore_n (lv' := [(3, .int (J v9)), (0, .ref (ad (5 * r0))), (1, .int (J a1)), (2, .int (J a2))]) hx hb dX3_changeSetting_38 rfl hl (by decide) rfl (fun ls hl => ?_)
      refine lv_aload_n hx hb dX3_changeSetting_39 rfl (lv_at hl 1 rfl) ?_
      refine va_get (D := D) (ci := 3) (v := .ref (ad (5 * r0 + 1))) (C := RX3) (T := TX3) (N := 6) hx hb hts hinX3 hown hK hP (5 * r0) (wL_get (by omega) (gX_r0 hr0 _)) rfl 0 (by decide) (hts (.fieldLink RX3 18 "VisitVans$Road" "settings" "[I") (List.mem_of_getElem? (i := 1) rfl)) (fun _ h => h) rfl dX3_changeSetting_40 ?_
      refine lv_iload_n hx hb dX3_changeSetting_43 rfl (lv_at hl 2 rfl) ?_
      refine lv_iload_n hx hb dX3_changeSetting_44 rfl (lv_at hl 3 rfl) ?_
      obtain ⟨M10, qM10, hf⟩ := bnd_some hf
      obtain ⟨bM10, zM10, eM10⟩ := wr_some qM10
      have hRM10 : RR M10 := by rw [eM10]; exact RR_st hR _ _ zM10
      refine jx_iast hx hb hK hP hI hS (5 * r0 + 1) 0 (by omega) (gX_r1 hr0) rfl (by decide) bM10 zM10 dX3_changeSetting_45 (fun H locs hP hS => ?_)
      rw [← eM10] at hP
      refine lv_iload_n hx hb dX3_changeSetting_46 rfl (lv_at hl 0 rfl) ?_
      obtain ⟨e1, e2⟩ := Prod.mk.inj (Option.some.inj hf)
      exact jend_i hx hb hr rfl hS e1 ⟨by rw [← e1]; exact rv9, by rw [← e2]; exact hRM10⟩ (oX e2 hP) dX3_changeSetting_47 hlocks
    · have hf := itep hf c8
      refine lv_bipush (v := J (-2)) hx hb dX3_changeSetting_29 (by decide +kernel) ?_
      obtain ⟨e1, e2⟩ := Prod.mk.inj (Option.some.inj hf)
      exact jend_i hx hb hr rfl hS e1 ⟨by rw [← e1]; exact (by decide : inR (-2)), by rw [← e2]; exact hR⟩ (oX e2 hP) dX3_changeSetting_31 hlocks
  · have hf := itep hf c3
    refine lv_bipush (v := J (-2)) hx hb dX3_changeSetting_9 (by decide +kernel) ?_
    obtain ⟨e1, e2⟩ := Prod.mk.inj (Option.some.inj hf)
    exact jend_i hx hb hr rfl hS e1 ⟨by rw [← e1]; exact (by decide : inR (-2)), by rw [← e2]; exact hR⟩ (oX e2 hP) dX3_changeSetting_11 hlocks
def fX3_vanFact (r0 : Nat) (a1 : Int) (a2 : Int) (M : MM) : Option (Int) := bnd (rd M (5 * r0 + 3) 8 ((a1 * 2) + a2)) (fun v1 => some v1)
set_option maxHeartbeats 4000000 in
set_option maxRecDepth 100000 in
theorem kX3_vanFact (l : Launch) (D : va_G) (ca : Nat → ClassId) (v : EV) (ad : Nat → Nat) (hI : aInj 75 ad) (M : MM) (hR : RR M) (r0 : Nat) (hr0 : r0 < 11) (a1 : Int) (a2 : Int) (i1 : inR a1) (i2 : inR a2) (res : Int) (hf : fX3_vanFact r0 a1 a2 M = some res) : CI l yX3_vanFact wsX3_vanFact 0 0 [.ref (ad (5 * r0)), .int (J a1), .int (J a2)] (PX D ca v ad M) res (inR res) (OX D ca ad M) (aS 75 ad) := by
  refine Met.ofW (cc := cX3_vanFact) (maxL := 3) (ret := (some .int)) (by decide) rfl ?_
  intro p e s m args below meth c s₁ B hml hv
  obtain ⟨rfl, hP, hK, hE⟩ := hv
  have hx := B.exec
  have hb := B.bytes
  have hr := B.returns
  have hts := atoms_spec (ws := wsX3_vanFact) B.pre
  have hown : s.vm.findClass RX3 = some m.cls := findClass_of_methodNamed B.named
  have hlocks := B.notSynchronized
  have hS : va_S (aS 75 ad) s.heap s.heap [] := va_S.rf
  have hinX3 : ∀ w ∈ wsX30, w ∈ wsX3_vanFact := by decide +kernel
  have hl := lv_entry ([.ref (ad (5 * r0)), .int (J a1), .int (J a2)]) (n := 3) (Nat.le_of_ble_eq_true rfl)
  rw [lg_entry_eq]
  generalize (lg_sl ([.ref (ad (5 * r0)), .int (J a1), .int (J a2)]) ++ List.replicate (3 - (lg_sl ([.ref (ad (5 * r0)), .int (J a1), .int (J a2)])).length) Slot.unset).toArray = ls at hl ⊢
  have hl : lv_has ls 3 [(0, .ref (ad (5 * r0))), (1, .int (J a1)), (2, .int (J a2))] := hl
  unfold fX3_vanFact at hf
  refine lv_aload_n hx hb dX3_vanFact_0 rfl (lv_at hl 0 rfl) ?_
  refine va_get (D := D) (ci := 3) (v := .ref (ad (5 * r0 + 3))) (C := RX3) (T := TX3) (N := 6) hx hb hts hinX3 hown hK hP (5 * r0) (wL_get (by omega) (gX_r0 hr0 _)) rfl 2 (by decide) (hts (.fieldLink RX3 26 "VisitVans$Road" "vans" "[I") (List.mem_of_getElem? (i := 1) rfl)) (fun _ h => h) rfl dX3_vanFact_1 ?_
  refine lv_iload_n hx hb dX3_vanFact_4 rfl (lv_at hl 1 rfl) ?_
  refine lv_iconst (v := J 2) hx hb dX3_vanFact_5 rfl ?_
  refine jv_imul hx hb dX3_vanFact_6 ?_
  refine lv_iload_n hx hb dX3_vanFact_7 rfl (lv_at hl 2 rfl) ?_
  refine jv_iadd hx hb dX3_vanFact_8 ?_
  obtain ⟨v1, qv1, hf⟩ := bnd_some hf
  obtain ⟨bv1, ev1⟩ := rd_some qv1
  have rv1 : inR v1 := by rw [ev1]; exact hR _ _
  refine jx_iald hx hb hK hP (5 * r0 + 3) 0 (by omega) (gX_r3 hr0) rfl (by decide) bv1 ev1 dX3_vanFact_9 ?_
  have e1 := Option.some.inj hf
  exact jend_i hx hb hr rfl hS e1 (by rw [← e1]; exact rv1) (oX rfl hP) dX3_vanFact_10 hlocks
def fX3_partsOf (r0 : Nat) (a1 : Int) (a2 : Int) (M : MM) : Option (Int) := bnd (rd M (5 * r0 + 4) 20 ((a1 * 5) + a2)) (fun v1 => some v1)
set_option maxHeartbeats 4000000 in
set_option maxRecDepth 100000 in
theorem kX3_partsOf (l : Launch) (D : va_G) (ca : Nat → ClassId) (v : EV) (ad : Nat → Nat) (hI : aInj 75 ad) (M : MM) (hR : RR M) (r0 : Nat) (hr0 : r0 < 11) (a1 : Int) (a2 : Int) (i1 : inR a1) (i2 : inR a2) (res : Int) (hf : fX3_partsOf r0 a1 a2 M = some res) : CI l yX3_partsOf wsX3_partsOf 0 0 [.ref (ad (5 * r0)), .int (J a1), .int (J a2)] (PX D ca v ad M) res (inR res) (OX D ca ad M) (aS 75 ad) := by
  refine Met.ofW (cc := cX3_partsOf) (maxL := 3) (ret := (some .int)) (by decide) rfl ?_
  intro p e s m args below meth c s₁ B hml hv
  obtain ⟨rfl, hP, hK, hE⟩ := hv
  have hx := B.exec
  have hb := B.bytes
  have hr := B.returns
  have hts := atoms_spec (ws := wsX3_partsOf) B.pre
  have hown : s.vm.findClass RX3 = some m.cls := findClass_of_methodNamed B.named
  have hlocks := B.notSynchronized
  have hS : va_S (aS 75 ad) s.heap s.heap [] := va_S.rf
  have hinX3 : ∀ w ∈ wsX30, w ∈ wsX3_partsOf := by decide +kernel
  have hl := lv_entry ([.ref (ad (5 * r0)), .int (J a1), .int (J a2)]) (n := 3) (Nat.le_of_ble_eq_true rfl)
  rw [lg_entry_eq]
  generalize (lg_sl ([.ref (ad (5 * r0)), .int (J a1), .int (J a2)]) ++ List.replicate (3 - (lg_sl ([.ref (ad (5 * r0)), .int (J a1), .int (J a2)])).length) Slot.unset).toArray = ls at hl ⊢
  have hl : lv_has ls 3 [(0, .ref (ad (5 * r0))), (1, .int (J a1)), (2, .int (J a2))] := hl
  unfold fX3_partsOf at hf
  refine lv_aload_n hx hb dX3_partsOf_0 rfl (lv_at hl 0 rfl) ?_
  refine va_get (D := D) (ci := 3) (v := .ref (ad (5 * r0 + 4))) (C := RX3) (T := TX3) (N := 6) hx hb hts hinX3 hown hK hP (5 * r0) (wL_get (by omega) (gX_r0 hr0 _)) rfl 3 (by decide) (hts (.fieldLink RX3 29 "VisitVans$Road" "parts" "[I") (List.mem_of_getElem? (i := 1) rfl)) (fun _ h => h) rfl dX3_partsOf_1 ?_
  refine lv_iload_n hx hb dX3_partsOf_4 rfl (lv_at hl 1 rfl) ?_
  refine lv_iconst (v := J 5) hx hb dX3_partsOf_5 rfl ?_
  refine jv_imul hx hb dX3_partsOf_6 ?_
  refine lv_iload_n hx hb dX3_partsOf_7 rfl (lv_at hl 2 rfl) ?_
  refine jv_iadd hx hb dX3_partsOf_8 ?_
  obtain ⟨v1, qv1, hf⟩ := bnd_some hf
  obtain ⟨bv1, ev1⟩ := rd_some qv1
  have rv1 : inR v1 := by rw [ev1]; exact hR _ _
  refine jx_iald hx hb hK hP (5 * r0 + 4) 0 (by omega) (gX_r4 hr0) rfl (by decide) bv1 ev1 dX3_partsOf_9 ?_
  have e1 := Option.some.inj hf
  exact jend_i hx hb hr rfl hS e1 (by rw [← e1]; exact rv1) (oX rfl hP) dX3_partsOf_10 hlocks
def fX3_visitFact (r0 : Nat) (a1 : Int) (a2 : Int) (M : MM) : Option (Int) := bnd (rd M (5 * r0 + 2) 126 ((a1 * 6) + a2)) (fun v1 => some v1)
set_option maxHeartbeats 4000000 in
set_option maxRecDepth 100000 in
theorem kX3_visitFact (l : Launch) (D : va_G) (ca : Nat → ClassId) (v : EV) (ad : Nat → Nat) (hI : aInj 75 ad) (M : MM) (hR : RR M) (r0 : Nat) (hr0 : r0 < 11) (a1 : Int) (a2 : Int) (i1 : inR a1) (i2 : inR a2) (res : Int) (hf : fX3_visitFact r0 a1 a2 M = some res) : CI l yX3_visitFact wsX3_visitFact 0 0 [.ref (ad (5 * r0)), .int (J a1), .int (J a2)] (PX D ca v ad M) res (inR res) (OX D ca ad M) (aS 75 ad) := by
  refine Met.ofW (cc := cX3_visitFact) (maxL := 3) (ret := (some .int)) (by decide) rfl ?_
  intro p e s m args below meth c s₁ B hml hv
  obtain ⟨rfl, hP, hK, hE⟩ := hv
  have hx := B.exec
  have hb := B.bytes
  have hr := B.returns
  have hts := atoms_spec (ws := wsX3_visitFact) B.pre
  have hown : s.vm.findClass RX3 = some m.cls := findClass_of_methodNamed B.named
  have hlocks := B.notSynchronized
  have hS : va_S (aS 75 ad) s.heap s.heap [] := va_S.rf
  have hinX3 : ∀ w ∈ wsX30, w ∈ wsX3_visitFact := by decide +kernel
  have hl := lv_entry ([.ref (ad (5 * r0)), .int (J a1), .int (J a2)]) (n := 3) (Nat.le_of_ble_eq_true rfl)
  rw [lg_entry_eq]
  generalize (lg_sl ([.ref (ad (5 * r0)), .int (J a1), .int (J a2)]) ++ List.replicate (3 - (lg_sl ([.ref (ad (5 * r0)), .int (J a1), .int (J a2)])).length) Slot.unset).toArray = ls at hl ⊢
  have hl : lv_has ls 3 [(0, .ref (ad (5 * r0))), (1, .int (J a1)), (2, .int (J a2))] := hl
  unfold fX3_visitFact at hf
  refine lv_aload_n hx hb dX3_visitFact_0 rfl (lv_at hl 0 rfl) ?_
  refine va_get (D := D) (ci := 3) (v := .ref (ad (5 * r0 + 2))) (C := RX3) (T := TX3) (N := 6) hx hb hts hinX3 hown hK hP (5 * r0) (wL_get (by omega) (gX_r0 hr0 _)) rfl 1 (by decide) (hts (.fieldLink RX3 23 "VisitVans$Road" "visits" "[I") (List.mem_of_getElem? (i := 1) rfl)) (fun _ h => h) rfl dX3_visitFact_1 ?_
  refine lv_iload_n hx hb dX3_visitFact_4 rfl (lv_at hl 1 rfl) ?_
  refine lv_bipush (v := J 6) hx hb dX3_visitFact_5 (by decide +kernel) ?_
  refine jv_imul hx hb dX3_visitFact_7 ?_
  refine lv_iload_n hx hb dX3_visitFact_8 rfl (lv_at hl 2 rfl) ?_
  refine jv_iadd hx hb dX3_visitFact_9 ?_
  obtain ⟨v1, qv1, hf⟩ := bnd_some hf
  obtain ⟨bv1, ev1⟩ := rd_some qv1
  have rv1 : inR v1 := by rw [ev1]; exact hR _ _
  refine jx_iald hx hb hK hP (5 * r0 + 2) 0 (by omega) (gX_r2 hr0) rfl (by decide) bv1 ev1 dX3_visitFact_10 ?_
  have e1 := Option.some.inj hf
  exact jend_i hx hb hr rfl hS e1 (by rw [← e1]; exact rv1) (oX rfl hP) dX3_visitFact_11 hlocks
def fX4_isPart (a1 : Int) : Option (Int) := bnd (fX4_within a1 0 4) (fun v1 => gd (v1 = 0 ∨ v1 = 1) (some v1))
set_option maxHeartbeats 4000000 in
set_option maxRecDepth 100000 in
theorem kX4_isPart (l : Launch) (D : va_G) (ca : Nat → ClassId) (v : EV) (ad : Nat → Nat) (hI : aInj 75 ad) (M : MM) (hR : RR M) (a1 : Int) (i1 : inR a1) (res : Int) (hf : fX4_isPart a1 = some res) : CI l yX4_isPart wsX4_isPart 1 22 [.int (J a1)] (PX D ca v ad M) res (inR res) (OX D ca ad M) (aS 75 ad) := by
  refine Met.ofW (cc := cX4_isPart) (maxL := 1) (ret := (some .boolean)) (by decide) rfl ?_
  intro p e s m args below meth c s₁ B hml hv
  obtain ⟨rfl, hP, hK, hE⟩ := hv
  have hx := B.exec
  have hb := B.bytes
  have hr := B.returns
  have hts := atoms_spec (ws := wsX4_isPart) B.pre
  have hown : s.vm.findClass RX4 = some m.cls := findClass_of_methodNamed B.named
  have hlocks := B.notSynchronized
  have hS : va_S (aS 75 ad) s.heap s.heap [] := va_S.rf
  have hl := lv_entry ([.int (J a1)]) (n := 1) (Nat.le_of_ble_eq_true rfl)
  rw [lg_entry_eq]
  generalize (lg_sl ([.int (J a1)]) ++ List.replicate (1 - (lg_sl ([.int (J a1)])).length) Slot.unset).toArray = ls at hl ⊢
  have hl : lv_has ls 1 [(0, .int (J a1))] := hl
  unfold fX4_isPart at hf
  refine lv_iload_n hx hb dX4_isPart_0 rfl (lv_at hl 0 rfl) ?_
  refine lv_iconst (v := J 0) hx hb dX4_isPart_1 rfl ?_
  refine lv_iconst (v := J 4) hx hb dX4_isPart_2 rfl ?_
  obtain ⟨v1, qv1, hf⟩ := bnd_some hf
  refine jc_i (va_runS (As := [.int (J a1), .int (J 0), .int (J 4)]) (rest := []) ⟨hx, hb, hml, hown, hts⟩ (kX4_within l D ca v ad hI M hR a1 0 4 i1 (by decide : inR 0) (by decide : inR 4) v1 qv1) (va_cwS 3 hts gX4_isPart_X4_within rfl rfl rfl (by decide +kernel) ⟨Nat.le_of_ble_eq_true rfl, Nat.le_of_ble_eq_true rfl⟩) (psX hK hE hP hS [.int (J a1), .int (J 0), .int (J 4)]) rfl rfl hl.1 rfl (lv_room (Nat.le_of_ble_eq_true rfl)) dX4_isPart_3 ⟨Nat.zero_le _, Nat.zero_le _⟩) hS (fun H locs t ht hφ hO hS => ?_)
  have rv1 := hφ
  have hP : va_P D vwCl (wX ca ad M) H := by rw [← ht]; exact hO
  obtain ⟨g3, hf⟩ := gd_some hf
  have e1 := Option.some.inj hf
  exact jend_i hx hb hr (J_wZ g3).1 hS e1 (by rw [← e1]; exact rv1) (oX rfl hP) dX4_isPart_6 hlocks
def fX4_visitError (a1 : Int) (a2 : Int) (a3 : Int) (a4 : Int) (a5 : Int) (a6 : Int) : Option (Int) := bnd (fX4_within a2 0 3) (fun v1 => if v1 = 0 then some (-1) else bnd (fX4_isPart a3) (fun v4 => if v4 = 0 then some (-1) else bnd (fX4_within a1 0 99) (fun v7 => if v7 = 0 then some (-2) else bnd (fX4_within a4 0 9) (fun v10 => if v10 = 0 then some (-2) else bnd (fX4_within a5 0 999) (fun v13 => if v13 = 0 then some (-2) else bnd (fX4_within a6 a5 999) (fun v16 => if v16 = 0 then some (-2) else some 0))))))
set_option maxHeartbeats 4000000 in
set_option maxRecDepth 100000 in
theorem kX4_visitError (l : Launch) (D : va_G) (ca : Nat → ClassId) (v : EV) (ad : Nat → Nat) (hI : aInj 75 ad) (M : MM) (hR : RR M) (a1 : Int) (a2 : Int) (a3 : Int) (a4 : Int) (a5 : Int) (a6 : Int) (i1 : inR a1) (i2 : inR a2) (i3 : inR a3) (i4 : inR a4) (i5 : inR a5) (i6 : inR a6) (res : Int) (hf : fX4_visitError a1 a2 a3 a4 a5 a6 = some res) : CI l yX4_visitError wsX4_visitError 2 42 [.int (J a1), .int (J a2), .int (J a3), .int (J a4), .int (J a5), .int (J a6)] (PX D ca v ad M) res (inR res) (OX D ca ad M) (aS 75 ad) := by
  refine Met.ofW (cc := cX4_visitError) (maxL := 6) (ret := (some .int)) (by decide) rfl ?_
  intro p e s m args below meth c s₁ B hml hv
  obtain ⟨rfl, hP, hK, hE⟩ := hv
  have hx := B.exec
  have hb := B.bytes
  have hr := B.returns
  have hts := atoms_spec (ws := wsX4_visitError) B.pre
  have hown : s.vm.findClass RX4 = some m.cls := findClass_of_methodNamed B.named
  have hlocks := B.notSynchronized
  have hS : va_S (aS 75 ad) s.heap s.heap [] := va_S.rf
  have hl := lv_entry ([.int (J a1), .int (J a2), .int (J a3), .int (J a4), .int (J a5), .int (J a6)]) (n := 6) (Nat.le_of_ble_eq_true rfl)
  rw [lg_entry_eq]
  generalize (lg_sl ([.int (J a1), .int (J a2), .int (J a3), .int (J a4), .int (J a5), .int (J a6)]) ++ List.replicate (6 - (lg_sl ([.int (J a1), .int (J a2), .int (J a3), .int (J a4), .int (J a5), .int (J a6)])).length) Slot.unset).toArray = ls at hl ⊢
  have hl : lv_has ls 6 [(0, .int (J a1)), (1, .int (J a2)), (2, .int (J a3)), (3, .int (J a4)), (4, .int (J a5)), (5, .int (J a6))] := hl
  unfold fX4_visitError at hf
  refine lv_iload_n hx hb dX4_visitError_0 rfl (lv_at hl 1 rfl) ?_
  refine lv_iconst (v := J 0) hx hb dX4_visitError_1 rfl ?_
  refine lv_iconst (v := J 3) hx hb dX4_visitError_2 rfl ?_
  obtain ⟨v1, qv1, hf⟩ := bnd_some hf
  refine jc_i (va_runS (As := [.int (J a2), .int (J 0), .int (J 3)]) (rest := []) ⟨hx, hb, hml, hown, hts⟩ (kX4_within l D ca v ad hI M hR a2 0 3 i2 (by decide : inR 0) (by decide : inR 3) v1 qv1) (va_cwS 3 hts gX4_visitError_X4_within rfl rfl rfl (by decide +kernel) ⟨Nat.le_of_ble_eq_true rfl, Nat.le_of_ble_eq_true rfl⟩) (psX hK hE hP hS [.int (J a2), .int (J 0), .int (J 3)]) rfl rfl hl.1 rfl (lv_room (Nat.le_of_ble_eq_true rfl)) dX4_visitError_3 ⟨Nat.zero_le _, Nat.zero_le _⟩) hS (fun H locs t ht hφ hO hS => ?_)
  have rv1 := hφ
  have hP : va_P D vwCl (wX ca ad M) H := by rw [← ht]; exact hO
  refine jv_if_eq (tgt := 16) hx hb dX4_visitError_6 (by decide) rv1 (fun c3 => ?_) (fun c3 => ?_)
  · have hf := itep hf c3
    refine lv_iconst (v := J (-1)) hx hb dX4_visitError_16 rfl ?_
    have e1 := Option.some.inj hf
    exact jend_i hx hb hr rfl hS e1 (by rw [← e1]; exact (by decide : inR (-1))) (oX rfl hP) dX4_visitError_17 hlocks
  · have hf := iten hf c3
    refine lv_iload_n hx hb dX4_visitError_9 rfl (lv_at hl 2 rfl) ?_
    obtain ⟨v4, qv4, hf⟩ := bnd_some hf
    refine jc_i (va_runS (As := [.int (J a3)]) (rest := []) ⟨hx, hb, hml, hown, hts⟩ (kX4_isPart l D ca v ad hI M hR a3 i3 v4 qv4) (va_cwS 1 hts gX4_visitError_X4_isPart rfl rfl rfl (by decide +kernel) ⟨Nat.le_of_ble_eq_true rfl, Nat.le_of_ble_eq_true rfl⟩) (psX hK hE hP hS [.int (J a3)]) rfl rfl hl.1 rfl (lv_room (Nat.le_of_ble_eq_true rfl)) dX4_visitError_10 ⟨Nat.zero_le _, Nat.zero_le _⟩) hS (fun H locs t ht hφ hO hS => ?_)
    have rv4 := hφ
    have hP : va_P D vwCl (wX ca ad M) H := by rw [← ht]; exact hO
    refine jv_if_ne (tgt := 18) hx hb dX4_visitError_13 (by decide) rv4 (fun c6 => ?_) (fun c6 => ?_)
    · have hf := iten hf c6
      refine lv_iload_n hx hb dX4_visitError_18 rfl (lv_at hl 0 rfl) ?_
      refine lv_iconst (v := J 0) hx hb dX4_visitError_19 rfl ?_
      refine lv_bipush (v := J 99) hx hb dX4_visitError_20 (by decide +kernel) ?_
      obtain ⟨v7, qv7, hf⟩ := bnd_some hf
      refine jc_i (va_runS (As := [.int (J a1), .int (J 0), .int (J 99)]) (rest := []) ⟨hx, hb, hml, hown, hts⟩ (kX4_within l D ca v ad hI M hR a1 0 99 i1 (by decide : inR 0) (by decide : inR 99) v7 qv7) (va_cwS 3 hts gX4_visitError_X4_within rfl rfl rfl (by decide +kernel) ⟨Nat.le_of_ble_eq_true rfl, Nat.le_of_ble_eq_true rfl⟩) (psX hK hE hP hS [.int (J a1), .int (J 0), .int (J 99)]) rfl rfl hl.1 rfl (lv_room (Nat.le_of_ble_eq_true rfl)) dX4_visitError_22 ⟨Nat.zero_le _, Nat.zero_le _⟩) hS (fun H locs t ht hφ hO hS => ?_)
      have rv7 := hφ
      have hP : va_P D vwCl (wX ca ad M) H := by rw [← ht]; exact hO
      refine jv_if_eq (tgt := 38) hx hb dX4_visitError_25 (by decide) rv7 (fun c9 => ?_) (fun c9 => ?_)
      · have hf := itep hf c9
        refine lv_bipush (v := J (-2)) hx hb dX4_visitError_38 (by decide +kernel) ?_
        have e1 := Option.some.inj hf
        exact jend_i hx hb hr rfl hS e1 (by rw [← e1]; exact (by decide : inR (-2))) (oX rfl hP) dX4_visitError_40 hlocks
      · have hf := iten hf c9
        refine lv_iload_n hx hb dX4_visitError_28 rfl (lv_at hl 3 rfl) ?_
        refine lv_iconst (v := J 0) hx hb dX4_visitError_29 rfl ?_
        refine lv_bipush (v := J 9) hx hb dX4_visitError_30 (by decide +kernel) ?_
        obtain ⟨v10, qv10, hf⟩ := bnd_some hf
        refine jc_i (va_runS (As := [.int (J a4), .int (J 0), .int (J 9)]) (rest := []) ⟨hx, hb, hml, hown, hts⟩ (kX4_within l D ca v ad hI M hR a4 0 9 i4 (by decide : inR 0) (by decide : inR 9) v10 qv10) (va_cwS 3 hts gX4_visitError_X4_within rfl rfl rfl (by decide +kernel) ⟨Nat.le_of_ble_eq_true rfl, Nat.le_of_ble_eq_true rfl⟩) (psX hK hE hP hS [.int (J a4), .int (J 0), .int (J 9)]) rfl rfl hl.1 rfl (lv_room (Nat.le_of_ble_eq_true rfl)) dX4_visitError_32 ⟨Nat.zero_le _, Nat.zero_le _⟩) hS (fun H locs t ht hφ hO hS => ?_)
        have rv10 := hφ
        have hP : va_P D vwCl (wX ca ad M) H := by rw [← ht]; exact hO
        refine jv_if_ne (tgt := 41) hx hb dX4_visitError_35 (by decide) rv10 (fun c12 => ?_) (fun c12 => ?_)
        · have hf := iten hf c12
          refine lv_iload hx hb dX4_visitError_41 (lv_at hl 4 rfl) ?_
          refine lv_iconst (v := J 0) hx hb dX4_visitError_43 rfl ?_
          refine lv_sipush (v := J 999) hx hb dX4_visitError_44 (by decide +kernel) ?_
          obtain ⟨v13, qv13, hf⟩ := bnd_some hf
          refine jc_i (va_runS (As := [.int (J a5), .int (J 0), .int (J 999)]) (rest := []) ⟨hx, hb, hml, hown, hts⟩ (kX4_within l D ca v ad hI M hR a5 0 999 i5 (by decide : inR 0) (by decide : inR 999) v13 qv13) (va_cwS 3 hts gX4_visitError_X4_within rfl rfl rfl (by decide +kernel) ⟨Nat.le_of_ble_eq_true rfl, Nat.le_of_ble_eq_true rfl⟩) (psX hK hE hP hS [.int (J a5), .int (J 0), .int (J 999)]) rfl rfl hl.1 rfl (lv_room (Nat.le_of_ble_eq_true rfl)) dX4_visitError_47 ⟨Nat.zero_le _, Nat.zero_le _⟩) hS (fun H locs t ht hφ hO hS => ?_)
          have rv13 := hφ
          have hP : va_P D vwCl (wX ca ad M) H := by rw [← ht]; exact hO
          refine jv_if_eq (tgt := 66) hx hb dX4_visitError_50 (by decide) rv13 (fun c15 => ?_) (fun c15 => ?_)
          · have hf := itep hf c15
            refine lv_bipush (v := J (-2)) hx hb dX4_visitError_66 (by decide +kernel) ?_
            have e1 := Option.some.inj hf
            exact jend_i hx hb hr rfl hS e1 (by rw [← e1]; exact (by decide : inR (-2))) (oX rfl hP) dX4_visitError_68 hlocks
          · have hf := iten hf c15
            refine lv_iload hx hb dX4_visitError_53 (lv_at hl 5 rfl) ?_
            refine lv_iload hx hb dX4_visitError_55 (lv_at hl 4 rfl) ?_
            refine lv_sipush (v := J 999) hx hb dX4_visitError_57 (by decide +kernel) ?_
            obtain ⟨v16, qv16, hf⟩ := bnd_some hf
            refine jc_i (va_runS (As := [.int (J a6), .int (J a5), .int (J 999)]) (rest := []) ⟨hx, hb, hml, hown, hts⟩ (kX4_within l D ca v ad hI M hR a6 a5 999 i6 i5 (by decide : inR 999) v16 qv16) (va_cwS 3 hts gX4_visitError_X4_within rfl rfl rfl (by decide +kernel) ⟨Nat.le_of_ble_eq_true rfl, Nat.le_of_ble_eq_true rfl⟩) (psX hK hE hP hS [.int (J a6), .int (J a5), .int (J 999)]) rfl rfl hl.1 rfl (lv_room (Nat.le_of_ble_eq_true rfl)) dX4_visitError_60 ⟨Nat.zero_le _, Nat.zero_le _⟩) hS (fun H locs t ht hφ hO hS => ?_)
            have rv16 := hφ
            have hP : va_P D vwCl (wX ca ad M) H := by rw [← ht]; exact hO
            refine jv_if_ne (tgt := 69) hx hb dX4_visitError_63 (by decide) rv16 (fun c18 => ?_) (fun c18 => ?_)
            · have hf := iten hf c18
              refine lv_iconst (v := J 0) hx hb dX4_visitError_69 rfl ?_
              have e1 := Option.some.inj hf
              exact jend_i hx hb hr rfl hS e1 (by rw [← e1]; exact (by decide : inR 0)) (oX rfl hP) dX4_visitError_70 hlocks
            · have hf := itep hf c18
              refine lv_bipush (v := J (-2)) hx hb dX4_visitError_66 (by decide +kernel) ?_
              have e1 := Option.some.inj hf
              exact jend_i hx hb hr rfl hS e1 (by rw [← e1]; exact (by decide : inR (-2))) (oX rfl hP) dX4_visitError_68 hlocks
        · have hf := itep hf c12
          refine lv_bipush (v := J (-2)) hx hb dX4_visitError_38 (by decide +kernel) ?_
          have e1 := Option.some.inj hf
          exact jend_i hx hb hr rfl hS e1 (by rw [← e1]; exact (by decide : inR (-2))) (oX rfl hP) dX4_visitError_40 hlocks
    · have hf := itep hf c6
      refine lv_iconst (v := J (-1)) hx hb dX4_visitError_16 rfl ?_
      have e1 := Option.some.inj hf
      exact jend_i hx hb hr rfl hS e1 (by rw [← e1]; exact (by decide : inR (-1))) (oX rfl hP) dX4_visitError_17 hlocks
def fX3_putVisit (r0 : Nat) (a1 : Int) (a2 : Int) (a3 : Int) (a4 : Int) (a5 : Int) (a6 : Int) (M : MM) : Option (Int × MM) := if (M (5 * r0) 4) < 21 then bnd (wr M (5 * r0 + 2) 126 (((M (5 * r0) 4) * 6) + 0) a1) (fun M2 => bnd (wr M2 (5 * r0 + 2) 126 (((M (5 * r0) 4) * 6) + 1) a2) (fun M3 => bnd (wr M3 (5 * r0 + 2) 126 (((M (5 * r0) 4) * 6) + 2) a3) (fun M4 => bnd (wr M4 (5 * r0 + 2) 126 (((M (5 * r0) 4) * 6) + 3) a4) (fun M5 => bnd (wr M5 (5 * r0 + 2) 126 (((M (5 * r0) 4) * 6) + 4) a5) (fun M6 => bnd (wr M6 (5 * r0 + 2) 126 (((M (5 * r0) 4) * 6) + 5) a6) (fun M7 => gd (inR ((M7 (5 * r0) 4) + 1)) (bnd (some (stM M7 (5 * r0) 4 ((M7 (5 * r0) 4) + 1))) (fun M9 => gd (inR ((M9 (5 * r0) 4) - 1)) (some (((M9 (5 * r0) 4) - 1), M9)))))))))) else some ((-4), M)
set_option maxHeartbeats 4000000 in
set_option maxRecDepth 100000 in
theorem kX3_putVisit (l : Launch) (D : va_G) (ca : Nat → ClassId) (v : EV) (ad : Nat → Nat) (hI : aInj 75 ad) (M : MM) (hR : RR M) (r0 : Nat) (hr0 : r0 < 11) (a1 : Int) (a2 : Int) (a3 : Int) (a4 : Int) (a5 : Int) (a6 : Int) (i1 : inR a1) (i2 : inR a2) (i3 : inR a3) (i4 : inR a4) (i5 : inR a5) (i6 : inR a6) (res : Int) (M' : MM) (hf : fX3_putVisit r0 a1 a2 a3 a4 a5 a6 M = some (res, M')) : CI l yX3_putVisit wsX3_putVisit 0 0 [.ref (ad (5 * r0)), .int (J a1), .int (J a2), .int (J a3), .int (J a4), .int (J a5), .int (J a6)] (PX D ca v ad M) res (inR res ∧ RR M') (OX D ca ad M') (aS 75 ad) := by
  refine Met.ofW (cc := cX3_putVisit) (maxL := 8) (ret := (some .int)) (by decide) rfl ?_
  intro p e s m args below meth c s₁ B hml hv
  obtain ⟨rfl, hP, hK, hE⟩ := hv
  have hx := B.exec
  have hb := B.bytes
  have hr := B.returns
  have hts := atoms_spec (ws := wsX3_putVisit) B.pre
  have hown : s.vm.findClass RX3 = some m.cls := findClass_of_methodNamed B.named
  have hlocks := B.notSynchronized
  have hS : va_S (aS 75 ad) s.heap s.heap [] := va_S.rf
  have hinX3 : ∀ w ∈ wsX30, w ∈ wsX3_putVisit := by decide +kernel
  have hl := lv_entry ([.ref (ad (5 * r0)), .int (J a1), .int (J a2), .int (J a3), .int (J a4), .int (J a5), .int (J a6)]) (n := 8) (Nat.le_of_ble_eq_true rfl)
  rw [lg_entry_eq]
  generalize (lg_sl ([.ref (ad (5 * r0)), .int (J a1), .int (J a2), .int (J a3), .int (J a4), .int (J a5), .int (J a6)]) ++ List.replicate (8 - (lg_sl ([.ref (ad (5 * r0)), .int (J a1), .int (J a2), .int (J a3), .int (J a4), .int (J a5), .int (J a6)])).length) Slot.unset).toArray = ls at hl ⊢
  have hl : lv_has ls 8 [(0, .ref (ad (5 * r0))), (1, .int (J a1)), (2, .int (J a2)), (3, .int (J a3)), (4, .int (J a4)), (5, .int (J a5)), (6, .int (J a6))] := hl
  unfold fX3_putVisit at hf
  refine lv_aload_n hx hb dX3_putVisit_0 rfl (lv_at hl 0 rfl) ?_
  refine va_get (D := D) (ci := 3) (v := .int (J (M (5 * r0) 4))) (C := RX3) (T := TX3) (N := 6) hx hb hts hinX3 hown hK hP (5 * r0) (wL_get (by omega) (gX_r0 hr0 _)) rfl 4 (by decide) (hts (.fieldLink RX3 38 "VisitVans$Road" "visitCount" "I") (List.mem_of_getElem? (i := 1) rfl)) (fun _ h => h) rfl dX3_putVisit_1 ?_
  refine lv_bipush (v := J 21) hx hb dX3_putVisit_4 (by decide +kernel) ?_
  refine jv_icmp_lt (tgt := 12) hx hb dX3_putVisit_6 (by decide) (hR (5 * r0) 4) (by decide : inR 21) (fun c1 => ?_) (fun c1 => ?_)
  · have hf := itep hf c1
    refine lv_aload_n hx hb dX3_putVisit_12 rfl (lv_at hl 0 rfl) ?_
    refine va_get (D := D) (ci := 3) (v := .int (J (M (5 * r0) 4))) (C := RX3) (T := TX3) (N := 6) hx hb hts hinX3 hown hK hP (5 * r0) (wL_get (by omega) (gX_r0 hr0 _)) rfl 4 (by decide) (hts (.fieldLink RX3 38 "VisitVans$Road" "visitCount" "I") (List.mem_of_getElem? (i := 1) rfl)) (fun _ h => h) rfl dX3_putVisit_13 ?_
    refine lv_bipush (v := J 6) hx hb dX3_putVisit_16 (by decide +kernel) ?_
    refine jv_imul hx hb dX3_putVisit_18 ?_
    refine lv_istore (lv' := [(7, .int (J ((M (5 * r0) 4) * 6))), (0, .ref (ad (5 * r0))), (1, .int (J a1)), (2, .int (J a2)), (3, .int (J a3)), (4, .int (J a4)), (5, .int (J a5)), (6, .int (J a6))]) hx hb dX3_putVisit_19 hl (by decide) rfl (fun ls hl => ?_)
    refine lv_aload_n hx hb dX3_putVisit_21 rfl (lv_at hl 1 rfl) ?_
    refine va_get (D := D) (ci := 3) (v := .ref (ad (5 * r0 + 2))) (C := RX3) (T := TX3) (N := 6) hx hb hts hinX3 hown hK hP (5 * r0) (wL_get (by omega) (gX_r0 hr0 _)) rfl 1 (by decide) (hts (.fieldLink RX3 23 "VisitVans$Road" "visits" "[I") (List.mem_of_getElem? (i := 2) rfl)) (fun _ h => h) rfl dX3_putVisit_22 ?_
    refine lv_iload hx hb dX3_putVisit_25 (lv_at hl 0 rfl) ?_
    refine lv_iconst (v := J 0) hx hb dX3_putVisit_27 rfl ?_
    refine jv_iadd hx hb dX3_putVisit_28 ?_
    refine lv_iload_n hx hb dX3_putVisit_29 rfl (lv_at hl 2 rfl) ?_
    obtain ⟨M2, qM2, hf⟩ := bnd_some hf
    obtain ⟨bM2, zM2, eM2⟩ := wr_some qM2
    have hRM2 : RR M2 := by rw [eM2]; exact RR_st hR _ _ zM2
    refine jx_iast hx hb hK hP hI hS (5 * r0 + 2) 0 (by omega) (gX_r2 hr0) rfl (by decide) bM2 zM2 dX3_putVisit_30 (fun H locs hP hS => ?_)
    rw [← eM2] at hP
    refine lv_aload_n hx hb dX3_putVisit_31 rfl (lv_at hl 1 rfl) ?_
    refine va_get (D := D) (ci := 3) (v := .ref (ad (5 * r0 + 2))) (C := RX3) (T := TX3) (N := 6) hx hb hts hinX3 hown hK hP (5 * r0) (wL_get (by omega) (gX_r0 hr0 _)) rfl 1 (by decide) (hts (.fieldLink RX3 23 "VisitVans$Road" "visits" "[I") (List.mem_of_getElem? (i := 2) rfl)) (fun _ h => h) rfl dX3_putVisit_32 ?_
    refine lv_iload hx hb dX3_putVisit_35 (lv_at hl 0 rfl) ?_
    refine lv_iconst (v := J 1) hx hb dX3_putVisit_37 rfl ?_
    refine jv_iadd hx hb dX3_putVisit_38 ?_
    refine lv_iload_n hx hb dX3_putVisit_39 rfl (lv_at hl 3 rfl) ?_
    obtain ⟨M3, qM3, hf⟩ := bnd_some hf
    obtain ⟨bM3, zM3, eM3⟩ := wr_some qM3
    have hRM3 : RR M3 := by rw [eM3]; exact RR_st hRM2 _ _ zM3
    refine jx_iast hx hb hK hP hI hS (5 * r0 + 2) 0 (by omega) (gX_r2 hr0) rfl (by decide) bM3 zM3 dX3_putVisit_40 (fun H locs hP hS => ?_)
    rw [← eM3] at hP
    refine lv_aload_n hx hb dX3_putVisit_41 rfl (lv_at hl 1 rfl) ?_
    refine va_get (D := D) (ci := 3) (v := .ref (ad (5 * r0 + 2))) (C := RX3) (T := TX3) (N := 6) hx hb hts hinX3 hown hK hP (5 * r0) (wL_get (by omega) (gX_r0 hr0 _)) rfl 1 (by decide) (hts (.fieldLink RX3 23 "VisitVans$Road" "visits" "[I") (List.mem_of_getElem? (i := 2) rfl)) (fun _ h => h) rfl dX3_putVisit_42 ?_
    refine lv_iload hx hb dX3_putVisit_45 (lv_at hl 0 rfl) ?_
    refine lv_iconst (v := J 2) hx hb dX3_putVisit_47 rfl ?_
    refine jv_iadd hx hb dX3_putVisit_48 ?_
    refine lv_iload_n hx hb dX3_putVisit_49 rfl (lv_at hl 4 rfl) ?_
    obtain ⟨M4, qM4, hf⟩ := bnd_some hf
    obtain ⟨bM4, zM4, eM4⟩ := wr_some qM4
    have hRM4 : RR M4 := by rw [eM4]; exact RR_st hRM3 _ _ zM4
    refine jx_iast hx hb hK hP hI hS (5 * r0 + 2) 0 (by omega) (gX_r2 hr0) rfl (by decide) bM4 zM4 dX3_putVisit_50 (fun H locs hP hS => ?_)
    rw [← eM4] at hP
    refine lv_aload_n hx hb dX3_putVisit_51 rfl (lv_at hl 1 rfl) ?_
    refine va_get (D := D) (ci := 3) (v := .ref (ad (5 * r0 + 2))) (C := RX3) (T := TX3) (N := 6) hx hb hts hinX3 hown hK hP (5 * r0) (wL_get (by omega) (gX_r0 hr0 _)) rfl 1 (by decide) (hts (.fieldLink RX3 23 "VisitVans$Road" "visits" "[I") (List.mem_of_getElem? (i := 2) rfl)) (fun _ h => h) rfl dX3_putVisit_52 ?_
    refine lv_iload hx hb dX3_putVisit_55 (lv_at hl 0 rfl) ?_
    refine lv_iconst (v := J 3) hx hb dX3_putVisit_57 rfl ?_
    refine jv_iadd hx hb dX3_putVisit_58 ?_
    refine lv_iload hx hb dX3_putVisit_59 (lv_at hl 5 rfl) ?_
    obtain ⟨M5, qM5, hf⟩ := bnd_some hf
    obtain ⟨bM5, zM5, eM5⟩ := wr_some qM5
    have hRM5 : RR M5 := by rw [eM5]; exact RR_st hRM4 _ _ zM5
    refine jx_iast hx hb hK hP hI hS (5 * r0 + 2) 0 (by omega) (gX_r2 hr0) rfl (by decide) bM5 zM5 dX3_putVisit_61 (fun H locs hP hS => ?_)
    rw [← eM5] at hP
    refine lv_aload_n hx hb dX3_putVisit_62 rfl (lv_at hl 1 rfl) ?_
    refine va_get (D := D) (ci := 3) (v := .ref (ad (5 * r0 + 2))) (C := RX3) (T := TX3) (N := 6) hx hb hts hinX3 hown hK hP (5 * r0) (wL_get (by omega) (gX_r0 hr0 _)) rfl 1 (by decide) (hts (.fieldLink RX3 23 "VisitVans$Road" "visits" "[I") (List.mem_of_getElem? (i := 2) rfl)) (fun _ h => h) rfl dX3_putVisit_63 ?_
    refine lv_iload hx hb dX3_putVisit_66 (lv_at hl 0 rfl) ?_
    refine lv_iconst (v := J 4) hx hb dX3_putVisit_68 rfl ?_
    refine jv_iadd hx hb dX3_putVisit_69 ?_
    refine lv_iload hx hb dX3_putVisit_70 (lv_at hl 6 rfl) ?_
    obtain ⟨M6, qM6, hf⟩ := bnd_some hf
    obtain ⟨bM6, zM6, eM6⟩ := wr_some qM6
    have hRM6 : RR M6 := by rw [eM6]; exact RR_st hRM5 _ _ zM6
    refine jx_iast hx hb hK hP hI hS (5 * r0 + 2) 0 (by omega) (gX_r2 hr0) rfl (by decide) bM6 zM6 dX3_putVisit_72 (fun H locs hP hS => ?_)
    rw [← eM6] at hP
    refine lv_aload_n hx hb dX3_putVisit_73 rfl (lv_at hl 1 rfl) ?_
    refine va_get (D := D) (ci := 3) (v := .ref (ad (5 * r0 + 2))) (C := RX3) (T := TX3) (N := 6) hx hb hts hinX3 hown hK hP (5 * r0) (wL_get (by omega) (gX_r0 hr0 _)) rfl 1 (by decide) (hts (.fieldLink RX3 23 "VisitVans$Road" "visits" "[I") (List.mem_of_getElem? (i := 2) rfl)) (fun _ h => h) rfl dX3_putVisit_74 ?_
    refine lv_iload hx hb dX3_putVisit_77 (lv_at hl 0 rfl) ?_
    refine lv_iconst (v := J 5) hx hb dX3_putVisit_79 rfl ?_
    refine jv_iadd hx hb dX3_putVisit_80 ?_
    refine lv_iload hx hb dX3_putVisit_81 (lv_at hl 7 rfl) ?_
    obtain ⟨M7, qM7, hf⟩ := bnd_some hf
    obtain ⟨bM7, zM7, eM7⟩ := wr_some qM7
    have hRM7 : RR M7 := by rw [eM7]; exact RR_st hRM6 _ _ zM7
    refine jx_iast hx hb hK hP hI hS (5 * r0 + 2) 0 (by omega) (gX_r2 hr0) rfl (by decide) bM7 zM7 dX3_putVisit_83 (fun H locs hP hS => ?_)
    rw [← eM7] at hP
    refine lv_aload_n hx hb dX3_putVisit_84 rfl (lv_at hl 1 rfl) ?_
    refine lv_dup hx hb dX3_putVisit_85 rfl ?_
    refine va_get (D := D) (ci := 3) (v := .int (J (M7 (5 * r0) 4))) (C := RX3) (T := TX3) (N := 6) hx hb hts hinX3 hown hK hP (5 * r0) (wL_get (by omega) (gX_r0 hr0 _)) rfl 4 (by decide) (hts (.fieldLink RX3 38 "VisitVans$Road" "visitCount" "I") (List.mem_of_getElem? (i := 1) rfl)) (fun _ h => h) rfl dX3_putVisit_86 ?_
    refine lv_iconst (v := J 1) hx hb dX3_putVisit_89 rfl ?_
    refine jv_iadd hx hb dX3_putVisit_90 ?_
    obtain ⟨g8, hf⟩ := gd_some hf
    obtain ⟨M9, eM9, hf⟩ := bnd_some hf
    have eM9 := Option.some.inj eM9
    have hRM9 : RR M9 := by rw [← eM9]; exact RR_st hRM7 (5 * r0) 4 g8
    refine va_put (D := D) (ci := 3) (v := .int (J ((M7 (5 * r0) 4) + 1))) (ty := .int) (C := RX3) (T := TX3) (N := 6) hx hb hts hinX3 tyX3 tyX3_ok nmX3 hown hK hP (wL_D hI M7) hS (5 * r0) (wL_get (by omega) (gX_r0 hr0 _)) rfl 4 (by decide) (hts (.fieldLink RX3 38 "VisitVans$Road" "visitCount" "I") (List.mem_of_getElem? (i := 1) rfl)) (fun _ h => h) rfl rfl rfl rfl (Nat.le_of_ble_eq_true rfl) dX3_putVisit_91 (fun H locs hP hD hS => ?_)
    have hP : va_P D vwCl (wX ca ad M9) H := by rw [← eM9]; exact hPset (gX_r0_s4 hr0) stM_o hP
    refine lv_aload_n hx hb dX3_putVisit_94 rfl (lv_at hl 1 rfl) ?_
    refine va_get (D := D) (ci := 3) (v := .int (J (M9 (5 * r0) 4))) (C := RX3) (T := TX3) (N := 6) hx hb hts hinX3 hown hK hP (5 * r0) (wL_get (by omega) (gX_r0 hr0 _)) rfl 4 (by decide) (hts (.fieldLink RX3 38 "VisitVans$Road" "visitCount" "I") (List.mem_of_getElem? (i := 1) rfl)) (fun _ h => h) rfl dX3_putVisit_95 ?_
    refine lv_iconst (v := J 1) hx hb dX3_putVisit_98 rfl ?_
    refine jv_isub hx hb dX3_putVisit_99 ?_
    obtain ⟨g10, hf⟩ := gd_some hf
    obtain ⟨e1, e2⟩ := Prod.mk.inj (Option.some.inj hf)
    exact jend_i hx hb hr rfl hS e1 ⟨by rw [← e1]; exact g10, by rw [← e2]; exact hRM9⟩ (oX e2 hP) dX3_putVisit_100 hlocks
  · have hf := iten hf c1
    refine lv_bipush (v := J (-4)) hx hb dX3_putVisit_9 (by decide +kernel) ?_
    obtain ⟨e1, e2⟩ := Prod.mk.inj (Option.some.inj hf)
    exact jend_i hx hb hr rfl hS e1 ⟨by rw [← e1]; exact (by decide : inR (-4)), by rw [← e2]; exact hR⟩ (oX e2 hP) dX3_putVisit_11 hlocks
def fX3_addVisit (r0 : Nat) (a1 : Int) (a2 : Int) (a3 : Int) (a4 : Int) (a5 : Int) (a6 : Int) (M : MM) : Option (Int × MM) := bnd (fX4_visitError a1 a2 a3 a4 a5 a6) (fun v1 => if v1 = 0 then if (M (5 * r0) 4) < 20 then bnd2 (fX3_putVisit r0 a1 a2 a3 a4 a5 a6 M) (fun v5 M6 => some (v5, M6)) else some ((-4), M) else some (v1, M))
set_option maxHeartbeats 4000000 in
set_option maxRecDepth 100000 in
theorem kX3_addVisit (l : Launch) (D : va_G) (ca : Nat → ClassId) (v : EV) (ad : Nat → Nat) (hI : aInj 75 ad) (M : MM) (hR : RR M) (r0 : Nat) (hr0 : r0 < 11) (a1 : Int) (a2 : Int) (a3 : Int) (a4 : Int) (a5 : Int) (a6 : Int) (i1 : inR a1) (i2 : inR a2) (i3 : inR a3) (i4 : inR a4) (i5 : inR a5) (i6 : inR a6) (res : Int) (M' : MM) (hf : fX3_addVisit r0 a1 a2 a3 a4 a5 a6 M = some (res, M')) : CI l yX3_addVisit wsX3_addVisit 3 67 [.ref (ad (5 * r0)), .int (J a1), .int (J a2), .int (J a3), .int (J a4), .int (J a5), .int (J a6)] (PX D ca v ad M) res (inR res ∧ RR M') (OX D ca ad M') (aS 75 ad) := by
  refine Met.ofW (cc := cX3_addVisit) (maxL := 8) (ret := (some .int)) (by decide) rfl ?_
  intro p e s m args below meth c s₁ B hml hv
  obtain ⟨rfl, hP, hK, hE⟩ := hv
  have hx := B.exec
  have hb := B.bytes
  have hr := B.returns
  have hts := atoms_spec (ws := wsX3_addVisit) B.pre
  have hown : s.vm.findClass RX3 = some m.cls := findClass_of_methodNamed B.named
  have hlocks := B.notSynchronized
  have hS : va_S (aS 75 ad) s.heap s.heap [] := va_S.rf
  have hinX3 : ∀ w ∈ wsX30, w ∈ wsX3_addVisit := by decide +kernel
  have hl := lv_entry ([.ref (ad (5 * r0)), .int (J a1), .int (J a2), .int (J a3), .int (J a4), .int (J a5), .int (J a6)]) (n := 8) (Nat.le_of_ble_eq_true rfl)
  rw [lg_entry_eq]
  generalize (lg_sl ([.ref (ad (5 * r0)), .int (J a1), .int (J a2), .int (J a3), .int (J a4), .int (J a5), .int (J a6)]) ++ List.replicate (8 - (lg_sl ([.ref (ad (5 * r0)), .int (J a1), .int (J a2), .int (J a3), .int (J a4), .int (J a5), .int (J a6)])).length) Slot.unset).toArray = ls at hl ⊢
  have hl : lv_has ls 8 [(0, .ref (ad (5 * r0))), (1, .int (J a1)), (2, .int (J a2)), (3, .int (J a3)), (4, .int (J a4)), (5, .int (J a5)), (6, .int (J a6))] := hl
  unfold fX3_addVisit at hf
  refine lv_iload_n hx hb dX3_addVisit_0 rfl (lv_at hl 1 rfl) ?_
  refine lv_iload_n hx hb dX3_addVisit_1 rfl (lv_at hl 2 rfl) ?_
  refine lv_iload_n hx hb dX3_addVisit_2 rfl (lv_at hl 3 rfl) ?_
  refine lv_iload hx hb dX3_addVisit_3 (lv_at hl 4 rfl) ?_
  refine lv_iload hx hb dX3_addVisit_5 (lv_at hl 5 rfl) ?_
  refine lv_iload hx hb dX3_addVisit_7 (lv_at hl 6 rfl) ?_
  obtain ⟨v1, qv1, hf⟩ := bnd_some hf
  refine jc_i (va_runSN (As := [.int (J a1), .int (J a2), .int (J a3), .int (J a4), .int (J a5), .int (J a6)]) (rest := []) ⟨hx, hb, hml, hown, hts⟩ (kX4_visitError l D ca v ad hI M hR a1 a2 a3 a4 a5 a6 i1 i2 i3 i4 i5 i6 v1 qv1) ⟨va_cnB 6 hts gX3_addVisit_X4_visitError_n55 rfl rfl rfl hE.1.2.1 (hts (.initialized RX4) (List.mem_of_getElem? (i := 3) rfl)) (by decide +kernel) ⟨Nat.le_of_ble_eq_true rfl, Nat.le_of_ble_eq_true rfl⟩, (hts (.static yX4_visitError) (List.mem_of_getElem? (i := 2) rfl)), trivial⟩ (psX hK hE hP hS [.int (J a1), .int (J a2), .int (J a3), .int (J a4), .int (J a5), .int (J a6)]) rfl rfl hl.1 rfl (lv_room (Nat.le_of_ble_eq_true rfl)) dX3_addVisit_9 ⟨Nat.zero_le _, Nat.zero_le _⟩) hS (fun H locs t ht hφ hO hS => ?_)
  have rv1 := hφ
  have hP : va_P D vwCl (wX ca ad M) H := by rw [← ht]; exact hO
  refine lv_istore (lv' := [(7, .int (J v1)), (0, .ref (ad (5 * r0))), (1, .int (J a1)), (2, .int (J a2)), (3, .int (J a3)), (4, .int (J a4)), (5, .int (J a5)), (6, .int (J a6))]) hx hb dX3_addVisit_12 hl (by decide) rfl (fun ls hl => ?_)
  refine lv_iload hx hb dX3_addVisit_14 (lv_at hl 0 rfl) ?_
  refine jv_if_eq (tgt := 22) hx hb dX3_addVisit_16 (by decide) rv1 (fun c3 => ?_) (fun c3 => ?_)
  · have hf := itep hf c3
    refine lv_aload_n hx hb dX3_addVisit_22 rfl (lv_at hl 1 rfl) ?_
    refine va_get (D := D) (ci := 3) (v := .int (J (M (5 * r0) 4))) (C := RX3) (T := TX3) (N := 6) hx hb hts hinX3 hown hK hP (5 * r0) (wL_get (by omega) (gX_r0 hr0 _)) rfl 4 (by decide) (hts (.fieldLink RX3 38 "VisitVans$Road" "visitCount" "I") (List.mem_of_getElem? (i := 1) rfl)) (fun _ h => h) rfl dX3_addVisit_23 ?_
    refine lv_bipush (v := J 20) hx hb dX3_addVisit_26 (by decide +kernel) ?_
    refine jv_icmp_lt (tgt := 34) hx hb dX3_addVisit_28 (by decide) (hR (5 * r0) 4) (by decide : inR 20) (fun c4 => ?_) (fun c4 => ?_)
    · have hf := itep hf c4
      refine lv_aload_n hx hb dX3_addVisit_34 rfl (lv_at hl 1 rfl) ?_
      refine lv_iload_n hx hb dX3_addVisit_35 rfl (lv_at hl 2 rfl) ?_
      refine lv_iload_n hx hb dX3_addVisit_36 rfl (lv_at hl 3 rfl) ?_
      refine lv_iload_n hx hb dX3_addVisit_37 rfl (lv_at hl 4 rfl) ?_
      refine lv_iload hx hb dX3_addVisit_38 (lv_at hl 5 rfl) ?_
      refine lv_iload hx hb dX3_addVisit_40 (lv_at hl 6 rfl) ?_
      refine lv_iload hx hb dX3_addVisit_42 (lv_at hl 7 rfl) ?_
      obtain ⟨v5, M6, qv5, hf⟩ := bnd2_some hf
      refine jc_i (va_runV (As := [.int (J a1), .int (J a2), .int (J a3), .int (J a4), .int (J a5), .int (J a6)]) (rest := []) ⟨hx, hb, hml, hown, hts⟩ (kX3_putVisit l D ca v ad hI M hR r0 hr0 a1 a2 a3 a4 a5 a6 i1 i2 i3 i4 i5 i6 v5 M6 qv5) (cwV 6 hts gX3_addVisit_X3_putVisit rfl rfl rfl (by decide +kernel) ⟨Nat.le_of_ble_eq_true rfl, Nat.le_of_ble_eq_true rfl⟩) (pvX hK hE hP hS [.int (J a1), .int (J a2), .int (J a3), .int (J a4), .int (J a5), .int (J a6)] (by omega) (gX_r0 hr0 _) rfl) rfl rfl hl.1 rfl (lv_room (Nat.le_of_ble_eq_true rfl)) dX3_addVisit_44 ⟨Nat.zero_le _, Nat.zero_le _⟩) hS (fun H locs t ht hφ hO hS => ?_)
      obtain ⟨rv5, hRM6⟩ := hφ
      have hP : va_P D vwCl (wX ca ad M6) H := by rw [← ht]; exact hO
      obtain ⟨e1, e2⟩ := Prod.mk.inj (Option.some.inj hf)
      exact jend_i hx hb hr rfl hS e1 ⟨by rw [← e1]; exact rv5, by rw [← e2]; exact hRM6⟩ (oX e2 hP) dX3_addVisit_47 hlocks
    · have hf := iten hf c4
      refine lv_bipush (v := J (-4)) hx hb dX3_addVisit_31 (by decide +kernel) ?_
      obtain ⟨e1, e2⟩ := Prod.mk.inj (Option.some.inj hf)
      exact jend_i hx hb hr rfl hS e1 ⟨by rw [← e1]; exact (by decide : inR (-4)), by rw [← e2]; exact hR⟩ (oX e2 hP) dX3_addVisit_33 hlocks
  · have hf := iten hf c3
    refine lv_iload hx hb dX3_addVisit_19 (lv_at hl 0 rfl) ?_
    obtain ⟨e1, e2⟩ := Prod.mk.inj (Option.some.inj hf)
    exact jend_i hx hb hr rfl hS e1 ⟨by rw [← e1]; exact rv1, by rw [← e2]; exact hR⟩ (oX e2 hP) dX3_addVisit_21 hlocks
def fX3_hasVisit (r0 : Nat) (a1 : Int) (M : MM) : Option (Int) := bnd (if a1 < 0 then some ((0 : Int)) else if (M (5 * r0) 4) ≤ a1 then some ((0 : Int)) else some ((1 : Int))) (fun y2_0 => gd (y2_0 = 0 ∨ y2_0 = 1) (some y2_0))
set_option maxHeartbeats 4000000 in
set_option maxRecDepth 100000 in
theorem kX3_hasVisit (l : Launch) (D : va_G) (ca : Nat → ClassId) (v : EV) (ad : Nat → Nat) (hI : aInj 75 ad) (M : MM) (hR : RR M) (r0 : Nat) (hr0 : r0 < 11) (a1 : Int) (i1 : inR a1) (res : Int) (hf : fX3_hasVisit r0 a1 M = some res) : CI l yX3_hasVisit wsX3_hasVisit 0 0 [.ref (ad (5 * r0)), .int (J a1)] (PX D ca v ad M) res (inR res) (OX D ca ad M) (aS 75 ad) := by
  refine Met.ofW (cc := cX3_hasVisit) (maxL := 2) (ret := (some .boolean)) (by decide) rfl ?_
  intro p e s m args below meth c s₁ B hml hv
  obtain ⟨rfl, hP, hK, hE⟩ := hv
  have hx := B.exec
  have hb := B.bytes
  have hr := B.returns
  have hts := atoms_spec (ws := wsX3_hasVisit) B.pre
  have hown : s.vm.findClass RX3 = some m.cls := findClass_of_methodNamed B.named
  have hlocks := B.notSynchronized
  have hS : va_S (aS 75 ad) s.heap s.heap [] := va_S.rf
  have hinX3 : ∀ w ∈ wsX30, w ∈ wsX3_hasVisit := by decide +kernel
  have hl := lv_entry ([.ref (ad (5 * r0)), .int (J a1)]) (n := 2) (Nat.le_of_ble_eq_true rfl)
  rw [lg_entry_eq]
  generalize (lg_sl ([.ref (ad (5 * r0)), .int (J a1)]) ++ List.replicate (2 - (lg_sl ([.ref (ad (5 * r0)), .int (J a1)])).length) Slot.unset).toArray = ls at hl ⊢
  have hl : lv_has ls 2 [(0, .ref (ad (5 * r0))), (1, .int (J a1))] := hl
  unfold fX3_hasVisit at hf
  refine lv_iload_n hx hb dX3_hasVisit_0 rfl (lv_at hl 1 rfl) ?_
  obtain ⟨y2_0, h2, hf⟩ := bnd_some hf
  have K2 : ∀ (H : Heap) (locs : List Loc) (ls : Array Slot), inR y2_0 → va_P D vwCl (wX ca ad M) H → va_S (aS 75 ad) s.heap H locs → lv_has ls 2 [] → W p l e (headSpec wsX3_hasVisit (RmC 0 0)).room s m ([.ref (ad (5 * r0)), .int (J a1)] : List Value).toArray below meth c H locs 0 0 (MQ below (va_Qi (fun x (_ : Unit) => x = J res ∧ (inR res)) (fun _ => (OX D ca ad M)) (aS 75 ad)) ([.ref (ad (5 * r0)), .int (J a1)] : List Value).toArray s 0 0 (aS 75 ad)) (F0 m 17 ls [.int (J y2_0)]) := by
    intro H locs ls ry2_0  hP hS hl
    obtain ⟨g4, hf⟩ := gd_some hf
    have e1 := Option.some.inj hf
    exact jend_i hx hb hr (J_wZ g4).1 hS e1 (by rw [← e1]; exact ry2_0) (oX rfl hP) dX3_hasVisit_17 hlocks
  have hf := h2
  clear h2
  refine jv_if_lt (tgt := 16) hx hb dX3_hasVisit_1 (by decide) i1 (fun c1 => ?_) (fun c1 => ?_)
  · have hf := itep hf c1
    refine lv_iconst (v := J 0) hx hb dX3_hasVisit_16 rfl ?_
    cases hf
    exact K2 _ _ _ (by decide : inR 0)  hP hS (lv_sub hl [] rfl)
  · have hf := iten hf c1
    refine lv_iload_n hx hb dX3_hasVisit_4 rfl (lv_at hl 1 rfl) ?_
    refine lv_aload_n hx hb dX3_hasVisit_5 rfl (lv_at hl 0 rfl) ?_
    refine va_get (D := D) (ci := 3) (v := .int (J (M (5 * r0) 4))) (C := RX3) (T := TX3) (N := 6) hx hb hts hinX3 hown hK hP (5 * r0) (wL_get (by omega) (gX_r0 hr0 _)) rfl 4 (by decide) (hts (.fieldLink RX3 38 "VisitVans$Road" "visitCount" "I") (List.mem_of_getElem? (i := 1) rfl)) (fun _ h => h) rfl dX3_hasVisit_6 ?_
    refine jv_icmp_ge (tgt := 16) hx hb dX3_hasVisit_9 (by decide) i1 (hR (5 * r0) 4) (fun c3 => ?_) (fun c3 => ?_)
    · have hf := itep hf c3
      refine lv_iconst (v := J 0) hx hb dX3_hasVisit_16 rfl ?_
      cases hf
      exact K2 _ _ _ (by decide : inR 0)  hP hS (lv_sub hl [] rfl)
    · have hf := iten hf c3
      refine lv_iconst (v := J 1) hx hb dX3_hasVisit_12 rfl ?_
      refine lv_goto (tgt := 17) hx hb dX3_hasVisit_13 (by decide) ?_
      cases hf
      exact K2 _ _ _ (by decide : inR 1)  hP hS (lv_sub hl [] rfl)
def fX3_removeVisit (r0 : Nat) (a1 : Int) (M : MM) : Option (Int × MM) := bnd (fX3_hasVisit r0 a1 M) (fun v1 => if v1 = 0 then some ((-1), M) else bnd (cpy M (5 * r0 + 2) 126 ((a1 * 6) + 6) (5 * r0 + 2) 126 (a1 * 6) ((((M (5 * r0) 4) - 1) - a1) * 6)) (fun M4 => gd (inR ((M4 (5 * r0) 4) - 1)) (bnd (some (stM M4 (5 * r0) 4 ((M4 (5 * r0) 4) - 1))) (fun M6 => some ((M6 (5 * r0) 4), M6)))))
set_option maxHeartbeats 4000000 in
set_option maxRecDepth 100000 in
theorem kX3_removeVisit (l : Launch) (D : va_G) (ca : Nat → ClassId) (v : EV) (ad : Nat → Nat) (hI : aInj 75 ad) (M : MM) (hR : RR M) (r0 : Nat) (hr0 : r0 < 11) (a1 : Int) (i1 : inR a1) (res : Int) (M' : MM) (hf : fX3_removeVisit r0 a1 M = some (res, M')) : CI l yX3_removeVisit wsX3_removeVisit 1 40 [.ref (ad (5 * r0)), .int (J a1)] (PX D ca v ad M) res (inR res ∧ RR M') (OX D ca ad M') (aS 75 ad) := by
  refine Met.ofW (cc := cX3_removeVisit) (maxL := 4) (ret := (some .int)) (by decide) rfl ?_
  intro p e s m args below meth c s₁ B hml hv
  obtain ⟨rfl, hP, hK, hE⟩ := hv
  have hx := B.exec
  have hb := B.bytes
  have hr := B.returns
  have hts := atoms_spec (ws := wsX3_removeVisit) B.pre
  have hown : s.vm.findClass RX3 = some m.cls := findClass_of_methodNamed B.named
  have hlocks := B.notSynchronized
  have hS : va_S (aS 75 ad) s.heap s.heap [] := va_S.rf
  have hinX3 : ∀ w ∈ wsX30, w ∈ wsX3_removeVisit := by decide +kernel
  have hl := lv_entry ([.ref (ad (5 * r0)), .int (J a1)]) (n := 4) (Nat.le_of_ble_eq_true rfl)
  rw [lg_entry_eq]
  generalize (lg_sl ([.ref (ad (5 * r0)), .int (J a1)]) ++ List.replicate (4 - (lg_sl ([.ref (ad (5 * r0)), .int (J a1)])).length) Slot.unset).toArray = ls at hl ⊢
  have hl : lv_has ls 4 [(0, .ref (ad (5 * r0))), (1, .int (J a1))] := hl
  unfold fX3_removeVisit at hf
  refine lv_aload_n hx hb dX3_removeVisit_0 rfl (lv_at hl 0 rfl) ?_
  refine lv_iload_n hx hb dX3_removeVisit_1 rfl (lv_at hl 1 rfl) ?_
  obtain ⟨v1, qv1, hf⟩ := bnd_some hf
  refine jc_i (va_runV (As := [.int (J a1)]) (rest := []) ⟨hx, hb, hml, hown, hts⟩ (kX3_hasVisit l D ca v ad hI M hR r0 hr0 a1 i1 v1 qv1) (cwV 1 hts gX3_removeVisit_X3_hasVisit rfl rfl rfl (by decide +kernel) ⟨Nat.le_of_ble_eq_true rfl, Nat.le_of_ble_eq_true rfl⟩) (pvX hK hE hP hS [.int (J a1)] (by omega) (gX_r0 hr0 _) rfl) rfl rfl hl.1 rfl (lv_room (Nat.le_of_ble_eq_true rfl)) dX3_removeVisit_2 ⟨Nat.zero_le _, Nat.zero_le _⟩) hS (fun H locs t ht hφ hO hS => ?_)
  have rv1 := hφ
  have hP : va_P D vwCl (wX ca ad M) H := by rw [← ht]; exact hO
  refine jv_if_ne (tgt := 10) hx hb dX3_removeVisit_5 (by decide) rv1 (fun c3 => ?_) (fun c3 => ?_)
  · have hf := iten hf c3
    refine lv_iload_n hx hb dX3_removeVisit_10 rfl (lv_at hl 1 rfl) ?_
    refine lv_bipush (v := J 6) hx hb dX3_removeVisit_11 (by decide +kernel) ?_
    refine jv_imul hx hb dX3_removeVisit_13 ?_
    refine lv_istore_n (lv' := [(2, .int (J (a1 * 6))), (0, .ref (ad (5 * r0))), (1, .int (J a1))]) hx hb dX3_removeVisit_14 rfl hl (by decide) rfl (fun ls hl => ?_)
    refine lv_aload_n hx hb dX3_removeVisit_15 rfl (lv_at hl 1 rfl) ?_
    refine va_get (D := D) (ci := 3) (v := .int (J (M (5 * r0) 4))) (C := RX3) (T := TX3) (N := 6) hx hb hts hinX3 hown hK hP (5 * r0) (wL_get (by omega) (gX_r0 hr0 _)) rfl 4 (by decide) (hts (.fieldLink RX3 38 "VisitVans$Road" "visitCount" "I") (List.mem_of_getElem? (i := 1) rfl)) (fun _ h => h) rfl dX3_removeVisit_16 ?_
    refine lv_iconst (v := J 1) hx hb dX3_removeVisit_19 rfl ?_
    refine jv_isub hx hb dX3_removeVisit_20 ?_
    refine lv_iload_n hx hb dX3_removeVisit_21 rfl (lv_at hl 2 rfl) ?_
    refine jv_isub hx hb dX3_removeVisit_22 ?_
    refine lv_bipush (v := J 6) hx hb dX3_removeVisit_23 (by decide +kernel) ?_
    refine jv_imul hx hb dX3_removeVisit_25 ?_
    refine lv_istore_n (lv' := [(3, .int (J ((((M (5 * r0) 4) - 1) - a1) * 6))), (2, .int (J (a1 * 6))), (0, .ref (ad (5 * r0))), (1, .int (J a1))]) hx hb dX3_removeVisit_26 rfl hl (by decide) rfl (fun ls hl => ?_)
    refine lv_aload_n hx hb dX3_removeVisit_27 rfl (lv_at hl 2 rfl) ?_
    refine va_get (D := D) (ci := 3) (v := .ref (ad (5 * r0 + 2))) (C := RX3) (T := TX3) (N := 6) hx hb hts hinX3 hown hK hP (5 * r0) (wL_get (by omega) (gX_r0 hr0 _)) rfl 1 (by decide) (hts (.fieldLink RX3 23 "VisitVans$Road" "visits" "[I") (List.mem_of_getElem? (i := 2) rfl)) (fun _ h => h) rfl dX3_removeVisit_28 ?_
    refine lv_iload_n hx hb dX3_removeVisit_31 rfl (lv_at hl 1 rfl) ?_
    refine lv_bipush (v := J 6) hx hb dX3_removeVisit_32 (by decide +kernel) ?_
    refine jv_iadd hx hb dX3_removeVisit_34 ?_
    refine lv_aload_n hx hb dX3_removeVisit_35 rfl (lv_at hl 2 rfl) ?_
    refine va_get (D := D) (ci := 3) (v := .ref (ad (5 * r0 + 2))) (C := RX3) (T := TX3) (N := 6) hx hb hts hinX3 hown hK hP (5 * r0) (wL_get (by omega) (gX_r0 hr0 _)) rfl 1 (by decide) (hts (.fieldLink RX3 23 "VisitVans$Road" "visits" "[I") (List.mem_of_getElem? (i := 2) rfl)) (fun _ h => h) rfl dX3_removeVisit_36 ?_
    refine lv_iload_n hx hb dX3_removeVisit_39 rfl (lv_at hl 1 rfl) ?_
    refine lv_iload_n hx hb dX3_removeVisit_40 rfl (lv_at hl 0 rfl) ?_
    obtain ⟨M4, qM4, hf⟩ := bnd_some hf
    obtain ⟨bM4, eM4⟩ := cpy_some qM4
    have hRM4 : RR M4 := by rw [eM4]; exact RR_cp hR _ _ _ _ _
    refine jx_copy hx hb (by rw [hml]; exact hl.1.symm) hown (hts (.methodLink RX3 32 arraycopyName) (List.mem_of_getElem? (i := 3) rfl)) (hts (.native arraycopyName) (List.mem_of_getElem? (i := 4) rfl)) (hts (.static arraycopyName) (List.mem_of_getElem? (i := 5) rfl)) (hts (.initialized "java/lang/System") (List.mem_of_getElem? (i := 6) rfl)) hK hP hI hS (5 * r0 + 2) (5 * r0 + 2) 0 (by omega) (by omega) (gX_r2 hr0) (gX_r2 hr0) rfl (by decide) (by decide) bM4 (Nat.le_of_ble_eq_true rfl) (Nat.le_of_ble_eq_true rfl) dX3_removeVisit_41 (fun H locs hP hS => ?_)
    rw [← eM4] at hP
    refine lv_aload_n hx hb dX3_removeVisit_44 rfl (lv_at hl 2 rfl) ?_
    refine lv_dup hx hb dX3_removeVisit_45 rfl ?_
    refine va_get (D := D) (ci := 3) (v := .int (J (M4 (5 * r0) 4))) (C := RX3) (T := TX3) (N := 6) hx hb hts hinX3 hown hK hP (5 * r0) (wL_get (by omega) (gX_r0 hr0 _)) rfl 4 (by decide) (hts (.fieldLink RX3 38 "VisitVans$Road" "visitCount" "I") (List.mem_of_getElem? (i := 1) rfl)) (fun _ h => h) rfl dX3_removeVisit_46 ?_
    refine lv_iconst (v := J 1) hx hb dX3_removeVisit_49 rfl ?_
    refine jv_isub hx hb dX3_removeVisit_50 ?_
    obtain ⟨g5, hf⟩ := gd_some hf
    obtain ⟨M6, eM6, hf⟩ := bnd_some hf
    have eM6 := Option.some.inj eM6
    have hRM6 : RR M6 := by rw [← eM6]; exact RR_st hRM4 (5 * r0) 4 g5
    refine va_put (D := D) (ci := 3) (v := .int (J ((M4 (5 * r0) 4) - 1))) (ty := .int) (C := RX3) (T := TX3) (N := 6) hx hb hts hinX3 tyX3 tyX3_ok nmX3 hown hK hP (wL_D hI M4) hS (5 * r0) (wL_get (by omega) (gX_r0 hr0 _)) rfl 4 (by decide) (hts (.fieldLink RX3 38 "VisitVans$Road" "visitCount" "I") (List.mem_of_getElem? (i := 1) rfl)) (fun _ h => h) rfl rfl rfl rfl (Nat.le_of_ble_eq_true rfl) dX3_removeVisit_51 (fun H locs hP hD hS => ?_)
    have hP : va_P D vwCl (wX ca ad M6) H := by rw [← eM6]; exact hPset (gX_r0_s4 hr0) stM_o hP
    refine lv_aload_n hx hb dX3_removeVisit_54 rfl (lv_at hl 2 rfl) ?_
    refine va_get (D := D) (ci := 3) (v := .int (J (M6 (5 * r0) 4))) (C := RX3) (T := TX3) (N := 6) hx hb hts hinX3 hown hK hP (5 * r0) (wL_get (by omega) (gX_r0 hr0 _)) rfl 4 (by decide) (hts (.fieldLink RX3 38 "VisitVans$Road" "visitCount" "I") (List.mem_of_getElem? (i := 1) rfl)) (fun _ h => h) rfl dX3_removeVisit_55 ?_
    obtain ⟨e1, e2⟩ := Prod.mk.inj (Option.some.inj hf)
    exact jend_i hx hb hr rfl hS e1 ⟨by rw [← e1]; exact (hRM6 (5 * r0) 4), by rw [← e2]; exact hRM6⟩ (oX e2 hP) dX3_removeVisit_58 hlocks
  · have hf := itep hf c3
    refine lv_iconst (v := J (-1)) hx hb dX3_removeVisit_8 rfl ?_
    obtain ⟨e1, e2⟩ := Prod.mk.inj (Option.some.inj hf)
    exact jend_i hx hb hr rfl hS e1 ⟨by rw [← e1]; exact (by decide : inR (-1)), by rw [← e2]; exact hR⟩ (oX e2 hP) dX3_removeVisit_9 hlocks
def fX3_addVan (r0 : Nat) (a1 : Int) (a2 : Int) (M : MM) : Option (Int × MM) := bnd (fX4_within a1 0 99) (fun v1 => if v1 = 0 then some ((-2), M) else bnd (fX4_within a2 0 15) (fun v4 => if v4 = 0 then some ((-2), M) else if (M (5 * r0) 5) < 4 then bnd (wr M (5 * r0 + 3) 8 (((M (5 * r0) 5) * 2) + 0) a1) (fun M8 => bnd (wr M8 (5 * r0 + 3) 8 (((M8 (5 * r0) 5) * 2) + 1) a2) (fun M9 => gd (inR ((M9 (5 * r0) 5) + 1)) (bnd (some (stM M9 (5 * r0) 5 ((M9 (5 * r0) 5) + 1))) (fun M11 => gd (inR ((M11 (5 * r0) 5) - 1)) (some (((M11 (5 * r0) 5) - 1), M11)))))) else some ((-4), M)))
set_option maxHeartbeats 4000000 in
set_option maxRecDepth 100000 in
theorem kX3_addVan (l : Launch) (D : va_G) (ca : Nat → ClassId) (v : EV) (ad : Nat → Nat) (hI : aInj 75 ad) (M : MM) (hR : RR M) (r0 : Nat) (hr0 : r0 < 11) (a1 : Int) (a2 : Int) (i1 : inR a1) (i2 : inR a2) (res : Int) (M' : MM) (hf : fX3_addVan r0 a1 a2 M = some (res, M')) : CI l yX3_addVan wsX3_addVan 1 22 [.ref (ad (5 * r0)), .int (J a1), .int (J a2)] (PX D ca v ad M) res (inR res ∧ RR M') (OX D ca ad M') (aS 75 ad) := by
  refine Met.ofW (cc := cX3_addVan) (maxL := 3) (ret := (some .int)) (by decide) rfl ?_
  intro p e s m args below meth c s₁ B hml hv
  obtain ⟨rfl, hP, hK, hE⟩ := hv
  have hx := B.exec
  have hb := B.bytes
  have hr := B.returns
  have hts := atoms_spec (ws := wsX3_addVan) B.pre
  have hown : s.vm.findClass RX3 = some m.cls := findClass_of_methodNamed B.named
  have hlocks := B.notSynchronized
  have hS : va_S (aS 75 ad) s.heap s.heap [] := va_S.rf
  have hinX3 : ∀ w ∈ wsX30, w ∈ wsX3_addVan := by decide +kernel
  have hl := lv_entry ([.ref (ad (5 * r0)), .int (J a1), .int (J a2)]) (n := 3) (Nat.le_of_ble_eq_true rfl)
  rw [lg_entry_eq]
  generalize (lg_sl ([.ref (ad (5 * r0)), .int (J a1), .int (J a2)]) ++ List.replicate (3 - (lg_sl ([.ref (ad (5 * r0)), .int (J a1), .int (J a2)])).length) Slot.unset).toArray = ls at hl ⊢
  have hl : lv_has ls 3 [(0, .ref (ad (5 * r0))), (1, .int (J a1)), (2, .int (J a2))] := hl
  unfold fX3_addVan at hf
  refine lv_iload_n hx hb dX3_addVan_0 rfl (lv_at hl 1 rfl) ?_
  refine lv_iconst (v := J 0) hx hb dX3_addVan_1 rfl ?_
  refine lv_bipush (v := J 99) hx hb dX3_addVan_2 (by decide +kernel) ?_
  obtain ⟨v1, qv1, hf⟩ := bnd_some hf
  refine jc_i (va_runSN (As := [.int (J a1), .int (J 0), .int (J 99)]) (rest := []) ⟨hx, hb, hml, hown, hts⟩ (kX4_within l D ca v ad hI M hR a1 0 99 i1 (by decide : inR 0) (by decide : inR 99) v1 qv1) ⟨va_cnB 3 hts gX3_addVan_X4_within_n45 rfl rfl rfl hE.1.1 (hts (.initialized RX4) (List.mem_of_getElem? (i := 4) rfl)) (by decide +kernel) ⟨Nat.le_of_ble_eq_true rfl, Nat.le_of_ble_eq_true rfl⟩, (hts (.static yX4_within) (List.mem_of_getElem? (i := 3) rfl)), trivial⟩ (psX hK hE hP hS [.int (J a1), .int (J 0), .int (J 99)]) rfl rfl hl.1 rfl (lv_room (Nat.le_of_ble_eq_true rfl)) dX3_addVan_4 ⟨Nat.zero_le _, Nat.zero_le _⟩) hS (fun H locs t ht hφ hO hS => ?_)
  have rv1 := hφ
  have hP : va_P D vwCl (wX ca ad M) H := by rw [← ht]; exact hO
  refine jv_if_eq (tgt := 20) hx hb dX3_addVan_7 (by decide) rv1 (fun c3 => ?_) (fun c3 => ?_)
  · have hf := itep hf c3
    refine lv_bipush (v := J (-2)) hx hb dX3_addVan_20 (by decide +kernel) ?_
    obtain ⟨e1, e2⟩ := Prod.mk.inj (Option.some.inj hf)
    exact jend_i hx hb hr rfl hS e1 ⟨by rw [← e1]; exact (by decide : inR (-2)), by rw [← e2]; exact hR⟩ (oX e2 hP) dX3_addVan_22 hlocks
  · have hf := iten hf c3
    refine lv_iload_n hx hb dX3_addVan_10 rfl (lv_at hl 2 rfl) ?_
    refine lv_iconst (v := J 0) hx hb dX3_addVan_11 rfl ?_
    refine lv_bipush (v := J 15) hx hb dX3_addVan_12 (by decide +kernel) ?_
    obtain ⟨v4, qv4, hf⟩ := bnd_some hf
    refine jc_i (va_runSN (As := [.int (J a2), .int (J 0), .int (J 15)]) (rest := []) ⟨hx, hb, hml, hown, hts⟩ (kX4_within l D ca v ad hI M hR a2 0 15 i2 (by decide : inR 0) (by decide : inR 15) v4 qv4) ⟨va_cnB 3 hts gX3_addVan_X4_within_n45 rfl rfl rfl hE.1.1 (hts (.initialized RX4) (List.mem_of_getElem? (i := 4) rfl)) (by decide +kernel) ⟨Nat.le_of_ble_eq_true rfl, Nat.le_of_ble_eq_true rfl⟩, (hts (.static yX4_within) (List.mem_of_getElem? (i := 3) rfl)), trivial⟩ (psX hK hE hP hS [.int (J a2), .int (J 0), .int (J 15)]) rfl rfl hl.1 rfl (lv_room (Nat.le_of_ble_eq_true rfl)) dX3_addVan_14 ⟨Nat.zero_le _, Nat.zero_le _⟩) hS (fun H locs t ht hφ hO hS => ?_)
    have rv4 := hφ
    have hP : va_P D vwCl (wX ca ad M) H := by rw [← ht]; exact hO
    refine jv_if_ne (tgt := 23) hx hb dX3_addVan_17 (by decide) rv4 (fun c6 => ?_) (fun c6 => ?_)
    · have hf := iten hf c6
      refine lv_aload_n hx hb dX3_addVan_23 rfl (lv_at hl 0 rfl) ?_
      refine va_get (D := D) (ci := 3) (v := .int (J (M (5 * r0) 5))) (C := RX3) (T := TX3) (N := 6) hx hb hts hinX3 hown hK hP (5 * r0) (wL_get (by omega) (gX_r0 hr0 _)) rfl 5 (by decide) (hts (.fieldLink RX3 42 "VisitVans$Road" "vanCount" "I") (List.mem_of_getElem? (i := 1) rfl)) (fun _ h => h) rfl dX3_addVan_24 ?_
      refine lv_iconst (v := J 4) hx hb dX3_addVan_27 rfl ?_
      refine jv_icmp_lt (tgt := 34) hx hb dX3_addVan_28 (by decide) (hR (5 * r0) 5) (by decide : inR 4) (fun c7 => ?_) (fun c7 => ?_)
      · have hf := itep hf c7
        refine lv_aload_n hx hb dX3_addVan_34 rfl (lv_at hl 0 rfl) ?_
        refine va_get (D := D) (ci := 3) (v := .ref (ad (5 * r0 + 3))) (C := RX3) (T := TX3) (N := 6) hx hb hts hinX3 hown hK hP (5 * r0) (wL_get (by omega) (gX_r0 hr0 _)) rfl 2 (by decide) (hts (.fieldLink RX3 26 "VisitVans$Road" "vans" "[I") (List.mem_of_getElem? (i := 2) rfl)) (fun _ h => h) rfl dX3_addVan_35 ?_
        refine lv_aload_n hx hb dX3_addVan_38 rfl (lv_at hl 0 rfl) ?_
        refine va_get (D := D) (ci := 3) (v := .int (J (M (5 * r0) 5))) (C := RX3) (T := TX3) (N := 6) hx hb hts hinX3 hown hK hP (5 * r0) (wL_get (by omega) (gX_r0 hr0 _)) rfl 5 (by decide) (hts (.fieldLink RX3 42 "VisitVans$Road" "vanCount" "I") (List.mem_of_getElem? (i := 1) rfl)) (fun _ h => h) rfl dX3_addVan_39 ?_
        refine lv_iconst (v := J 2) hx hb dX3_addVan_42 rfl ?_
        refine jv_imul hx hb dX3_addVan_43 ?_
        refine lv_iconst (v := J 0) hx hb dX3_addVan_44 rfl ?_
        refine jv_iadd hx hb dX3_addVan_45 ?_
        refine lv_iload_n hx hb dX3_addVan_46 rfl (lv_at hl 1 rfl) ?_
        obtain ⟨M8, qM8, hf⟩ := bnd_some hf
        obtain ⟨bM8, zM8, eM8⟩ := wr_some qM8
        have hRM8 : RR M8 := by rw [eM8]; exact RR_st hR _ _ zM8
        refine jx_iast hx hb hK hP hI hS (5 * r0 + 3) 0 (by omega) (gX_r3 hr0) rfl (by decide) bM8 zM8 dX3_addVan_47 (fun H locs hP hS => ?_)
        rw [← eM8] at hP
        refine lv_aload_n hx hb dX3_addVan_48 rfl (lv_at hl 0 rfl) ?_
        refine va_get (D := D) (ci := 3) (v := .ref (ad (5 * r0 + 3))) (C := RX3) (T := TX3) (N := 6) hx hb hts hinX3 hown hK hP (5 * r0) (wL_get (by omega) (gX_r0 hr0 _)) rfl 2 (by decide) (hts (.fieldLink RX3 26 "VisitVans$Road" "vans" "[I") (List.mem_of_getElem? (i := 2) rfl)) (fun _ h => h) rfl dX3_addVan_49 ?_
        refine lv_aload_n hx hb dX3_addVan_52 rfl (lv_at hl 0 rfl) ?_
        refine va_get (D := D) (ci := 3) (v := .int (J (M8 (5 * r0) 5))) (C := RX3) (T := TX3) (N := 6) hx hb hts hinX3 hown hK hP (5 * r0) (wL_get (by omega) (gX_r0 hr0 _)) rfl 5 (by decide) (hts (.fieldLink RX3 42 "VisitVans$Road" "vanCount" "I") (List.mem_of_getElem? (i := 1) rfl)) (fun _ h => h) rfl dX3_addVan_53 ?_
        refine lv_iconst (v := J 2) hx hb dX3_addVan_56 rfl ?_
        refine jv_imul hx hb dX3_addVan_57 ?_
        refine lv_iconst (v := J 1) hx hb dX3_addVan_58 rfl ?_
        refine jv_iadd hx hb dX3_addVan_59 ?_
        refine lv_iload_n hx hb dX3_addVan_60 rfl (lv_at hl 2 rfl) ?_
        obtain ⟨M9, qM9, hf⟩ := bnd_some hf
        obtain ⟨bM9, zM9, eM9⟩ := wr_some qM9
        have hRM9 : RR M9 := by rw [eM9]; exact RR_st hRM8 _ _ zM9
        refine jx_iast hx hb hK hP hI hS (5 * r0 + 3) 0 (by omega) (gX_r3 hr0) rfl (by decide) bM9 zM9 dX3_addVan_61 (fun H locs hP hS => ?_)
        rw [← eM9] at hP
        refine lv_aload_n hx hb dX3_addVan_62 rfl (lv_at hl 0 rfl) ?_
        refine lv_dup hx hb dX3_addVan_63 rfl ?_
        refine va_get (D := D) (ci := 3) (v := .int (J (M9 (5 * r0) 5))) (C := RX3) (T := TX3) (N := 6) hx hb hts hinX3 hown hK hP (5 * r0) (wL_get (by omega) (gX_r0 hr0 _)) rfl 5 (by decide) (hts (.fieldLink RX3 42 "VisitVans$Road" "vanCount" "I") (List.mem_of_getElem? (i := 1) rfl)) (fun _ h => h) rfl dX3_addVan_64 ?_
        refine lv_iconst (v := J 1) hx hb dX3_addVan_67 rfl ?_
        refine jv_iadd hx hb dX3_addVan_68 ?_
        obtain ⟨g10, hf⟩ := gd_some hf
        obtain ⟨M11, eM11, hf⟩ := bnd_some hf
        have eM11 := Option.some.inj eM11
        have hRM11 : RR M11 := by rw [← eM11]; exact RR_st hRM9 (5 * r0) 5 g10
        refine va_put (D := D) (ci := 3) (v := .int (J ((M9 (5 * r0) 5) + 1))) (ty := .int) (C := RX3) (T := TX3) (N := 6) hx hb hts hinX3 tyX3 tyX3_ok nmX3 hown hK hP (wL_D hI M9) hS (5 * r0) (wL_get (by omega) (gX_r0 hr0 _)) rfl 5 (by decide) (hts (.fieldLink RX3 42 "VisitVans$Road" "vanCount" "I") (List.mem_of_getElem? (i := 1) rfl)) (fun _ h => h) rfl rfl rfl rfl (Nat.le_of_ble_eq_true rfl) dX3_addVan_69 (fun H locs hP hD hS => ?_)
        have hP : va_P D vwCl (wX ca ad M11) H := by rw [← eM11]; exact hPset (gX_r0_s5 hr0) stM_o hP
        refine lv_aload_n hx hb dX3_addVan_72 rfl (lv_at hl 0 rfl) ?_
        refine va_get (D := D) (ci := 3) (v := .int (J (M11 (5 * r0) 5))) (C := RX3) (T := TX3) (N := 6) hx hb hts hinX3 hown hK hP (5 * r0) (wL_get (by omega) (gX_r0 hr0 _)) rfl 5 (by decide) (hts (.fieldLink RX3 42 "VisitVans$Road" "vanCount" "I") (List.mem_of_getElem? (i := 1) rfl)) (fun _ h => h) rfl dX3_addVan_73 ?_
        refine lv_iconst (v := J 1) hx hb dX3_addVan_76 rfl ?_
        refine jv_isub hx hb dX3_addVan_77 ?_
        obtain ⟨g12, hf⟩ := gd_some hf
        obtain ⟨e1, e2⟩ := Prod.mk.inj (Option.some.inj hf)
        exact jend_i hx hb hr rfl hS e1 ⟨by rw [← e1]; exact g12, by rw [← e2]; exact hRM11⟩ (oX e2 hP) dX3_addVan_78 hlocks
      · have hf := iten hf c7
        refine lv_bipush (v := J (-4)) hx hb dX3_addVan_31 (by decide +kernel) ?_
        obtain ⟨e1, e2⟩ := Prod.mk.inj (Option.some.inj hf)
        exact jend_i hx hb hr rfl hS e1 ⟨by rw [← e1]; exact (by decide : inR (-4)), by rw [← e2]; exact hR⟩ (oX e2 hP) dX3_addVan_33 hlocks
    · have hf := itep hf c6
      refine lv_bipush (v := J (-2)) hx hb dX3_addVan_20 (by decide +kernel) ?_
      obtain ⟨e1, e2⟩ := Prod.mk.inj (Option.some.inj hf)
      exact jend_i hx hb hr rfl hS e1 ⟨by rw [← e1]; exact (by decide : inR (-2)), by rw [← e2]; exact hR⟩ (oX e2 hP) dX3_addVan_22 hlocks
def fX3_hasVan (r0 : Nat) (a1 : Int) (M : MM) : Option (Int) := bnd (if a1 < 0 then some ((0 : Int)) else if (M (5 * r0) 5) ≤ a1 then some ((0 : Int)) else some ((1 : Int))) (fun y2_0 => gd (y2_0 = 0 ∨ y2_0 = 1) (some y2_0))
set_option maxHeartbeats 4000000 in
set_option maxRecDepth 100000 in
theorem kX3_hasVan (l : Launch) (D : va_G) (ca : Nat → ClassId) (v : EV) (ad : Nat → Nat) (hI : aInj 75 ad) (M : MM) (hR : RR M) (r0 : Nat) (hr0 : r0 < 11) (a1 : Int) (i1 : inR a1) (res : Int) (hf : fX3_hasVan r0 a1 M = some res) : CI l yX3_hasVan wsX3_hasVan 0 0 [.ref (ad (5 * r0)), .int (J a1)] (PX D ca v ad M) res (inR res) (OX D ca ad M) (aS 75 ad) := by
  refine Met.ofW (cc := cX3_hasVan) (maxL := 2) (ret := (some .boolean)) (by decide) rfl ?_
  intro p e s m args below meth c s₁ B hml hv
  obtain ⟨rfl, hP, hK, hE⟩ := hv
  have hx := B.exec
  have hb := B.bytes
  have hr := B.returns
  have hts := atoms_spec (ws := wsX3_hasVan) B.pre
  have hown : s.vm.findClass RX3 = some m.cls := findClass_of_methodNamed B.named
  have hlocks := B.notSynchronized
  have hS : va_S (aS 75 ad) s.heap s.heap [] := va_S.rf
  have hinX3 : ∀ w ∈ wsX30, w ∈ wsX3_hasVan := by decide +kernel
  have hl := lv_entry ([.ref (ad (5 * r0)), .int (J a1)]) (n := 2) (Nat.le_of_ble_eq_true rfl)
  rw [lg_entry_eq]
  generalize (lg_sl ([.ref (ad (5 * r0)), .int (J a1)]) ++ List.replicate (2 - (lg_sl ([.ref (ad (5 * r0)), .int (J a1)])).length) Slot.unset).toArray = ls at hl ⊢
  have hl : lv_has ls 2 [(0, .ref (ad (5 * r0))), (1, .int (J a1))] := hl
  unfold fX3_hasVan at hf
  refine lv_iload_n hx hb dX3_hasVan_0 rfl (lv_at hl 1 rfl) ?_
  obtain ⟨y2_0, h2, hf⟩ := bnd_some hf
  have K2 : ∀ (H : Heap) (locs : List Loc) (ls : Array Slot), inR y2_0 → va_P D vwCl (wX ca ad M) H → va_S (aS 75 ad) s.heap H locs → lv_has ls 2 [] → W p l e (headSpec wsX3_hasVan (RmC 0 0)).room s m ([.ref (ad (5 * r0)), .int (J a1)] : List Value).toArray below meth c H locs 0 0 (MQ below (va_Qi (fun x (_ : Unit) => x = J res ∧ (inR res)) (fun _ => (OX D ca ad M)) (aS 75 ad)) ([.ref (ad (5 * r0)), .int (J a1)] : List Value).toArray s 0 0 (aS 75 ad)) (F0 m 17 ls [.int (J y2_0)]) := by
    intro H locs ls ry2_0  hP hS hl
    obtain ⟨g4, hf⟩ := gd_some hf
    have e1 := Option.some.inj hf
    exact jend_i hx hb hr (J_wZ g4).1 hS e1 (by rw [← e1]; exact ry2_0) (oX rfl hP) dX3_hasVan_17 hlocks
  have hf := h2
  clear h2
  refine jv_if_lt (tgt := 16) hx hb dX3_hasVan_1 (by decide) i1 (fun c1 => ?_) (fun c1 => ?_)
  · have hf := itep hf c1
    refine lv_iconst (v := J 0) hx hb dX3_hasVan_16 rfl ?_
    cases hf
    exact K2 _ _ _ (by decide : inR 0)  hP hS (lv_sub hl [] rfl)
  · have hf := iten hf c1
    refine lv_iload_n hx hb dX3_hasVan_4 rfl (lv_at hl 1 rfl) ?_
    refine lv_aload_n hx hb dX3_hasVan_5 rfl (lv_at hl 0 rfl) ?_
    refine va_get (D := D) (ci := 3) (v := .int (J (M (5 * r0) 5))) (C := RX3) (T := TX3) (N := 6) hx hb hts hinX3 hown hK hP (5 * r0) (wL_get (by omega) (gX_r0 hr0 _)) rfl 5 (by decide) (hts (.fieldLink RX3 42 "VisitVans$Road" "vanCount" "I") (List.mem_of_getElem? (i := 1) rfl)) (fun _ h => h) rfl dX3_hasVan_6 ?_
    refine jv_icmp_ge (tgt := 16) hx hb dX3_hasVan_9 (by decide) i1 (hR (5 * r0) 5) (fun c3 => ?_) (fun c3 => ?_)
    · have hf := itep hf c3
      refine lv_iconst (v := J 0) hx hb dX3_hasVan_16 rfl ?_
      cases hf
      exact K2 _ _ _ (by decide : inR 0)  hP hS (lv_sub hl [] rfl)
    · have hf := iten hf c3
      refine lv_iconst (v := J 1) hx hb dX3_hasVan_12 rfl ?_
      refine lv_goto (tgt := 17) hx hb dX3_hasVan_13 (by decide) ?_
      cases hf
      exact K2 _ _ _ (by decide : inR 1)  hP hS (lv_sub hl [] rfl)
def fX3_changeStock (r0 : Nat) (a1 : Int) (a2 : Int) (a3 : Int) (M : MM) : Option (Int × MM) := bnd (fX3_hasVan r0 a1 M) (fun v1 => if v1 = 0 then some ((-1), M) else bnd (fX4_isPart a2) (fun v4 => if v4 = 0 then some ((-1), M) else bnd (fX4_within a3 0 99) (fun v7 => if v7 = 0 then some ((-2), M) else bnd (rd M (5 * r0 + 4) 20 ((a1 * 5) + a2)) (fun v10 => bnd (wr M (5 * r0 + 4) 20 ((a1 * 5) + a2) a3) (fun M11 => some (v10, M11))))))
set_option maxHeartbeats 4000000 in
set_option maxRecDepth 100000 in
theorem kX3_changeStock (l : Launch) (D : va_G) (ca : Nat → ClassId) (v : EV) (ad : Nat → Nat) (hI : aInj 75 ad) (M : MM) (hR : RR M) (r0 : Nat) (hr0 : r0 < 11) (a1 : Int) (a2 : Int) (a3 : Int) (i1 : inR a1) (i2 : inR a2) (i3 : inR a3) (res : Int) (M' : MM) (hf : fX3_changeStock r0 a1 a2 a3 M = some (res, M')) : CI l yX3_changeStock wsX3_changeStock 2 42 [.ref (ad (5 * r0)), .int (J a1), .int (J a2), .int (J a3)] (PX D ca v ad M) res (inR res ∧ RR M') (OX D ca ad M') (aS 75 ad) := by
  refine Met.ofW (cc := cX3_changeStock) (maxL := 5) (ret := (some .int)) (by decide) rfl ?_
  intro p e s m args below meth c s₁ B hml hv
  obtain ⟨rfl, hP, hK, hE⟩ := hv
  have hx := B.exec
  have hb := B.bytes
  have hr := B.returns
  have hts := atoms_spec (ws := wsX3_changeStock) B.pre
  have hown : s.vm.findClass RX3 = some m.cls := findClass_of_methodNamed B.named
  have hlocks := B.notSynchronized
  have hS : va_S (aS 75 ad) s.heap s.heap [] := va_S.rf
  have hinX3 : ∀ w ∈ wsX30, w ∈ wsX3_changeStock := by decide +kernel
  have hl := lv_entry ([.ref (ad (5 * r0)), .int (J a1), .int (J a2), .int (J a3)]) (n := 5) (Nat.le_of_ble_eq_true rfl)
  rw [lg_entry_eq]
  generalize (lg_sl ([.ref (ad (5 * r0)), .int (J a1), .int (J a2), .int (J a3)]) ++ List.replicate (5 - (lg_sl ([.ref (ad (5 * r0)), .int (J a1), .int (J a2), .int (J a3)])).length) Slot.unset).toArray = ls at hl ⊢
  have hl : lv_has ls 5 [(0, .ref (ad (5 * r0))), (1, .int (J a1)), (2, .int (J a2)), (3, .int (J a3))] := hl
  unfold fX3_changeStock at hf
  refine lv_aload_n hx hb dX3_changeStock_0 rfl (lv_at hl 0 rfl) ?_
  refine lv_iload_n hx hb dX3_changeStock_1 rfl (lv_at hl 1 rfl) ?_
  obtain ⟨v1, qv1, hf⟩ := bnd_some hf
  refine jc_i (va_runV (As := [.int (J a1)]) (rest := []) ⟨hx, hb, hml, hown, hts⟩ (kX3_hasVan l D ca v ad hI M hR r0 hr0 a1 i1 v1 qv1) (cwV 1 hts gX3_changeStock_X3_hasVan rfl rfl rfl (by decide +kernel) ⟨Nat.le_of_ble_eq_true rfl, Nat.le_of_ble_eq_true rfl⟩) (pvX hK hE hP hS [.int (J a1)] (by omega) (gX_r0 hr0 _) rfl) rfl rfl hl.1 rfl (lv_room (Nat.le_of_ble_eq_true rfl)) dX3_changeStock_2 ⟨Nat.zero_le _, Nat.zero_le _⟩) hS (fun H locs t ht hφ hO hS => ?_)
  have rv1 := hφ
  have hP : va_P D vwCl (wX ca ad M) H := by rw [← ht]; exact hO
  refine jv_if_eq (tgt := 15) hx hb dX3_changeStock_5 (by decide) rv1 (fun c3 => ?_) (fun c3 => ?_)
  · have hf := itep hf c3
    refine lv_iconst (v := J (-1)) hx hb dX3_changeStock_15 rfl ?_
    obtain ⟨e1, e2⟩ := Prod.mk.inj (Option.some.inj hf)
    exact jend_i hx hb hr rfl hS e1 ⟨by rw [← e1]; exact (by decide : inR (-1)), by rw [← e2]; exact hR⟩ (oX e2 hP) dX3_changeStock_16 hlocks
  · have hf := iten hf c3
    refine lv_iload_n hx hb dX3_changeStock_8 rfl (lv_at hl 2 rfl) ?_
    obtain ⟨v4, qv4, hf⟩ := bnd_some hf
    refine jc_i (va_runSN (As := [.int (J a2)]) (rest := []) ⟨hx, hb, hml, hown, hts⟩ (kX4_isPart l D ca v ad hI M hR a2 i2 v4 qv4) ⟨va_cnB 1 hts gX3_changeStock_X4_isPart_n69 rfl rfl rfl hE.1.2.2.1 (hts (.initialized RX4) (List.mem_of_getElem? (i := 9) rfl)) (by decide +kernel) ⟨Nat.le_of_ble_eq_true rfl, Nat.le_of_ble_eq_true rfl⟩, (hts (.static yX4_isPart) (List.mem_of_getElem? (i := 8) rfl)), trivial⟩ (psX hK hE hP hS [.int (J a2)]) rfl rfl hl.1 rfl (lv_room (Nat.le_of_ble_eq_true rfl)) dX3_changeStock_9 ⟨Nat.zero_le _, Nat.zero_le _⟩) hS (fun H locs t ht hφ hO hS => ?_)
    have rv4 := hφ
    have hP : va_P D vwCl (wX ca ad M) H := by rw [← ht]; exact hO
    refine jv_if_ne (tgt := 17) hx hb dX3_changeStock_12 (by decide) rv4 (fun c6 => ?_) (fun c6 => ?_)
    · have hf := iten hf c6
      refine lv_iload_n hx hb dX3_changeStock_17 rfl (lv_at hl 3 rfl) ?_
      refine lv_iconst (v := J 0) hx hb dX3_changeStock_18 rfl ?_
      refine lv_bipush (v := J 99) hx hb dX3_changeStock_19 (by decide +kernel) ?_
      obtain ⟨v7, qv7, hf⟩ := bnd_some hf
      refine jc_i (va_runSN (As := [.int (J a3), .int (J 0), .int (J 99)]) (rest := []) ⟨hx, hb, hml, hown, hts⟩ (kX4_within l D ca v ad hI M hR a3 0 99 i3 (by decide : inR 0) (by decide : inR 99) v7 qv7) ⟨va_cnB 3 hts gX3_changeStock_X4_within_n45 rfl rfl rfl hE.1.1 (hts (.initialized RX4) (List.mem_of_getElem? (i := 9) rfl)) (by decide +kernel) ⟨Nat.le_of_ble_eq_true rfl, Nat.le_of_ble_eq_true rfl⟩, (hts (.static yX4_within) (List.mem_of_getElem? (i := 12) rfl)), trivial⟩ (psX hK hE hP hS [.int (J a3), .int (J 0), .int (J 99)]) rfl rfl hl.1 rfl (lv_room (Nat.le_of_ble_eq_true rfl)) dX3_changeStock_21 ⟨Nat.zero_le _, Nat.zero_le _⟩) hS (fun H locs t ht hφ hO hS => ?_)
      have rv7 := hφ
      have hP : va_P D vwCl (wX ca ad M) H := by rw [← ht]; exact hO
      refine jv_if_ne (tgt := 30) hx hb dX3_changeStock_24 (by decide) rv7 (fun c9 => ?_) (fun c9 => ?_)
      · have hf := iten hf c9
        refine lv_aload_n hx hb dX3_changeStock_30 rfl (lv_at hl 0 rfl) ?_
        refine va_get (D := D) (ci := 3) (v := .ref (ad (5 * r0 + 4))) (C := RX3) (T := TX3) (N := 6) hx hb hts hinX3 hown hK hP (5 * r0) (wL_get (by omega) (gX_r0 hr0 _)) rfl 3 (by decide) (hts (.fieldLink RX3 29 "VisitVans$Road" "parts" "[I") (List.mem_of_getElem? (i := 1) rfl)) (fun _ h => h) rfl dX3_changeStock_31 ?_
        refine lv_iload_n hx hb dX3_changeStock_34 rfl (lv_at hl 1 rfl) ?_
        refine lv_iconst (v := J 5) hx hb dX3_changeStock_35 rfl ?_
        refine jv_imul hx hb dX3_changeStock_36 ?_
        refine lv_iload_n hx hb dX3_changeStock_37 rfl (lv_at hl 2 rfl) ?_
        refine jv_iadd hx hb dX3_changeStock_38 ?_
        obtain ⟨v10, qv10, hf⟩ := bnd_some hf
        obtain ⟨bv10, ev10⟩ := rd_some qv10
        have rv10 : inR v10 := by rw [ev10]; exact hR _ _
        refine jx_iald hx hb hK hP (5 * r0 + 4) 0 (by omega) (gX_r4 hr0) rfl (by decide) bv10 ev10 dX3_changeStock_39 ?_
        refine lv_istore (lv' := [(4, .int (J v10)), (0, .ref (ad (5 * r0))), (1, .int (J a1)), (2, .int (J a2)), (3, .int (J a3))]) hx hb dX3_changeStock_40 hl (by decide) rfl (fun ls hl => ?_)
        refine lv_aload_n hx hb dX3_changeStock_42 rfl (lv_at hl 1 rfl) ?_
        refine va_get (D := D) (ci := 3) (v := .ref (ad (5 * r0 + 4))) (C := RX3) (T := TX3) (N := 6) hx hb hts hinX3 hown hK hP (5 * r0) (wL_get (by omega) (gX_r0 hr0 _)) rfl 3 (by decide) (hts (.fieldLink RX3 29 "VisitVans$Road" "parts" "[I") (List.mem_of_getElem? (i := 1) rfl)) (fun _ h => h) rfl dX3_changeStock_43 ?_
        refine lv_iload_n hx hb dX3_changeStock_46 rfl (lv_at hl 2 rfl) ?_
        refine lv_iconst (v := J 5) hx hb dX3_changeStock_47 rfl ?_
        refine jv_imul hx hb dX3_changeStock_48 ?_
        refine lv_iload_n hx hb dX3_changeStock_49 rfl (lv_at hl 3 rfl) ?_
        refine jv_iadd hx hb dX3_changeStock_50 ?_
        refine lv_iload_n hx hb dX3_changeStock_51 rfl (lv_at hl 4 rfl) ?_
        obtain ⟨M11, qM11, hf⟩ := bnd_some hf
        obtain ⟨bM11, zM11, eM11⟩ := wr_some qM11
        have hRM11 : RR M11 := by rw [eM11]; exact RR_st hR _ _ zM11
        refine jx_iast hx hb hK hP hI hS (5 * r0 + 4) 0 (by omega) (gX_r4 hr0) rfl (by decide) bM11 zM11 dX3_changeStock_52 (fun H locs hP hS => ?_)
        rw [← eM11] at hP
        refine lv_iload hx hb dX3_changeStock_53 (lv_at hl 0 rfl) ?_
        obtain ⟨e1, e2⟩ := Prod.mk.inj (Option.some.inj hf)
        exact jend_i hx hb hr rfl hS e1 ⟨by rw [← e1]; exact rv10, by rw [← e2]; exact hRM11⟩ (oX e2 hP) dX3_changeStock_55 hlocks
      · have hf := itep hf c9
        refine lv_bipush (v := J (-2)) hx hb dX3_changeStock_27 (by decide +kernel) ?_
        obtain ⟨e1, e2⟩ := Prod.mk.inj (Option.some.inj hf)
        exact jend_i hx hb hr rfl hS e1 ⟨by rw [← e1]; exact (by decide : inR (-2)), by rw [← e2]; exact hR⟩ (oX e2 hP) dX3_changeStock_29 hlocks
    · have hf := itep hf c6
      refine lv_iconst (v := J (-1)) hx hb dX3_changeStock_15 rfl ?_
      obtain ⟨e1, e2⟩ := Prod.mk.inj (Option.some.inj hf)
      exact jend_i hx hb hr rfl hS e1 ⟨by rw [← e1]; exact (by decide : inR (-1)), by rw [← e2]; exact hR⟩ (oX e2 hP) dX3_changeStock_16 hlocks
