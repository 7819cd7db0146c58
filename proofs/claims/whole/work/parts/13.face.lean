/-! METHODS: pure functions and the walks of their bytecode, laid by program (wip/whole): X0_note X0_keep X4_changed X4_set X4_visit X4_drop X4_van X4_load X4_ofVisit X4_ofVan X4_stock X4_event X4_count X4_wanted X4_bitsOf X4_share X4_meanWay X4_would X4_withVan X4_madeAtPace X4_slowest X4_put X4_wipe X4_fault X4_carryOne X4_carryOrders X4_carryOut X0_takeBack X4_undo X4_save X4_restore -/
def fX0_note (r1 : Nat) (M : MM) : Option (MM) := gd (0 ≤ (irem ((M 67 1) + (M 67 2)) 7) ∧ (irem ((M 67 1) + (M 67 2)) 7) < 7) (bnd (fX3_copyFrom (4 + ((irem ((M 67 1) + (M 67 2)) 7)).toNat) r1 M) (fun M3 => some M3))
set_option maxHeartbeats 4000000 in
set_option maxRecDepth 100000 in
theorem kX0_note (l : Launch) (D : va_G) (ca : Nat → ClassId) (v : EV) (ad : Nat → Nat) (hI : aInj 75 ad) (M : MM) (hR : RR M) (r1 : Nat) (hr1 : r1 < 11) (M' : MM) (hf : fX0_note r1 M = some M') : CV l yX0_note wsX0_note 2 61 [.ref (ad 67), .ref (ad (5 * r1))] (PX D ca v ad M) (RR M') (OX D ca ad M') (aS 75 ad) := by
  refine Met.ofW (cc := cX0_note) (maxL := 2) (ret := none) (by decide) rfl ?_
  intro p e s m args below meth c s₁ B hml hv
  obtain ⟨rfl, hP, hK, hE⟩ := hv
  have hx := B.exec
  have hb := B.bytes
  have hr := B.returns
  have hts := atoms_spec (ws := wsX0_note) B.pre
  have hown : s.vm.findClass RX0 = some m.cls := findClass_of_methodNamed B.named
  have hlocks := B.notSynchronized
  have hS : va_S (aS 75 ad) s.heap s.heap [] := va_S.rf
  have hinX0 : ∀ w ∈ wsX00, w ∈ wsX0_note := by decide +kernel
  have hl := lv_entry ([.ref (ad 67), .ref (ad (5 * r1))]) (n := 2) (Nat.le_of_ble_eq_true rfl)
  rw [lg_entry_eq]
  generalize (lg_sl ([.ref (ad 67), .ref (ad (5 * r1))]) ++ List.replicate (2 - (lg_sl ([.ref (ad 67), .ref (ad (5 * r1))])).length) Slot.unset).toArray = ls at hl ⊢
  have hl : lv_has ls 2 [(0, .ref (ad 67)), (1, .ref (ad (5 * r1)))] := hl
  unfold fX0_note at hf
  refine lv_aload_n hx hb dX0_note_0 rfl (lv_at hl 0 rfl) ?_
  refine va_get (D := D) (ci := 0) (v := .ref (ad 68)) (C := RX0) (T := TX0) (N := 3) hx hb hts hinX0 hown hK hP 67 (wL_get (by decide) (gX_h0 _)) rfl 0 (by decide) (hts (.fieldLink RX0 13 "VisitVans$History" "states" "[LVisitVans$Road;") (List.mem_of_getElem? (i := 1) rfl)) (fun _ h => h) rfl dX0_note_1 ?_
  refine lv_aload_n hx hb dX0_note_4 rfl (lv_at hl 0 rfl) ?_
  refine va_get (D := D) (ci := 0) (v := .int (J (M 67 1))) (C := RX0) (T := TX0) (N := 3) hx hb hts hinX0 hown hK hP 67 (wL_get (by decide) (gX_h0 _)) rfl 1 (by decide) (hts (.fieldLink RX0 18 "VisitVans$History" "oldest" "I") (List.mem_of_getElem? (i := 2) rfl)) (fun _ h => h) rfl dX0_note_5 ?_
  refine lv_aload_n hx hb dX0_note_8 rfl (lv_at hl 0 rfl) ?_
  refine va_get (D := D) (ci := 0) (v := .int (J (M 67 2))) (C := RX0) (T := TX0) (N := 3) hx hb hts hinX0 hown hK hP 67 (wL_get (by decide) (gX_h0 _)) rfl 2 (by decide) (hts (.fieldLink RX0 22 "VisitVans$History" "many" "I") (List.mem_of_getElem? (i := 3) rfl)) (fun _ h => h) rfl dX0_note_9 ?_
  refine jv_iadd hx hb dX0_note_12 ?_
  refine lv_bipush (v := J 7) hx hb dX0_note_13 (by decide +kernel) ?_
  refine jv_irem hx hb dX0_note_15 (by decide) ?_
  obtain ⟨g1, hf⟩ := gd_some hf
  have hhg1 : (4 + ((irem ((M 67 1) + (M 67 2)) 7)).toNat) < 11 := by omega
  refine jx_aald hx hb hK hP 68 3 (by decide) gX_h1 rfl (by decide) (by exact g1) dX0_note_16 ?_
  refine lv_aload_n hx hb dX0_note_17 rfl (lv_at hl 1 rfl) ?_
  obtain ⟨M3, qM3, hf⟩ := bnd_some hf
  refine jc_v (va_runV (As := [.ref (ad (5 * r1))]) (rest := []) ⟨hx, hb, hml, hown, hts⟩ (kX3_copyFrom l D ca v ad hI M hR (4 + ((irem ((M 67 1) + (M 67 2)) 7)).toNat) hhg1 r1 hr1 M3 qM3) (cwV 1 hts gX0_note_X3_copyFrom rfl rfl rfl (by decide +kernel) ⟨Nat.le_of_ble_eq_true rfl, Nat.le_of_ble_eq_true rfl⟩) (pvX hK hE hP hS [.ref (ad (5 * r1))] (by omega) (gX_r0 hhg1 _) rfl) rfl rfl hl.1 rfl (lv_room (Nat.le_of_ble_eq_true rfl)) dX0_note_18 ⟨Nat.zero_le _, Nat.zero_le _⟩) hS (fun H locs t ht hφ hO hS => ?_)
  have hRM3 := hφ
  have hP : va_P D vwCl (wX ca ad M3) H := by rw [← ht]; exact hO
  have e2 := Option.some.inj hf
  exact jend_v hx hb hr hS (by rw [← e2]; exact hRM3) (oX e2 hP) dX0_note_21 hlocks
def fX0_keep (M : MM) : Option (MM) := bnd (if 6 ≤ (M 67 2) then bnd (some (stM M 67 1 (irem ((M 67 1) + 1) 7))) (fun M3 => some (M3)) else gd (inR ((M 67 2) + 1)) (bnd (some (stM M 67 2 ((M 67 2) + 1))) (fun M5 => some (M5)))) (fun M_2 => some M_2)
set_option maxHeartbeats 4000000 in
set_option maxRecDepth 100000 in
theorem kX0_keep (l : Launch) (D : va_G) (ca : Nat → ClassId) (v : EV) (ad : Nat → Nat) (hI : aInj 75 ad) (M : MM) (hR : RR M) (M' : MM) (hf : fX0_keep M = some M') : CV l yX0_keep wsX0_keep 0 0 [.ref (ad 67)] (PX D ca v ad M) (RR M') (OX D ca ad M') (aS 75 ad) := by
  refine Met.ofW (cc := cX0_keep) (maxL := 1) (ret := none) (by decide) rfl ?_
  intro p e s m args below meth c s₁ B hml hv
  obtain ⟨rfl, hP, hK, hE⟩ := hv
  have hx := B.exec
  have hb := B.bytes
  have hr := B.returns
  have hts := atoms_spec (ws := wsX0_keep) B.pre
  have hown : s.vm.findClass RX0 = some m.cls := findClass_of_methodNamed B.named
  have hlocks := B.notSynchronized
  have hS : va_S (aS 75 ad) s.heap s.heap [] := va_S.rf
  have hinX0 : ∀ w ∈ wsX00, w ∈ wsX0_keep := by decide +kernel
  have hl := lv_entry ([.ref (ad 67)]) (n := 1) (Nat.le_of_ble_eq_true rfl)
  rw [lg_entry_eq]
  generalize (lg_sl ([.ref (ad 67)]) ++ List.replicate (1 - (lg_sl ([.ref (ad 67)])).length) Slot.unset).toArray = ls at hl ⊢
  have hl : lv_has ls 1 [(0, .ref (ad 67))] := hl
  unfold fX0_keep at hf
  refine lv_aload_n hx hb dX0_keep_0 rfl (lv_at hl 0 rfl) ?_
  refine va_get (D := D) (ci := 0) (v := .int (J (M 67 2))) (C := RX0) (T := TX0) (N := 3) hx hb hts hinX0 hown hK hP 67 (wL_get (by decide) (gX_h0 _)) rfl 2 (by decide) (hts (.fieldLink RX0 22 "VisitVans$History" "many" "I") (List.mem_of_getElem? (i := 1) rfl)) (fun _ h => h) rfl dX0_keep_1 ?_
  refine lv_bipush (v := J 6) hx hb dX0_keep_4 (by decide +kernel) ?_
  obtain ⟨M_2, h2, hf⟩ := bnd_some hf
  have K2 : ∀ (H : Heap) (locs : List Loc) (ls : Array Slot), RR M_2 → va_P D vwCl (wX ca ad M_2) H → va_S (aS 75 ad) s.heap H locs → lv_has ls 1 [] → W p l e (headSpec wsX0_keep (RmC 0 0)).room s m ([.ref (ad 67)] : List Value).toArray below meth c H locs 0 0 (MQ below (va_Qv (fun (_ : Unit) => (RR M')) (fun _ => (OX D ca ad M')) (aS 75 ad)) ([.ref (ad 67)] : List Value).toArray s 0 0 (aS 75 ad)) (F0 m 35 ls []) := by
    intro H locs ls hRM_2  hP hS hl
    have e2 := Option.some.inj hf
    exact jend_v hx hb hr hS (by rw [← e2]; exact hRM_2) (oX e2 hP) dX0_keep_35 hlocks
  have hf := h2
  clear h2
  refine jv_icmp_ge (tgt := 22) hx hb dX0_keep_6 (by decide) (hR 67 2) (by decide : inR 6) (fun c1 => ?_) (fun c1 => ?_)
  · have hf := itep hf c1
    refine lv_aload_n hx hb dX0_keep_22 rfl (lv_at hl 0 rfl) ?_
    refine lv_aload_n hx hb dX0_keep_23 rfl (lv_at hl 0 rfl) ?_
    refine va_get (D := D) (ci := 0) (v := .int (J (M 67 1))) (C := RX0) (T := TX0) (N := 3) hx hb hts hinX0 hown hK hP 67 (wL_get (by decide) (gX_h0 _)) rfl 1 (by decide) (hts (.fieldLink RX0 18 "VisitVans$History" "oldest" "I") (List.mem_of_getElem? (i := 2) rfl)) (fun _ h => h) rfl dX0_keep_24 ?_
    refine lv_iconst (v := J 1) hx hb dX0_keep_27 rfl ?_
    refine jv_iadd hx hb dX0_keep_28 ?_
    refine lv_bipush (v := J 7) hx hb dX0_keep_29 (by decide +kernel) ?_
    refine jv_irem hx hb dX0_keep_31 (by decide) ?_
    obtain ⟨M3, eM3, hf⟩ := bnd_some hf
    have eM3 := Option.some.inj eM3
    have hRM3 : RR M3 := by rw [← eM3]; exact RR_st hR 67 1 (J_inR _)
    refine va_put (D := D) (ci := 0) (v := .int (J (irem ((M 67 1) + 1) 7))) (ty := .int) (C := RX0) (T := TX0) (N := 3) hx hb hts hinX0 tyX0 tyX0_ok nmX0 hown hK hP (wL_D hI M) hS 67 (wL_get (by decide) (gX_h0 _)) rfl 1 (by decide) (hts (.fieldLink RX0 18 "VisitVans$History" "oldest" "I") (List.mem_of_getElem? (i := 2) rfl)) (fun _ h => h) rfl rfl rfl rfl (Nat.le_of_ble_eq_true rfl) dX0_keep_32 (fun H locs hP hD hS => ?_)
    have hP : va_P D vwCl (wX ca ad M3) H := by rw [← eM3]; exact hPset (gX_h0_s1) stM_o hP
    cases hf
    exact K2 _ _ _ hRM3 hP hS (lv_sub hl [] rfl)
  · have hf := iten hf c1
    refine lv_aload_n hx hb dX0_keep_9 rfl (lv_at hl 0 rfl) ?_
    refine lv_dup hx hb dX0_keep_10 rfl ?_
    refine va_get (D := D) (ci := 0) (v := .int (J (M 67 2))) (C := RX0) (T := TX0) (N := 3) hx hb hts hinX0 hown hK hP 67 (wL_get (by decide) (gX_h0 _)) rfl 2 (by decide) (hts (.fieldLink RX0 22 "VisitVans$History" "many" "I") (List.mem_of_getElem? (i := 1) rfl)) (fun _ h => h) rfl dX0_keep_11 ?_
    refine lv_iconst (v := J 1) hx hb dX0_keep_14 rfl ?_
    refine jv_iadd hx hb dX0_keep_15 ?_
    obtain ⟨g4, hf⟩ := gd_some hf
    obtain ⟨M5, eM5, hf⟩ := bnd_some hf
    have eM5 := Option.some.inj eM5
    have hRM5 : RR M5 := by rw [← eM5]; exact RR_st hR 67 2 g4
    refine va_put (D := D) (ci := 0) (v := .int (J ((M 67 2) + 1))) (ty := .int) (C := RX0) (T := TX0) (N := 3) hx hb hts hinX0 tyX0 tyX0_ok nmX0 hown hK hP (wL_D hI M) hS 67 (wL_get (by decide) (gX_h0 _)) rfl 2 (by decide) (hts (.fieldLink RX0 22 "VisitVans$History" "many" "I") (List.mem_of_getElem? (i := 1) rfl)) (fun _ h => h) rfl rfl rfl rfl (Nat.le_of_ble_eq_true rfl) dX0_keep_16 (fun H locs hP hD hS => ?_)
    have hP : va_P D vwCl (wX ca ad M5) H := by rw [← eM5]; exact hPset (gX_h0_s2) stM_o hP
    refine lv_goto (tgt := 35) hx hb dX0_keep_19 (by decide) ?_
    cases hf
    exact K2 _ _ _ hRM5 hP hS (lv_sub hl [] rfl)
def fX4_changed (a1 : Int) (M : MM) : Option (Int × MM) := bnd (if a1 < 0 then some (M) else bnd (fX0_keep M) (fun M4 => bnd (fX2_make 0 0 M4) (fun M6 => some (M6)))) (fun M_2 => some (a1, M_2))
set_option maxHeartbeats 4000000 in
set_option maxRecDepth 100000 in
theorem kX4_changed (l : Launch) (D : va_G) (ca : Nat → ClassId) (v : EV) (ad : Nat → Nat) (hI : aInj 75 ad) (M : MM) (hR : RR M) (a1 : Int) (i1 : inR a1) (res : Int) (M' : MM) (hf : fX4_changed a1 M = some (res, M')) : CI l yX4_changed wsX4_changed 5 126 [.ref (ad 74), .int (J a1)] (PX D ca v ad M) res (inR res ∧ RR M') (OX D ca ad M') (aS 75 ad) := by
  refine Met.ofW (cc := cX4_changed) (maxL := 2) (ret := (some .int)) (by decide) rfl ?_
  intro p e s m args below meth c s₁ B hml hv
  obtain ⟨rfl, hP, hK, hE⟩ := hv
  have hx := B.exec
  have hb := B.bytes
  have hr := B.returns
  have hts := atoms_spec (ws := wsX4_changed) B.pre
  have hown : s.vm.findClass RX4 = some m.cls := findClass_of_methodNamed B.named
  have hlocks := B.notSynchronized
  have hS : va_S (aS 75 ad) s.heap s.heap [] := va_S.rf
  have hinX4 : ∀ w ∈ wsX40, w ∈ wsX4_changed := by decide +kernel
  have hl := lv_entry ([.ref (ad 74), .int (J a1)]) (n := 2) (Nat.le_of_ble_eq_true rfl)
  rw [lg_entry_eq]
  generalize (lg_sl ([.ref (ad 74), .int (J a1)]) ++ List.replicate (2 - (lg_sl ([.ref (ad 74), .int (J a1)])).length) Slot.unset).toArray = ls at hl ⊢
  have hl : lv_has ls 2 [(0, .ref (ad 74)), (1, .int (J a1))] := hl
  unfold fX4_changed at hf
  refine lv_iload_n hx hb dX4_changed_0 rfl (lv_at hl 1 rfl) ?_
  obtain ⟨M_2, h2, hf⟩ := bnd_some hf
  have K2 : ∀ (H : Heap) (locs : List Loc) (ls : Array Slot), RR M_2 → va_P D vwCl (wX ca ad M_2) H → va_S (aS 75 ad) s.heap H locs → lv_has ls 2 [(1, .int (J a1))] → W p l e (headSpec wsX4_changed (RmC 5 126)).room s m ([.ref (ad 74), .int (J a1)] : List Value).toArray below meth c H locs 0 0 (MQ below (va_Qi (fun x (_ : Unit) => x = J res ∧ (inR res ∧ RR M')) (fun _ => (OX D ca ad M')) (aS 75 ad)) ([.ref (ad 74), .int (J a1)] : List Value).toArray s 0 0 (aS 75 ad)) (F0 m 22 ls []) := by
    intro H locs ls hRM_2  hP hS hl
    refine lv_iload_n hx hb dX4_changed_22 rfl (lv_at hl 0 rfl) ?_
    obtain ⟨e1, e2⟩ := Prod.mk.inj (Option.some.inj hf)
    exact jend_i hx hb hr rfl hS e1 ⟨by rw [← e1]; exact i1, by rw [← e2]; exact hRM_2⟩ (oX e2 hP) dX4_changed_23 hlocks
  have hf := h2
  clear h2
  refine jv_if_lt (tgt := 22) hx hb dX4_changed_1 (by decide) i1 (fun c1 => ?_) (fun c1 => ?_)
  · have hf := itep hf c1
    cases hf
    exact K2 _ _ _ hR hP hS (lv_sub hl [1] rfl)
  · have hf := iten hf c1
    refine lv_aload_n hx hb dX4_changed_4 rfl (lv_at hl 0 rfl) ?_
    refine va_get (D := D) (ci := 4) (v := .ref (ad 67)) (C := RX4) (T := TX4) (N := 8) hx hb hts hinX4 hown hK hP 74 (wL_get (by decide) (gX_x0 _)) rfl 4 (by decide) (hts (.fieldLink RX4 32 "VisitVans" "history" "LVisitVans$History;") (List.mem_of_getElem? (i := 1) rfl)) (fun _ h => h) rfl dX4_changed_5 ?_
    obtain ⟨M4, qM4, hf⟩ := bnd_some hf
    refine jc_v (va_runV (As := []) (rest := []) ⟨hx, hb, hml, hown, hts⟩ (kX0_keep l D ca v ad hI M hR M4 qM4) (cwV 0 hts gX4_changed_X0_keep rfl rfl rfl (by decide +kernel) ⟨Nat.le_of_ble_eq_true rfl, Nat.le_of_ble_eq_true rfl⟩) (pvX hK hE hP hS [] (by decide) (gX_h0 _) rfl) rfl rfl hl.1 rfl (lv_room (Nat.le_of_ble_eq_true rfl)) dX4_changed_8 ⟨Nat.zero_le _, Nat.zero_le _⟩) hS (fun H locs t ht hφ hO hS => ?_)
    have hRM4 := hφ
    have hP : va_P D vwCl (wX ca ad M4) H := by rw [← ht]; exact hO
    refine lv_aload_n hx hb dX4_changed_11 rfl (lv_at hl 0 rfl) ?_
    refine va_get (D := D) (ci := 4) (v := .ref (ad (55 + 6 * 0))) (C := RX4) (T := TX4) (N := 8) hx hb hts hinX4 hown hK hP 74 (wL_get (by decide) (gX_x0 _)) rfl 1 (by decide) (hts (.fieldLink RX4 19 "VisitVans" "plan" "LVisitVans$Plan;") (List.mem_of_getElem? (i := 2) rfl)) (fun _ h => h) rfl dX4_changed_12 ?_
    refine lv_aload_n hx hb dX4_changed_15 rfl (lv_at hl 0 rfl) ?_
    refine va_get (D := D) (ci := 4) (v := .ref (ad (5 * 0))) (C := RX4) (T := TX4) (N := 8) hx hb hts hinX4 hown hK hP 74 (wL_get (by decide) (gX_x0 _)) rfl 0 (by decide) (hts (.fieldLink RX4 12 "VisitVans" "road" "LVisitVans$Road;") (List.mem_of_getElem? (i := 3) rfl)) (fun _ h => h) rfl dX4_changed_16 ?_
    obtain ⟨M6, qM6, hf⟩ := bnd_some hf
    refine jc_v (va_runV (As := [.ref (ad (5 * 0))]) (rest := []) ⟨hx, hb, hml, hown, hts⟩ (kX2_make l D ca v ad hI M4 hRM4 0 (by decide : 0 < 2) 0 (by decide : 0 < 11) M6 qM6) (cwV 1 hts gX4_changed_X2_make rfl rfl rfl (by decide +kernel) ⟨Nat.le_of_ble_eq_true rfl, Nat.le_of_ble_eq_true rfl⟩) (pvX hK hE hP hS [.ref (ad (5 * 0))] (by omega) (gX_p0 (by decide : 0 < 2) _) rfl) rfl rfl hl.1 rfl (lv_room (Nat.le_of_ble_eq_true rfl)) dX4_changed_19 ⟨Nat.zero_le _, Nat.zero_le _⟩) hS (fun H locs t ht hφ hO hS => ?_)
    have hRM6 := hφ
    have hP : va_P D vwCl (wX ca ad M6) H := by rw [← ht]; exact hO
    cases hf
    exact K2 _ _ _ hRM6 hP hS (lv_sub hl [1] rfl)
def fX4_set (a1 : Int) (a2 : Int) (M : MM) : Option (Int × MM) := bnd (fX0_note 0 M) (fun M2 => bnd2 (fX3_changeSetting 0 a1 a2 M2) (fun v3 M4 => bnd2 (fX4_changed v3 M4) (fun v5 M6 => some (v5, M6))))
set_option maxHeartbeats 4000000 in
set_option maxRecDepth 100000 in
theorem kX4_set (l : Launch) (D : va_G) (ca : Nat → ClassId) (v : EV) (ad : Nat → Nat) (hI : aInj 75 ad) (M : MM) (hR : RR M) (a1 : Int) (a2 : Int) (i1 : inR a1) (i2 : inR a2) (res : Int) (M' : MM) (hf : fX4_set a1 a2 M = some (res, M')) : CI l yX4_set wsX4_set 6 147 [.ref (ad 74), .int (J a1), .int (J a2)] (PX D ca v ad M) res (inR res ∧ RR M') (OX D ca ad M') (aS 75 ad) := by
  refine Met.ofW (cc := cX4_set) (maxL := 3) (ret := (some .int)) (by decide) rfl ?_
  intro p e s m args below meth c s₁ B hml hv
  obtain ⟨rfl, hP, hK, hE⟩ := hv
  have hx := B.exec
  have hb := B.bytes
  have hr := B.returns
  have hts := atoms_spec (ws := wsX4_set) B.pre
  have hown : s.vm.findClass RX4 = some m.cls := findClass_of_methodNamed B.named
  have hlocks := B.notSynchronized
  have hS : va_S (aS 75 ad) s.heap s.heap [] := va_S.rf
  have hinX4 : ∀ w ∈ wsX40, w ∈ wsX4_set := by decide +kernel
  have hl := lv_entry ([.ref (ad 74), .int (J a1), .int (J a2)]) (n := 3) (Nat.le_of_ble_eq_true rfl)
  rw [lg_entry_eq]
  generalize (lg_sl ([.ref (ad 74), .int (J a1), .int (J a2)]) ++ List.replicate (3 - (lg_sl ([.ref (ad 74), .int (J a1), .int (J a2)])).length) Slot.unset).toArray = ls at hl ⊢
  have hl : lv_has ls 3 [(0, .ref (ad 74)), (1, .int (J a1)), (2, .int (J a2))] := hl
  unfold fX4_set at hf
  refine lv_aload_n hx hb dX4_set_0 rfl (lv_at hl 0 rfl) ?_
  refine va_get (D := D) (ci := 4) (v := .ref (ad 67)) (C := RX4) (T := TX4) (N := 8) hx hb hts hinX4 hown hK hP 74 (wL_get (by decide) (gX_x0 _)) rfl 4 (by decide) (hts (.fieldLink RX4 32 "VisitVans" "history" "LVisitVans$History;") (List.mem_of_getElem? (i := 1) rfl)) (fun _ h => h) rfl dX4_set_1 ?_
  refine lv_aload_n hx hb dX4_set_4 rfl (lv_at hl 0 rfl) ?_
  refine va_get (D := D) (ci := 4) (v := .ref (ad (5 * 0))) (C := RX4) (T := TX4) (N := 8) hx hb hts hinX4 hown hK hP 74 (wL_get (by decide) (gX_x0 _)) rfl 0 (by decide) (hts (.fieldLink RX4 12 "VisitVans" "road" "LVisitVans$Road;") (List.mem_of_getElem? (i := 2) rfl)) (fun _ h => h) rfl dX4_set_5 ?_
  obtain ⟨M2, qM2, hf⟩ := bnd_some hf
  refine jc_v (va_runV (As := [.ref (ad (5 * 0))]) (rest := []) ⟨hx, hb, hml, hown, hts⟩ (kX0_note l D ca v ad hI M hR 0 (by decide : 0 < 11) M2 qM2) (cwV 1 hts gX4_set_X0_note rfl rfl rfl (by decide +kernel) ⟨Nat.le_of_ble_eq_true rfl, Nat.le_of_ble_eq_true rfl⟩) (pvX hK hE hP hS [.ref (ad (5 * 0))] (by decide) (gX_h0 _) rfl) rfl rfl hl.1 rfl (lv_room (Nat.le_of_ble_eq_true rfl)) dX4_set_8 ⟨Nat.zero_le _, Nat.zero_le _⟩) hS (fun H locs t ht hφ hO hS => ?_)
  have hRM2 := hφ
  have hP : va_P D vwCl (wX ca ad M2) H := by rw [← ht]; exact hO
  refine lv_aload_n hx hb dX4_set_11 rfl (lv_at hl 0 rfl) ?_
  refine lv_aload_n hx hb dX4_set_12 rfl (lv_at hl 0 rfl) ?_
  refine va_get (D := D) (ci := 4) (v := .ref (ad (5 * 0))) (C := RX4) (T := TX4) (N := 8) hx hb hts hinX4 hown hK hP 74 (wL_get (by decide) (gX_x0 _)) rfl 0 (by decide) (hts (.fieldLink RX4 12 "VisitVans" "road" "LVisitVans$Road;") (List.mem_of_getElem? (i := 2) rfl)) (fun _ h => h) rfl dX4_set_13 ?_
  refine lv_iload_n hx hb dX4_set_16 rfl (lv_at hl 1 rfl) ?_
  refine lv_iload_n hx hb dX4_set_17 rfl (lv_at hl 2 rfl) ?_
  obtain ⟨v3, M4, qv3, hf⟩ := bnd2_some hf
  refine jc_i (va_runV (As := [.int (J a1), .int (J a2)]) (rest := [.ref (ad 74)]) ⟨hx, hb, hml, hown, hts⟩ (kX3_changeSetting l D ca v ad hI M2 hRM2 0 (by decide : 0 < 11) a1 a2 i1 i2 v3 M4 qv3) (cwV 2 hts gX4_set_X3_changeSetting rfl rfl rfl (by decide +kernel) ⟨Nat.le_of_ble_eq_true rfl, Nat.le_of_ble_eq_true rfl⟩) (pvX hK hE hP hS [.int (J a1), .int (J a2)] (by omega) (gX_r0 (by decide : 0 < 11) _) rfl) rfl rfl hl.1 rfl (lv_room (Nat.le_of_ble_eq_true rfl)) dX4_set_18 ⟨Nat.zero_le _, Nat.zero_le _⟩) hS (fun H locs t ht hφ hO hS => ?_)
  obtain ⟨rv3, hRM4⟩ := hφ
  have hP : va_P D vwCl (wX ca ad M4) H := by rw [← ht]; exact hO
  obtain ⟨v5, M6, qv5, hf⟩ := bnd2_some hf
  refine jc_i (va_runV (As := [.int (J v3)]) (rest := []) ⟨hx, hb, hml, hown, hts⟩ (kX4_changed l D ca v ad hI M4 hRM4 v3 rv3 v5 M6 qv5) (cwV 1 hts gX4_set_X4_changed rfl rfl rfl (by decide +kernel) ⟨Nat.le_of_ble_eq_true rfl, Nat.le_of_ble_eq_true rfl⟩) (pvX hK hE hP hS [.int (J v3)] (by decide) (gX_x0 _) rfl) rfl rfl hl.1 rfl (lv_room (Nat.le_of_ble_eq_true rfl)) dX4_set_21 ⟨Nat.zero_le _, Nat.zero_le _⟩) hS (fun H locs t ht hφ hO hS => ?_)
  obtain ⟨rv5, hRM6⟩ := hφ
  have hP : va_P D vwCl (wX ca ad M6) H := by rw [← ht]; exact hO
  obtain ⟨e1, e2⟩ := Prod.mk.inj (Option.some.inj hf)
  exact jend_i hx hb hr rfl hS e1 ⟨by rw [← e1]; exact rv5, by rw [← e2]; exact hRM6⟩ (oX e2 hP) dX4_set_24 hlocks
def fX4_visit (a1 : Int) (a2 : Int) (a3 : Int) (a4 : Int) (a5 : Int) (a6 : Int) (M : MM) : Option (Int × MM) := bnd (fX0_note 0 M) (fun M2 => bnd2 (fX3_addVisit 0 a1 a2 a3 a4 a5 a6 M2) (fun v3 M4 => bnd2 (fX4_changed v3 M4) (fun v5 M6 => some (v5, M6))))
set_option maxHeartbeats 4000000 in
set_option maxRecDepth 100000 in
theorem kX4_visit (l : Launch) (D : va_G) (ca : Nat → ClassId) (v : EV) (ad : Nat → Nat) (hI : aInj 75 ad) (M : MM) (hR : RR M) (a1 : Int) (a2 : Int) (a3 : Int) (a4 : Int) (a5 : Int) (a6 : Int) (i1 : inR a1) (i2 : inR a2) (i3 : inR a3) (i4 : inR a4) (i5 : inR a5) (i6 : inR a6) (res : Int) (M' : MM) (hf : fX4_visit a1 a2 a3 a4 a5 a6 M = some (res, M')) : CI l yX4_visit wsX4_visit 6 147 [.ref (ad 74), .int (J a1), .int (J a2), .int (J a3), .int (J a4), .int (J a5), .int (J a6)] (PX D ca v ad M) res (inR res ∧ RR M') (OX D ca ad M') (aS 75 ad) := by
  refine Met.ofW (cc := cX4_visit) (maxL := 7) (ret := (some .int)) (by decide) rfl ?_
  intro p e s m args below meth c s₁ B hml hv
  obtain ⟨rfl, hP, hK, hE⟩ := hv
  have hx := B.exec
  have hb := B.bytes
  have hr := B.returns
  have hts := atoms_spec (ws := wsX4_visit) B.pre
  have hown : s.vm.findClass RX4 = some m.cls := findClass_of_methodNamed B.named
  have hlocks := B.notSynchronized
  have hS : va_S (aS 75 ad) s.heap s.heap [] := va_S.rf
  have hinX4 : ∀ w ∈ wsX40, w ∈ wsX4_visit := by decide +kernel
  have hl := lv_entry ([.ref (ad 74), .int (J a1), .int (J a2), .int (J a3), .int (J a4), .int (J a5), .int (J a6)]) (n := 7) (Nat.le_of_ble_eq_true rfl)
  rw [lg_entry_eq]
  generalize (lg_sl ([.ref (ad 74), .int (J a1), .int (J a2), .int (J a3), .int (J a4), .int (J a5), .int (J a6)]) ++ List.replicate (7 - (lg_sl ([.ref (ad 74), .int (J a1), .int (J a2), .int (J a3), .int (J a4), .int (J a5), .int (J a6)])).length) Slot.unset).toArray = ls at hl ⊢
  have hl : lv_has ls 7 [(0, .ref (ad 74)), (1, .int (J a1)), (2, .int (J a2)), (3, .int (J a3)), (4, .int (J a4)), (5, .int (J a5)), (6, .int (J a6))] := hl
  unfold fX4_visit at hf
  refine lv_aload_n hx hb dX4_visit_0 rfl (lv_at hl 0 rfl) ?_
  refine va_get (D := D) (ci := 4) (v := .ref (ad 67)) (C := RX4) (T := TX4) (N := 8) hx hb hts hinX4 hown hK hP 74 (wL_get (by decide) (gX_x0 _)) rfl 4 (by decide) (hts (.fieldLink RX4 32 "VisitVans" "history" "LVisitVans$History;") (List.mem_of_getElem? (i := 1) rfl)) (fun _ h => h) rfl dX4_visit_1 ?_
  refine lv_aload_n hx hb dX4_visit_4 rfl (lv_at hl 0 rfl) ?_
  refine va_get (D := D) (ci := 4) (v := .ref (ad (5 * 0))) (C := RX4) (T := TX4) (N := 8) hx hb hts hinX4 hown hK hP 74 (wL_get (by decide) (gX_x0 _)) rfl 0 (by decide) (hts (.fieldLink RX4 12 "VisitVans" "road" "LVisitVans$Road;") (List.mem_of_getElem? (i := 2) rfl)) (fun _ h => h) rfl dX4_visit_5 ?_
  obtain ⟨M2, qM2, hf⟩ := bnd_some hf
  refine jc_v (va_runV (As := [.ref (ad (5 * 0))]) (rest := []) ⟨hx, hb, hml, hown, hts⟩ (kX0_note l D ca v ad hI M hR 0 (by decide : 0 < 11) M2 qM2) (cwV 1 hts gX4_visit_X0_note rfl rfl rfl (by decide +kernel) ⟨Nat.le_of_ble_eq_true rfl, Nat.le_of_ble_eq_true rfl⟩) (pvX hK hE hP hS [.ref (ad (5 * 0))] (by decide) (gX_h0 _) rfl) rfl rfl hl.1 rfl (lv_room (Nat.le_of_ble_eq_true rfl)) dX4_visit_8 ⟨Nat.zero_le _, Nat.zero_le _⟩) hS (fun H locs t ht hφ hO hS => ?_)
  have hRM2 := hφ
  have hP : va_P D vwCl (wX ca ad M2) H := by rw [← ht]; exact hO
  refine lv_aload_n hx hb dX4_visit_11 rfl (lv_at hl 0 rfl) ?_
  refine lv_aload_n hx hb dX4_visit_12 rfl (lv_at hl 0 rfl) ?_
  refine va_get (D := D) (ci := 4) (v := .ref (ad (5 * 0))) (C := RX4) (T := TX4) (N := 8) hx hb hts hinX4 hown hK hP 74 (wL_get (by decide) (gX_x0 _)) rfl 0 (by decide) (hts (.fieldLink RX4 12 "VisitVans" "road" "LVisitVans$Road;") (List.mem_of_getElem? (i := 2) rfl)) (fun _ h => h) rfl dX4_visit_13 ?_
  refine lv_iload_n hx hb dX4_visit_16 rfl (lv_at hl 1 rfl) ?_
  refine lv_iload_n hx hb dX4_visit_17 rfl (lv_at hl 2 rfl) ?_
  refine lv_iload_n hx hb dX4_visit_18 rfl (lv_at hl 3 rfl) ?_
  refine lv_iload hx hb dX4_visit_19 (lv_at hl 4 rfl) ?_
  refine lv_iload hx hb dX4_visit_21 (lv_at hl 5 rfl) ?_
  refine lv_iload hx hb dX4_visit_23 (lv_at hl 6 rfl) ?_
  obtain ⟨v3, M4, qv3, hf⟩ := bnd2_some hf
  refine jc_i (va_runV (As := [.int (J a1), .int (J a2), .int (J a3), .int (J a4), .int (J a5), .int (J a6)]) (rest := [.ref (ad 74)]) ⟨hx, hb, hml, hown, hts⟩ (kX3_addVisit l D ca v ad hI M2 hRM2 0 (by decide : 0 < 11) a1 a2 a3 a4 a5 a6 i1 i2 i3 i4 i5 i6 v3 M4 qv3) (cwV 6 hts gX4_visit_X3_addVisit rfl rfl rfl (by decide +kernel) ⟨Nat.le_of_ble_eq_true rfl, Nat.le_of_ble_eq_true rfl⟩) (pvX hK hE hP hS [.int (J a1), .int (J a2), .int (J a3), .int (J a4), .int (J a5), .int (J a6)] (by omega) (gX_r0 (by decide : 0 < 11) _) rfl) rfl rfl hl.1 rfl (lv_room (Nat.le_of_ble_eq_true rfl)) dX4_visit_25 ⟨Nat.zero_le _, Nat.zero_le _⟩) hS (fun H locs t ht hφ hO hS => ?_)
  obtain ⟨rv3, hRM4⟩ := hφ
  have hP : va_P D vwCl (wX ca ad M4) H := by rw [← ht]; exact hO
  obtain ⟨v5, M6, qv5, hf⟩ := bnd2_some hf
  refine jc_i (va_runV (As := [.int (J v3)]) (rest := []) ⟨hx, hb, hml, hown, hts⟩ (kX4_changed l D ca v ad hI M4 hRM4 v3 rv3 v5 M6 qv5) (cwV 1 hts gX4_visit_X4_changed rfl rfl rfl (by decide +kernel) ⟨Nat.le_of_ble_eq_true rfl, Nat.le_of_ble_eq_true rfl⟩) (pvX hK hE hP hS [.int (J v3)] (by decide) (gX_x0 _) rfl) rfl rfl hl.1 rfl (lv_room (Nat.le_of_ble_eq_true rfl)) dX4_visit_28 ⟨Nat.zero_le _, Nat.zero_le _⟩) hS (fun H locs t ht hφ hO hS => ?_)
  obtain ⟨rv5, hRM6⟩ := hφ
  have hP : va_P D vwCl (wX ca ad M6) H := by rw [← ht]; exact hO
  obtain ⟨e1, e2⟩ := Prod.mk.inj (Option.some.inj hf)
  exact jend_i hx hb hr rfl hS e1 ⟨by rw [← e1]; exact rv5, by rw [← e2]; exact hRM6⟩ (oX e2 hP) dX4_visit_31 hlocks
def fX4_drop (a1 : Int) (M : MM) : Option (Int × MM) := bnd (fX0_note 0 M) (fun M2 => bnd2 (fX3_removeVisit 0 a1 M2) (fun v3 M4 => bnd2 (fX4_changed v3 M4) (fun v5 M6 => some (v5, M6))))
set_option maxHeartbeats 4000000 in
set_option maxRecDepth 100000 in
theorem kX4_drop (l : Launch) (D : va_G) (ca : Nat → ClassId) (v : EV) (ad : Nat → Nat) (hI : aInj 75 ad) (M : MM) (hR : RR M) (a1 : Int) (i1 : inR a1) (res : Int) (M' : MM) (hf : fX4_drop a1 M = some (res, M')) : CI l yX4_drop wsX4_drop 6 147 [.ref (ad 74), .int (J a1)] (PX D ca v ad M) res (inR res ∧ RR M') (OX D ca ad M') (aS 75 ad) := by
  refine Met.ofW (cc := cX4_drop) (maxL := 2) (ret := (some .int)) (by decide) rfl ?_
  intro p e s m args below meth c s₁ B hml hv
  obtain ⟨rfl, hP, hK, hE⟩ := hv
  have hx := B.exec
  have hb := B.bytes
  have hr := B.returns
  have hts := atoms_spec (ws := wsX4_drop) B.pre
  have hown : s.vm.findClass RX4 = some m.cls := findClass_of_methodNamed B.named
  have hlocks := B.notSynchronized
  have hS : va_S (aS 75 ad) s.heap s.heap [] := va_S.rf
  have hinX4 : ∀ w ∈ wsX40, w ∈ wsX4_drop := by decide +kernel
  have hl := lv_entry ([.ref (ad 74), .int (J a1)]) (n := 2) (Nat.le_of_ble_eq_true rfl)
  rw [lg_entry_eq]
  generalize (lg_sl ([.ref (ad 74), .int (J a1)]) ++ List.replicate (2 - (lg_sl ([.ref (ad 74), .int (J a1)])).length) Slot.unset).toArray = ls at hl ⊢
  have hl : lv_has ls 2 [(0, .ref (ad 74)), (1, .int (J a1))] := hl
  unfold fX4_drop at hf
  refine lv_aload_n hx hb dX4_drop_0 rfl (lv_at hl 0 rfl) ?_
  refine va_get (D := D) (ci := 4) (v := .ref (ad 67)) (C := RX4) (T := TX4) (N := 8) hx hb hts hinX4 hown hK hP 74 (wL_get (by decide) (gX_x0 _)) rfl 4 (by decide) (hts (.fieldLink RX4 32 "VisitVans" "history" "LVisitVans$History;") (List.mem_of_getElem? (i := 1) rfl)) (fun _ h => h) rfl dX4_drop_1 ?_
  refine lv_aload_n hx hb dX4_drop_4 rfl (lv_at hl 0 rfl) ?_
  refine va_get (D := D) (ci := 4) (v := .ref (ad (5 * 0))) (C := RX4) (T := TX4) (N := 8) hx hb hts hinX4 hown hK hP 74 (wL_get (by decide) (gX_x0 _)) rfl 0 (by decide) (hts (.fieldLink RX4 12 "VisitVans" "road" "LVisitVans$Road;") (List.mem_of_getElem? (i := 2) rfl)) (fun _ h => h) rfl dX4_drop_5 ?_
  obtain ⟨M2, qM2, hf⟩ := bnd_some hf
  refine jc_v (va_runV (As := [.ref (ad (5 * 0))]) (rest := []) ⟨hx, hb, hml, hown, hts⟩ (kX0_note l D ca v ad hI M hR 0 (by decide : 0 < 11) M2 qM2) (cwV 1 hts gX4_drop_X0_note rfl rfl rfl (by decide +kernel) ⟨Nat.le_of_ble_eq_true rfl, Nat.le_of_ble_eq_true rfl⟩) (pvX hK hE hP hS [.ref (ad (5 * 0))] (by decide) (gX_h0 _) rfl) rfl rfl hl.1 rfl (lv_room (Nat.le_of_ble_eq_true rfl)) dX4_drop_8 ⟨Nat.zero_le _, Nat.zero_le _⟩) hS (fun H locs t ht hφ hO hS => ?_)
  have hRM2 := hφ
  have hP : va_P D vwCl (wX ca ad M2) H := by rw [← ht]; exact hO
  refine lv_aload_n hx hb dX4_drop_11 rfl (lv_at hl 0 rfl) ?_
  refine lv_aload_n hx hb dX4_drop_12 rfl (lv_at hl 0 rfl) ?_
  refine va_get (D := D) (ci := 4) (v := .ref (ad (5 * 0))) (C := RX4) (T := TX4) (N := 8) hx hb hts hinX4 hown hK hP 74 (wL_get (by decide) (gX_x0 _)) rfl 0 (by decide) (hts (.fieldLink RX4 12 "VisitVans" "road" "LVisitVans$Road;") (List.mem_of_getElem? (i := 2) rfl)) (fun _ h => h) rfl dX4_drop_13 ?_
  refine lv_iload_n hx hb dX4_drop_16 rfl (lv_at hl 1 rfl) ?_
  obtain ⟨v3, M4, qv3, hf⟩ := bnd2_some hf
  refine jc_i (va_runV (As := [.int (J a1)]) (rest := [.ref (ad 74)]) ⟨hx, hb, hml, hown, hts⟩ (kX3_removeVisit l D ca v ad hI M2 hRM2 0 (by decide : 0 < 11) a1 i1 v3 M4 qv3) (cwV 1 hts gX4_drop_X3_removeVisit rfl rfl rfl (by decide +kernel) ⟨Nat.le_of_ble_eq_true rfl, Nat.le_of_ble_eq_true rfl⟩) (pvX hK hE hP hS [.int (J a1)] (by omega) (gX_r0 (by decide : 0 < 11) _) rfl) rfl rfl hl.1 rfl (lv_room (Nat.le_of_ble_eq_true rfl)) dX4_drop_17 ⟨Nat.zero_le _, Nat.zero_le _⟩) hS (fun H locs t ht hφ hO hS => ?_)
  obtain ⟨rv3, hRM4⟩ := hφ
  have hP : va_P D vwCl (wX ca ad M4) H := by rw [← ht]; exact hO
  obtain ⟨v5, M6, qv5, hf⟩ := bnd2_some hf
  refine jc_i (va_runV (As := [.int (J v3)]) (rest := []) ⟨hx, hb, hml, hown, hts⟩ (kX4_changed l D ca v ad hI M4 hRM4 v3 rv3 v5 M6 qv5) (cwV 1 hts gX4_drop_X4_changed rfl rfl rfl (by decide +kernel) ⟨Nat.le_of_ble_eq_true rfl, Nat.le_of_ble_eq_true rfl⟩) (pvX hK hE hP hS [.int (J v3)] (by decide) (gX_x0 _) rfl) rfl rfl hl.1 rfl (lv_room (Nat.le_of_ble_eq_true rfl)) dX4_drop_20 ⟨Nat.zero_le _, Nat.zero_le _⟩) hS (fun H locs t ht hφ hO hS => ?_)
  obtain ⟨rv5, hRM6⟩ := hφ
  have hP : va_P D vwCl (wX ca ad M6) H := by rw [← ht]; exact hO
  obtain ⟨e1, e2⟩ := Prod.mk.inj (Option.some.inj hf)
  exact jend_i hx hb hr rfl hS e1 ⟨by rw [← e1]; exact rv5, by rw [← e2]; exact hRM6⟩ (oX e2 hP) dX4_drop_23 hlocks
def fX4_van (a1 : Int) (a2 : Int) (M : MM) : Option (Int × MM) := bnd (fX0_note 0 M) (fun M2 => bnd2 (fX3_addVan 0 a1 a2 M2) (fun v3 M4 => bnd2 (fX4_changed v3 M4) (fun v5 M6 => some (v5, M6))))
set_option maxHeartbeats 4000000 in
set_option maxRecDepth 100000 in
theorem kX4_van (l : Launch) (D : va_G) (ca : Nat → ClassId) (v : EV) (ad : Nat → Nat) (hI : aInj 75 ad) (M : MM) (hR : RR M) (a1 : Int) (a2 : Int) (i1 : inR a1) (i2 : inR a2) (res : Int) (M' : MM) (hf : fX4_van a1 a2 M = some (res, M')) : CI l yX4_van wsX4_van 6 147 [.ref (ad 74), .int (J a1), .int (J a2)] (PX D ca v ad M) res (inR res ∧ RR M') (OX D ca ad M') (aS 75 ad) := by
  refine Met.ofW (cc := cX4_van) (maxL := 3) (ret := (some .int)) (by decide) rfl ?_
  intro p e s m args below meth c s₁ B hml hv
  obtain ⟨rfl, hP, hK, hE⟩ := hv
  have hx := B.exec
  have hb := B.bytes
  have hr := B.returns
  have hts := atoms_spec (ws := wsX4_van) B.pre
  have hown : s.vm.findClass RX4 = some m.cls := findClass_of_methodNamed B.named
  have hlocks := B.notSynchronized
  have hS : va_S (aS 75 ad) s.heap s.heap [] := va_S.rf
  have hinX4 : ∀ w ∈ wsX40, w ∈ wsX4_van := by decide +kernel
  have hl := lv_entry ([.ref (ad 74), .int (J a1), .int (J a2)]) (n := 3) (Nat.le_of_ble_eq_true rfl)
  rw [lg_entry_eq]
  generalize (lg_sl ([.ref (ad 74), .int (J a1), .int (J a2)]) ++ List.replicate (3 - (lg_sl ([.ref (ad 74), .int (J a1), .int (J a2)])).length) Slot.unset).toArray = ls at hl ⊢
  have hl : lv_has ls 3 [(0, .ref (ad 74)), (1, .int (J a1)), (2, .int (J a2))] := hl
  unfold fX4_van at hf
  refine lv_aload_n hx hb dX4_van_0 rfl (lv_at hl 0 rfl) ?_
  refine va_get (D := D) (ci := 4) (v := .ref (ad 67)) (C := RX4) (T := TX4) (N := 8) hx hb hts hinX4 hown hK hP 74 (wL_get (by decide) (gX_x0 _)) rfl 4 (by decide) (hts (.fieldLink RX4 32 "VisitVans" "history" "LVisitVans$History;") (List.mem_of_getElem? (i := 1) rfl)) (fun _ h => h) rfl dX4_van_1 ?_
  refine lv_aload_n hx hb dX4_van_4 rfl (lv_at hl 0 rfl) ?_
  refine va_get (D := D) (ci := 4) (v := .ref (ad (5 * 0))) (C := RX4) (T := TX4) (N := 8) hx hb hts hinX4 hown hK hP 74 (wL_get (by decide) (gX_x0 _)) rfl 0 (by decide) (hts (.fieldLink RX4 12 "VisitVans" "road" "LVisitVans$Road;") (List.mem_of_getElem? (i := 2) rfl)) (fun _ h => h) rfl dX4_van_5 ?_
  obtain ⟨M2, qM2, hf⟩ := bnd_some hf
  refine jc_v (va_runV (As := [.ref (ad (5 * 0))]) (rest := []) ⟨hx, hb, hml, hown, hts⟩ (kX0_note l D ca v ad hI M hR 0 (by decide : 0 < 11) M2 qM2) (cwV 1 hts gX4_van_X0_note rfl rfl rfl (by decide +kernel) ⟨Nat.le_of_ble_eq_true rfl, Nat.le_of_ble_eq_true rfl⟩) (pvX hK hE hP hS [.ref (ad (5 * 0))] (by decide) (gX_h0 _) rfl) rfl rfl hl.1 rfl (lv_room (Nat.le_of_ble_eq_true rfl)) dX4_van_8 ⟨Nat.zero_le _, Nat.zero_le _⟩) hS (fun H locs t ht hφ hO hS => ?_)
  have hRM2 := hφ
  have hP : va_P D vwCl (wX ca ad M2) H := by rw [← ht]; exact hO
  refine lv_aload_n hx hb dX4_van_11 rfl (lv_at hl 0 rfl) ?_
  refine lv_aload_n hx hb dX4_van_12 rfl (lv_at hl 0 rfl) ?_
  refine va_get (D := D) (ci := 4) (v := .ref (ad (5 * 0))) (C := RX4) (T := TX4) (N := 8) hx hb hts hinX4 hown hK hP 74 (wL_get (by decide) (gX_x0 _)) rfl 0 (by decide) (hts (.fieldLink RX4 12 "VisitVans" "road" "LVisitVans$Road;") (List.mem_of_getElem? (i := 2) rfl)) (fun _ h => h) rfl dX4_van_13 ?_
  refine lv_iload_n hx hb dX4_van_16 rfl (lv_at hl 1 rfl) ?_
  refine lv_iload_n hx hb dX4_van_17 rfl (lv_at hl 2 rfl) ?_
  obtain ⟨v3, M4, qv3, hf⟩ := bnd2_some hf
  refine jc_i (va_runV (As := [.int (J a1), .int (J a2)]) (rest := [.ref (ad 74)]) ⟨hx, hb, hml, hown, hts⟩ (kX3_addVan l D ca v ad hI M2 hRM2 0 (by decide : 0 < 11) a1 a2 i1 i2 v3 M4 qv3) (cwV 2 hts gX4_van_X3_addVan rfl rfl rfl (by decide +kernel) ⟨Nat.le_of_ble_eq_true rfl, Nat.le_of_ble_eq_true rfl⟩) (pvX hK hE hP hS [.int (J a1), .int (J a2)] (by omega) (gX_r0 (by decide : 0 < 11) _) rfl) rfl rfl hl.1 rfl (lv_room (Nat.le_of_ble_eq_true rfl)) dX4_van_18 ⟨Nat.zero_le _, Nat.zero_le _⟩) hS (fun H locs t ht hφ hO hS => ?_)
  obtain ⟨rv3, hRM4⟩ := hφ
  have hP : va_P D vwCl (wX ca ad M4) H := by rw [← ht]; exact hO
  obtain ⟨v5, M6, qv5, hf⟩ := bnd2_some hf
  refine jc_i (va_runV (As := [.int (J v3)]) (rest := []) ⟨hx, hb, hml, hown, hts⟩ (kX4_changed l D ca v ad hI M4 hRM4 v3 rv3 v5 M6 qv5) (cwV 1 hts gX4_van_X4_changed rfl rfl rfl (by decide +kernel) ⟨Nat.le_of_ble_eq_true rfl, Nat.le_of_ble_eq_true rfl⟩) (pvX hK hE hP hS [.int (J v3)] (by decide) (gX_x0 _) rfl) rfl rfl hl.1 rfl (lv_room (Nat.le_of_ble_eq_true rfl)) dX4_van_21 ⟨Nat.zero_le _, Nat.zero_le _⟩) hS (fun H locs t ht hφ hO hS => ?_)
  obtain ⟨rv5, hRM6⟩ := hφ
  have hP : va_P D vwCl (wX ca ad M6) H := by rw [← ht]; exact hO
  obtain ⟨e1, e2⟩ := Prod.mk.inj (Option.some.inj hf)
  exact jend_i hx hb hr rfl hS e1 ⟨by rw [← e1]; exact rv5, by rw [← e2]; exact hRM6⟩ (oX e2 hP) dX4_van_24 hlocks
def fX4_load (a1 : Int) (a2 : Int) (a3 : Int) (M : MM) : Option (Int × MM) := bnd (fX0_note 0 M) (fun M2 => bnd2 (fX3_changeStock 0 a1 a2 a3 M2) (fun v3 M4 => bnd2 (fX4_changed v3 M4) (fun v5 M6 => some (v5, M6))))
set_option maxHeartbeats 4000000 in
set_option maxRecDepth 100000 in
theorem kX4_load (l : Launch) (D : va_G) (ca : Nat → ClassId) (v : EV) (ad : Nat → Nat) (hI : aInj 75 ad) (M : MM) (hR : RR M) (a1 : Int) (a2 : Int) (a3 : Int) (i1 : inR a1) (i2 : inR a2) (i3 : inR a3) (res : Int) (M' : MM) (hf : fX4_load a1 a2 a3 M = some (res, M')) : CI l yX4_load wsX4_load 6 147 [.ref (ad 74), .int (J a1), .int (J a2), .int (J a3)] (PX D ca v ad M) res (inR res ∧ RR M') (OX D ca ad M') (aS 75 ad) := by
  refine Met.ofW (cc := cX4_load) (maxL := 4) (ret := (some .int)) (by decide) rfl ?_
  intro p e s m args below meth c s₁ B hml hv
  obtain ⟨rfl, hP, hK, hE⟩ := hv
  have hx := B.exec
  have hb := B.bytes
  have hr := B.returns
  have hts := atoms_spec (ws := wsX4_load) B.pre
  have hown : s.vm.findClass RX4 = some m.cls := findClass_of_methodNamed B.named
  have hlocks := B.notSynchronized
  have hS : va_S (aS 75 ad) s.heap s.heap [] := va_S.rf
  have hinX4 : ∀ w ∈ wsX40, w ∈ wsX4_load := by decide +kernel
  have hl := lv_entry ([.ref (ad 74), .int (J a1), .int (J a2), .int (J a3)]) (n := 4) (Nat.le_of_ble_eq_true rfl)
  rw [lg_entry_eq]
  generalize (lg_sl ([.ref (ad 74), .int (J a1), .int (J a2), .int (J a3)]) ++ List.replicate (4 - (lg_sl ([.ref (ad 74), .int (J a1), .int (J a2), .int (J a3)])).length) Slot.unset).toArray = ls at hl ⊢
  have hl : lv_has ls 4 [(0, .ref (ad 74)), (1, .int (J a1)), (2, .int (J a2)), (3, .int (J a3))] := hl
  unfold fX4_load at hf
  refine lv_aload_n hx hb dX4_load_0 rfl (lv_at hl 0 rfl) ?_
  refine va_get (D := D) (ci := 4) (v := .ref (ad 67)) (C := RX4) (T := TX4) (N := 8) hx hb hts hinX4 hown hK hP 74 (wL_get (by decide) (gX_x0 _)) rfl 4 (by decide) (hts (.fieldLink RX4 32 "VisitVans" "history" "LVisitVans$History;") (List.mem_of_getElem? (i := 1) rfl)) (fun _ h => h) rfl dX4_load_1 ?_
  refine lv_aload_n hx hb dX4_load_4 rfl (lv_at hl 0 rfl) ?_
  refine va_get (D := D) (ci := 4) (v := .ref (ad (5 * 0))) (C := RX4) (T := TX4) (N := 8) hx hb hts hinX4 hown hK hP 74 (wL_get (by decide) (gX_x0 _)) rfl 0 (by decide) (hts (.fieldLink RX4 12 "VisitVans" "road" "LVisitVans$Road;") (List.mem_of_getElem? (i := 2) rfl)) (fun _ h => h) rfl dX4_load_5 ?_
  obtain ⟨M2, qM2, hf⟩ := bnd_some hf
  refine jc_v (va_runV (As := [.ref (ad (5 * 0))]) (rest := []) ⟨hx, hb, hml, hown, hts⟩ (kX0_note l D ca v ad hI M hR 0 (by decide : 0 < 11) M2 qM2) (cwV 1 hts gX4_load_X0_note rfl rfl rfl (by decide +kernel) ⟨Nat.le_of_ble_eq_true rfl, Nat.le_of_ble_eq_true rfl⟩) (pvX hK hE hP hS [.ref (ad (5 * 0))] (by decide) (gX_h0 _) rfl) rfl rfl hl.1 rfl (lv_room (Nat.le_of_ble_eq_true rfl)) dX4_load_8 ⟨Nat.zero_le _, Nat.zero_le _⟩) hS (fun H locs t ht hφ hO hS => ?_)
  have hRM2 := hφ
  have hP : va_P D vwCl (wX ca ad M2) H := by rw [← ht]; exact hO
  refine lv_aload_n hx hb dX4_load_11 rfl (lv_at hl 0 rfl) ?_
  refine lv_aload_n hx hb dX4_load_12 rfl (lv_at hl 0 rfl) ?_
  refine va_get (D := D) (ci := 4) (v := .ref (ad (5 * 0))) (C := RX4) (T := TX4) (N := 8) hx hb hts hinX4 hown hK hP 74 (wL_get (by decide) (gX_x0 _)) rfl 0 (by decide) (hts (.fieldLink RX4 12 "VisitVans" "road" "LVisitVans$Road;") (List.mem_of_getElem? (i := 2) rfl)) (fun _ h => h) rfl dX4_load_13 ?_
  refine lv_iload_n hx hb dX4_load_16 rfl (lv_at hl 1 rfl) ?_
  refine lv_iload_n hx hb dX4_load_17 rfl (lv_at hl 2 rfl) ?_
  refine lv_iload_n hx hb dX4_load_18 rfl (lv_at hl 3 rfl) ?_
  obtain ⟨v3, M4, qv3, hf⟩ := bnd2_some hf
  refine jc_i (va_runV (As := [.int (J a1), .int (J a2), .int (J a3)]) (rest := [.ref (ad 74)]) ⟨hx, hb, hml, hown, hts⟩ (kX3_changeStock l D ca v ad hI M2 hRM2 0 (by decide : 0 < 11) a1 a2 a3 i1 i2 i3 v3 M4 qv3) (cwV 3 hts gX4_load_X3_changeStock rfl rfl rfl (by decide +kernel) ⟨Nat.le_of_ble_eq_true rfl, Nat.le_of_ble_eq_true rfl⟩) (pvX hK hE hP hS [.int (J a1), .int (J a2), .int (J a3)] (by omega) (gX_r0 (by decide : 0 < 11) _) rfl) rfl rfl hl.1 rfl (lv_room (Nat.le_of_ble_eq_true rfl)) dX4_load_19 ⟨Nat.zero_le _, Nat.zero_le _⟩) hS (fun H locs t ht hφ hO hS => ?_)
  obtain ⟨rv3, hRM4⟩ := hφ
  have hP : va_P D vwCl (wX ca ad M4) H := by rw [← ht]; exact hO
  obtain ⟨v5, M6, qv5, hf⟩ := bnd2_some hf
  refine jc_i (va_runV (As := [.int (J v3)]) (rest := []) ⟨hx, hb, hml, hown, hts⟩ (kX4_changed l D ca v ad hI M4 hRM4 v3 rv3 v5 M6 qv5) (cwV 1 hts gX4_load_X4_changed rfl rfl rfl (by decide +kernel) ⟨Nat.le_of_ble_eq_true rfl, Nat.le_of_ble_eq_true rfl⟩) (pvX hK hE hP hS [.int (J v3)] (by decide) (gX_x0 _) rfl) rfl rfl hl.1 rfl (lv_room (Nat.le_of_ble_eq_true rfl)) dX4_load_22 ⟨Nat.zero_le _, Nat.zero_le _⟩) hS (fun H locs t ht hφ hO hS => ?_)
  obtain ⟨rv5, hRM6⟩ := hφ
  have hP : va_P D vwCl (wX ca ad M6) H := by rw [← ht]; exact hO
  obtain ⟨e1, e2⟩ := Prod.mk.inj (Option.some.inj hf)
  exact jend_i hx hb hr rfl hS e1 ⟨by rw [← e1]; exact rv5, by rw [← e2]; exact hRM6⟩ (oX e2 hP) dX4_load_25 hlocks
def fX4_ofVisit (a1 : Int) (a2 : Int) (M : MM) : Option (Int) := bnd (fX3_hasVisit 0 a1 M) (fun v1 => if v1 = 0 then some (-1) else bnd (fX4_within a2 0 9) (fun v4 => if v4 = 0 then some (-2) else if 6 ≤ a2 then gd (inR (a2 - 6)) (bnd (fX2_outcome 0 a1 (a2 - 6) M) (fun v9 => some v9)) else bnd (fX3_visitFact 0 a1 a2 M) (fun v11 => some v11)))
set_option maxHeartbeats 4000000 in
set_option maxRecDepth 100000 in
theorem kX4_ofVisit (l : Launch) (D : va_G) (ca : Nat → ClassId) (v : EV) (ad : Nat → Nat) (hI : aInj 75 ad) (M : MM) (hR : RR M) (a1 : Int) (a2 : Int) (i1 : inR a1) (i2 : inR a2) (res : Int) (hf : fX4_ofVisit a1 a2 M = some res) : CI l yX4_ofVisit wsX4_ofVisit 1 22 [.ref (ad 74), .int (J a1), .int (J a2)] (PX D ca v ad M) res (inR res) (OX D ca ad M) (aS 75 ad) := by
  refine Met.ofW (cc := cX4_ofVisit) (maxL := 3) (ret := (some .int)) (by decide) rfl ?_
  intro p e s m args below meth c s₁ B hml hv
  obtain ⟨rfl, hP, hK, hE⟩ := hv
  have hx := B.exec
  have hb := B.bytes
  have hr := B.returns
  have hts := atoms_spec (ws := wsX4_ofVisit) B.pre
  have hown : s.vm.findClass RX4 = some m.cls := findClass_of_methodNamed B.named
  have hlocks := B.notSynchronized
  have hS : va_S (aS 75 ad) s.heap s.heap [] := va_S.rf
  have hinX4 : ∀ w ∈ wsX40, w ∈ wsX4_ofVisit := by decide +kernel
  have hl := lv_entry ([.ref (ad 74), .int (J a1), .int (J a2)]) (n := 3) (Nat.le_of_ble_eq_true rfl)
  rw [lg_entry_eq]
  generalize (lg_sl ([.ref (ad 74), .int (J a1), .int (J a2)]) ++ List.replicate (3 - (lg_sl ([.ref (ad 74), .int (J a1), .int (J a2)])).length) Slot.unset).toArray = ls at hl ⊢
  have hl : lv_has ls 3 [(0, .ref (ad 74)), (1, .int (J a1)), (2, .int (J a2))] := hl
  unfold fX4_ofVisit at hf
  refine lv_aload_n hx hb dX4_ofVisit_0 rfl (lv_at hl 0 rfl) ?_
  refine va_get (D := D) (ci := 4) (v := .ref (ad (5 * 0))) (C := RX4) (T := TX4) (N := 8) hx hb hts hinX4 hown hK hP 74 (wL_get (by decide) (gX_x0 _)) rfl 0 (by decide) (hts (.fieldLink RX4 12 "VisitVans" "road" "LVisitVans$Road;") (List.mem_of_getElem? (i := 1) rfl)) (fun _ h => h) rfl dX4_ofVisit_1 ?_
  refine lv_iload_n hx hb dX4_ofVisit_4 rfl (lv_at hl 1 rfl) ?_
  obtain ⟨v1, qv1, hf⟩ := bnd_some hf
  refine jc_i (va_runV (As := [.int (J a1)]) (rest := []) ⟨hx, hb, hml, hown, hts⟩ (kX3_hasVisit l D ca v ad hI M hR 0 (by decide : 0 < 11) a1 i1 v1 qv1) (cwV 1 hts gX4_ofVisit_X3_hasVisit rfl rfl rfl (by decide +kernel) ⟨Nat.le_of_ble_eq_true rfl, Nat.le_of_ble_eq_true rfl⟩) (pvX hK hE hP hS [.int (J a1)] (by omega) (gX_r0 (by decide : 0 < 11) _) rfl) rfl rfl hl.1 rfl (lv_room (Nat.le_of_ble_eq_true rfl)) dX4_ofVisit_5 ⟨Nat.zero_le _, Nat.zero_le _⟩) hS (fun H locs t ht hφ hO hS => ?_)
  have rv1 := hφ
  have hP : va_P D vwCl (wX ca ad M) H := by rw [← ht]; exact hO
  refine jv_if_ne (tgt := 13) hx hb dX4_ofVisit_8 (by decide) rv1 (fun c3 => ?_) (fun c3 => ?_)
  · have hf := iten hf c3
    refine lv_iload_n hx hb dX4_ofVisit_13 rfl (lv_at hl 2 rfl) ?_
    refine lv_iconst (v := J 0) hx hb dX4_ofVisit_14 rfl ?_
    refine lv_bipush (v := J 9) hx hb dX4_ofVisit_15 (by decide +kernel) ?_
    obtain ⟨v4, qv4, hf⟩ := bnd_some hf
    refine jc_i (va_runS (As := [.int (J a2), .int (J 0), .int (J 9)]) (rest := []) ⟨hx, hb, hml, hown, hts⟩ (kX4_within l D ca v ad hI M hR a2 0 9 i2 (by decide : inR 0) (by decide : inR 9) v4 qv4) (va_cwS 3 hts gX4_ofVisit_X4_within rfl rfl rfl (by decide +kernel) ⟨Nat.le_of_ble_eq_true rfl, Nat.le_of_ble_eq_true rfl⟩) (psX hK hE hP hS [.int (J a2), .int (J 0), .int (J 9)]) rfl rfl hl.1 rfl (lv_room (Nat.le_of_ble_eq_true rfl)) dX4_ofVisit_17 ⟨Nat.zero_le _, Nat.zero_le _⟩) hS (fun H locs t ht hφ hO hS => ?_)
    have rv4 := hφ
    have hP : va_P D vwCl (wX ca ad M) H := by rw [← ht]; exact hO
    refine jv_if_ne (tgt := 26) hx hb dX4_ofVisit_20 (by decide) rv4 (fun c6 => ?_) (fun c6 => ?_)
    · have hf := iten hf c6
      refine lv_iload_n hx hb dX4_ofVisit_26 rfl (lv_at hl 2 rfl) ?_
      refine lv_bipush (v := J 6) hx hb dX4_ofVisit_27 (by decide +kernel) ?_
      refine jv_icmp_ge (tgt := 42) hx hb dX4_ofVisit_29 (by decide) i2 (by decide : inR 6) (fun c7 => ?_) (fun c7 => ?_)
      · have hf := itep hf c7
        refine lv_aload_n hx hb dX4_ofVisit_42 rfl (lv_at hl 0 rfl) ?_
        refine va_get (D := D) (ci := 4) (v := .ref (ad (55 + 6 * 0))) (C := RX4) (T := TX4) (N := 8) hx hb hts hinX4 hown hK hP 74 (wL_get (by decide) (gX_x0 _)) rfl 1 (by decide) (hts (.fieldLink RX4 19 "VisitVans" "plan" "LVisitVans$Plan;") (List.mem_of_getElem? (i := 2) rfl)) (fun _ h => h) rfl dX4_ofVisit_43 ?_
        refine lv_iload_n hx hb dX4_ofVisit_46 rfl (lv_at hl 1 rfl) ?_
        refine lv_iload_n hx hb dX4_ofVisit_47 rfl (lv_at hl 2 rfl) ?_
        refine lv_bipush (v := J 6) hx hb dX4_ofVisit_48 (by decide +kernel) ?_
        refine jv_isub hx hb dX4_ofVisit_50 ?_
        obtain ⟨g8, hf⟩ := gd_some hf
        obtain ⟨v9, qv9, hf⟩ := bnd_some hf
        refine jc_i (va_runV (As := [.int (J a1), .int (J (a2 - 6))]) (rest := []) ⟨hx, hb, hml, hown, hts⟩ (kX2_outcome l D ca v ad hI M hR 0 (by decide : 0 < 2) a1 (a2 - 6) i1 g8 v9 qv9) (cwV 2 hts gX4_ofVisit_X2_outcome rfl rfl rfl (by decide +kernel) ⟨Nat.le_of_ble_eq_true rfl, Nat.le_of_ble_eq_true rfl⟩) (pvX hK hE hP hS [.int (J a1), .int (J (a2 - 6))] (by omega) (gX_p0 (by decide : 0 < 2) _) rfl) rfl rfl hl.1 rfl (lv_room (Nat.le_of_ble_eq_true rfl)) dX4_ofVisit_51 ⟨Nat.zero_le _, Nat.zero_le _⟩) hS (fun H locs t ht hφ hO hS => ?_)
        have rv9 := hφ
        have hP : va_P D vwCl (wX ca ad M) H := by rw [← ht]; exact hO
        have e1 := Option.some.inj hf
        exact jend_i hx hb hr rfl hS e1 (by rw [← e1]; exact rv9) (oX rfl hP) dX4_ofVisit_54 hlocks
      · have hf := iten hf c7
        refine lv_aload_n hx hb dX4_ofVisit_32 rfl (lv_at hl 0 rfl) ?_
        refine va_get (D := D) (ci := 4) (v := .ref (ad (5 * 0))) (C := RX4) (T := TX4) (N := 8) hx hb hts hinX4 hown hK hP 74 (wL_get (by decide) (gX_x0 _)) rfl 0 (by decide) (hts (.fieldLink RX4 12 "VisitVans" "road" "LVisitVans$Road;") (List.mem_of_getElem? (i := 1) rfl)) (fun _ h => h) rfl dX4_ofVisit_33 ?_
        refine lv_iload_n hx hb dX4_ofVisit_36 rfl (lv_at hl 1 rfl) ?_
        refine lv_iload_n hx hb dX4_ofVisit_37 rfl (lv_at hl 2 rfl) ?_
        obtain ⟨v11, qv11, hf⟩ := bnd_some hf
        refine jc_i (va_runV (As := [.int (J a1), .int (J a2)]) (rest := []) ⟨hx, hb, hml, hown, hts⟩ (kX3_visitFact l D ca v ad hI M hR 0 (by decide : 0 < 11) a1 a2 i1 i2 v11 qv11) (cwV 2 hts gX4_ofVisit_X3_visitFact rfl rfl rfl (by decide +kernel) ⟨Nat.le_of_ble_eq_true rfl, Nat.le_of_ble_eq_true rfl⟩) (pvX hK hE hP hS [.int (J a1), .int (J a2)] (by omega) (gX_r0 (by decide : 0 < 11) _) rfl) rfl rfl hl.1 rfl (lv_room (Nat.le_of_ble_eq_true rfl)) dX4_ofVisit_38 ⟨Nat.zero_le _, Nat.zero_le _⟩) hS (fun H locs t ht hφ hO hS => ?_)
        have rv11 := hφ
        have hP : va_P D vwCl (wX ca ad M) H := by rw [← ht]; exact hO
        have e1 := Option.some.inj hf
        exact jend_i hx hb hr rfl hS e1 (by rw [← e1]; exact rv11) (oX rfl hP) dX4_ofVisit_41 hlocks
    · have hf := itep hf c6
      refine lv_bipush (v := J (-2)) hx hb dX4_ofVisit_23 (by decide +kernel) ?_
      have e1 := Option.some.inj hf
      exact jend_i hx hb hr rfl hS e1 (by rw [← e1]; exact (by decide : inR (-2))) (oX rfl hP) dX4_ofVisit_25 hlocks
  · have hf := itep hf c3
    refine lv_iconst (v := J (-1)) hx hb dX4_ofVisit_11 rfl ?_
    have e1 := Option.some.inj hf
    exact jend_i hx hb hr rfl hS e1 (by rw [← e1]; exact (by decide : inR (-1))) (oX rfl hP) dX4_ofVisit_12 hlocks
def fX4_ofVan (a1 : Int) (a2 : Int) (M : MM) : Option (Int) := bnd (fX3_hasVan 0 a1 M) (fun v1 => if v1 = 0 then some (-1) else bnd (fX4_within a2 0 7) (fun v4 => if v4 = 0 then some (-2) else if 2 ≤ a2 then gd (inR (a2 - 2)) (bnd (fX2_driveFact 0 a1 (a2 - 2) M) (fun v9 => some v9)) else bnd (fX3_vanFact 0 a1 a2 M) (fun v11 => some v11)))
set_option maxHeartbeats 4000000 in
set_option maxRecDepth 100000 in
theorem kX4_ofVan (l : Launch) (D : va_G) (ca : Nat → ClassId) (v : EV) (ad : Nat → Nat) (hI : aInj 75 ad) (M : MM) (hR : RR M) (a1 : Int) (a2 : Int) (i1 : inR a1) (i2 : inR a2) (res : Int) (hf : fX4_ofVan a1 a2 M = some res) : CI l yX4_ofVan wsX4_ofVan 1 22 [.ref (ad 74), .int (J a1), .int (J a2)] (PX D ca v ad M) res (inR res) (OX D ca ad M) (aS 75 ad) := by
  refine Met.ofW (cc := cX4_ofVan) (maxL := 3) (ret := (some .int)) (by decide) rfl ?_
  intro p e s m args below meth c s₁ B hml hv
  obtain ⟨rfl, hP, hK, hE⟩ := hv
  have hx := B.exec
  have hb := B.bytes
  have hr := B.returns
  have hts := atoms_spec (ws := wsX4_ofVan) B.pre
  have hown : s.vm.findClass RX4 = some m.cls := findClass_of_methodNamed B.named
  have hlocks := B.notSynchronized
  have hS : va_S (aS 75 ad) s.heap s.heap [] := va_S.rf
  have hinX4 : ∀ w ∈ wsX40, w ∈ wsX4_ofVan := by decide +kernel
  have hl := lv_entry ([.ref (ad 74), .int (J a1), .int (J a2)]) (n := 3) (Nat.le_of_ble_eq_true rfl)
  rw [lg_entry_eq]
  generalize (lg_sl ([.ref (ad 74), .int (J a1), .int (J a2)]) ++ List.replicate (3 - (lg_sl ([.ref (ad 74), .int (J a1), .int (J a2)])).length) Slot.unset).toArray = ls at hl ⊢
  have hl : lv_has ls 3 [(0, .ref (ad 74)), (1, .int (J a1)), (2, .int (J a2))] := hl
  unfold fX4_ofVan at hf
  refine lv_aload_n hx hb dX4_ofVan_0 rfl (lv_at hl 0 rfl) ?_
  refine va_get (D := D) (ci := 4) (v := .ref (ad (5 * 0))) (C := RX4) (T := TX4) (N := 8) hx hb hts hinX4 hown hK hP 74 (wL_get (by decide) (gX_x0 _)) rfl 0 (by decide) (hts (.fieldLink RX4 12 "VisitVans" "road" "LVisitVans$Road;") (List.mem_of_getElem? (i := 1) rfl)) (fun _ h => h) rfl dX4_ofVan_1 ?_
  refine lv_iload_n hx hb dX4_ofVan_4 rfl (lv_at hl 1 rfl) ?_
  obtain ⟨v1, qv1, hf⟩ := bnd_some hf
  refine jc_i (va_runV (As := [.int (J a1)]) (rest := []) ⟨hx, hb, hml, hown, hts⟩ (kX3_hasVan l D ca v ad hI M hR 0 (by decide : 0 < 11) a1 i1 v1 qv1) (cwV 1 hts gX4_ofVan_X3_hasVan rfl rfl rfl (by decide +kernel) ⟨Nat.le_of_ble_eq_true rfl, Nat.le_of_ble_eq_true rfl⟩) (pvX hK hE hP hS [.int (J a1)] (by omega) (gX_r0 (by decide : 0 < 11) _) rfl) rfl rfl hl.1 rfl (lv_room (Nat.le_of_ble_eq_true rfl)) dX4_ofVan_5 ⟨Nat.zero_le _, Nat.zero_le _⟩) hS (fun H locs t ht hφ hO hS => ?_)
  have rv1 := hφ
  have hP : va_P D vwCl (wX ca ad M) H := by rw [← ht]; exact hO
  refine jv_if_ne (tgt := 13) hx hb dX4_ofVan_8 (by decide) rv1 (fun c3 => ?_) (fun c3 => ?_)
  · have hf := iten hf c3
    refine lv_iload_n hx hb dX4_ofVan_13 rfl (lv_at hl 2 rfl) ?_
    refine lv_iconst (v := J 0) hx hb dX4_ofVan_14 rfl ?_
    refine lv_bipush (v := J 7) hx hb dX4_ofVan_15 (by decide +kernel) ?_
    obtain ⟨v4, qv4, hf⟩ := bnd_some hf
    refine jc_i (va_runS (As := [.int (J a2), .int (J 0), .int (J 7)]) (rest := []) ⟨hx, hb, hml, hown, hts⟩ (kX4_within l D ca v ad hI M hR a2 0 7 i2 (by decide : inR 0) (by decide : inR 7) v4 qv4) (va_cwS 3 hts gX4_ofVan_X4_within rfl rfl rfl (by decide +kernel) ⟨Nat.le_of_ble_eq_true rfl, Nat.le_of_ble_eq_true rfl⟩) (psX hK hE hP hS [.int (J a2), .int (J 0), .int (J 7)]) rfl rfl hl.1 rfl (lv_room (Nat.le_of_ble_eq_true rfl)) dX4_ofVan_17 ⟨Nat.zero_le _, Nat.zero_le _⟩) hS (fun H locs t ht hφ hO hS => ?_)
    have rv4 := hφ
    have hP : va_P D vwCl (wX ca ad M) H := by rw [← ht]; exact hO
    refine jv_if_ne (tgt := 26) hx hb dX4_ofVan_20 (by decide) rv4 (fun c6 => ?_) (fun c6 => ?_)
    · have hf := iten hf c6
      refine lv_iload_n hx hb dX4_ofVan_26 rfl (lv_at hl 2 rfl) ?_
      refine lv_iconst (v := J 2) hx hb dX4_ofVan_27 rfl ?_
      refine jv_icmp_ge (tgt := 41) hx hb dX4_ofVan_28 (by decide) i2 (by decide : inR 2) (fun c7 => ?_) (fun c7 => ?_)
      · have hf := itep hf c7
        refine lv_aload_n hx hb dX4_ofVan_41 rfl (lv_at hl 0 rfl) ?_
        refine va_get (D := D) (ci := 4) (v := .ref (ad (55 + 6 * 0))) (C := RX4) (T := TX4) (N := 8) hx hb hts hinX4 hown hK hP 74 (wL_get (by decide) (gX_x0 _)) rfl 1 (by decide) (hts (.fieldLink RX4 19 "VisitVans" "plan" "LVisitVans$Plan;") (List.mem_of_getElem? (i := 2) rfl)) (fun _ h => h) rfl dX4_ofVan_42 ?_
        refine lv_iload_n hx hb dX4_ofVan_45 rfl (lv_at hl 1 rfl) ?_
        refine lv_iload_n hx hb dX4_ofVan_46 rfl (lv_at hl 2 rfl) ?_
        refine lv_iconst (v := J 2) hx hb dX4_ofVan_47 rfl ?_
        refine jv_isub hx hb dX4_ofVan_48 ?_
        obtain ⟨g8, hf⟩ := gd_some hf
        obtain ⟨v9, qv9, hf⟩ := bnd_some hf
        refine jc_i (va_runV (As := [.int (J a1), .int (J (a2 - 2))]) (rest := []) ⟨hx, hb, hml, hown, hts⟩ (kX2_driveFact l D ca v ad hI M hR 0 (by decide : 0 < 2) a1 (a2 - 2) i1 g8 v9 qv9) (cwV 2 hts gX4_ofVan_X2_driveFact rfl rfl rfl (by decide +kernel) ⟨Nat.le_of_ble_eq_true rfl, Nat.le_of_ble_eq_true rfl⟩) (pvX hK hE hP hS [.int (J a1), .int (J (a2 - 2))] (by omega) (gX_p0 (by decide : 0 < 2) _) rfl) rfl rfl hl.1 rfl (lv_room (Nat.le_of_ble_eq_true rfl)) dX4_ofVan_49 ⟨Nat.zero_le _, Nat.zero_le _⟩) hS (fun H locs t ht hφ hO hS => ?_)
        have rv9 := hφ
        have hP : va_P D vwCl (wX ca ad M) H := by rw [← ht]; exact hO
        have e1 := Option.some.inj hf
        exact jend_i hx hb hr rfl hS e1 (by rw [← e1]; exact rv9) (oX rfl hP) dX4_ofVan_52 hlocks
      · have hf := iten hf c7
        refine lv_aload_n hx hb dX4_ofVan_31 rfl (lv_at hl 0 rfl) ?_
        refine va_get (D := D) (ci := 4) (v := .ref (ad (5 * 0))) (C := RX4) (T := TX4) (N := 8) hx hb hts hinX4 hown hK hP 74 (wL_get (by decide) (gX_x0 _)) rfl 0 (by decide) (hts (.fieldLink RX4 12 "VisitVans" "road" "LVisitVans$Road;") (List.mem_of_getElem? (i := 1) rfl)) (fun _ h => h) rfl dX4_ofVan_32 ?_
        refine lv_iload_n hx hb dX4_ofVan_35 rfl (lv_at hl 1 rfl) ?_
        refine lv_iload_n hx hb dX4_ofVan_36 rfl (lv_at hl 2 rfl) ?_
        obtain ⟨v11, qv11, hf⟩ := bnd_some hf
        refine jc_i (va_runV (As := [.int (J a1), .int (J a2)]) (rest := []) ⟨hx, hb, hml, hown, hts⟩ (kX3_vanFact l D ca v ad hI M hR 0 (by decide : 0 < 11) a1 a2 i1 i2 v11 qv11) (cwV 2 hts gX4_ofVan_X3_vanFact rfl rfl rfl (by decide +kernel) ⟨Nat.le_of_ble_eq_true rfl, Nat.le_of_ble_eq_true rfl⟩) (pvX hK hE hP hS [.int (J a1), .int (J a2)] (by omega) (gX_r0 (by decide : 0 < 11) _) rfl) rfl rfl hl.1 rfl (lv_room (Nat.le_of_ble_eq_true rfl)) dX4_ofVan_37 ⟨Nat.zero_le _, Nat.zero_le _⟩) hS (fun H locs t ht hφ hO hS => ?_)
        have rv11 := hφ
        have hP : va_P D vwCl (wX ca ad M) H := by rw [← ht]; exact hO
        have e1 := Option.some.inj hf
        exact jend_i hx hb hr rfl hS e1 (by rw [← e1]; exact rv11) (oX rfl hP) dX4_ofVan_40 hlocks
    · have hf := itep hf c6
      refine lv_bipush (v := J (-2)) hx hb dX4_ofVan_23 (by decide +kernel) ?_
      have e1 := Option.some.inj hf
      exact jend_i hx hb hr rfl hS e1 (by rw [← e1]; exact (by decide : inR (-2))) (oX rfl hP) dX4_ofVan_25 hlocks
  · have hf := itep hf c3
    refine lv_iconst (v := J (-1)) hx hb dX4_ofVan_11 rfl ?_
    have e1 := Option.some.inj hf
    exact jend_i hx hb hr rfl hS e1 (by rw [← e1]; exact (by decide : inR (-1))) (oX rfl hP) dX4_ofVan_12 hlocks
def fX4_stock (a1 : Int) (a2 : Int) (a3 : Int) (M : MM) : Option (Int) := bnd (fX3_hasVan 0 a1 M) (fun v1 => if v1 = 0 then some (-1) else bnd (fX4_isPart a2) (fun v4 => if v4 = 0 then some (-1) else if a3 = 0 then bnd (fX3_partsOf 0 a1 a2 M) (fun v8 => some v8) else if a3 = 1 then bnd (fX3_partsOf 0 a1 a2 M) (fun v10 => bnd (fX2_partsLeft 0 a1 a2 M) (fun v12 => gd (inR (v10 - v12)) (some (v10 - v12)))) else if a3 = 2 then bnd (fX2_partsLeft 0 a1 a2 M) (fun v15 => some v15) else some (-2)))
set_option maxHeartbeats 4000000 in
set_option maxRecDepth 100000 in
theorem kX4_stock (l : Launch) (D : va_G) (ca : Nat → ClassId) (v : EV) (ad : Nat → Nat) (hI : aInj 75 ad) (M : MM) (hR : RR M) (a1 : Int) (a2 : Int) (a3 : Int) (i1 : inR a1) (i2 : inR a2) (i3 : inR a3) (res : Int) (hf : fX4_stock a1 a2 a3 M = some res) : CI l yX4_stock wsX4_stock 2 42 [.ref (ad 74), .int (J a1), .int (J a2), .int (J a3)] (PX D ca v ad M) res (inR res) (OX D ca ad M) (aS 75 ad) := by
  refine Met.ofW (cc := cX4_stock) (maxL := 4) (ret := (some .int)) (by decide) rfl ?_
  intro p e s m args below meth c s₁ B hml hv
  obtain ⟨rfl, hP, hK, hE⟩ := hv
  have hx := B.exec
  have hb := B.bytes
  have hr := B.returns
  have hts := atoms_spec (ws := wsX4_stock) B.pre
  have hown : s.vm.findClass RX4 = some m.cls := findClass_of_methodNamed B.named
  have hlocks := B.notSynchronized
  have hS : va_S (aS 75 ad) s.heap s.heap [] := va_S.rf
  have hinX4 : ∀ w ∈ wsX40, w ∈ wsX4_stock := by decide +kernel
  have hl := lv_entry ([.ref (ad 74), .int (J a1), .int (J a2), .int (J a3)]) (n := 4) (Nat.le_of_ble_eq_true rfl)
  rw [lg_entry_eq]
  generalize (lg_sl ([.ref (ad 74), .int (J a1), .int (J a2), .int (J a3)]) ++ List.replicate (4 - (lg_sl ([.ref (ad 74), .int (J a1), .int (J a2), .int (J a3)])).length) Slot.unset).toArray = ls at hl ⊢
  have hl : lv_has ls 4 [(0, .ref (ad 74)), (1, .int (J a1)), (2, .int (J a2)), (3, .int (J a3))] := hl
  unfold fX4_stock at hf
  refine lv_aload_n hx hb dX4_stock_0 rfl (lv_at hl 0 rfl) ?_
  refine va_get (D := D) (ci := 4) (v := .ref (ad (5 * 0))) (C := RX4) (T := TX4) (N := 8) hx hb hts hinX4 hown hK hP 74 (wL_get (by decide) (gX_x0 _)) rfl 0 (by decide) (hts (.fieldLink RX4 12 "VisitVans" "road" "LVisitVans$Road;") (List.mem_of_getElem? (i := 1) rfl)) (fun _ h => h) rfl dX4_stock_1 ?_
  refine lv_iload_n hx hb dX4_stock_4 rfl (lv_at hl 1 rfl) ?_
  obtain ⟨v1, qv1, hf⟩ := bnd_some hf
  refine jc_i (va_runV (As := [.int (J a1)]) (rest := []) ⟨hx, hb, hml, hown, hts⟩ (kX3_hasVan l D ca v ad hI M hR 0 (by decide : 0 < 11) a1 i1 v1 qv1) (cwV 1 hts gX4_stock_X3_hasVan rfl rfl rfl (by decide +kernel) ⟨Nat.le_of_ble_eq_true rfl, Nat.le_of_ble_eq_true rfl⟩) (pvX hK hE hP hS [.int (J a1)] (by omega) (gX_r0 (by decide : 0 < 11) _) rfl) rfl rfl hl.1 rfl (lv_room (Nat.le_of_ble_eq_true rfl)) dX4_stock_5 ⟨Nat.zero_le _, Nat.zero_le _⟩) hS (fun H locs t ht hφ hO hS => ?_)
  have rv1 := hφ
  have hP : va_P D vwCl (wX ca ad M) H := by rw [← ht]; exact hO
  refine jv_if_eq (tgt := 18) hx hb dX4_stock_8 (by decide) rv1 (fun c3 => ?_) (fun c3 => ?_)
  · have hf := itep hf c3
    refine lv_iconst (v := J (-1)) hx hb dX4_stock_18 rfl ?_
    have e1 := Option.some.inj hf
    exact jend_i hx hb hr rfl hS e1 (by rw [← e1]; exact (by decide : inR (-1))) (oX rfl hP) dX4_stock_19 hlocks
  · have hf := iten hf c3
    refine lv_iload_n hx hb dX4_stock_11 rfl (lv_at hl 2 rfl) ?_
    obtain ⟨v4, qv4, hf⟩ := bnd_some hf
    refine jc_i (va_runS (As := [.int (J a2)]) (rest := []) ⟨hx, hb, hml, hown, hts⟩ (kX4_isPart l D ca v ad hI M hR a2 i2 v4 qv4) (va_cwS 1 hts gX4_stock_X4_isPart rfl rfl rfl (by decide +kernel) ⟨Nat.le_of_ble_eq_true rfl, Nat.le_of_ble_eq_true rfl⟩) (psX hK hE hP hS [.int (J a2)]) rfl rfl hl.1 rfl (lv_room (Nat.le_of_ble_eq_true rfl)) dX4_stock_12 ⟨Nat.zero_le _, Nat.zero_le _⟩) hS (fun H locs t ht hφ hO hS => ?_)
    have rv4 := hφ
    have hP : va_P D vwCl (wX ca ad M) H := by rw [← ht]; exact hO
    refine jv_if_ne (tgt := 20) hx hb dX4_stock_15 (by decide) rv4 (fun c6 => ?_) (fun c6 => ?_)
    · have hf := iten hf c6
      refine lv_iload_n hx hb dX4_stock_20 rfl (lv_at hl 3 rfl) ?_
      by_cases c7_0 : a3 = 0
      · have hf := itep hf c7_0
        refine jv_tIn (k := 0) (tgt := 48) hx hb dX4_stock_21 i3 c7_0 (by decide) (by decide) rfl (by decide) ?_
        refine lv_aload_n hx hb dX4_stock_48 rfl (lv_at hl 0 rfl) ?_
        refine va_get (D := D) (ci := 4) (v := .ref (ad (5 * 0))) (C := RX4) (T := TX4) (N := 8) hx hb hts hinX4 hown hK hP 74 (wL_get (by decide) (gX_x0 _)) rfl 0 (by decide) (hts (.fieldLink RX4 12 "VisitVans" "road" "LVisitVans$Road;") (List.mem_of_getElem? (i := 1) rfl)) (fun _ h => h) rfl dX4_stock_49 ?_
        refine lv_iload_n hx hb dX4_stock_52 rfl (lv_at hl 1 rfl) ?_
        refine lv_iload_n hx hb dX4_stock_53 rfl (lv_at hl 2 rfl) ?_
        obtain ⟨v8, qv8, hf⟩ := bnd_some hf
        refine jc_i (va_runV (As := [.int (J a1), .int (J a2)]) (rest := []) ⟨hx, hb, hml, hown, hts⟩ (kX3_partsOf l D ca v ad hI M hR 0 (by decide : 0 < 11) a1 a2 i1 i2 v8 qv8) (cwV 2 hts gX4_stock_X3_partsOf rfl rfl rfl (by decide +kernel) ⟨Nat.le_of_ble_eq_true rfl, Nat.le_of_ble_eq_true rfl⟩) (pvX hK hE hP hS [.int (J a1), .int (J a2)] (by omega) (gX_r0 (by decide : 0 < 11) _) rfl) rfl rfl hl.1 rfl (lv_room (Nat.le_of_ble_eq_true rfl)) dX4_stock_54 ⟨Nat.zero_le _, Nat.zero_le _⟩) hS (fun H locs t ht hφ hO hS => ?_)
        have rv8 := hφ
        have hP : va_P D vwCl (wX ca ad M) H := by rw [← ht]; exact hO
        have e1 := Option.some.inj hf
        exact jend_i hx hb hr rfl hS e1 (by rw [← e1]; exact rv8) (oX rfl hP) dX4_stock_57 hlocks
      · have hf := iten hf c7_0
        by_cases c7_1 : a3 = 1
        · have hf := itep hf c7_1
          refine jv_tIn (k := 1) (tgt := 58) hx hb dX4_stock_21 i3 c7_1 (by decide) (by decide) rfl (by decide) ?_
          refine lv_aload_n hx hb dX4_stock_58 rfl (lv_at hl 0 rfl) ?_
          refine va_get (D := D) (ci := 4) (v := .ref (ad (5 * 0))) (C := RX4) (T := TX4) (N := 8) hx hb hts hinX4 hown hK hP 74 (wL_get (by decide) (gX_x0 _)) rfl 0 (by decide) (hts (.fieldLink RX4 12 "VisitVans" "road" "LVisitVans$Road;") (List.mem_of_getElem? (i := 1) rfl)) (fun _ h => h) rfl dX4_stock_59 ?_
          refine lv_iload_n hx hb dX4_stock_62 rfl (lv_at hl 1 rfl) ?_
          refine lv_iload_n hx hb dX4_stock_63 rfl (lv_at hl 2 rfl) ?_
          obtain ⟨v10, qv10, hf⟩ := bnd_some hf
          refine jc_i (va_runV (As := [.int (J a1), .int (J a2)]) (rest := []) ⟨hx, hb, hml, hown, hts⟩ (kX3_partsOf l D ca v ad hI M hR 0 (by decide : 0 < 11) a1 a2 i1 i2 v10 qv10) (cwV 2 hts gX4_stock_X3_partsOf rfl rfl rfl (by decide +kernel) ⟨Nat.le_of_ble_eq_true rfl, Nat.le_of_ble_eq_true rfl⟩) (pvX hK hE hP hS [.int (J a1), .int (J a2)] (by omega) (gX_r0 (by decide : 0 < 11) _) rfl) rfl rfl hl.1 rfl (lv_room (Nat.le_of_ble_eq_true rfl)) dX4_stock_64 ⟨Nat.zero_le _, Nat.zero_le _⟩) hS (fun H locs t ht hφ hO hS => ?_)
          have rv10 := hφ
          have hP : va_P D vwCl (wX ca ad M) H := by rw [← ht]; exact hO
          refine lv_aload_n hx hb dX4_stock_67 rfl (lv_at hl 0 rfl) ?_
          refine va_get (D := D) (ci := 4) (v := .ref (ad (55 + 6 * 0))) (C := RX4) (T := TX4) (N := 8) hx hb hts hinX4 hown hK hP 74 (wL_get (by decide) (gX_x0 _)) rfl 1 (by decide) (hts (.fieldLink RX4 19 "VisitVans" "plan" "LVisitVans$Plan;") (List.mem_of_getElem? (i := 2) rfl)) (fun _ h => h) rfl dX4_stock_68 ?_
          refine lv_iload_n hx hb dX4_stock_71 rfl (lv_at hl 1 rfl) ?_
          refine lv_iload_n hx hb dX4_stock_72 rfl (lv_at hl 2 rfl) ?_
          obtain ⟨v12, qv12, hf⟩ := bnd_some hf
          refine jc_i (va_runV (As := [.int (J a1), .int (J a2)]) (rest := [.int (J v10)]) ⟨hx, hb, hml, hown, hts⟩ (kX2_partsLeft l D ca v ad hI M hR 0 (by decide : 0 < 2) a1 a2 i1 i2 v12 qv12) (cwV 2 hts gX4_stock_X2_partsLeft rfl rfl rfl (by decide +kernel) ⟨Nat.le_of_ble_eq_true rfl, Nat.le_of_ble_eq_true rfl⟩) (pvX hK hE hP hS [.int (J a1), .int (J a2)] (by omega) (gX_p0 (by decide : 0 < 2) _) rfl) rfl rfl hl.1 rfl (lv_room (Nat.le_of_ble_eq_true rfl)) dX4_stock_73 ⟨Nat.zero_le _, Nat.zero_le _⟩) hS (fun H locs t ht hφ hO hS => ?_)
          have rv12 := hφ
          have hP : va_P D vwCl (wX ca ad M) H := by rw [← ht]; exact hO
          refine jv_isub hx hb dX4_stock_76 ?_
          obtain ⟨g14, hf⟩ := gd_some hf
          have e1 := Option.some.inj hf
          exact jend_i hx hb hr rfl hS e1 (by rw [← e1]; exact g14) (oX rfl hP) dX4_stock_77 hlocks
        · have hf := iten hf c7_1
          by_cases c7_2 : a3 = 2
          · have hf := itep hf c7_2
            refine jv_tIn (k := 2) (tgt := 78) hx hb dX4_stock_21 i3 c7_2 (by decide) (by decide) rfl (by decide) ?_
            refine lv_aload_n hx hb dX4_stock_78 rfl (lv_at hl 0 rfl) ?_
            refine va_get (D := D) (ci := 4) (v := .ref (ad (55 + 6 * 0))) (C := RX4) (T := TX4) (N := 8) hx hb hts hinX4 hown hK hP 74 (wL_get (by decide) (gX_x0 _)) rfl 1 (by decide) (hts (.fieldLink RX4 19 "VisitVans" "plan" "LVisitVans$Plan;") (List.mem_of_getElem? (i := 2) rfl)) (fun _ h => h) rfl dX4_stock_79 ?_
            refine lv_iload_n hx hb dX4_stock_82 rfl (lv_at hl 1 rfl) ?_
            refine lv_iload_n hx hb dX4_stock_83 rfl (lv_at hl 2 rfl) ?_
            obtain ⟨v15, qv15, hf⟩ := bnd_some hf
            refine jc_i (va_runV (As := [.int (J a1), .int (J a2)]) (rest := []) ⟨hx, hb, hml, hown, hts⟩ (kX2_partsLeft l D ca v ad hI M hR 0 (by decide : 0 < 2) a1 a2 i1 i2 v15 qv15) (cwV 2 hts gX4_stock_X2_partsLeft rfl rfl rfl (by decide +kernel) ⟨Nat.le_of_ble_eq_true rfl, Nat.le_of_ble_eq_true rfl⟩) (pvX hK hE hP hS [.int (J a1), .int (J a2)] (by omega) (gX_p0 (by decide : 0 < 2) _) rfl) rfl rfl hl.1 rfl (lv_room (Nat.le_of_ble_eq_true rfl)) dX4_stock_84 ⟨Nat.zero_le _, Nat.zero_le _⟩) hS (fun H locs t ht hφ hO hS => ?_)
            have rv15 := hφ
            have hP : va_P D vwCl (wX ca ad M) H := by rw [← ht]; exact hO
            have e1 := Option.some.inj hf
            exact jend_i hx hb hr rfl hS e1 (by rw [← e1]; exact rv15) (oX rfl hP) dX4_stock_87 hlocks
          · have hf := iten hf c7_2
            refine jv_tOut (tgt := 88) hx hb dX4_stock_21 i3 (by omega) (by decide) ?_
            refine lv_bipush (v := J (-2)) hx hb dX4_stock_88 (by decide +kernel) ?_
            have e1 := Option.some.inj hf
            exact jend_i hx hb hr rfl hS e1 (by rw [← e1]; exact (by decide : inR (-2))) (oX rfl hP) dX4_stock_90 hlocks
    · have hf := itep hf c6
      refine lv_iconst (v := J (-1)) hx hb dX4_stock_18 rfl ?_
      have e1 := Option.some.inj hf
      exact jend_i hx hb hr rfl hS e1 (by rw [← e1]; exact (by decide : inR (-1))) (oX rfl hP) dX4_stock_19 hlocks
def fX4_event (a1 : Int) (a2 : Int) (a3 : Int) (M : MM) : Option (Int) := bnd (fX3_hasVan 0 a1 M) (fun v1 => if v1 = 0 then some (-1) else if a2 < 0 then some (-1) else bnd (fX2_driveFact 0 a1 5 M) (fun v5 => if a2 < v5 then bnd (fX4_within a3 0 3) (fun v8 => if v8 = 0 then some (-2) else bnd (fX2_eventFact 0 a1 a2 a3 M) (fun v11 => some v11)) else some (-1)))
set_option maxHeartbeats 4000000 in
set_option maxRecDepth 100000 in
theorem kX4_event (l : Launch) (D : va_G) (ca : Nat → ClassId) (v : EV) (ad : Nat → Nat) (hI : aInj 75 ad) (M : MM) (hR : RR M) (a1 : Int) (a2 : Int) (a3 : Int) (i1 : inR a1) (i2 : inR a2) (i3 : inR a3) (res : Int) (hf : fX4_event a1 a2 a3 M = some res) : CI l yX4_event wsX4_event 1 23 [.ref (ad 74), .int (J a1), .int (J a2), .int (J a3)] (PX D ca v ad M) res (inR res) (OX D ca ad M) (aS 75 ad) := by
  refine Met.ofW (cc := cX4_event) (maxL := 4) (ret := (some .int)) (by decide) rfl ?_
  intro p e s m args below meth c s₁ B hml hv
  obtain ⟨rfl, hP, hK, hE⟩ := hv
  have hx := B.exec
  have hb := B.bytes
  have hr := B.returns
  have hts := atoms_spec (ws := wsX4_event) B.pre
  have hown : s.vm.findClass RX4 = some m.cls := findClass_of_methodNamed B.named
  have hlocks := B.notSynchronized
  have hS : va_S (aS 75 ad) s.heap s.heap [] := va_S.rf
  have hinX4 : ∀ w ∈ wsX40, w ∈ wsX4_event := by decide +kernel
  have hl := lv_entry ([.ref (ad 74), .int (J a1), .int (J a2), .int (J a3)]) (n := 4) (Nat.le_of_ble_eq_true rfl)
  rw [lg_entry_eq]
  generalize (lg_sl ([.ref (ad 74), .int (J a1), .int (J a2), .int (J a3)]) ++ List.replicate (4 - (lg_sl ([.ref (ad 74), .int (J a1), .int (J a2), .int (J a3)])).length) Slot.unset).toArray = ls at hl ⊢
  have hl : lv_has ls 4 [(0, .ref (ad 74)), (1, .int (J a1)), (2, .int (J a2)), (3, .int (J a3))] := hl
  unfold fX4_event at hf
  refine lv_aload_n hx hb dX4_event_0 rfl (lv_at hl 0 rfl) ?_
  refine va_get (D := D) (ci := 4) (v := .ref (ad (5 * 0))) (C := RX4) (T := TX4) (N := 8) hx hb hts hinX4 hown hK hP 74 (wL_get (by decide) (gX_x0 _)) rfl 0 (by decide) (hts (.fieldLink RX4 12 "VisitVans" "road" "LVisitVans$Road;") (List.mem_of_getElem? (i := 1) rfl)) (fun _ h => h) rfl dX4_event_1 ?_
  refine lv_iload_n hx hb dX4_event_4 rfl (lv_at hl 1 rfl) ?_
  obtain ⟨v1, qv1, hf⟩ := bnd_some hf
  refine jc_i (va_runV (As := [.int (J a1)]) (rest := []) ⟨hx, hb, hml, hown, hts⟩ (kX3_hasVan l D ca v ad hI M hR 0 (by decide : 0 < 11) a1 i1 v1 qv1) (cwV 1 hts gX4_event_X3_hasVan rfl rfl rfl (by decide +kernel) ⟨Nat.le_of_ble_eq_true rfl, Nat.le_of_ble_eq_true rfl⟩) (pvX hK hE hP hS [.int (J a1)] (by omega) (gX_r0 (by decide : 0 < 11) _) rfl) rfl rfl hl.1 rfl (lv_room (Nat.le_of_ble_eq_true rfl)) dX4_event_5 ⟨Nat.zero_le _, Nat.zero_le _⟩) hS (fun H locs t ht hφ hO hS => ?_)
  have rv1 := hφ
  have hP : va_P D vwCl (wX ca ad M) H := by rw [← ht]; exact hO
  refine jv_if_eq (tgt := 28) hx hb dX4_event_8 (by decide) rv1 (fun c3 => ?_) (fun c3 => ?_)
  · have hf := itep hf c3
    refine lv_iconst (v := J (-1)) hx hb dX4_event_28 rfl ?_
    have e1 := Option.some.inj hf
    exact jend_i hx hb hr rfl hS e1 (by rw [← e1]; exact (by decide : inR (-1))) (oX rfl hP) dX4_event_29 hlocks
  · have hf := iten hf c3
    refine lv_iload_n hx hb dX4_event_11 rfl (lv_at hl 2 rfl) ?_
    refine jv_if_lt (tgt := 28) hx hb dX4_event_12 (by decide) i2 (fun c4 => ?_) (fun c4 => ?_)
    · have hf := itep hf c4
      refine lv_iconst (v := J (-1)) hx hb dX4_event_28 rfl ?_
      have e1 := Option.some.inj hf
      exact jend_i hx hb hr rfl hS e1 (by rw [← e1]; exact (by decide : inR (-1))) (oX rfl hP) dX4_event_29 hlocks
    · have hf := iten hf c4
      refine lv_iload_n hx hb dX4_event_15 rfl (lv_at hl 2 rfl) ?_
      refine lv_aload_n hx hb dX4_event_16 rfl (lv_at hl 0 rfl) ?_
      refine va_get (D := D) (ci := 4) (v := .ref (ad (55 + 6 * 0))) (C := RX4) (T := TX4) (N := 8) hx hb hts hinX4 hown hK hP 74 (wL_get (by decide) (gX_x0 _)) rfl 1 (by decide) (hts (.fieldLink RX4 19 "VisitVans" "plan" "LVisitVans$Plan;") (List.mem_of_getElem? (i := 2) rfl)) (fun _ h => h) rfl dX4_event_17 ?_
      refine lv_iload_n hx hb dX4_event_20 rfl (lv_at hl 1 rfl) ?_
      refine lv_iconst (v := J 5) hx hb dX4_event_21 rfl ?_
      obtain ⟨v5, qv5, hf⟩ := bnd_some hf
      refine jc_i (va_runV (As := [.int (J a1), .int (J 5)]) (rest := [.int (J a2)]) ⟨hx, hb, hml, hown, hts⟩ (kX2_driveFact l D ca v ad hI M hR 0 (by decide : 0 < 2) a1 5 i1 (by decide : inR 5) v5 qv5) (cwV 2 hts gX4_event_X2_driveFact rfl rfl rfl (by decide +kernel) ⟨Nat.le_of_ble_eq_true rfl, Nat.le_of_ble_eq_true rfl⟩) (pvX hK hE hP hS [.int (J a1), .int (J 5)] (by omega) (gX_p0 (by decide : 0 < 2) _) rfl) rfl rfl hl.1 rfl (lv_room (Nat.le_of_ble_eq_true rfl)) dX4_event_22 ⟨Nat.zero_le _, Nat.zero_le _⟩) hS (fun H locs t ht hφ hO hS => ?_)
      have rv5 := hφ
      have hP : va_P D vwCl (wX ca ad M) H := by rw [← ht]; exact hO
      refine jv_icmp_lt (tgt := 30) hx hb dX4_event_25 (by decide) i2 rv5 (fun c7 => ?_) (fun c7 => ?_)
      · have hf := itep hf c7
        refine lv_iload_n hx hb dX4_event_30 rfl (lv_at hl 3 rfl) ?_
        refine lv_iconst (v := J 0) hx hb dX4_event_31 rfl ?_
        refine lv_iconst (v := J 3) hx hb dX4_event_32 rfl ?_
        obtain ⟨v8, qv8, hf⟩ := bnd_some hf
        refine jc_i (va_runS (As := [.int (J a3), .int (J 0), .int (J 3)]) (rest := []) ⟨hx, hb, hml, hown, hts⟩ (kX4_within l D ca v ad hI M hR a3 0 3 i3 (by decide : inR 0) (by decide : inR 3) v8 qv8) (va_cwS 3 hts gX4_event_X4_within rfl rfl rfl (by decide +kernel) ⟨Nat.le_of_ble_eq_true rfl, Nat.le_of_ble_eq_true rfl⟩) (psX hK hE hP hS [.int (J a3), .int (J 0), .int (J 3)]) rfl rfl hl.1 rfl (lv_room (Nat.le_of_ble_eq_true rfl)) dX4_event_33 ⟨Nat.zero_le _, Nat.zero_le _⟩) hS (fun H locs t ht hφ hO hS => ?_)
        have rv8 := hφ
        have hP : va_P D vwCl (wX ca ad M) H := by rw [← ht]; exact hO
        refine jv_if_ne (tgt := 42) hx hb dX4_event_36 (by decide) rv8 (fun c10 => ?_) (fun c10 => ?_)
        · have hf := iten hf c10
          refine lv_aload_n hx hb dX4_event_42 rfl (lv_at hl 0 rfl) ?_
          refine va_get (D := D) (ci := 4) (v := .ref (ad (55 + 6 * 0))) (C := RX4) (T := TX4) (N := 8) hx hb hts hinX4 hown hK hP 74 (wL_get (by decide) (gX_x0 _)) rfl 1 (by decide) (hts (.fieldLink RX4 19 "VisitVans" "plan" "LVisitVans$Plan;") (List.mem_of_getElem? (i := 2) rfl)) (fun _ h => h) rfl dX4_event_43 ?_
          refine lv_iload_n hx hb dX4_event_46 rfl (lv_at hl 1 rfl) ?_
          refine lv_iload_n hx hb dX4_event_47 rfl (lv_at hl 2 rfl) ?_
          refine lv_iload_n hx hb dX4_event_48 rfl (lv_at hl 3 rfl) ?_
          obtain ⟨v11, qv11, hf⟩ := bnd_some hf
          refine jc_i (va_runV (As := [.int (J a1), .int (J a2), .int (J a3)]) (rest := []) ⟨hx, hb, hml, hown, hts⟩ (kX2_eventFact l D ca v ad hI M hR 0 (by decide : 0 < 2) a1 a2 a3 i1 i2 i3 v11 qv11) (cwV 3 hts gX4_event_X2_eventFact rfl rfl rfl (by decide +kernel) ⟨Nat.le_of_ble_eq_true rfl, Nat.le_of_ble_eq_true rfl⟩) (pvX hK hE hP hS [.int (J a1), .int (J a2), .int (J a3)] (by omega) (gX_p0 (by decide : 0 < 2) _) rfl) rfl rfl hl.1 rfl (lv_room (Nat.le_of_ble_eq_true rfl)) dX4_event_49 ⟨Nat.zero_le _, Nat.zero_le _⟩) hS (fun H locs t ht hφ hO hS => ?_)
          have rv11 := hφ
          have hP : va_P D vwCl (wX ca ad M) H := by rw [← ht]; exact hO
          have e1 := Option.some.inj hf
          exact jend_i hx hb hr rfl hS e1 (by rw [← e1]; exact rv11) (oX rfl hP) dX4_event_52 hlocks
        · have hf := itep hf c10
          refine lv_bipush (v := J (-2)) hx hb dX4_event_39 (by decide +kernel) ?_
          have e1 := Option.some.inj hf
          exact jend_i hx hb hr rfl hS e1 (by rw [← e1]; exact (by decide : inR (-2))) (oX rfl hP) dX4_event_41 hlocks
      · have hf := iten hf c7
        refine lv_iconst (v := J (-1)) hx hb dX4_event_28 rfl ?_
        have e1 := Option.some.inj hf
        exact jend_i hx hb hr rfl hS e1 (by rw [← e1]; exact (by decide : inR (-1))) (oX rfl hP) dX4_event_29 hlocks
def fX4_count (a1 : Int) (M : MM) : Option (Int) := if a1 = 0 then some (M (5 * 0) 4) else if a1 = 1 then some (M (5 * 0) 5) else if a1 = 2 then bnd (fX2_promisesThatAre 0 0 M) (fun v2 => some v2) else if a1 = 3 then bnd (fX2_promisesThatAre 0 1 M) (fun v4 => some v4) else if a1 = 4 then bnd (fX2_visitsMade 0 M) (fun v6 => gd (inR ((M (5 * 0) 4) - v6)) (some ((M (5 * 0) 4) - v6))) else if a1 = 5 then bnd (fX2_promisesThatAre 0 2 M) (fun v9 => some v9) else if a1 = 6 then bnd (fX2_promisesThatAre 0 3 M) (fun v11 => some v11) else if a1 = 7 then bnd (fX2_promisesThatAre 0 4 M) (fun v13 => some v13) else if a1 = 8 then bnd (fX2_sumOverVans 0 1 M) (fun v15 => some v15) else if a1 = 9 then bnd (fX2_sumOverVans 0 2 M) (fun v17 => some v17) else if a1 = 10 then bnd (fX2_lastFree 0 M) (fun v19 => some v19) else if a1 = 11 then bnd (rd M (5 * 0 + 1) 3 0) (fun v21 => some v21) else if a1 = 12 then bnd (rd M (5 * 0 + 1) 3 1) (fun v22 => some v22) else if a1 = 13 then bnd (rd M (5 * 0 + 1) 3 2) (fun v23 => some v23) else if a1 = 14 then some (M 71 1) else if a1 = 15 then some (M 67 2) else some (-2)
set_option maxHeartbeats 4000000 in
set_option maxRecDepth 100000 in
theorem kX4_count (l : Launch) (D : va_G) (ca : Nat → ClassId) (v : EV) (ad : Nat → Nat) (hI : aInj 75 ad) (M : MM) (hR : RR M) (a1 : Int) (i1 : inR a1) (res : Int) (hf : fX4_count a1 M = some res) : CI l yX4_count wsX4_count 3 65 [.ref (ad 74), .int (J a1)] (PX D ca v ad M) res (inR res) (OX D ca ad M) (aS 75 ad) := by
  refine Met.ofW (cc := cX4_count) (maxL := 2) (ret := (some .int)) (by decide) rfl ?_
  intro p e s m args below meth c s₁ B hml hv
  obtain ⟨rfl, hP, hK, hE⟩ := hv
  have hx := B.exec
  have hb := B.bytes
  have hr := B.returns
  have hts := atoms_spec (ws := wsX4_count) B.pre
  have hown : s.vm.findClass RX4 = some m.cls := findClass_of_methodNamed B.named
  have hlocks := B.notSynchronized
  have hS : va_S (aS 75 ad) s.heap s.heap [] := va_S.rf
  have hinX0 : ∀ w ∈ wsX00, w ∈ wsX4_count := by decide +kernel
  have hinX1 : ∀ w ∈ wsX10, w ∈ wsX4_count := by decide +kernel
  have hinX3 : ∀ w ∈ wsX30, w ∈ wsX4_count := by decide +kernel
  have hinX4 : ∀ w ∈ wsX40, w ∈ wsX4_count := by decide +kernel
  have hl := lv_entry ([.ref (ad 74), .int (J a1)]) (n := 2) (Nat.le_of_ble_eq_true rfl)
  rw [lg_entry_eq]
  generalize (lg_sl ([.ref (ad 74), .int (J a1)]) ++ List.replicate (2 - (lg_sl ([.ref (ad 74), .int (J a1)])).length) Slot.unset).toArray = ls at hl ⊢
  have hl : lv_has ls 2 [(0, .ref (ad 74)), (1, .int (J a1))] := hl
  unfold fX4_count at hf
  refine lv_iload_n hx hb dX4_count_0 rfl (lv_at hl 1 rfl) ?_
  by_cases c1_0 : a1 = 0
  · have hf := itep hf c1_0
    refine jv_tIn (k := 0) (tgt := 80) hx hb dX4_count_1 i1 c1_0 (by decide) (by decide) rfl (by decide) ?_
    refine lv_aload_n hx hb dX4_count_80 rfl (lv_at hl 0 rfl) ?_
    refine va_get (D := D) (ci := 4) (v := .ref (ad (5 * 0))) (C := RX4) (T := TX4) (N := 8) hx hb hts hinX4 hown hK hP 74 (wL_get (by decide) (gX_x0 _)) rfl 0 (by decide) (hts (.fieldLink RX4 12 "VisitVans" "road" "LVisitVans$Road;") (List.mem_of_getElem? (i := 1) rfl)) (fun _ h => h) rfl dX4_count_81 ?_
    refine va_get (D := D) (ci := 3) (v := .int (J (M (5 * 0) 4))) (C := RX3) (T := TX3) (N := 6) hx hb hts hinX3 hown hK hP (5 * 0) (wL_get (by omega) (gX_r0 (by decide : 0 < 11) _)) rfl 4 (by decide) (hts (.fieldLink RX4 112 "VisitVans$Road" "visitCount" "I") (List.mem_of_getElem? (i := 2) rfl)) (fun _ h => h) rfl dX4_count_84 ?_
    have e1 := Option.some.inj hf
    exact jend_i hx hb hr rfl hS e1 (by rw [← e1]; exact (hR (5 * 0) 4)) (oX rfl hP) dX4_count_87 hlocks
  · have hf := iten hf c1_0
    by_cases c1_1 : a1 = 1
    · have hf := itep hf c1_1
      refine jv_tIn (k := 1) (tgt := 88) hx hb dX4_count_1 i1 c1_1 (by decide) (by decide) rfl (by decide) ?_
      refine lv_aload_n hx hb dX4_count_88 rfl (lv_at hl 0 rfl) ?_
      refine va_get (D := D) (ci := 4) (v := .ref (ad (5 * 0))) (C := RX4) (T := TX4) (N := 8) hx hb hts hinX4 hown hK hP 74 (wL_get (by decide) (gX_x0 _)) rfl 0 (by decide) (hts (.fieldLink RX4 12 "VisitVans" "road" "LVisitVans$Road;") (List.mem_of_getElem? (i := 1) rfl)) (fun _ h => h) rfl dX4_count_89 ?_
      refine va_get (D := D) (ci := 3) (v := .int (J (M (5 * 0) 5))) (C := RX3) (T := TX3) (N := 6) hx hb hts hinX3 hown hK hP (5 * 0) (wL_get (by omega) (gX_r0 (by decide : 0 < 11) _)) rfl 5 (by decide) (hts (.fieldLink RX4 116 "VisitVans$Road" "vanCount" "I") (List.mem_of_getElem? (i := 3) rfl)) (fun _ h => h) rfl dX4_count_92 ?_
      have e1 := Option.some.inj hf
      exact jend_i hx hb hr rfl hS e1 (by rw [← e1]; exact (hR (5 * 0) 5)) (oX rfl hP) dX4_count_95 hlocks
    · have hf := iten hf c1_1
      by_cases c1_2 : a1 = 2
      · have hf := itep hf c1_2
        refine jv_tIn (k := 2) (tgt := 96) hx hb dX4_count_1 i1 c1_2 (by decide) (by decide) rfl (by decide) ?_
        refine lv_aload_n hx hb dX4_count_96 rfl (lv_at hl 0 rfl) ?_
        refine va_get (D := D) (ci := 4) (v := .ref (ad (55 + 6 * 0))) (C := RX4) (T := TX4) (N := 8) hx hb hts hinX4 hown hK hP 74 (wL_get (by decide) (gX_x0 _)) rfl 1 (by decide) (hts (.fieldLink RX4 19 "VisitVans" "plan" "LVisitVans$Plan;") (List.mem_of_getElem? (i := 4) rfl)) (fun _ h => h) rfl dX4_count_97 ?_
        refine lv_iconst (v := J 0) hx hb dX4_count_100 rfl ?_
        obtain ⟨v2, qv2, hf⟩ := bnd_some hf
        refine jc_i (va_runV (As := [.int (J 0)]) (rest := []) ⟨hx, hb, hml, hown, hts⟩ (kX2_promisesThatAre l D ca v ad hI M hR 0 (by decide : 0 < 2) 0 (by decide : inR 0) v2 qv2) (cwV 1 hts gX4_count_X2_promisesThatAre rfl rfl rfl (by decide +kernel) ⟨Nat.le_of_ble_eq_true rfl, Nat.le_of_ble_eq_true rfl⟩) (pvX hK hE hP hS [.int (J 0)] (by omega) (gX_p0 (by decide : 0 < 2) _) rfl) rfl rfl hl.1 rfl (lv_room (Nat.le_of_ble_eq_true rfl)) dX4_count_101 ⟨Nat.zero_le _, Nat.zero_le _⟩) hS (fun H locs t ht hφ hO hS => ?_)
        have rv2 := hφ
        have hP : va_P D vwCl (wX ca ad M) H := by rw [← ht]; exact hO
        have e1 := Option.some.inj hf
        exact jend_i hx hb hr rfl hS e1 (by rw [← e1]; exact rv2) (oX rfl hP) dX4_count_104 hlocks
      · have hf := iten hf c1_2
        by_cases c1_3 : a1 = 3
        · have hf := itep hf c1_3
          refine jv_tIn (k := 3) (tgt := 105) hx hb dX4_count_1 i1 c1_3 (by decide) (by decide) rfl (by decide) ?_
          refine lv_aload_n hx hb dX4_count_105 rfl (lv_at hl 0 rfl) ?_
          refine va_get (D := D) (ci := 4) (v := .ref (ad (55 + 6 * 0))) (C := RX4) (T := TX4) (N := 8) hx hb hts hinX4 hown hK hP 74 (wL_get (by decide) (gX_x0 _)) rfl 1 (by decide) (hts (.fieldLink RX4 19 "VisitVans" "plan" "LVisitVans$Plan;") (List.mem_of_getElem? (i := 4) rfl)) (fun _ h => h) rfl dX4_count_106 ?_
          refine lv_iconst (v := J 1) hx hb dX4_count_109 rfl ?_
          obtain ⟨v4, qv4, hf⟩ := bnd_some hf
          refine jc_i (va_runV (As := [.int (J 1)]) (rest := []) ⟨hx, hb, hml, hown, hts⟩ (kX2_promisesThatAre l D ca v ad hI M hR 0 (by decide : 0 < 2) 1 (by decide : inR 1) v4 qv4) (cwV 1 hts gX4_count_X2_promisesThatAre rfl rfl rfl (by decide +kernel) ⟨Nat.le_of_ble_eq_true rfl, Nat.le_of_ble_eq_true rfl⟩) (pvX hK hE hP hS [.int (J 1)] (by omega) (gX_p0 (by decide : 0 < 2) _) rfl) rfl rfl hl.1 rfl (lv_room (Nat.le_of_ble_eq_true rfl)) dX4_count_110 ⟨Nat.zero_le _, Nat.zero_le _⟩) hS (fun H locs t ht hφ hO hS => ?_)
          have rv4 := hφ
          have hP : va_P D vwCl (wX ca ad M) H := by rw [← ht]; exact hO
          have e1 := Option.some.inj hf
          exact jend_i hx hb hr rfl hS e1 (by rw [← e1]; exact rv4) (oX rfl hP) dX4_count_113 hlocks
        · have hf := iten hf c1_3
          by_cases c1_4 : a1 = 4
          · have hf := itep hf c1_4
            refine jv_tIn (k := 4) (tgt := 114) hx hb dX4_count_1 i1 c1_4 (by decide) (by decide) rfl (by decide) ?_
            refine lv_aload_n hx hb dX4_count_114 rfl (lv_at hl 0 rfl) ?_
            refine va_get (D := D) (ci := 4) (v := .ref (ad (5 * 0))) (C := RX4) (T := TX4) (N := 8) hx hb hts hinX4 hown hK hP 74 (wL_get (by decide) (gX_x0 _)) rfl 0 (by decide) (hts (.fieldLink RX4 12 "VisitVans" "road" "LVisitVans$Road;") (List.mem_of_getElem? (i := 1) rfl)) (fun _ h => h) rfl dX4_count_115 ?_
            refine va_get (D := D) (ci := 3) (v := .int (J (M (5 * 0) 4))) (C := RX3) (T := TX3) (N := 6) hx hb hts hinX3 hown hK hP (5 * 0) (wL_get (by omega) (gX_r0 (by decide : 0 < 11) _)) rfl 4 (by decide) (hts (.fieldLink RX4 112 "VisitVans$Road" "visitCount" "I") (List.mem_of_getElem? (i := 2) rfl)) (fun _ h => h) rfl dX4_count_118 ?_
            refine lv_aload_n hx hb dX4_count_121 rfl (lv_at hl 0 rfl) ?_
            refine va_get (D := D) (ci := 4) (v := .ref (ad (55 + 6 * 0))) (C := RX4) (T := TX4) (N := 8) hx hb hts hinX4 hown hK hP 74 (wL_get (by decide) (gX_x0 _)) rfl 1 (by decide) (hts (.fieldLink RX4 19 "VisitVans" "plan" "LVisitVans$Plan;") (List.mem_of_getElem? (i := 4) rfl)) (fun _ h => h) rfl dX4_count_122 ?_
            obtain ⟨v6, qv6, hf⟩ := bnd_some hf
            refine jc_i (va_runV (As := []) (rest := [.int (J (M (5 * 0) 4))]) ⟨hx, hb, hml, hown, hts⟩ (kX2_visitsMade l D ca v ad hI M hR 0 (by decide : 0 < 2) v6 qv6) (cwV 0 hts gX4_count_X2_visitsMade rfl rfl rfl (by decide +kernel) ⟨Nat.le_of_ble_eq_true rfl, Nat.le_of_ble_eq_true rfl⟩) (pvX hK hE hP hS [] (by omega) (gX_p0 (by decide : 0 < 2) _) rfl) rfl rfl hl.1 rfl (lv_room (Nat.le_of_ble_eq_true rfl)) dX4_count_125 ⟨Nat.zero_le _, Nat.zero_le _⟩) hS (fun H locs t ht hφ hO hS => ?_)
            have rv6 := hφ
            have hP : va_P D vwCl (wX ca ad M) H := by rw [← ht]; exact hO
            refine jv_isub hx hb dX4_count_128 ?_
            obtain ⟨g8, hf⟩ := gd_some hf
            have e1 := Option.some.inj hf
            exact jend_i hx hb hr rfl hS e1 (by rw [← e1]; exact g8) (oX rfl hP) dX4_count_129 hlocks
          · have hf := iten hf c1_4
            by_cases c1_5 : a1 = 5
            · have hf := itep hf c1_5
              refine jv_tIn (k := 5) (tgt := 130) hx hb dX4_count_1 i1 c1_5 (by decide) (by decide) rfl (by decide) ?_
              refine lv_aload_n hx hb dX4_count_130 rfl (lv_at hl 0 rfl) ?_
              refine va_get (D := D) (ci := 4) (v := .ref (ad (55 + 6 * 0))) (C := RX4) (T := TX4) (N := 8) hx hb hts hinX4 hown hK hP 74 (wL_get (by decide) (gX_x0 _)) rfl 1 (by decide) (hts (.fieldLink RX4 19 "VisitVans" "plan" "LVisitVans$Plan;") (List.mem_of_getElem? (i := 4) rfl)) (fun _ h => h) rfl dX4_count_131 ?_
              refine lv_iconst (v := J 2) hx hb dX4_count_134 rfl ?_
              obtain ⟨v9, qv9, hf⟩ := bnd_some hf
              refine jc_i (va_runV (As := [.int (J 2)]) (rest := []) ⟨hx, hb, hml, hown, hts⟩ (kX2_promisesThatAre l D ca v ad hI M hR 0 (by decide : 0 < 2) 2 (by decide : inR 2) v9 qv9) (cwV 1 hts gX4_count_X2_promisesThatAre rfl rfl rfl (by decide +kernel) ⟨Nat.le_of_ble_eq_true rfl, Nat.le_of_ble_eq_true rfl⟩) (pvX hK hE hP hS [.int (J 2)] (by omega) (gX_p0 (by decide : 0 < 2) _) rfl) rfl rfl hl.1 rfl (lv_room (Nat.le_of_ble_eq_true rfl)) dX4_count_135 ⟨Nat.zero_le _, Nat.zero_le _⟩) hS (fun H locs t ht hφ hO hS => ?_)
              have rv9 := hφ
              have hP : va_P D vwCl (wX ca ad M) H := by rw [← ht]; exact hO
              have e1 := Option.some.inj hf
              exact jend_i hx hb hr rfl hS e1 (by rw [← e1]; exact rv9) (oX rfl hP) dX4_count_138 hlocks
            · have hf := iten hf c1_5
              by_cases c1_6 : a1 = 6
              · have hf := itep hf c1_6
                refine jv_tIn (k := 6) (tgt := 139) hx hb dX4_count_1 i1 c1_6 (by decide) (by decide) rfl (by decide) ?_
                refine lv_aload_n hx hb dX4_count_139 rfl (lv_at hl 0 rfl) ?_
                refine va_get (D := D) (ci := 4) (v := .ref (ad (55 + 6 * 0))) (C := RX4) (T := TX4) (N := 8) hx hb hts hinX4 hown hK hP 74 (wL_get (by decide) (gX_x0 _)) rfl 1 (by decide) (hts (.fieldLink RX4 19 "VisitVans" "plan" "LVisitVans$Plan;") (List.mem_of_getElem? (i := 4) rfl)) (fun _ h => h) rfl dX4_count_140 ?_
                refine lv_iconst (v := J 3) hx hb dX4_count_143 rfl ?_
                obtain ⟨v11, qv11, hf⟩ := bnd_some hf
                refine jc_i (va_runV (As := [.int (J 3)]) (rest := []) ⟨hx, hb, hml, hown, hts⟩ (kX2_promisesThatAre l D ca v ad hI M hR 0 (by decide : 0 < 2) 3 (by decide : inR 3) v11 qv11) (cwV 1 hts gX4_count_X2_promisesThatAre rfl rfl rfl (by decide +kernel) ⟨Nat.le_of_ble_eq_true rfl, Nat.le_of_ble_eq_true rfl⟩) (pvX hK hE hP hS [.int (J 3)] (by omega) (gX_p0 (by decide : 0 < 2) _) rfl) rfl rfl hl.1 rfl (lv_room (Nat.le_of_ble_eq_true rfl)) dX4_count_144 ⟨Nat.zero_le _, Nat.zero_le _⟩) hS (fun H locs t ht hφ hO hS => ?_)
                have rv11 := hφ
                have hP : va_P D vwCl (wX ca ad M) H := by rw [← ht]; exact hO
                have e1 := Option.some.inj hf
                exact jend_i hx hb hr rfl hS e1 (by rw [← e1]; exact rv11) (oX rfl hP) dX4_count_147 hlocks
              · have hf := iten hf c1_6
                by_cases c1_7 : a1 = 7
                · have hf := itep hf c1_7
                  refine jv_tIn (k := 7) (tgt := 148) hx hb dX4_count_1 i1 c1_7 (by decide) (by decide) rfl (by decide) ?_
                  refine lv_aload_n hx hb dX4_count_148 rfl (lv_at hl 0 rfl) ?_
                  refine va_get (D := D) (ci := 4) (v := .ref (ad (55 + 6 * 0))) (C := RX4) (T := TX4) (N := 8) hx hb hts hinX4 hown hK hP 74 (wL_get (by decide) (gX_x0 _)) rfl 1 (by decide) (hts (.fieldLink RX4 19 "VisitVans" "plan" "LVisitVans$Plan;") (List.mem_of_getElem? (i := 4) rfl)) (fun _ h => h) rfl dX4_count_149 ?_
                  refine lv_iconst (v := J 4) hx hb dX4_count_152 rfl ?_
                  obtain ⟨v13, qv13, hf⟩ := bnd_some hf
                  refine jc_i (va_runV (As := [.int (J 4)]) (rest := []) ⟨hx, hb, hml, hown, hts⟩ (kX2_promisesThatAre l D ca v ad hI M hR 0 (by decide : 0 < 2) 4 (by decide : inR 4) v13 qv13) (cwV 1 hts gX4_count_X2_promisesThatAre rfl rfl rfl (by decide +kernel) ⟨Nat.le_of_ble_eq_true rfl, Nat.le_of_ble_eq_true rfl⟩) (pvX hK hE hP hS [.int (J 4)] (by omega) (gX_p0 (by decide : 0 < 2) _) rfl) rfl rfl hl.1 rfl (lv_room (Nat.le_of_ble_eq_true rfl)) dX4_count_153 ⟨Nat.zero_le _, Nat.zero_le _⟩) hS (fun H locs t ht hφ hO hS => ?_)
                  have rv13 := hφ
                  have hP : va_P D vwCl (wX ca ad M) H := by rw [← ht]; exact hO
                  have e1 := Option.some.inj hf
                  exact jend_i hx hb hr rfl hS e1 (by rw [← e1]; exact rv13) (oX rfl hP) dX4_count_156 hlocks
                · have hf := iten hf c1_7
                  by_cases c1_8 : a1 = 8
                  · have hf := itep hf c1_8
                    refine jv_tIn (k := 8) (tgt := 157) hx hb dX4_count_1 i1 c1_8 (by decide) (by decide) rfl (by decide) ?_
                    refine lv_aload_n hx hb dX4_count_157 rfl (lv_at hl 0 rfl) ?_
                    refine va_get (D := D) (ci := 4) (v := .ref (ad (55 + 6 * 0))) (C := RX4) (T := TX4) (N := 8) hx hb hts hinX4 hown hK hP 74 (wL_get (by decide) (gX_x0 _)) rfl 1 (by decide) (hts (.fieldLink RX4 19 "VisitVans" "plan" "LVisitVans$Plan;") (List.mem_of_getElem? (i := 4) rfl)) (fun _ h => h) rfl dX4_count_158 ?_
                    refine lv_iconst (v := J 1) hx hb dX4_count_161 rfl ?_
                    obtain ⟨v15, qv15, hf⟩ := bnd_some hf
                    refine jc_i (va_runV (As := [.int (J 1)]) (rest := []) ⟨hx, hb, hml, hown, hts⟩ (kX2_sumOverVans l D ca v ad hI M hR 0 (by decide : 0 < 2) 1 (by decide : inR 1) v15 qv15) (cwV 1 hts gX4_count_X2_sumOverVans rfl rfl rfl (by decide +kernel) ⟨Nat.le_of_ble_eq_true rfl, Nat.le_of_ble_eq_true rfl⟩) (pvX hK hE hP hS [.int (J 1)] (by omega) (gX_p0 (by decide : 0 < 2) _) rfl) rfl rfl hl.1 rfl (lv_room (Nat.le_of_ble_eq_true rfl)) dX4_count_162 ⟨Nat.zero_le _, Nat.zero_le _⟩) hS (fun H locs t ht hφ hO hS => ?_)
                    have rv15 := hφ
                    have hP : va_P D vwCl (wX ca ad M) H := by rw [← ht]; exact hO
                    have e1 := Option.some.inj hf
                    exact jend_i hx hb hr rfl hS e1 (by rw [← e1]; exact rv15) (oX rfl hP) dX4_count_165 hlocks
                  · have hf := iten hf c1_8
                    by_cases c1_9 : a1 = 9
                    · have hf := itep hf c1_9
                      refine jv_tIn (k := 9) (tgt := 166) hx hb dX4_count_1 i1 c1_9 (by decide) (by decide) rfl (by decide) ?_
                      refine lv_aload_n hx hb dX4_count_166 rfl (lv_at hl 0 rfl) ?_
                      refine va_get (D := D) (ci := 4) (v := .ref (ad (55 + 6 * 0))) (C := RX4) (T := TX4) (N := 8) hx hb hts hinX4 hown hK hP 74 (wL_get (by decide) (gX_x0 _)) rfl 1 (by decide) (hts (.fieldLink RX4 19 "VisitVans" "plan" "LVisitVans$Plan;") (List.mem_of_getElem? (i := 4) rfl)) (fun _ h => h) rfl dX4_count_167 ?_
                      refine lv_iconst (v := J 2) hx hb dX4_count_170 rfl ?_
                      obtain ⟨v17, qv17, hf⟩ := bnd_some hf
                      refine jc_i (va_runV (As := [.int (J 2)]) (rest := []) ⟨hx, hb, hml, hown, hts⟩ (kX2_sumOverVans l D ca v ad hI M hR 0 (by decide : 0 < 2) 2 (by decide : inR 2) v17 qv17) (cwV 1 hts gX4_count_X2_sumOverVans rfl rfl rfl (by decide +kernel) ⟨Nat.le_of_ble_eq_true rfl, Nat.le_of_ble_eq_true rfl⟩) (pvX hK hE hP hS [.int (J 2)] (by omega) (gX_p0 (by decide : 0 < 2) _) rfl) rfl rfl hl.1 rfl (lv_room (Nat.le_of_ble_eq_true rfl)) dX4_count_171 ⟨Nat.zero_le _, Nat.zero_le _⟩) hS (fun H locs t ht hφ hO hS => ?_)
                      have rv17 := hφ
                      have hP : va_P D vwCl (wX ca ad M) H := by rw [← ht]; exact hO
                      have e1 := Option.some.inj hf
                      exact jend_i hx hb hr rfl hS e1 (by rw [← e1]; exact rv17) (oX rfl hP) dX4_count_174 hlocks
                    · have hf := iten hf c1_9
                      by_cases c1_10 : a1 = 10
                      · have hf := itep hf c1_10
                        refine jv_tIn (k := 10) (tgt := 175) hx hb dX4_count_1 i1 c1_10 (by decide) (by decide) rfl (by decide) ?_
                        refine lv_aload_n hx hb dX4_count_175 rfl (lv_at hl 0 rfl) ?_
                        refine va_get (D := D) (ci := 4) (v := .ref (ad (55 + 6 * 0))) (C := RX4) (T := TX4) (N := 8) hx hb hts hinX4 hown hK hP 74 (wL_get (by decide) (gX_x0 _)) rfl 1 (by decide) (hts (.fieldLink RX4 19 "VisitVans" "plan" "LVisitVans$Plan;") (List.mem_of_getElem? (i := 4) rfl)) (fun _ h => h) rfl dX4_count_176 ?_
                        obtain ⟨v19, qv19, hf⟩ := bnd_some hf
                        refine jc_i (va_runV (As := []) (rest := []) ⟨hx, hb, hml, hown, hts⟩ (kX2_lastFree l D ca v ad hI M hR 0 (by decide : 0 < 2) v19 qv19) (cwV 0 hts gX4_count_X2_lastFree rfl rfl rfl (by decide +kernel) ⟨Nat.le_of_ble_eq_true rfl, Nat.le_of_ble_eq_true rfl⟩) (pvX hK hE hP hS [] (by omega) (gX_p0 (by decide : 0 < 2) _) rfl) rfl rfl hl.1 rfl (lv_room (Nat.le_of_ble_eq_true rfl)) dX4_count_179 ⟨Nat.zero_le _, Nat.zero_le _⟩) hS (fun H locs t ht hφ hO hS => ?_)
                        have rv19 := hφ
                        have hP : va_P D vwCl (wX ca ad M) H := by rw [← ht]; exact hO
                        have e1 := Option.some.inj hf
                        exact jend_i hx hb hr rfl hS e1 (by rw [← e1]; exact rv19) (oX rfl hP) dX4_count_182 hlocks
                      · have hf := iten hf c1_10
                        by_cases c1_11 : a1 = 11
                        · have hf := itep hf c1_11
                          refine jv_tIn (k := 11) (tgt := 183) hx hb dX4_count_1 i1 c1_11 (by decide) (by decide) rfl (by decide) ?_
                          refine lv_aload_n hx hb dX4_count_183 rfl (lv_at hl 0 rfl) ?_
                          refine va_get (D := D) (ci := 4) (v := .ref (ad (5 * 0))) (C := RX4) (T := TX4) (N := 8) hx hb hts hinX4 hown hK hP 74 (wL_get (by decide) (gX_x0 _)) rfl 0 (by decide) (hts (.fieldLink RX4 12 "VisitVans" "road" "LVisitVans$Road;") (List.mem_of_getElem? (i := 1) rfl)) (fun _ h => h) rfl dX4_count_184 ?_
                          refine va_get (D := D) (ci := 3) (v := .ref (ad (5 * 0 + 1))) (C := RX3) (T := TX3) (N := 6) hx hb hts hinX3 hown hK hP (5 * 0) (wL_get (by omega) (gX_r0 (by decide : 0 < 11) _)) rfl 0 (by decide) (hts (.fieldLink RX4 132 "VisitVans$Road" "settings" "[I") (List.mem_of_getElem? (i := 5) rfl)) (fun _ h => h) rfl dX4_count_187 ?_
                          refine lv_iconst (v := J 0) hx hb dX4_count_190 rfl ?_
                          obtain ⟨v21, qv21, hf⟩ := bnd_some hf
                          obtain ⟨bv21, ev21⟩ := rd_some qv21
                          have rv21 : inR v21 := by rw [ev21]; exact hR _ _
                          refine jx_iald hx hb hK hP (5 * 0 + 1) 0 (by omega) (gX_r1 (by decide : 0 < 11)) rfl (by decide) bv21 ev21 dX4_count_191 ?_
                          have e1 := Option.some.inj hf
                          exact jend_i hx hb hr rfl hS e1 (by rw [← e1]; exact rv21) (oX rfl hP) dX4_count_192 hlocks
                        · have hf := iten hf c1_11
                          by_cases c1_12 : a1 = 12
                          · have hf := itep hf c1_12
                            refine jv_tIn (k := 12) (tgt := 193) hx hb dX4_count_1 i1 c1_12 (by decide) (by decide) rfl (by decide) ?_
                            refine lv_aload_n hx hb dX4_count_193 rfl (lv_at hl 0 rfl) ?_
                            refine va_get (D := D) (ci := 4) (v := .ref (ad (5 * 0))) (C := RX4) (T := TX4) (N := 8) hx hb hts hinX4 hown hK hP 74 (wL_get (by decide) (gX_x0 _)) rfl 0 (by decide) (hts (.fieldLink RX4 12 "VisitVans" "road" "LVisitVans$Road;") (List.mem_of_getElem? (i := 1) rfl)) (fun _ h => h) rfl dX4_count_194 ?_
                            refine va_get (D := D) (ci := 3) (v := .ref (ad (5 * 0 + 1))) (C := RX3) (T := TX3) (N := 6) hx hb hts hinX3 hown hK hP (5 * 0) (wL_get (by omega) (gX_r0 (by decide : 0 < 11) _)) rfl 0 (by decide) (hts (.fieldLink RX4 132 "VisitVans$Road" "settings" "[I") (List.mem_of_getElem? (i := 5) rfl)) (fun _ h => h) rfl dX4_count_197 ?_
                            refine lv_iconst (v := J 1) hx hb dX4_count_200 rfl ?_
                            obtain ⟨v22, qv22, hf⟩ := bnd_some hf
                            obtain ⟨bv22, ev22⟩ := rd_some qv22
                            have rv22 : inR v22 := by rw [ev22]; exact hR _ _
                            refine jx_iald hx hb hK hP (5 * 0 + 1) 0 (by omega) (gX_r1 (by decide : 0 < 11)) rfl (by decide) bv22 ev22 dX4_count_201 ?_
                            have e1 := Option.some.inj hf
                            exact jend_i hx hb hr rfl hS e1 (by rw [← e1]; exact rv22) (oX rfl hP) dX4_count_202 hlocks
                          · have hf := iten hf c1_12
                            by_cases c1_13 : a1 = 13
                            · have hf := itep hf c1_13
                              refine jv_tIn (k := 13) (tgt := 203) hx hb dX4_count_1 i1 c1_13 (by decide) (by decide) rfl (by decide) ?_
                              refine lv_aload_n hx hb dX4_count_203 rfl (lv_at hl 0 rfl) ?_
                              refine va_get (D := D) (ci := 4) (v := .ref (ad (5 * 0))) (C := RX4) (T := TX4) (N := 8) hx hb hts hinX4 hown hK hP 74 (wL_get (by decide) (gX_x0 _)) rfl 0 (by decide) (hts (.fieldLink RX4 12 "VisitVans" "road" "LVisitVans$Road;") (List.mem_of_getElem? (i := 1) rfl)) (fun _ h => h) rfl dX4_count_204 ?_
                              refine va_get (D := D) (ci := 3) (v := .ref (ad (5 * 0 + 1))) (C := RX3) (T := TX3) (N := 6) hx hb hts hinX3 hown hK hP (5 * 0) (wL_get (by omega) (gX_r0 (by decide : 0 < 11) _)) rfl 0 (by decide) (hts (.fieldLink RX4 132 "VisitVans$Road" "settings" "[I") (List.mem_of_getElem? (i := 5) rfl)) (fun _ h => h) rfl dX4_count_207 ?_
                              refine lv_iconst (v := J 2) hx hb dX4_count_210 rfl ?_
                              obtain ⟨v23, qv23, hf⟩ := bnd_some hf
                              obtain ⟨bv23, ev23⟩ := rd_some qv23
                              have rv23 : inR v23 := by rw [ev23]; exact hR _ _
                              refine jx_iald hx hb hK hP (5 * 0 + 1) 0 (by omega) (gX_r1 (by decide : 0 < 11)) rfl (by decide) bv23 ev23 dX4_count_211 ?_
                              have e1 := Option.some.inj hf
                              exact jend_i hx hb hr rfl hS e1 (by rw [← e1]; exact rv23) (oX rfl hP) dX4_count_212 hlocks
                            · have hf := iten hf c1_13
                              by_cases c1_14 : a1 = 14
                              · have hf := itep hf c1_14
                                refine jv_tIn (k := 14) (tgt := 213) hx hb dX4_count_1 i1 c1_14 (by decide) (by decide) rfl (by decide) ?_
                                refine lv_aload_n hx hb dX4_count_213 rfl (lv_at hl 0 rfl) ?_
                                refine va_get (D := D) (ci := 4) (v := .ref (ad 71)) (C := RX4) (T := TX4) (N := 8) hx hb hts hinX4 hown hK hP 74 (wL_get (by decide) (gX_x0 _)) rfl 7 (by decide) (hts (.fieldLink RX4 47 "VisitVans" "pad" "LVisitVans$Pad;") (List.mem_of_getElem? (i := 6) rfl)) (fun _ h => h) rfl dX4_count_214 ?_
                                refine va_get (D := D) (ci := 1) (v := .int (J (M 71 1))) (C := RX1) (T := TX1) (N := 6) hx hb hts hinX1 hown hK hP 71 (wL_get (by decide) (gX_d0 _)) rfl 1 (by decide) (hts (.fieldLink RX4 136 "VisitVans$Pad" "length" "I") (List.mem_of_getElem? (i := 7) rfl)) (fun _ h => h) rfl dX4_count_217 ?_
                                have e1 := Option.some.inj hf
                                exact jend_i hx hb hr rfl hS e1 (by rw [← e1]; exact (hR 71 1)) (oX rfl hP) dX4_count_220 hlocks
                              · have hf := iten hf c1_14
                                by_cases c1_15 : a1 = 15
                                · have hf := itep hf c1_15
                                  refine jv_tIn (k := 15) (tgt := 221) hx hb dX4_count_1 i1 c1_15 (by decide) (by decide) rfl (by decide) ?_
                                  refine lv_aload_n hx hb dX4_count_221 rfl (lv_at hl 0 rfl) ?_
                                  refine va_get (D := D) (ci := 4) (v := .ref (ad 67)) (C := RX4) (T := TX4) (N := 8) hx hb hts hinX4 hown hK hP 74 (wL_get (by decide) (gX_x0 _)) rfl 4 (by decide) (hts (.fieldLink RX4 32 "VisitVans" "history" "LVisitVans$History;") (List.mem_of_getElem? (i := 8) rfl)) (fun _ h => h) rfl dX4_count_222 ?_
                                  refine va_get (D := D) (ci := 0) (v := .int (J (M 67 2))) (C := RX0) (T := TX0) (N := 3) hx hb hts hinX0 hown hK hP 67 (wL_get (by decide) (gX_h0 _)) rfl 2 (by decide) (hts (.fieldLink RX4 139 "VisitVans$History" "many" "I") (List.mem_of_getElem? (i := 9) rfl)) (fun _ h => h) rfl dX4_count_225 ?_
                                  have e1 := Option.some.inj hf
                                  exact jend_i hx hb hr rfl hS e1 (by rw [← e1]; exact (hR 67 2)) (oX rfl hP) dX4_count_228 hlocks
                                · have hf := iten hf c1_15
                                  refine jv_tOut (tgt := 229) hx hb dX4_count_1 i1 (by omega) (by decide) ?_
                                  refine lv_bipush (v := J (-2)) hx hb dX4_count_229 (by decide +kernel) ?_
                                  have e1 := Option.some.inj hf
                                  exact jend_i hx hb hr rfl hS e1 (by rw [← e1]; exact (by decide : inR (-2))) (oX rfl hP) dX4_count_231 hlocks
def fX4_wanted_L13 : Nat → Int → Int → Int → MM → Option (Int)
  | 0, _, _, _, _ => none
  | n + 1, x1_4, x2_4, x3_4, M_4 => if (M_4 (5 * 0) 4) ≤ x3_4 then some x2_4 else bnd (fX2_outcome 0 x3_4 0 M_4) (fun v6 => bnd (if v6 = 3 then bnd (fX3_visitFact 0 x3_4 2 M_4) (fun v10 => if v10 = x1_4 then bnd (fX3_visitFact 0 x3_4 3 M_4) (fun v13 => gd (inR (x2_4 + v13)) (some ((x2_4 + v13)))) else some (x2_4)) else some (x2_4)) (fun y9_0 => gd (inR (x3_4 + 1)) (fX4_wanted_L13 n x1_4 y9_0 (x3_4 + 1) M_4)))
def fX4_wanted (a1 : Int) (M : MM) : Option (Int) := bnd (fX4_isPart a1) (fun v1 => if v1 = 0 then some (-1) else bnd (fX4_wanted_L13 4000 a1 0 0 M) (fun y4_0 => some y4_0))
set_option maxHeartbeats 4000000 in
set_option maxRecDepth 100000 in
theorem kX4_wanted (l : Launch) (D : va_G) (ca : Nat → ClassId) (v : EV) (ad : Nat → Nat) (hI : aInj 75 ad) (M : MM) (hR : RR M) (a1 : Int) (i1 : inR a1) (res : Int) (hf : fX4_wanted a1 M = some res) : CI l yX4_wanted wsX4_wanted 2 42 [.ref (ad 74), .int (J a1)] (PX D ca v ad M) res (inR res) (OX D ca ad M) (aS 75 ad) := by
  refine Met.ofW (cc := cX4_wanted) (maxL := 4) (ret := (some .int)) (by decide) rfl ?_
  intro p e s m args below meth c s₁ B hml hv
  obtain ⟨rfl, hP, hK, hE⟩ := hv
  have hx := B.exec
  have hb := B.bytes
  have hr := B.returns
  have hts := atoms_spec (ws := wsX4_wanted) B.pre
  have hown : s.vm.findClass RX4 = some m.cls := findClass_of_methodNamed B.named
  have hlocks := B.notSynchronized
  have hS : va_S (aS 75 ad) s.heap s.heap [] := va_S.rf
  have hinX3 : ∀ w ∈ wsX30, w ∈ wsX4_wanted := by decide +kernel
  have hinX4 : ∀ w ∈ wsX40, w ∈ wsX4_wanted := by decide +kernel
  have hl := lv_entry ([.ref (ad 74), .int (J a1)]) (n := 4) (Nat.le_of_ble_eq_true rfl)
  rw [lg_entry_eq]
  generalize (lg_sl ([.ref (ad 74), .int (J a1)]) ++ List.replicate (4 - (lg_sl ([.ref (ad 74), .int (J a1)])).length) Slot.unset).toArray = ls at hl ⊢
  have hl : lv_has ls 4 [(0, .ref (ad 74)), (1, .int (J a1))] := hl
  unfold fX4_wanted at hf
  refine lv_iload_n hx hb dX4_wanted_0 rfl (lv_at hl 1 rfl) ?_
  obtain ⟨v1, qv1, hf⟩ := bnd_some hf
  refine jc_i (va_runS (As := [.int (J a1)]) (rest := []) ⟨hx, hb, hml, hown, hts⟩ (kX4_isPart l D ca v ad hI M hR a1 i1 v1 qv1) (va_cwS 1 hts gX4_wanted_X4_isPart rfl rfl rfl (by decide +kernel) ⟨Nat.le_of_ble_eq_true rfl, Nat.le_of_ble_eq_true rfl⟩) (psX hK hE hP hS [.int (J a1)]) rfl rfl hl.1 rfl (lv_room (Nat.le_of_ble_eq_true rfl)) dX4_wanted_1 ⟨Nat.zero_le _, Nat.zero_le _⟩) hS (fun H locs t ht hφ hO hS => ?_)
  have rv1 := hφ
  have hP : va_P D vwCl (wX ca ad M) H := by rw [← ht]; exact hO
  refine jv_if_ne (tgt := 9) hx hb dX4_wanted_4 (by decide) rv1 (fun c3 => ?_) (fun c3 => ?_)
  · have hf := iten hf c3
    refine lv_iconst (v := J 0) hx hb dX4_wanted_9 rfl ?_
    refine lv_istore_n (lv' := [(2, .int (J 0)), (0, .ref (ad 74)), (1, .int (J a1))]) hx hb dX4_wanted_10 rfl hl (by decide) rfl (fun ls hl => ?_)
    refine lv_iconst (v := J 0) hx hb dX4_wanted_11 rfl ?_
    refine lv_istore_n (lv' := [(3, .int (J 0)), (2, .int (J 0)), (0, .ref (ad 74)), (1, .int (J a1))]) hx hb dX4_wanted_12 rfl hl (by decide) rfl (fun ls hl => ?_)
    obtain ⟨y4_0, h4, hf⟩ := bnd_some hf
    have K4 : ∀ (H : Heap) (locs : List Loc) (ls : Array Slot), inR y4_0 → va_P D vwCl (wX ca ad M) H → va_S (aS 75 ad) s.heap H locs → lv_has ls 4 [(2, .int (J y4_0))] → W p l e (headSpec wsX4_wanted (RmC 2 42)).room s m ([.ref (ad 74), .int (J a1)] : List Value).toArray below meth c H locs 0 0 (MQ below (va_Qi (fun x (_ : Unit) => x = J res ∧ (inR res)) (fun _ => (OX D ca ad M)) (aS 75 ad)) ([.ref (ad 74), .int (J a1)] : List Value).toArray s 0 0 (aS 75 ad)) (F0 m 68 ls []) := by
      intro H locs ls ry4_0 hP hS hl
      refine lv_iload_n hx hb dX4_wanted_68 rfl (lv_at hl 0 rfl) ?_
      have e1 := Option.some.inj hf
      exact jend_i hx hb hr rfl hS e1 (by rw [← e1]; exact ry4_0) (oX rfl hP) dX4_wanted_69 hlocks
    have hL4 : ∀ (n : Nat) (x1_4 : Int) (x2_4 : Int) (x3_4 : Int) (M_4 : MM) (H : Heap) (locs : List Loc) (ls : Array Slot), inR x1_4 → inR x2_4 → inR x3_4 → RR M_4 → x1_4 = a1 → M_4 = M → va_P D vwCl (wX ca ad M_4) H → va_S (aS 75 ad) s.heap H locs → lv_has ls 4 [(0, .ref (ad 74)), (1, .int (J x1_4)), (2, .int (J x2_4)), (3, .int (J x3_4))] → fX4_wanted_L13 n x1_4 x2_4 x3_4 M_4 = some y4_0 → W p l e (headSpec wsX4_wanted (RmC 2 42)).room s m ([.ref (ad 74), .int (J a1)] : List Value).toArray below meth c H locs 0 0 (MQ below (va_Qi (fun x (_ : Unit) => x = J res ∧ (inR res)) (fun _ => (OX D ca ad M)) (aS 75 ad)) ([.ref (ad 74), .int (J a1)] : List Value).toArray s 0 0 (aS 75 ad)) (F0 m 13 ls []) := by
      intro n
      induction n with
      | zero =>
        intro x1_4 x2_4 x3_4 M_4 H locs ls rx1_4 rx2_4 rx3_4 hRM_4 e_x1_4 e_M_4 hP hS hl hf
        rw [fX4_wanted_L13] at hf
        cases hf
      | succ n ih =>
        intro x1_4 x2_4 x3_4 M_4 H locs ls rx1_4 rx2_4 rx3_4 hRM_4 e_x1_4 e_M_4 hP hS hl hf
        rw [fX4_wanted_L13] at hf
        refine lv_iload_n hx hb dX4_wanted_13 rfl (lv_at hl 3 rfl) ?_
        refine lv_aload_n hx hb dX4_wanted_14 rfl (lv_at hl 0 rfl) ?_
        refine va_get (D := D) (ci := 4) (v := .ref (ad (5 * 0))) (C := RX4) (T := TX4) (N := 8) hx hb hts hinX4 hown hK hP 74 (wL_get (by decide) (gX_x0 _)) rfl 0 (by decide) (hts (.fieldLink RX4 12 "VisitVans" "road" "LVisitVans$Road;") (List.mem_of_getElem? (i := 1) rfl)) (fun _ h => h) rfl dX4_wanted_15 ?_
        refine va_get (D := D) (ci := 3) (v := .int (J (M_4 (5 * 0) 4))) (C := RX3) (T := TX3) (N := 6) hx hb hts hinX3 hown hK hP (5 * 0) (wL_get (by omega) (gX_r0 (by decide : 0 < 11) _)) rfl 4 (by decide) (hts (.fieldLink RX4 112 "VisitVans$Road" "visitCount" "I") (List.mem_of_getElem? (i := 2) rfl)) (fun _ h => h) rfl dX4_wanted_18 ?_
        refine jv_icmp_ge (tgt := 68) hx hb dX4_wanted_21 (by decide) rx3_4 (hRM_4 (5 * 0) 4) (fun c5 => ?_) (fun c5 => ?_)
        · have hf := itep hf c5
          cases hf
          exact K4 _ _ _ rx2_4  (e_M_4 ▸ hP) hS (lv_sub hl [2] (by subst e_x1_4; rfl))
        · have hf := iten hf c5
          refine lv_aload_n hx hb dX4_wanted_24 rfl (lv_at hl 0 rfl) ?_
          refine va_get (D := D) (ci := 4) (v := .ref (ad (55 + 6 * 0))) (C := RX4) (T := TX4) (N := 8) hx hb hts hinX4 hown hK hP 74 (wL_get (by decide) (gX_x0 _)) rfl 1 (by decide) (hts (.fieldLink RX4 19 "VisitVans" "plan" "LVisitVans$Plan;") (List.mem_of_getElem? (i := 3) rfl)) (fun _ h => h) rfl dX4_wanted_25 ?_
          refine lv_iload_n hx hb dX4_wanted_28 rfl (lv_at hl 3 rfl) ?_
          refine lv_iconst (v := J 0) hx hb dX4_wanted_29 rfl ?_
          obtain ⟨v6, qv6, hf⟩ := bnd_some hf
          refine jc_i (va_runV (As := [.int (J x3_4), .int (J 0)]) (rest := []) ⟨hx, hb, hml, hown, hts⟩ (kX2_outcome l D ca v ad hI M_4 hRM_4 0 (by decide : 0 < 2) x3_4 0 rx3_4 (by decide : inR 0) v6 qv6) (cwV 2 hts gX4_wanted_X2_outcome rfl rfl rfl (by decide +kernel) ⟨Nat.le_of_ble_eq_true rfl, Nat.le_of_ble_eq_true rfl⟩) (pvX hK hE hP hS [.int (J x3_4), .int (J 0)] (by omega) (gX_p0 (by decide : 0 < 2) _) rfl) rfl rfl hl.1 rfl (lv_room (Nat.le_of_ble_eq_true rfl)) dX4_wanted_30 ⟨Nat.zero_le _, Nat.zero_le _⟩) hS (fun H locs t ht hφ hO hS => ?_)
          have rv6 := hφ
          have hP : va_P D vwCl (wX ca ad M_4) H := by rw [← ht]; exact hO
          refine lv_iconst (v := J 3) hx hb dX4_wanted_33 rfl ?_
          obtain ⟨y9_0, h9, hf⟩ := bnd_some hf
          have K9 : ∀ (H : Heap) (locs : List Loc) (ls : Array Slot), inR y9_0 → va_P D vwCl (wX ca ad M_4) H → va_S (aS 75 ad) s.heap H locs → lv_has ls 4 [(0, .ref (ad 74)), (1, .int (J x1_4)), (2, .int (J y9_0)), (3, .int (J x3_4))] → W p l e (headSpec wsX4_wanted (RmC 2 42)).room s m ([.ref (ad 74), .int (J a1)] : List Value).toArray below meth c H locs 0 0 (MQ below (va_Qi (fun x (_ : Unit) => x = J res ∧ (inR res)) (fun _ => (OX D ca ad M)) (aS 75 ad)) ([.ref (ad 74), .int (J a1)] : List Value).toArray s 0 0 (aS 75 ad)) (F0 m 62 ls []) := by
            intro H locs ls ry9_0  hP hS hl
            refine lv_iinc (v := J (x3_4 + 1)) (lv' := [(3, .int (J (x3_4 + 1))), (0, .ref (ad 74)), (1, .int (J x1_4)), (2, .int (J y9_0))]) hx hb dX4_wanted_62 hl (k := 3) rfl (J_add _ _) (by decide) rfl (fun ls hl => ?_)
            refine lv_goto (tgt := 13) hx hb dX4_wanted_65 (by decide) ?_
            obtain ⟨g16, hf⟩ := gd_some hf
            exact ih _ _ _ _ _ _ _ rx1_4 ry9_0 g16 hRM_4 e_x1_4 e_M_4 hP hS (lv_sub hl [1, 2, 3, 0] rfl) hf
          have hf := h9
          clear h9
          refine jv_icmp_ne (tgt := 62) hx hb dX4_wanted_34 (by decide) rv6 (by decide : inR 3) (fun c8 => ?_) (fun c8 => ?_)
          · have hf := iten hf c8
            cases hf
            exact K9 _ _ _ rx2_4  hP hS (lv_sub hl [0, 1, 2, 3] rfl)
          · have hf := itep hf c8
            refine lv_aload_n hx hb dX4_wanted_37 rfl (lv_at hl 0 rfl) ?_
            refine va_get (D := D) (ci := 4) (v := .ref (ad (5 * 0))) (C := RX4) (T := TX4) (N := 8) hx hb hts hinX4 hown hK hP 74 (wL_get (by decide) (gX_x0 _)) rfl 0 (by decide) (hts (.fieldLink RX4 12 "VisitVans" "road" "LVisitVans$Road;") (List.mem_of_getElem? (i := 1) rfl)) (fun _ h => h) rfl dX4_wanted_38 ?_
            refine lv_iload_n hx hb dX4_wanted_41 rfl (lv_at hl 3 rfl) ?_
            refine lv_iconst (v := J 2) hx hb dX4_wanted_42 rfl ?_
            obtain ⟨v10, qv10, hf⟩ := bnd_some hf
            refine jc_i (va_runV (As := [.int (J x3_4), .int (J 2)]) (rest := []) ⟨hx, hb, hml, hown, hts⟩ (kX3_visitFact l D ca v ad hI M_4 hRM_4 0 (by decide : 0 < 11) x3_4 2 rx3_4 (by decide : inR 2) v10 qv10) (cwV 2 hts gX4_wanted_X3_visitFact rfl rfl rfl (by decide +kernel) ⟨Nat.le_of_ble_eq_true rfl, Nat.le_of_ble_eq_true rfl⟩) (pvX hK hE hP hS [.int (J x3_4), .int (J 2)] (by omega) (gX_r0 (by decide : 0 < 11) _) rfl) rfl rfl hl.1 rfl (lv_room (Nat.le_of_ble_eq_true rfl)) dX4_wanted_43 ⟨Nat.zero_le _, Nat.zero_le _⟩) hS (fun H locs t ht hφ hO hS => ?_)
            have rv10 := hφ
            have hP : va_P D vwCl (wX ca ad M_4) H := by rw [← ht]; exact hO
            refine lv_iload_n hx hb dX4_wanted_46 rfl (lv_at hl 1 rfl) ?_
            refine jv_icmp_ne (tgt := 62) hx hb dX4_wanted_47 (by decide) rv10 rx1_4 (fun c12 => ?_) (fun c12 => ?_)
            · have hf := iten hf c12
              cases hf
              exact K9 _ _ _ rx2_4  hP hS (lv_sub hl [0, 1, 2, 3] rfl)
            · have hf := itep hf c12
              refine lv_iload_n hx hb dX4_wanted_50 rfl (lv_at hl 2 rfl) ?_
              refine lv_aload_n hx hb dX4_wanted_51 rfl (lv_at hl 0 rfl) ?_
              refine va_get (D := D) (ci := 4) (v := .ref (ad (5 * 0))) (C := RX4) (T := TX4) (N := 8) hx hb hts hinX4 hown hK hP 74 (wL_get (by decide) (gX_x0 _)) rfl 0 (by decide) (hts (.fieldLink RX4 12 "VisitVans" "road" "LVisitVans$Road;") (List.mem_of_getElem? (i := 1) rfl)) (fun _ h => h) rfl dX4_wanted_52 ?_
              refine lv_iload_n hx hb dX4_wanted_55 rfl (lv_at hl 3 rfl) ?_
              refine lv_iconst (v := J 3) hx hb dX4_wanted_56 rfl ?_
              obtain ⟨v13, qv13, hf⟩ := bnd_some hf
              refine jc_i (va_runV (As := [.int (J x3_4), .int (J 3)]) (rest := [.int (J x2_4)]) ⟨hx, hb, hml, hown, hts⟩ (kX3_visitFact l D ca v ad hI M_4 hRM_4 0 (by decide : 0 < 11) x3_4 3 rx3_4 (by decide : inR 3) v13 qv13) (cwV 2 hts gX4_wanted_X3_visitFact rfl rfl rfl (by decide +kernel) ⟨Nat.le_of_ble_eq_true rfl, Nat.le_of_ble_eq_true rfl⟩) (pvX hK hE hP hS [.int (J x3_4), .int (J 3)] (by omega) (gX_r0 (by decide : 0 < 11) _) rfl) rfl rfl hl.1 rfl (lv_room (Nat.le_of_ble_eq_true rfl)) dX4_wanted_57 ⟨Nat.zero_le _, Nat.zero_le _⟩) hS (fun H locs t ht hφ hO hS => ?_)
              have rv13 := hφ
              have hP : va_P D vwCl (wX ca ad M_4) H := by rw [← ht]; exact hO
              refine jv_iadd hx hb dX4_wanted_60 ?_
              refine lv_istore_n (lv' := [(2, .int (J (x2_4 + v13))), (0, .ref (ad 74)), (1, .int (J x1_4)), (3, .int (J x3_4))]) hx hb dX4_wanted_61 rfl hl (by decide) rfl (fun ls hl => ?_)
              obtain ⟨g15, hf⟩ := gd_some hf
              cases hf
              exact K9 _ _ _ g15  hP hS (lv_sub hl [1, 2, 0, 3] rfl)
    exact hL4 4000 _ _ _ _ _ _ _ i1 (by decide : inR 0) (by decide : inR 0) hR rfl rfl hP hS (lv_sub hl [2, 3, 1, 0] rfl) h4
  · have hf := itep hf c3
    refine lv_iconst (v := J (-1)) hx hb dX4_wanted_7 rfl ?_
    have e1 := Option.some.inj hf
    exact jend_i hx hb hr rfl hS e1 (by rw [← e1]; exact (by decide : inR (-1))) (oX rfl hP) dX4_wanted_8 hlocks
def fX4_bitsOf_L14 : Nat → Int → Int → UInt64 → Int → Option (UInt64 × Int)
  | 0, _, _, _, _ => none
  | n + 1, x2_2, x3_2, x4_2, x6_2 => if ((Op.cmpValue (FP.dcmp x4_2 (4611686018427387904 : UInt64)) .l).toInt) < 0 then some (x4_2, x6_2) else gd (inR (2 * x3_2)) (if (2 * x3_2) ≤ x6_2 then some (x4_2, x6_2) else gd ((FP.ddiv x4_2 (4611686018427387904 : UInt64)) &&& 0x7fffffffffffffff ≤ 0x7ff0000000000000) (gd (inR (x6_2 + 1)) (fX4_bitsOf_L14 n x2_2 x3_2 (FP.ddiv x4_2 (4611686018427387904 : UInt64)) (x6_2 + 1))))
def fX4_bitsOf_L45 : Nat → Int → UInt64 → Int → Option (UInt64 × Int)
  | 0, _, _, _ => none
  | n + 1, x2_8, x4_8, x6_8 => if 0 ≤ ((Op.cmpValue (FP.dcmp x4_8 FP.dconst1) .g).toInt) then some (x4_8, x6_8) else if x6_8 ≤ 1 then some (x4_8, x6_8) else gd ((FP.dmul x4_8 (4611686018427387904 : UInt64)) &&& 0x7fffffffffffffff ≤ 0x7ff0000000000000) (gd (inR (x6_8 + (-1))) (fX4_bitsOf_L45 n x2_8 (FP.dmul x4_8 (4611686018427387904 : UInt64)) (x6_8 + (-1))))
def fX4_bitsOf (a1 : UInt64) (a2 : Int) (a3 : Int) : Option (Int64) := if 0 < ((Op.cmpValue (FP.dcmp a1 FP.dconst0) .g).toInt) then bnd2 (fX4_bitsOf_L14 4000 a2 a3 a1 a3) (fun y2_0 y2_1 => bnd2 (fX4_bitsOf_L45 4000 a2 y2_0 y2_1) (fun y8_0 y8_1 => gd ((FP.dsub y8_0 FP.dconst1) &&& 0x7fffffffffffffff ≤ 0x7ff0000000000000) (gd ((FP.dmul (FP.dsub y8_0 FP.dconst1) (FP.l2d (lshl (1 : Int64) a2))) &&& 0x7fffffffffffffff ≤ 0x7ff0000000000000) (some ((lshl (i2l y8_1) a2) ||| (FP.d2l (FP.dmul (FP.dsub y8_0 FP.dconst1) (FP.l2d (lshl (1 : Int64) a2))))))))) else some (0 : Int64)
set_option maxHeartbeats 4000000 in
set_option maxRecDepth 100000 in
theorem kX4_bitsOf (l : Launch) (D : va_G) (ca : Nat → ClassId) (v : EV) (ad : Nat → Nat) (hI : aInj 75 ad) (M : MM) (hR : RR M) (a1 : UInt64) (a2 : Int) (a3 : Int) (i2 : inR a2) (i3 : inR a3) (res : Int64) (hf : fX4_bitsOf a1 a2 a3 = some res) : CLg l yX4_bitsOf wsX4_bitsOf 0 0 [.double a1, .int (J a2), .int (J a3)] (PX D ca v ad M) res True (OX D ca ad M) (aS 75 ad) := by
  refine Met.ofW (cc := cX4_bitsOf) (maxL := 9) (ret := (some .long)) (by decide) rfl ?_
  intro p e s m args below meth c s₁ B hml hv
  obtain ⟨rfl, hP, hK, hE⟩ := hv
  have hx := B.exec
  have hb := B.bytes
  have hr := B.returns
  have hts := atoms_spec (ws := wsX4_bitsOf) B.pre
  have hown : s.vm.findClass RX4 = some m.cls := findClass_of_methodNamed B.named
  have hlocks := B.notSynchronized
  have hS : va_S (aS 75 ad) s.heap s.heap [] := va_S.rf
  have hl := lv_entry ([.double a1, .int (J a2), .int (J a3)]) (n := 9) (Nat.le_of_ble_eq_true rfl)
  rw [lg_entry_eq]
  generalize (lg_sl ([.double a1, .int (J a2), .int (J a3)]) ++ List.replicate (9 - (lg_sl ([.double a1, .int (J a2), .int (J a3)])).length) Slot.unset).toArray = ls at hl ⊢
  have hl : lv_has ls 9 [(0, .double a1), (2, .int (J a2)), (3, .int (J a3))] := hl
  unfold fX4_bitsOf at hf
  refine lv_dload_n hx hb dX4_bitsOf_0 rfl (lv_at hl 0 rfl) ?_
  refine lv_dconst0 hx hb dX4_bitsOf_1 ?_
  refine jv_dcmp hx hb dX4_bitsOf_2 ?_
  refine jv_if_gt (tgt := 8) hx hb dX4_bitsOf_3 (by decide) (J_inR _) (fun c1 => ?_) (fun c1 => ?_)
  · have hf := itep hf c1
    refine lv_dload_n hx hb dX4_bitsOf_8 rfl (lv_at hl 0 rfl) ?_
    refine lv_dstore (lv' := [(4, .double a1), (0, .double a1), (2, .int (J a2)), (3, .int (J a3))]) hx hb dX4_bitsOf_9 hl (by decide) rfl (fun ls hl => ?_)
    refine lv_iload_n hx hb dX4_bitsOf_11 rfl (lv_at hl 3 rfl) ?_
    refine lv_istore (lv' := [(6, .int (J a3)), (4, .double a1), (0, .double a1), (2, .int (J a2)), (3, .int (J a3))]) hx hb dX4_bitsOf_12 hl (by decide) rfl (fun ls hl => ?_)
    obtain ⟨y2_0, y2_1, h2, hf⟩ := bnd2_some hf
    have K2 : ∀ (H : Heap) (locs : List Loc) (ls : Array Slot), inR y2_1 → va_P D vwCl (wX ca ad M) H → va_S (aS 75 ad) s.heap H locs → lv_has ls 9 [(2, .int (J a2)), (4, .double y2_0), (6, .int (J y2_1))] → W p l e (headSpec wsX4_bitsOf (RmC 0 0)).room s m ([.double a1, .int (J a2), .int (J a3)] : List Value).toArray below meth c H locs 0 0 (MQ below (va_Ql (fun x (_ : Unit) => x = res ∧ True) (fun _ => (OX D ca ad M)) (aS 75 ad)) ([.double a1, .int (J a2), .int (J a3)] : List Value).toArray s 0 0 (aS 75 ad)) (F0 m 45 ls []) := by
      intro H locs ls ry2_1 hP hS hl
      obtain ⟨y8_0, y8_1, h8, hf⟩ := bnd2_some hf
      have K8 : ∀ (H : Heap) (locs : List Loc) (ls : Array Slot), inR y8_1 → va_P D vwCl (wX ca ad M) H → va_S (aS 75 ad) s.heap H locs → lv_has ls 9 [(2, .int (J a2)), (4, .double y8_0), (6, .int (J y8_1))] → W p l e (headSpec wsX4_bitsOf (RmC 0 0)).room s m ([.double a1, .int (J a2), .int (J a3)] : List Value).toArray below meth c H locs 0 0 (MQ below (va_Ql (fun x (_ : Unit) => x = res ∧ True) (fun _ => (OX D ca ad M)) (aS 75 ad)) ([.double a1, .int (J a2), .int (J a3)] : List Value).toArray s 0 0 (aS 75 ad)) (F0 m 72 ls []) := by
        intro H locs ls ry8_1 hP hS hl
        refine lv_dload hx hb dX4_bitsOf_72 (lv_at hl 1 rfl) ?_
        refine lv_dconst1 hx hb dX4_bitsOf_74 ?_
        obtain ⟨g13, hf⟩ := gd_some hf
        refine lv_dsub hx hb dX4_bitsOf_75 g13 ?_
        refine lv_lconst (v := 1) hx hb dX4_bitsOf_76 rfl ?_
        refine lv_iload_n hx hb dX4_bitsOf_77 rfl (lv_at hl 0 rfl) ?_
        refine jv_lshl hx hb dX4_bitsOf_78 ?_
        refine lv_l2d hx hb dX4_bitsOf_79 ?_
        obtain ⟨g14, hf⟩ := gd_some hf
        refine lv_dmul hx hb dX4_bitsOf_80 g14 ?_
        refine lv_d2l hx hb dX4_bitsOf_81 ?_
        refine lv_lstore (lv' := [(7, .long (FP.d2l (FP.dmul (FP.dsub y8_0 FP.dconst1) (FP.l2d (lshl (1 : Int64) a2))))), (2, .int (J a2)), (4, .double y8_0), (6, .int (J y8_1))]) hx hb dX4_bitsOf_82 hl (by decide) rfl (fun ls hl => ?_)
        refine lv_iload hx hb dX4_bitsOf_84 (lv_at hl 3 rfl) ?_
        refine jv_i2l hx hb dX4_bitsOf_86 ?_
        refine lv_iload_n hx hb dX4_bitsOf_87 rfl (lv_at hl 1 rfl) ?_
        refine jv_lshl hx hb dX4_bitsOf_88 ?_
        refine lv_lload hx hb dX4_bitsOf_89 (lv_at hl 0 rfl) ?_
        refine lv_lor hx hb dX4_bitsOf_91 ?_
        have e1 := Option.some.inj hf
        exact jend_l hx hb hr hS e1 trivial (oX rfl hP) dX4_bitsOf_92 hlocks
      have hL8 : ∀ (n : Nat) (x2_8 : Int) (x4_8 : UInt64) (x6_8 : Int) (H : Heap) (locs : List Loc) (ls : Array Slot), inR x2_8 → inR x6_8 → x2_8 = a2 → va_P D vwCl (wX ca ad M) H → va_S (aS 75 ad) s.heap H locs → lv_has ls 9 [(2, .int (J x2_8)), (4, .double x4_8), (6, .int (J x6_8))] → fX4_bitsOf_L45 n x2_8 x4_8 x6_8 = some (y8_0, y8_1) → W p l e (headSpec wsX4_bitsOf (RmC 0 0)).room s m ([.double a1, .int (J a2), .int (J a3)] : List Value).toArray below meth c H locs 0 0 (MQ below (va_Ql (fun x (_ : Unit) => x = res ∧ True) (fun _ => (OX D ca ad M)) (aS 75 ad)) ([.double a1, .int (J a2), .int (J a3)] : List Value).toArray s 0 0 (aS 75 ad)) (F0 m 45 ls []) := by
        intro n
        induction n with
        | zero =>
          intro x2_8 x4_8 x6_8 H locs ls rx2_8 rx6_8 e_x2_8 hP hS hl hf
          rw [fX4_bitsOf_L45] at hf
          cases hf
        | succ n ih =>
          intro x2_8 x4_8 x6_8 H locs ls rx2_8 rx6_8 e_x2_8 hP hS hl hf
          rw [fX4_bitsOf_L45] at hf
          refine lv_dload hx hb dX4_bitsOf_45 (lv_at hl 1 rfl) ?_
          refine lv_dconst1 hx hb dX4_bitsOf_47 ?_
          refine jv_dcmp hx hb dX4_bitsOf_48 ?_
          refine jv_if_ge (tgt := 72) hx hb dX4_bitsOf_49 (by decide) (J_inR _) (fun c9 => ?_) (fun c9 => ?_)
          · have hf := itep hf c9
            cases hf
            exact K8 _ _ _ rx6_8  hP hS (lv_sub hl [0, 1, 2] (by subst e_x2_8; rfl))
          · have hf := iten hf c9
            refine lv_iload hx hb dX4_bitsOf_52 (lv_at hl 2 rfl) ?_
            refine lv_iconst (v := J 1) hx hb dX4_bitsOf_54 rfl ?_
            refine jv_icmp_le (tgt := 72) hx hb dX4_bitsOf_55 (by decide) rx6_8 (by decide : inR 1) (fun c10 => ?_) (fun c10 => ?_)
            · have hf := itep hf c10
              cases hf
              exact K8 _ _ _ rx6_8  hP hS (lv_sub hl [0, 1, 2] (by subst e_x2_8; rfl))
            · have hf := iten hf c10
              refine lv_dload hx hb dX4_bitsOf_58 (lv_at hl 1 rfl) ?_
              refine lv_ldc2d (v := (4611686018427387904 : UInt64)) hx hb hown (hts (.constantDouble RX4 205 (4611686018427387904)) (List.mem_of_getElem? (i := 1) rfl)) dX4_bitsOf_60 ?_
              obtain ⟨g11, hf⟩ := gd_some hf
              refine lv_dmul hx hb dX4_bitsOf_63 g11 ?_
              refine lv_dstore (lv' := [(4, .double (FP.dmul x4_8 (4611686018427387904 : UInt64))), (2, .int (J x2_8)), (6, .int (J x6_8))]) hx hb dX4_bitsOf_64 hl (by decide) rfl (fun ls hl => ?_)
              refine lv_iinc (v := J (x6_8 + (-1))) (lv' := [(6, .int (J (x6_8 + (-1)))), (4, .double (FP.dmul x4_8 (4611686018427387904 : UInt64))), (2, .int (J x2_8))]) hx hb dX4_bitsOf_66 hl (k := 2) rfl (J_add _ _) (by decide) rfl (fun ls hl => ?_)
              refine lv_goto (tgt := 45) hx hb dX4_bitsOf_69 (by decide) ?_
              obtain ⟨g12, hf⟩ := gd_some hf
              exact ih _ _ _ _ _ _ rx2_8 g12  e_x2_8 hP hS (lv_sub hl [2, 1, 0] rfl) hf
      exact hL8 4000 _ _ _ _ _ _ i2 ry2_1  rfl hP hS (lv_sub hl [0, 1, 2] rfl) h8
    have hL2 : ∀ (n : Nat) (x2_2 : Int) (x3_2 : Int) (x4_2 : UInt64) (x6_2 : Int) (H : Heap) (locs : List Loc) (ls : Array Slot), inR x2_2 → inR x3_2 → inR x6_2 → x2_2 = a2 → x3_2 = a3 → va_P D vwCl (wX ca ad M) H → va_S (aS 75 ad) s.heap H locs → lv_has ls 9 [(2, .int (J x2_2)), (3, .int (J x3_2)), (4, .double x4_2), (6, .int (J x6_2))] → fX4_bitsOf_L14 n x2_2 x3_2 x4_2 x6_2 = some (y2_0, y2_1) → W p l e (headSpec wsX4_bitsOf (RmC 0 0)).room s m ([.double a1, .int (J a2), .int (J a3)] : List Value).toArray below meth c H locs 0 0 (MQ below (va_Ql (fun x (_ : Unit) => x = res ∧ True) (fun _ => (OX D ca ad M)) (aS 75 ad)) ([.double a1, .int (J a2), .int (J a3)] : List Value).toArray s 0 0 (aS 75 ad)) (F0 m 14 ls []) := by
      intro n
      induction n with
      | zero =>
        intro x2_2 x3_2 x4_2 x6_2 H locs ls rx2_2 rx3_2 rx6_2 e_x2_2 e_x3_2 hP hS hl hf
        rw [fX4_bitsOf_L14] at hf
        cases hf
      | succ n ih =>
        intro x2_2 x3_2 x4_2 x6_2 H locs ls rx2_2 rx3_2 rx6_2 e_x2_2 e_x3_2 hP hS hl hf
        rw [fX4_bitsOf_L14] at hf
        refine lv_dload hx hb dX4_bitsOf_14 (lv_at hl 2 rfl) ?_
        refine lv_ldc2d (v := (4611686018427387904 : UInt64)) hx hb hown (hts (.constantDouble RX4 205 (4611686018427387904)) (List.mem_of_getElem? (i := 1) rfl)) dX4_bitsOf_16 ?_
        refine jv_dcmp hx hb dX4_bitsOf_19 ?_
        refine jv_if_lt (tgt := 45) hx hb dX4_bitsOf_20 (by decide) (J_inR _) (fun c3 => ?_) (fun c3 => ?_)
        · have hf := itep hf c3
          cases hf
          exact K2 _ _ _ rx6_2  hP hS (lv_sub hl [0, 2, 3] (by subst e_x2_2; subst e_x3_2; rfl))
        · have hf := iten hf c3
          refine lv_iload hx hb dX4_bitsOf_23 (lv_at hl 3 rfl) ?_
          refine lv_iconst (v := J 2) hx hb dX4_bitsOf_25 rfl ?_
          refine lv_iload_n hx hb dX4_bitsOf_26 rfl (lv_at hl 1 rfl) ?_
          refine jv_imul hx hb dX4_bitsOf_27 ?_
          obtain ⟨g4, hf⟩ := gd_some hf
          refine jv_icmp_ge (tgt := 45) hx hb dX4_bitsOf_28 (by decide) rx6_2 g4 (fun c5 => ?_) (fun c5 => ?_)
          · have hf := itep hf c5
            cases hf
            exact K2 _ _ _ rx6_2  hP hS (lv_sub hl [0, 2, 3] (by subst e_x2_2; subst e_x3_2; rfl))
          · have hf := iten hf c5
            refine lv_dload hx hb dX4_bitsOf_31 (lv_at hl 2 rfl) ?_
            refine lv_ldc2d (v := (4611686018427387904 : UInt64)) hx hb hown (hts (.constantDouble RX4 205 (4611686018427387904)) (List.mem_of_getElem? (i := 1) rfl)) dX4_bitsOf_33 ?_
            obtain ⟨g6, hf⟩ := gd_some hf
            refine lv_ddiv hx hb dX4_bitsOf_36 g6 ?_
            refine lv_dstore (lv' := [(4, .double (FP.ddiv x4_2 (4611686018427387904 : UInt64))), (2, .int (J x2_2)), (3, .int (J x3_2)), (6, .int (J x6_2))]) hx hb dX4_bitsOf_37 hl (by decide) rfl (fun ls hl => ?_)
            refine lv_iinc (v := J (x6_2 + 1)) (lv' := [(6, .int (J (x6_2 + 1))), (4, .double (FP.ddiv x4_2 (4611686018427387904 : UInt64))), (2, .int (J x2_2)), (3, .int (J x3_2))]) hx hb dX4_bitsOf_39 hl (k := 3) rfl (J_add _ _) (by decide) rfl (fun ls hl => ?_)
            refine lv_goto (tgt := 14) hx hb dX4_bitsOf_42 (by decide) ?_
            obtain ⟨g7, hf⟩ := gd_some hf
            exact ih _ _ _ _ _ _ _ rx2_2 rx3_2 g7  e_x2_2 e_x3_2 hP hS (lv_sub hl [2, 3, 1, 0] rfl) hf
    exact hL2 4000 _ _ _ _ _ _ _ i2 i3 i3  rfl rfl hP hS (lv_sub hl [3, 4, 1, 0] rfl) h2
  · have hf := iten hf c1
    refine lv_lconst (v := 0) hx hb dX4_bitsOf_6 rfl ?_
    have e1 := Option.some.inj hf
    exact jend_l hx hb hr hS e1 trivial (oX rfl hP) dX4_bitsOf_7 hlocks
def fX4_share (M : MM) : Option (Int) := if (M (5 * 0) 4) = 0 then some (-6) else bnd (fX2_visitsMade 0 M) (fun v2 => gd ((FP.fdiv (FP.i2f (J v2)) (FP.i2f (J (M (5 * 0) 4)))) &&& 0x7fffffff ≤ 0x7f800000) (gd ((FP.f2d (FP.fdiv (FP.i2f (J v2)) (FP.i2f (J (M (5 * 0) 4))))) &&& 0x7fffffffffffffff ≤ 0x7ff0000000000000) (bnd (fX4_bitsOf (FP.f2d (FP.fdiv (FP.i2f (J v2)) (FP.i2f (J (M (5 * 0) 4))))) 23 127) (fun v6 => some (l2i v6)))))
set_option maxHeartbeats 4000000 in
set_option maxRecDepth 100000 in
theorem kX4_share (l : Launch) (D : va_G) (ca : Nat → ClassId) (v : EV) (ad : Nat → Nat) (hI : aInj 75 ad) (M : MM) (hR : RR M) (res : Int) (hf : fX4_share M = some res) : CI l yX4_share wsX4_share 3 65 [.ref (ad 74)] (PX D ca v ad M) res (inR res) (OX D ca ad M) (aS 75 ad) := by
  refine Met.ofW (cc := cX4_share) (maxL := 2) (ret := (some .int)) (by decide) rfl ?_
  intro p e s m args below meth c s₁ B hml hv
  obtain ⟨rfl, hP, hK, hE⟩ := hv
  have hx := B.exec
  have hb := B.bytes
  have hr := B.returns
  have hts := atoms_spec (ws := wsX4_share) B.pre
  have hown : s.vm.findClass RX4 = some m.cls := findClass_of_methodNamed B.named
  have hlocks := B.notSynchronized
  have hS : va_S (aS 75 ad) s.heap s.heap [] := va_S.rf
  have hinX3 : ∀ w ∈ wsX30, w ∈ wsX4_share := by decide +kernel
  have hinX4 : ∀ w ∈ wsX40, w ∈ wsX4_share := by decide +kernel
  have hl := lv_entry ([.ref (ad 74)]) (n := 2) (Nat.le_of_ble_eq_true rfl)
  rw [lg_entry_eq]
  generalize (lg_sl ([.ref (ad 74)]) ++ List.replicate (2 - (lg_sl ([.ref (ad 74)])).length) Slot.unset).toArray = ls at hl ⊢
  have hl : lv_has ls 2 [(0, .ref (ad 74))] := hl
  unfold fX4_share at hf
  refine lv_aload_n hx hb dX4_share_0 rfl (lv_at hl 0 rfl) ?_
  refine va_get (D := D) (ci := 4) (v := .ref (ad (5 * 0))) (C := RX4) (T := TX4) (N := 8) hx hb hts hinX4 hown hK hP 74 (wL_get (by decide) (gX_x0 _)) rfl 0 (by decide) (hts (.fieldLink RX4 12 "VisitVans" "road" "LVisitVans$Road;") (List.mem_of_getElem? (i := 1) rfl)) (fun _ h => h) rfl dX4_share_1 ?_
  refine va_get (D := D) (ci := 3) (v := .int (J (M (5 * 0) 4))) (C := RX3) (T := TX3) (N := 6) hx hb hts hinX3 hown hK hP (5 * 0) (wL_get (by omega) (gX_r0 (by decide : 0 < 11) _)) rfl 4 (by decide) (hts (.fieldLink RX4 112 "VisitVans$Road" "visitCount" "I") (List.mem_of_getElem? (i := 2) rfl)) (fun _ h => h) rfl dX4_share_4 ?_
  refine jv_if_ne (tgt := 13) hx hb dX4_share_7 (by decide) (hR (5 * 0) 4) (fun c1 => ?_) (fun c1 => ?_)
  · have hf := iten hf c1
    refine lv_aload_n hx hb dX4_share_13 rfl (lv_at hl 0 rfl) ?_
    refine va_get (D := D) (ci := 4) (v := .ref (ad (55 + 6 * 0))) (C := RX4) (T := TX4) (N := 8) hx hb hts hinX4 hown hK hP 74 (wL_get (by decide) (gX_x0 _)) rfl 1 (by decide) (hts (.fieldLink RX4 19 "VisitVans" "plan" "LVisitVans$Plan;") (List.mem_of_getElem? (i := 3) rfl)) (fun _ h => h) rfl dX4_share_14 ?_
    obtain ⟨v2, qv2, hf⟩ := bnd_some hf
    refine jc_i (va_runV (As := []) (rest := []) ⟨hx, hb, hml, hown, hts⟩ (kX2_visitsMade l D ca v ad hI M hR 0 (by decide : 0 < 2) v2 qv2) (cwV 0 hts gX4_share_X2_visitsMade rfl rfl rfl (by decide +kernel) ⟨Nat.le_of_ble_eq_true rfl, Nat.le_of_ble_eq_true rfl⟩) (pvX hK hE hP hS [] (by omega) (gX_p0 (by decide : 0 < 2) _) rfl) rfl rfl hl.1 rfl (lv_room (Nat.le_of_ble_eq_true rfl)) dX4_share_17 ⟨Nat.zero_le _, Nat.zero_le _⟩) hS (fun H locs t ht hφ hO hS => ?_)
    have rv2 := hφ
    have hP : va_P D vwCl (wX ca ad M) H := by rw [← ht]; exact hO
    refine lv_i2f hx hb dX4_share_20 ?_
    refine lv_aload_n hx hb dX4_share_21 rfl (lv_at hl 0 rfl) ?_
    refine va_get (D := D) (ci := 4) (v := .ref (ad (5 * 0))) (C := RX4) (T := TX4) (N := 8) hx hb hts hinX4 hown hK hP 74 (wL_get (by decide) (gX_x0 _)) rfl 0 (by decide) (hts (.fieldLink RX4 12 "VisitVans" "road" "LVisitVans$Road;") (List.mem_of_getElem? (i := 1) rfl)) (fun _ h => h) rfl dX4_share_22 ?_
    refine va_get (D := D) (ci := 3) (v := .int (J (M (5 * 0) 4))) (C := RX3) (T := TX3) (N := 6) hx hb hts hinX3 hown hK hP (5 * 0) (wL_get (by omega) (gX_r0 (by decide : 0 < 11) _)) rfl 4 (by decide) (hts (.fieldLink RX4 112 "VisitVans$Road" "visitCount" "I") (List.mem_of_getElem? (i := 2) rfl)) (fun _ h => h) rfl dX4_share_25 ?_
    refine lv_i2f hx hb dX4_share_28 ?_
    obtain ⟨g4, hf⟩ := gd_some hf
    refine lv_fdiv hx hb dX4_share_29 g4 ?_
    refine lv_fstore_n (lv' := [(1, .float (FP.fdiv (FP.i2f (J v2)) (FP.i2f (J (M (5 * 0) 4))))), (0, .ref (ad 74))]) hx hb dX4_share_30 rfl hl (by decide) rfl (fun ls hl => ?_)
    refine lv_fload_n hx hb dX4_share_31 rfl (lv_at hl 0 rfl) ?_
    obtain ⟨g5, hf⟩ := gd_some hf
    refine lv_f2d hx hb dX4_share_32 g5 ?_
    refine lv_bipush (v := J 23) hx hb dX4_share_33 (by decide +kernel) ?_
    refine lv_bipush (v := J 127) hx hb dX4_share_35 (by decide +kernel) ?_
    obtain ⟨v6, qv6, hf⟩ := bnd_some hf
    refine jc_l (va_runS (As := [.double (FP.f2d (FP.fdiv (FP.i2f (J v2)) (FP.i2f (J (M (5 * 0) 4))))), .int (J 23), .int (J 127)]) (rest := []) ⟨hx, hb, hml, hown, hts⟩ (kX4_bitsOf l D ca v ad hI M hR (FP.f2d (FP.fdiv (FP.i2f (J v2)) (FP.i2f (J (M (5 * 0) 4))))) 23 127 (by decide : inR 23) (by decide : inR 127) v6 qv6) (va_cwS 3 hts gX4_share_X4_bitsOf rfl rfl rfl (by decide +kernel) ⟨Nat.le_of_ble_eq_true rfl, Nat.le_of_ble_eq_true rfl⟩) (psX hK hE hP hS [.double (FP.f2d (FP.fdiv (FP.i2f (J v2)) (FP.i2f (J (M (5 * 0) 4))))), .int (J 23), .int (J 127)]) rfl rfl hl.1 rfl (lv_room (Nat.le_of_ble_eq_true rfl)) dX4_share_37 ⟨Nat.zero_le _, Nat.zero_le _⟩) hS (fun H locs t ht hφ hO hS => ?_)
    have rv6 := hφ
    have hP : va_P D vwCl (wX ca ad M) H := by rw [← ht]; exact hO
    refine jv_l2i hx hb dX4_share_40 ?_
    have e1 := Option.some.inj hf
    exact jend_i hx hb hr rfl hS e1 (by rw [← e1]; exact (J_inR _)) (oX rfl hP) dX4_share_41 hlocks
  · have hf := itep hf c1
    refine lv_bipush (v := J (-6)) hx hb dX4_share_10 (by decide +kernel) ?_
    have e1 := Option.some.inj hf
    exact jend_i hx hb hr rfl hS e1 (by rw [← e1]; exact (by decide : inR (-6))) (oX rfl hP) dX4_share_12 hlocks
def fX4_meanWay (a1 : Int) (M : MM) : Option (Int64) := if a1 = 0 then bnd (fX2_visitsMade 0 M) (fun v2 => if v2 = 0 then some (0 : Int64) else bnd (fX2_sumOverVans 0 1 M) (fun v5 => gd ((FP.ddiv (FP.i2d (J v5)) (FP.i2d (J v2))) &&& 0x7fffffffffffffff ≤ 0x7ff0000000000000) (bnd (if a1 = 0 then some ((FP.ddiv (FP.i2d (J v5)) (FP.i2d (J v2)))) else gd ((FP.dsub (FP.ddiv (FP.i2d (J v5)) (FP.i2d (J v2))) (FP.l2d (FP.d2l (FP.ddiv (FP.i2d (J v5)) (FP.i2d (J v2)))))) &&& 0x7fffffffffffffff ≤ 0x7ff0000000000000) (some ((FP.dsub (FP.ddiv (FP.i2d (J v5)) (FP.i2d (J v2))) (FP.l2d (FP.d2l (FP.ddiv (FP.i2d (J v5)) (FP.i2d (J v2))))))))) (fun y9_0 => bnd (fX4_bitsOf y9_0 52 1023) (fun v11 => some v11))))) else if a1 = 1 then bnd (fX2_visitsMade 0 M) (fun v14 => if v14 = 0 then some (0 : Int64) else bnd (fX2_sumOverVans 0 1 M) (fun v17 => gd ((FP.ddiv (FP.i2d (J v17)) (FP.i2d (J v14))) &&& 0x7fffffffffffffff ≤ 0x7ff0000000000000) (bnd (if a1 = 0 then some ((FP.ddiv (FP.i2d (J v17)) (FP.i2d (J v14)))) else gd ((FP.dsub (FP.ddiv (FP.i2d (J v17)) (FP.i2d (J v14))) (FP.l2d (FP.d2l (FP.ddiv (FP.i2d (J v17)) (FP.i2d (J v14)))))) &&& 0x7fffffffffffffff ≤ 0x7ff0000000000000) (some ((FP.dsub (FP.ddiv (FP.i2d (J v17)) (FP.i2d (J v14))) (FP.l2d (FP.d2l (FP.ddiv (FP.i2d (J v17)) (FP.i2d (J v14))))))))) (fun y21_0 => bnd (fX4_bitsOf y21_0 52 1023) (fun v23 => some v23))))) else some (-2 : Int64)
set_option maxHeartbeats 4000000 in
set_option maxRecDepth 100000 in
theorem kX4_meanWay (l : Launch) (D : va_G) (ca : Nat → ClassId) (v : EV) (ad : Nat → Nat) (hI : aInj 75 ad) (M : MM) (hR : RR M) (a1 : Int) (i1 : inR a1) (res : Int64) (hf : fX4_meanWay a1 M = some res) : CLg l yX4_meanWay wsX4_meanWay 3 65 [.ref (ad 74), .int (J a1)] (PX D ca v ad M) res True (OX D ca ad M) (aS 75 ad) := by
  refine Met.ofW (cc := cX4_meanWay) (maxL := 7) (ret := (some .long)) (by decide) rfl ?_
  intro p e s m args below meth c s₁ B hml hv
  obtain ⟨rfl, hP, hK, hE⟩ := hv
  have hx := B.exec
  have hb := B.bytes
  have hr := B.returns
  have hts := atoms_spec (ws := wsX4_meanWay) B.pre
  have hown : s.vm.findClass RX4 = some m.cls := findClass_of_methodNamed B.named
  have hlocks := B.notSynchronized
  have hS : va_S (aS 75 ad) s.heap s.heap [] := va_S.rf
  have hinX4 : ∀ w ∈ wsX40, w ∈ wsX4_meanWay := by decide +kernel
  have hl := lv_entry ([.ref (ad 74), .int (J a1)]) (n := 7) (Nat.le_of_ble_eq_true rfl)
  rw [lg_entry_eq]
  generalize (lg_sl ([.ref (ad 74), .int (J a1)]) ++ List.replicate (7 - (lg_sl ([.ref (ad 74), .int (J a1)])).length) Slot.unset).toArray = ls at hl ⊢
  have hl : lv_has ls 7 [(0, .ref (ad 74)), (1, .int (J a1))] := hl
  unfold fX4_meanWay at hf
  refine lv_iload_n hx hb dX4_meanWay_0 rfl (lv_at hl 1 rfl) ?_
  refine jv_if_eq (tgt := 13) hx hb dX4_meanWay_1 (by decide) i1 (fun c1 => ?_) (fun c1 => ?_)
  · have hf := itep hf c1
    refine lv_aload_n hx hb dX4_meanWay_13 rfl (lv_at hl 0 rfl) ?_
    refine va_get (D := D) (ci := 4) (v := .ref (ad (55 + 6 * 0))) (C := RX4) (T := TX4) (N := 8) hx hb hts hinX4 hown hK hP 74 (wL_get (by decide) (gX_x0 _)) rfl 1 (by decide) (hts (.fieldLink RX4 19 "VisitVans" "plan" "LVisitVans$Plan;") (List.mem_of_getElem? (i := 2) rfl)) (fun _ h => h) rfl dX4_meanWay_14 ?_
    obtain ⟨v2, qv2, hf⟩ := bnd_some hf
    refine jc_i (va_runV (As := []) (rest := []) ⟨hx, hb, hml, hown, hts⟩ (kX2_visitsMade l D ca v ad hI M hR 0 (by decide : 0 < 2) v2 qv2) (cwV 0 hts gX4_meanWay_X2_visitsMade rfl rfl rfl (by decide +kernel) ⟨Nat.le_of_ble_eq_true rfl, Nat.le_of_ble_eq_true rfl⟩) (pvX hK hE hP hS [] (by omega) (gX_p0 (by decide : 0 < 2) _) rfl) rfl rfl hl.1 rfl (lv_room (Nat.le_of_ble_eq_true rfl)) dX4_meanWay_17 ⟨Nat.zero_le _, Nat.zero_le _⟩) hS (fun H locs t ht hφ hO hS => ?_)
    have rv2 := hφ
    have hP : va_P D vwCl (wX ca ad M) H := by rw [← ht]; exact hO
    refine lv_istore_n (lv' := [(2, .int (J v2)), (0, .ref (ad 74)), (1, .int (J a1))]) hx hb dX4_meanWay_20 rfl hl (by decide) rfl (fun ls hl => ?_)
    refine lv_iload_n hx hb dX4_meanWay_21 rfl (lv_at hl 0 rfl) ?_
    refine jv_if_ne (tgt := 27) hx hb dX4_meanWay_22 (by decide) rv2 (fun c4 => ?_) (fun c4 => ?_)
    · have hf := iten hf c4
      refine lv_aload_n hx hb dX4_meanWay_27 rfl (lv_at hl 1 rfl) ?_
      refine va_get (D := D) (ci := 4) (v := .ref (ad (55 + 6 * 0))) (C := RX4) (T := TX4) (N := 8) hx hb hts hinX4 hown hK hP 74 (wL_get (by decide) (gX_x0 _)) rfl 1 (by decide) (hts (.fieldLink RX4 19 "VisitVans" "plan" "LVisitVans$Plan;") (List.mem_of_getElem? (i := 2) rfl)) (fun _ h => h) rfl dX4_meanWay_28 ?_
      refine lv_iconst (v := J 1) hx hb dX4_meanWay_31 rfl ?_
      obtain ⟨v5, qv5, hf⟩ := bnd_some hf
      refine jc_i (va_runV (As := [.int (J 1)]) (rest := []) ⟨hx, hb, hml, hown, hts⟩ (kX2_sumOverVans l D ca v ad hI M hR 0 (by decide : 0 < 2) 1 (by decide : inR 1) v5 qv5) (cwV 1 hts gX4_meanWay_X2_sumOverVans rfl rfl rfl (by decide +kernel) ⟨Nat.le_of_ble_eq_true rfl, Nat.le_of_ble_eq_true rfl⟩) (pvX hK hE hP hS [.int (J 1)] (by omega) (gX_p0 (by decide : 0 < 2) _) rfl) rfl rfl hl.1 rfl (lv_room (Nat.le_of_ble_eq_true rfl)) dX4_meanWay_32 ⟨Nat.zero_le _, Nat.zero_le _⟩) hS (fun H locs t ht hφ hO hS => ?_)
      have rv5 := hφ
      have hP : va_P D vwCl (wX ca ad M) H := by rw [← ht]; exact hO
      refine lv_i2d hx hb dX4_meanWay_35 ?_
      refine lv_iload_n hx hb dX4_meanWay_36 rfl (lv_at hl 0 rfl) ?_
      refine lv_i2d hx hb dX4_meanWay_37 ?_
      obtain ⟨g7, hf⟩ := gd_some hf
      refine lv_ddiv hx hb dX4_meanWay_38 g7 ?_
      refine lv_dstore_n (lv' := [(3, .double (FP.ddiv (FP.i2d (J v5)) (FP.i2d (J v2)))), (2, .int (J v2)), (0, .ref (ad 74)), (1, .int (J a1))]) hx hb dX4_meanWay_39 rfl hl (by decide) rfl (fun ls hl => ?_)
      refine lv_iload_n hx hb dX4_meanWay_40 rfl (lv_at hl 3 rfl) ?_
      obtain ⟨y9_0, h9, hf⟩ := bnd_some hf
      have K9 : ∀ (H : Heap) (locs : List Loc) (ls : Array Slot), va_P D vwCl (wX ca ad M) H → va_S (aS 75 ad) s.heap H locs → lv_has ls 7 [] → W p l e (headSpec wsX4_meanWay (RmC 3 65)).room s m ([.ref (ad 74), .int (J a1)] : List Value).toArray below meth c H locs 0 0 (MQ below (va_Ql (fun x (_ : Unit) => x = res ∧ True) (fun _ => (OX D ca ad M)) (aS 75 ad)) ([.ref (ad 74), .int (J a1)] : List Value).toArray s 0 0 (aS 75 ad)) (F0 m 53 ls [.double y9_0]) := by
        intro H locs ls  hP hS hl
        refine lv_dstore (lv' := [(5, .double y9_0)]) hx hb dX4_meanWay_53 hl (by decide) rfl (fun ls hl => ?_)
        refine lv_dload hx hb dX4_meanWay_55 (lv_at hl 0 rfl) ?_
        refine lv_bipush (v := J 52) hx hb dX4_meanWay_57 (by decide +kernel) ?_
        refine lv_sipush (v := J 1023) hx hb dX4_meanWay_59 (by decide +kernel) ?_
        obtain ⟨v11, qv11, hf⟩ := bnd_some hf
        refine jc_l (va_runS (As := [.double y9_0, .int (J 52), .int (J 1023)]) (rest := []) ⟨hx, hb, hml, hown, hts⟩ (kX4_bitsOf l D ca v ad hI M hR y9_0 52 1023 (by decide : inR 52) (by decide : inR 1023) v11 qv11) (va_cwS 3 hts gX4_meanWay_X4_bitsOf rfl rfl rfl (by decide +kernel) ⟨Nat.le_of_ble_eq_true rfl, Nat.le_of_ble_eq_true rfl⟩) (psX hK hE hP hS [.double y9_0, .int (J 52), .int (J 1023)]) rfl rfl hl.1 rfl (lv_room (Nat.le_of_ble_eq_true rfl)) dX4_meanWay_62 ⟨Nat.zero_le _, Nat.zero_le _⟩) hS (fun H locs t ht hφ hO hS => ?_)
        have rv11 := hφ
        have hP : va_P D vwCl (wX ca ad M) H := by rw [← ht]; exact hO
        have e1 := Option.some.inj hf
        exact jend_l hx hb hr hS e1 trivial (oX rfl hP) dX4_meanWay_65 hlocks
      have hf := h9
      clear h9
      refine jv_if_ne (tgt := 48) hx hb dX4_meanWay_41 (by decide) i1 (fun c8 => ?_) (fun c8 => ?_)
      · have hf := iten hf c8
        refine lv_dload_n hx hb dX4_meanWay_48 rfl (lv_at hl 0 rfl) ?_
        refine lv_dload_n hx hb dX4_meanWay_49 rfl (lv_at hl 0 rfl) ?_
        refine lv_d2l hx hb dX4_meanWay_50 ?_
        refine lv_l2d hx hb dX4_meanWay_51 ?_
        obtain ⟨g10, hf⟩ := gd_some hf
        refine lv_dsub hx hb dX4_meanWay_52 g10 ?_
        cases hf
        exact K9 _ _ _  hP hS (lv_sub hl [] rfl)
      · have hf := itep hf c8
        refine lv_dload_n hx hb dX4_meanWay_44 rfl (lv_at hl 0 rfl) ?_
        refine lv_goto (tgt := 53) hx hb dX4_meanWay_45 (by decide) ?_
        cases hf
        exact K9 _ _ _  hP hS (lv_sub hl [] rfl)
    · have hf := itep hf c4
      refine lv_lconst (v := 0) hx hb dX4_meanWay_25 rfl ?_
      have e1 := Option.some.inj hf
      exact jend_l hx hb hr hS e1 trivial (oX rfl hP) dX4_meanWay_26 hlocks
  · have hf := iten hf c1
    refine lv_iload_n hx hb dX4_meanWay_4 rfl (lv_at hl 1 rfl) ?_
    refine lv_iconst (v := J 1) hx hb dX4_meanWay_5 rfl ?_
    refine jv_icmp_eq (tgt := 13) hx hb dX4_meanWay_6 (by decide) i1 (by decide : inR 1) (fun c13 => ?_) (fun c13 => ?_)
    · have hf := itep hf c13
      refine lv_aload_n hx hb dX4_meanWay_13 rfl (lv_at hl 0 rfl) ?_
      refine va_get (D := D) (ci := 4) (v := .ref (ad (55 + 6 * 0))) (C := RX4) (T := TX4) (N := 8) hx hb hts hinX4 hown hK hP 74 (wL_get (by decide) (gX_x0 _)) rfl 1 (by decide) (hts (.fieldLink RX4 19 "VisitVans" "plan" "LVisitVans$Plan;") (List.mem_of_getElem? (i := 2) rfl)) (fun _ h => h) rfl dX4_meanWay_14 ?_
      obtain ⟨v14, qv14, hf⟩ := bnd_some hf
      refine jc_i (va_runV (As := []) (rest := []) ⟨hx, hb, hml, hown, hts⟩ (kX2_visitsMade l D ca v ad hI M hR 0 (by decide : 0 < 2) v14 qv14) (cwV 0 hts gX4_meanWay_X2_visitsMade rfl rfl rfl (by decide +kernel) ⟨Nat.le_of_ble_eq_true rfl, Nat.le_of_ble_eq_true rfl⟩) (pvX hK hE hP hS [] (by omega) (gX_p0 (by decide : 0 < 2) _) rfl) rfl rfl hl.1 rfl (lv_room (Nat.le_of_ble_eq_true rfl)) dX4_meanWay_17 ⟨Nat.zero_le _, Nat.zero_le _⟩) hS (fun H locs t ht hφ hO hS => ?_)
      have rv14 := hφ
      have hP : va_P D vwCl (wX ca ad M) H := by rw [← ht]; exact hO
      refine lv_istore_n (lv' := [(2, .int (J v14)), (0, .ref (ad 74)), (1, .int (J a1))]) hx hb dX4_meanWay_20 rfl hl (by decide) rfl (fun ls hl => ?_)
      refine lv_iload_n hx hb dX4_meanWay_21 rfl (lv_at hl 0 rfl) ?_
      refine jv_if_ne (tgt := 27) hx hb dX4_meanWay_22 (by decide) rv14 (fun c16 => ?_) (fun c16 => ?_)
      · have hf := iten hf c16
        refine lv_aload_n hx hb dX4_meanWay_27 rfl (lv_at hl 1 rfl) ?_
        refine va_get (D := D) (ci := 4) (v := .ref (ad (55 + 6 * 0))) (C := RX4) (T := TX4) (N := 8) hx hb hts hinX4 hown hK hP 74 (wL_get (by decide) (gX_x0 _)) rfl 1 (by decide) (hts (.fieldLink RX4 19 "VisitVans" "plan" "LVisitVans$Plan;") (List.mem_of_getElem? (i := 2) rfl)) (fun _ h => h) rfl dX4_meanWay_28 ?_
        refine lv_iconst (v := J 1) hx hb dX4_meanWay_31 rfl ?_
        obtain ⟨v17, qv17, hf⟩ := bnd_some hf
        refine jc_i (va_runV (As := [.int (J 1)]) (rest := []) ⟨hx, hb, hml, hown, hts⟩ (kX2_sumOverVans l D ca v ad hI M hR 0 (by decide : 0 < 2) 1 (by decide : inR 1) v17 qv17) (cwV 1 hts gX4_meanWay_X2_sumOverVans rfl rfl rfl (by decide +kernel) ⟨Nat.le_of_ble_eq_true rfl, Nat.le_of_ble_eq_true rfl⟩) (pvX hK hE hP hS [.int (J 1)] (by omega) (gX_p0 (by decide : 0 < 2) _) rfl) rfl rfl hl.1 rfl (lv_room (Nat.le_of_ble_eq_true rfl)) dX4_meanWay_32 ⟨Nat.zero_le _, Nat.zero_le _⟩) hS (fun H locs t ht hφ hO hS => ?_)
        have rv17 := hφ
        have hP : va_P D vwCl (wX ca ad M) H := by rw [← ht]; exact hO
        refine lv_i2d hx hb dX4_meanWay_35 ?_
        refine lv_iload_n hx hb dX4_meanWay_36 rfl (lv_at hl 0 rfl) ?_
        refine lv_i2d hx hb dX4_meanWay_37 ?_
        obtain ⟨g19, hf⟩ := gd_some hf
        refine lv_ddiv hx hb dX4_meanWay_38 g19 ?_
        refine lv_dstore_n (lv' := [(3, .double (FP.ddiv (FP.i2d (J v17)) (FP.i2d (J v14)))), (2, .int (J v14)), (0, .ref (ad 74)), (1, .int (J a1))]) hx hb dX4_meanWay_39 rfl hl (by decide) rfl (fun ls hl => ?_)
        refine lv_iload_n hx hb dX4_meanWay_40 rfl (lv_at hl 3 rfl) ?_
        obtain ⟨y21_0, h21, hf⟩ := bnd_some hf
        have K21 : ∀ (H : Heap) (locs : List Loc) (ls : Array Slot), va_P D vwCl (wX ca ad M) H → va_S (aS 75 ad) s.heap H locs → lv_has ls 7 [] → W p l e (headSpec wsX4_meanWay (RmC 3 65)).room s m ([.ref (ad 74), .int (J a1)] : List Value).toArray below meth c H locs 0 0 (MQ below (va_Ql (fun x (_ : Unit) => x = res ∧ True) (fun _ => (OX D ca ad M)) (aS 75 ad)) ([.ref (ad 74), .int (J a1)] : List Value).toArray s 0 0 (aS 75 ad)) (F0 m 53 ls [.double y21_0]) := by
          intro H locs ls  hP hS hl
          refine lv_dstore (lv' := [(5, .double y21_0)]) hx hb dX4_meanWay_53 hl (by decide) rfl (fun ls hl => ?_)
          refine lv_dload hx hb dX4_meanWay_55 (lv_at hl 0 rfl) ?_
          refine lv_bipush (v := J 52) hx hb dX4_meanWay_57 (by decide +kernel) ?_
          refine lv_sipush (v := J 1023) hx hb dX4_meanWay_59 (by decide +kernel) ?_
          obtain ⟨v23, qv23, hf⟩ := bnd_some hf
          refine jc_l (va_runS (As := [.double y21_0, .int (J 52), .int (J 1023)]) (rest := []) ⟨hx, hb, hml, hown, hts⟩ (kX4_bitsOf l D ca v ad hI M hR y21_0 52 1023 (by decide : inR 52) (by decide : inR 1023) v23 qv23) (va_cwS 3 hts gX4_meanWay_X4_bitsOf rfl rfl rfl (by decide +kernel) ⟨Nat.le_of_ble_eq_true rfl, Nat.le_of_ble_eq_true rfl⟩) (psX hK hE hP hS [.double y21_0, .int (J 52), .int (J 1023)]) rfl rfl hl.1 rfl (lv_room (Nat.le_of_ble_eq_true rfl)) dX4_meanWay_62 ⟨Nat.zero_le _, Nat.zero_le _⟩) hS (fun H locs t ht hφ hO hS => ?_)
          have rv23 := hφ
          have hP : va_P D vwCl (wX ca ad M) H := by rw [← ht]; exact hO
          have e1 := Option.some.inj hf
          exact jend_l hx hb hr hS e1 trivial (oX rfl hP) dX4_meanWay_65 hlocks
        have hf := h21
        clear h21
        refine jv_if_ne (tgt := 48) hx hb dX4_meanWay_41 (by decide) i1 (fun c20 => ?_) (fun c20 => ?_)
        · have hf := iten hf c20
          refine lv_dload_n hx hb dX4_meanWay_48 rfl (lv_at hl 0 rfl) ?_
          refine lv_dload_n hx hb dX4_meanWay_49 rfl (lv_at hl 0 rfl) ?_
          refine lv_d2l hx hb dX4_meanWay_50 ?_
          refine lv_l2d hx hb dX4_meanWay_51 ?_
          obtain ⟨g22, hf⟩ := gd_some hf
          refine lv_dsub hx hb dX4_meanWay_52 g22 ?_
          cases hf
          exact K21 _ _ _  hP hS (lv_sub hl [] rfl)
        · have hf := itep hf c20
          refine lv_dload_n hx hb dX4_meanWay_44 rfl (lv_at hl 0 rfl) ?_
          refine lv_goto (tgt := 53) hx hb dX4_meanWay_45 (by decide) ?_
          cases hf
          exact K21 _ _ _  hP hS (lv_sub hl [] rfl)
      · have hf := itep hf c16
        refine lv_lconst (v := 0) hx hb dX4_meanWay_25 rfl ?_
        have e1 := Option.some.inj hf
        exact jend_l hx hb hr hS e1 trivial (oX rfl hP) dX4_meanWay_26 hlocks
    · have hf := iten hf c13
      refine lv_ldc2 (v := (-2 : Int64)) hx hb hown (hts (.constantLong RX4 146 (-2)) (List.mem_of_getElem? (i := 1) rfl)) dX4_meanWay_9 ?_
      have e1 := Option.some.inj hf
      exact jend_l hx hb hr hS e1 trivial (oX rfl hP) dX4_meanWay_12 hlocks
def fX4_would (a1 : Int) (a2 : Int) (a3 : Int) (a4 : Int) (a5 : Int) (a6 : Int) (M : MM) : Option (Int × MM) := bnd (fX4_visitError a1 a2 a3 a4 a5 a6) (fun v1 => if v1 = 0 then bnd (fX3_copyFrom 1 0 M) (fun M5 => bnd2 (fX3_putVisit 1 a1 a2 a3 a4 a5 a6 M5) (fun v6 M7 => bnd (fX2_make 1 1 M7) (fun M9 => bnd (fX2_outcome 1 v6 0 M9) (fun v10 => some (v10, M9))))) else some (v1, M))
set_option maxHeartbeats 4000000 in
set_option maxRecDepth 100000 in
theorem kX4_would (l : Launch) (D : va_G) (ca : Nat → ClassId) (v : EV) (ad : Nat → Nat) (hI : aInj 75 ad) (M : MM) (hR : RR M) (a1 : Int) (a2 : Int) (a3 : Int) (a4 : Int) (a5 : Int) (a6 : Int) (i1 : inR a1) (i2 : inR a2) (i3 : inR a3) (i4 : inR a4) (i5 : inR a5) (i6 : inR a6) (res : Int) (M' : MM) (hf : fX4_would a1 a2 a3 a4 a5 a6 M = some (res, M')) : CI l yX4_would wsX4_would 5 126 [.ref (ad 74), .int (J a1), .int (J a2), .int (J a3), .int (J a4), .int (J a5), .int (J a6)] (PX D ca v ad M) res (inR res ∧ RR M') (OX D ca ad M') (aS 75 ad) := by
  refine Met.ofW (cc := cX4_would) (maxL := 9) (ret := (some .int)) (by decide) rfl ?_
  intro p e s m args below meth c s₁ B hml hv
  obtain ⟨rfl, hP, hK, hE⟩ := hv
  have hx := B.exec
  have hb := B.bytes
  have hr := B.returns
  have hts := atoms_spec (ws := wsX4_would) B.pre
  have hown : s.vm.findClass RX4 = some m.cls := findClass_of_methodNamed B.named
  have hlocks := B.notSynchronized
  have hS : va_S (aS 75 ad) s.heap s.heap [] := va_S.rf
  have hinX4 : ∀ w ∈ wsX40, w ∈ wsX4_would := by decide +kernel
  have hl := lv_entry ([.ref (ad 74), .int (J a1), .int (J a2), .int (J a3), .int (J a4), .int (J a5), .int (J a6)]) (n := 9) (Nat.le_of_ble_eq_true rfl)
  rw [lg_entry_eq]
  generalize (lg_sl ([.ref (ad 74), .int (J a1), .int (J a2), .int (J a3), .int (J a4), .int (J a5), .int (J a6)]) ++ List.replicate (9 - (lg_sl ([.ref (ad 74), .int (J a1), .int (J a2), .int (J a3), .int (J a4), .int (J a5), .int (J a6)])).length) Slot.unset).toArray = ls at hl ⊢
  have hl : lv_has ls 9 [(0, .ref (ad 74)), (1, .int (J a1)), (2, .int (J a2)), (3, .int (J a3)), (4, .int (J a4)), (5, .int (J a5)), (6, .int (J a6))] := hl
  unfold fX4_would at hf
  refine lv_iload_n hx hb dX4_would_0 rfl (lv_at hl 1 rfl) ?_
  refine lv_iload_n hx hb dX4_would_1 rfl (lv_at hl 2 rfl) ?_
  refine lv_iload_n hx hb dX4_would_2 rfl (lv_at hl 3 rfl) ?_
  refine lv_iload hx hb dX4_would_3 (lv_at hl 4 rfl) ?_
  refine lv_iload hx hb dX4_would_5 (lv_at hl 5 rfl) ?_
  refine lv_iload hx hb dX4_would_7 (lv_at hl 6 rfl) ?_
  obtain ⟨v1, qv1, hf⟩ := bnd_some hf
  refine jc_i (va_runS (As := [.int (J a1), .int (J a2), .int (J a3), .int (J a4), .int (J a5), .int (J a6)]) (rest := []) ⟨hx, hb, hml, hown, hts⟩ (kX4_visitError l D ca v ad hI M hR a1 a2 a3 a4 a5 a6 i1 i2 i3 i4 i5 i6 v1 qv1) (va_cwS 6 hts gX4_would_X4_visitError rfl rfl rfl (by decide +kernel) ⟨Nat.le_of_ble_eq_true rfl, Nat.le_of_ble_eq_true rfl⟩) (psX hK hE hP hS [.int (J a1), .int (J a2), .int (J a3), .int (J a4), .int (J a5), .int (J a6)]) rfl rfl hl.1 rfl (lv_room (Nat.le_of_ble_eq_true rfl)) dX4_would_9 ⟨Nat.zero_le _, Nat.zero_le _⟩) hS (fun H locs t ht hφ hO hS => ?_)
  have rv1 := hφ
  have hP : va_P D vwCl (wX ca ad M) H := by rw [← ht]; exact hO
  refine lv_istore (lv' := [(7, .int (J v1)), (0, .ref (ad 74)), (1, .int (J a1)), (2, .int (J a2)), (3, .int (J a3)), (4, .int (J a4)), (5, .int (J a5)), (6, .int (J a6))]) hx hb dX4_would_12 hl (by decide) rfl (fun ls hl => ?_)
  refine lv_iload hx hb dX4_would_14 (lv_at hl 0 rfl) ?_
  refine jv_if_eq (tgt := 22) hx hb dX4_would_16 (by decide) rv1 (fun c3 => ?_) (fun c3 => ?_)
  · have hf := itep hf c3
    refine lv_aload_n hx hb dX4_would_22 rfl (lv_at hl 1 rfl) ?_
    refine va_get (D := D) (ci := 4) (v := .ref (ad (5 * 1))) (C := RX4) (T := TX4) (N := 8) hx hb hts hinX4 hown hK hP 74 (wL_get (by decide) (gX_x0 _)) rfl 2 (by decide) (hts (.fieldLink RX4 23 "VisitVans" "trialRoad" "LVisitVans$Road;") (List.mem_of_getElem? (i := 1) rfl)) (fun _ h => h) rfl dX4_would_23 ?_
    refine lv_aload_n hx hb dX4_would_26 rfl (lv_at hl 1 rfl) ?_
    refine va_get (D := D) (ci := 4) (v := .ref (ad (5 * 0))) (C := RX4) (T := TX4) (N := 8) hx hb hts hinX4 hown hK hP 74 (wL_get (by decide) (gX_x0 _)) rfl 0 (by decide) (hts (.fieldLink RX4 12 "VisitVans" "road" "LVisitVans$Road;") (List.mem_of_getElem? (i := 2) rfl)) (fun _ h => h) rfl dX4_would_27 ?_
    obtain ⟨M5, qM5, hf⟩ := bnd_some hf
    refine jc_v (va_runV (As := [.ref (ad (5 * 0))]) (rest := []) ⟨hx, hb, hml, hown, hts⟩ (kX3_copyFrom l D ca v ad hI M hR 1 (by decide : 1 < 11) 0 (by decide : 0 < 11) M5 qM5) (cwV 1 hts gX4_would_X3_copyFrom rfl rfl rfl (by decide +kernel) ⟨Nat.le_of_ble_eq_true rfl, Nat.le_of_ble_eq_true rfl⟩) (pvX hK hE hP hS [.ref (ad (5 * 0))] (by omega) (gX_r0 (by decide : 1 < 11) _) rfl) rfl rfl hl.1 rfl (lv_room (Nat.le_of_ble_eq_true rfl)) dX4_would_30 ⟨Nat.zero_le _, Nat.zero_le _⟩) hS (fun H locs t ht hφ hO hS => ?_)
    have hRM5 := hφ
    have hP : va_P D vwCl (wX ca ad M5) H := by rw [← ht]; exact hO
    refine lv_aload_n hx hb dX4_would_33 rfl (lv_at hl 1 rfl) ?_
    refine va_get (D := D) (ci := 4) (v := .ref (ad (5 * 1))) (C := RX4) (T := TX4) (N := 8) hx hb hts hinX4 hown hK hP 74 (wL_get (by decide) (gX_x0 _)) rfl 2 (by decide) (hts (.fieldLink RX4 23 "VisitVans" "trialRoad" "LVisitVans$Road;") (List.mem_of_getElem? (i := 1) rfl)) (fun _ h => h) rfl dX4_would_34 ?_
    refine lv_iload_n hx hb dX4_would_37 rfl (lv_at hl 2 rfl) ?_
    refine lv_iload_n hx hb dX4_would_38 rfl (lv_at hl 3 rfl) ?_
    refine lv_iload_n hx hb dX4_would_39 rfl (lv_at hl 4 rfl) ?_
    refine lv_iload hx hb dX4_would_40 (lv_at hl 5 rfl) ?_
    refine lv_iload hx hb dX4_would_42 (lv_at hl 6 rfl) ?_
    refine lv_iload hx hb dX4_would_44 (lv_at hl 7 rfl) ?_
    obtain ⟨v6, M7, qv6, hf⟩ := bnd2_some hf
    refine jc_i (va_runV (As := [.int (J a1), .int (J a2), .int (J a3), .int (J a4), .int (J a5), .int (J a6)]) (rest := []) ⟨hx, hb, hml, hown, hts⟩ (kX3_putVisit l D ca v ad hI M5 hRM5 1 (by decide : 1 < 11) a1 a2 a3 a4 a5 a6 i1 i2 i3 i4 i5 i6 v6 M7 qv6) (cwV 6 hts gX4_would_X3_putVisit rfl rfl rfl (by decide +kernel) ⟨Nat.le_of_ble_eq_true rfl, Nat.le_of_ble_eq_true rfl⟩) (pvX hK hE hP hS [.int (J a1), .int (J a2), .int (J a3), .int (J a4), .int (J a5), .int (J a6)] (by omega) (gX_r0 (by decide : 1 < 11) _) rfl) rfl rfl hl.1 rfl (lv_room (Nat.le_of_ble_eq_true rfl)) dX4_would_46 ⟨Nat.zero_le _, Nat.zero_le _⟩) hS (fun H locs t ht hφ hO hS => ?_)
    obtain ⟨rv6, hRM7⟩ := hφ
    have hP : va_P D vwCl (wX ca ad M7) H := by rw [← ht]; exact hO
    refine lv_istore (lv' := [(8, .int (J v6)), (7, .int (J v1)), (0, .ref (ad 74)), (1, .int (J a1)), (2, .int (J a2)), (3, .int (J a3)), (4, .int (J a4)), (5, .int (J a5)), (6, .int (J a6))]) hx hb dX4_would_49 hl (by decide) rfl (fun ls hl => ?_)
    refine lv_aload_n hx hb dX4_would_51 rfl (lv_at hl 2 rfl) ?_
    refine va_get (D := D) (ci := 4) (v := .ref (ad (55 + 6 * 1))) (C := RX4) (T := TX4) (N := 8) hx hb hts hinX4 hown hK hP 74 (wL_get (by decide) (gX_x0 _)) rfl 3 (by decide) (hts (.fieldLink RX4 26 "VisitVans" "trialPlan" "LVisitVans$Plan;") (List.mem_of_getElem? (i := 3) rfl)) (fun _ h => h) rfl dX4_would_52 ?_
    refine lv_aload_n hx hb dX4_would_55 rfl (lv_at hl 2 rfl) ?_
    refine va_get (D := D) (ci := 4) (v := .ref (ad (5 * 1))) (C := RX4) (T := TX4) (N := 8) hx hb hts hinX4 hown hK hP 74 (wL_get (by decide) (gX_x0 _)) rfl 2 (by decide) (hts (.fieldLink RX4 23 "VisitVans" "trialRoad" "LVisitVans$Road;") (List.mem_of_getElem? (i := 1) rfl)) (fun _ h => h) rfl dX4_would_56 ?_
    obtain ⟨M9, qM9, hf⟩ := bnd_some hf
    refine jc_v (va_runV (As := [.ref (ad (5 * 1))]) (rest := []) ⟨hx, hb, hml, hown, hts⟩ (kX2_make l D ca v ad hI M7 hRM7 1 (by decide : 1 < 2) 1 (by decide : 1 < 11) M9 qM9) (cwV 1 hts gX4_would_X2_make rfl rfl rfl (by decide +kernel) ⟨Nat.le_of_ble_eq_true rfl, Nat.le_of_ble_eq_true rfl⟩) (pvX hK hE hP hS [.ref (ad (5 * 1))] (by omega) (gX_p0 (by decide : 1 < 2) _) rfl) rfl rfl hl.1 rfl (lv_room (Nat.le_of_ble_eq_true rfl)) dX4_would_59 ⟨Nat.zero_le _, Nat.zero_le _⟩) hS (fun H locs t ht hφ hO hS => ?_)
    have hRM9 := hφ
    have hP : va_P D vwCl (wX ca ad M9) H := by rw [← ht]; exact hO
    refine lv_aload_n hx hb dX4_would_62 rfl (lv_at hl 2 rfl) ?_
    refine va_get (D := D) (ci := 4) (v := .ref (ad (55 + 6 * 1))) (C := RX4) (T := TX4) (N := 8) hx hb hts hinX4 hown hK hP 74 (wL_get (by decide) (gX_x0 _)) rfl 3 (by decide) (hts (.fieldLink RX4 26 "VisitVans" "trialPlan" "LVisitVans$Plan;") (List.mem_of_getElem? (i := 3) rfl)) (fun _ h => h) rfl dX4_would_63 ?_
    refine lv_iload hx hb dX4_would_66 (lv_at hl 0 rfl) ?_
    refine lv_iconst (v := J 0) hx hb dX4_would_68 rfl ?_
    obtain ⟨v10, qv10, hf⟩ := bnd_some hf
    refine jc_i (va_runV (As := [.int (J v6), .int (J 0)]) (rest := []) ⟨hx, hb, hml, hown, hts⟩ (kX2_outcome l D ca v ad hI M9 hRM9 1 (by decide : 1 < 2) v6 0 rv6 (by decide : inR 0) v10 qv10) (cwV 2 hts gX4_would_X2_outcome rfl rfl rfl (by decide +kernel) ⟨Nat.le_of_ble_eq_true rfl, Nat.le_of_ble_eq_true rfl⟩) (pvX hK hE hP hS [.int (J v6), .int (J 0)] (by omega) (gX_p0 (by decide : 1 < 2) _) rfl) rfl rfl hl.1 rfl (lv_room (Nat.le_of_ble_eq_true rfl)) dX4_would_69 ⟨Nat.zero_le _, Nat.zero_le _⟩) hS (fun H locs t ht hφ hO hS => ?_)
    have rv10 := hφ
    have hP : va_P D vwCl (wX ca ad M9) H := by rw [← ht]; exact hO
    obtain ⟨e1, e2⟩ := Prod.mk.inj (Option.some.inj hf)
    exact jend_i hx hb hr rfl hS e1 ⟨by rw [← e1]; exact rv10, by rw [← e2]; exact hRM9⟩ (oX e2 hP) dX4_would_72 hlocks
  · have hf := iten hf c3
    refine lv_iload hx hb dX4_would_19 (lv_at hl 0 rfl) ?_
    obtain ⟨e1, e2⟩ := Prod.mk.inj (Option.some.inj hf)
    exact jend_i hx hb hr rfl hS e1 ⟨by rw [← e1]; exact rv1, by rw [← e2]; exact hR⟩ (oX e2 hP) dX4_would_21 hlocks
def fX4_withVan_L30 : Nat → Int → Int → MM → Option (MM)
  | 0, _, _, _ => none
  | n + 1, x3_6, x4_6, M_6 => if 5 ≤ x4_6 then some M_6 else bnd2 (fX3_changeStock 1 x3_6 x4_6 99 M_6) (fun v8 M9 => gd (inR (x4_6 + 1)) (fX4_withVan_L30 n x3_6 (x4_6 + 1) M9))
def fX4_withVan (a1 : Int) (a2 : Int) (M : MM) : Option (Int × MM) := bnd (fX3_copyFrom 1 0 M) (fun M2 => bnd2 (fX3_addVan 1 a1 a2 M2) (fun v3 M4 => if 0 ≤ v3 then bnd (fX4_withVan_L30 4000 v3 0 M4) (fun N_6 => bnd (fX2_make 1 1 N_6) (fun M12 => bnd (fX2_visitsMade 1 M12) (fun v13 => some (v13, M12)))) else some (v3, M4)))
set_option maxHeartbeats 4000000 in
set_option maxRecDepth 100000 in
theorem kX4_withVan (l : Launch) (D : va_G) (ca : Nat → ClassId) (v : EV) (ad : Nat → Nat) (hI : aInj 75 ad) (M : MM) (hR : RR M) (a1 : Int) (a2 : Int) (i1 : inR a1) (i2 : inR a2) (res : Int) (M' : MM) (hf : fX4_withVan a1 a2 M = some (res, M')) : CI l yX4_withVan wsX4_withVan 5 126 [.ref (ad 74), .int (J a1), .int (J a2)] (PX D ca v ad M) res (inR res ∧ RR M') (OX D ca ad M') (aS 75 ad) := by
  refine Met.ofW (cc := cX4_withVan) (maxL := 5) (ret := (some .int)) (by decide) rfl ?_
  intro p e s m args below meth c s₁ B hml hv
  obtain ⟨rfl, hP, hK, hE⟩ := hv
  have hx := B.exec
  have hb := B.bytes
  have hr := B.returns
  have hts := atoms_spec (ws := wsX4_withVan) B.pre
  have hown : s.vm.findClass RX4 = some m.cls := findClass_of_methodNamed B.named
  have hlocks := B.notSynchronized
  have hS : va_S (aS 75 ad) s.heap s.heap [] := va_S.rf
  have hinX4 : ∀ w ∈ wsX40, w ∈ wsX4_withVan := by decide +kernel
  have hl := lv_entry ([.ref (ad 74), .int (J a1), .int (J a2)]) (n := 5) (Nat.le_of_ble_eq_true rfl)
  rw [lg_entry_eq]
  generalize (lg_sl ([.ref (ad 74), .int (J a1), .int (J a2)]) ++ List.replicate (5 - (lg_sl ([.ref (ad 74), .int (J a1), .int (J a2)])).length) Slot.unset).toArray = ls at hl ⊢
  have hl : lv_has ls 5 [(0, .ref (ad 74)), (1, .int (J a1)), (2, .int (J a2))] := hl
  unfold fX4_withVan at hf
  refine lv_aload_n hx hb dX4_withVan_0 rfl (lv_at hl 0 rfl) ?_
  refine va_get (D := D) (ci := 4) (v := .ref (ad (5 * 1))) (C := RX4) (T := TX4) (N := 8) hx hb hts hinX4 hown hK hP 74 (wL_get (by decide) (gX_x0 _)) rfl 2 (by decide) (hts (.fieldLink RX4 23 "VisitVans" "trialRoad" "LVisitVans$Road;") (List.mem_of_getElem? (i := 1) rfl)) (fun _ h => h) rfl dX4_withVan_1 ?_
  refine lv_aload_n hx hb dX4_withVan_4 rfl (lv_at hl 0 rfl) ?_
  refine va_get (D := D) (ci := 4) (v := .ref (ad (5 * 0))) (C := RX4) (T := TX4) (N := 8) hx hb hts hinX4 hown hK hP 74 (wL_get (by decide) (gX_x0 _)) rfl 0 (by decide) (hts (.fieldLink RX4 12 "VisitVans" "road" "LVisitVans$Road;") (List.mem_of_getElem? (i := 2) rfl)) (fun _ h => h) rfl dX4_withVan_5 ?_
  obtain ⟨M2, qM2, hf⟩ := bnd_some hf
  refine jc_v (va_runV (As := [.ref (ad (5 * 0))]) (rest := []) ⟨hx, hb, hml, hown, hts⟩ (kX3_copyFrom l D ca v ad hI M hR 1 (by decide : 1 < 11) 0 (by decide : 0 < 11) M2 qM2) (cwV 1 hts gX4_withVan_X3_copyFrom rfl rfl rfl (by decide +kernel) ⟨Nat.le_of_ble_eq_true rfl, Nat.le_of_ble_eq_true rfl⟩) (pvX hK hE hP hS [.ref (ad (5 * 0))] (by omega) (gX_r0 (by decide : 1 < 11) _) rfl) rfl rfl hl.1 rfl (lv_room (Nat.le_of_ble_eq_true rfl)) dX4_withVan_8 ⟨Nat.zero_le _, Nat.zero_le _⟩) hS (fun H locs t ht hφ hO hS => ?_)
  have hRM2 := hφ
  have hP : va_P D vwCl (wX ca ad M2) H := by rw [← ht]; exact hO
  refine lv_aload_n hx hb dX4_withVan_11 rfl (lv_at hl 0 rfl) ?_
  refine va_get (D := D) (ci := 4) (v := .ref (ad (5 * 1))) (C := RX4) (T := TX4) (N := 8) hx hb hts hinX4 hown hK hP 74 (wL_get (by decide) (gX_x0 _)) rfl 2 (by decide) (hts (.fieldLink RX4 23 "VisitVans" "trialRoad" "LVisitVans$Road;") (List.mem_of_getElem? (i := 1) rfl)) (fun _ h => h) rfl dX4_withVan_12 ?_
  refine lv_iload_n hx hb dX4_withVan_15 rfl (lv_at hl 1 rfl) ?_
  refine lv_iload_n hx hb dX4_withVan_16 rfl (lv_at hl 2 rfl) ?_
  obtain ⟨v3, M4, qv3, hf⟩ := bnd2_some hf
  refine jc_i (va_runV (As := [.int (J a1), .int (J a2)]) (rest := []) ⟨hx, hb, hml, hown, hts⟩ (kX3_addVan l D ca v ad hI M2 hRM2 1 (by decide : 1 < 11) a1 a2 i1 i2 v3 M4 qv3) (cwV 2 hts gX4_withVan_X3_addVan rfl rfl rfl (by decide +kernel) ⟨Nat.le_of_ble_eq_true rfl, Nat.le_of_ble_eq_true rfl⟩) (pvX hK hE hP hS [.int (J a1), .int (J a2)] (by omega) (gX_r0 (by decide : 1 < 11) _) rfl) rfl rfl hl.1 rfl (lv_room (Nat.le_of_ble_eq_true rfl)) dX4_withVan_17 ⟨Nat.zero_le _, Nat.zero_le _⟩) hS (fun H locs t ht hφ hO hS => ?_)
  obtain ⟨rv3, hRM4⟩ := hφ
  have hP : va_P D vwCl (wX ca ad M4) H := by rw [← ht]; exact hO
  refine lv_istore_n (lv' := [(3, .int (J v3)), (0, .ref (ad 74)), (1, .int (J a1)), (2, .int (J a2))]) hx hb dX4_withVan_20 rfl hl (by decide) rfl (fun ls hl => ?_)
  refine lv_iload_n hx hb dX4_withVan_21 rfl (lv_at hl 0 rfl) ?_
  refine jv_if_ge (tgt := 27) hx hb dX4_withVan_22 (by decide) rv3 (fun c5 => ?_) (fun c5 => ?_)
  · have hf := itep hf c5
    refine lv_iconst (v := J 0) hx hb dX4_withVan_27 rfl ?_
    refine lv_istore (lv' := [(4, .int (J 0)), (3, .int (J v3)), (0, .ref (ad 74)), (1, .int (J a1)), (2, .int (J a2))]) hx hb dX4_withVan_28 hl (by decide) rfl (fun ls hl => ?_)
    obtain ⟨N_6, h6, hf⟩ := bnd_some hf
    have K6 : ∀ (H : Heap) (locs : List Loc) (ls : Array Slot), RR N_6 → va_P D vwCl (wX ca ad N_6) H → va_S (aS 75 ad) s.heap H locs → lv_has ls 5 [(0, .ref (ad 74))] → W p l e (headSpec wsX4_withVan (RmC 5 126)).room s m ([.ref (ad 74), .int (J a1), .int (J a2)] : List Value).toArray below meth c H locs 0 0 (MQ below (va_Qi (fun x (_ : Unit) => x = J res ∧ (inR res ∧ RR M')) (fun _ => (OX D ca ad M')) (aS 75 ad)) ([.ref (ad 74), .int (J a1), .int (J a2)] : List Value).toArray s 0 0 (aS 75 ad)) (F0 m 55 ls []) := by
      intro H locs ls hRN_6 hP hS hl
      refine lv_aload_n hx hb dX4_withVan_55 rfl (lv_at hl 0 rfl) ?_
      refine va_get (D := D) (ci := 4) (v := .ref (ad (55 + 6 * 1))) (C := RX4) (T := TX4) (N := 8) hx hb hts hinX4 hown hK hP 74 (wL_get (by decide) (gX_x0 _)) rfl 3 (by decide) (hts (.fieldLink RX4 26 "VisitVans" "trialPlan" "LVisitVans$Plan;") (List.mem_of_getElem? (i := 3) rfl)) (fun _ h => h) rfl dX4_withVan_56 ?_
      refine lv_aload_n hx hb dX4_withVan_59 rfl (lv_at hl 0 rfl) ?_
      refine va_get (D := D) (ci := 4) (v := .ref (ad (5 * 1))) (C := RX4) (T := TX4) (N := 8) hx hb hts hinX4 hown hK hP 74 (wL_get (by decide) (gX_x0 _)) rfl 2 (by decide) (hts (.fieldLink RX4 23 "VisitVans" "trialRoad" "LVisitVans$Road;") (List.mem_of_getElem? (i := 1) rfl)) (fun _ h => h) rfl dX4_withVan_60 ?_
      obtain ⟨M12, qM12, hf⟩ := bnd_some hf
      refine jc_v (va_runV (As := [.ref (ad (5 * 1))]) (rest := []) ⟨hx, hb, hml, hown, hts⟩ (kX2_make l D ca v ad hI N_6 hRN_6 1 (by decide : 1 < 2) 1 (by decide : 1 < 11) M12 qM12) (cwV 1 hts gX4_withVan_X2_make rfl rfl rfl (by decide +kernel) ⟨Nat.le_of_ble_eq_true rfl, Nat.le_of_ble_eq_true rfl⟩) (pvX hK hE hP hS [.ref (ad (5 * 1))] (by omega) (gX_p0 (by decide : 1 < 2) _) rfl) rfl rfl hl.1 rfl (lv_room (Nat.le_of_ble_eq_true rfl)) dX4_withVan_63 ⟨Nat.zero_le _, Nat.zero_le _⟩) hS (fun H locs t ht hφ hO hS => ?_)
      have hRM12 := hφ
      have hP : va_P D vwCl (wX ca ad M12) H := by rw [← ht]; exact hO
      refine lv_aload_n hx hb dX4_withVan_66 rfl (lv_at hl 0 rfl) ?_
      refine va_get (D := D) (ci := 4) (v := .ref (ad (55 + 6 * 1))) (C := RX4) (T := TX4) (N := 8) hx hb hts hinX4 hown hK hP 74 (wL_get (by decide) (gX_x0 _)) rfl 3 (by decide) (hts (.fieldLink RX4 26 "VisitVans" "trialPlan" "LVisitVans$Plan;") (List.mem_of_getElem? (i := 3) rfl)) (fun _ h => h) rfl dX4_withVan_67 ?_
      obtain ⟨v13, qv13, hf⟩ := bnd_some hf
      refine jc_i (va_runV (As := []) (rest := []) ⟨hx, hb, hml, hown, hts⟩ (kX2_visitsMade l D ca v ad hI M12 hRM12 1 (by decide : 1 < 2) v13 qv13) (cwV 0 hts gX4_withVan_X2_visitsMade rfl rfl rfl (by decide +kernel) ⟨Nat.le_of_ble_eq_true rfl, Nat.le_of_ble_eq_true rfl⟩) (pvX hK hE hP hS [] (by omega) (gX_p0 (by decide : 1 < 2) _) rfl) rfl rfl hl.1 rfl (lv_room (Nat.le_of_ble_eq_true rfl)) dX4_withVan_70 ⟨Nat.zero_le _, Nat.zero_le _⟩) hS (fun H locs t ht hφ hO hS => ?_)
      have rv13 := hφ
      have hP : va_P D vwCl (wX ca ad M12) H := by rw [← ht]; exact hO
      obtain ⟨e1, e2⟩ := Prod.mk.inj (Option.some.inj hf)
      exact jend_i hx hb hr rfl hS e1 ⟨by rw [← e1]; exact rv13, by rw [← e2]; exact hRM12⟩ (oX e2 hP) dX4_withVan_73 hlocks
    have hL6 : ∀ (n : Nat) (x3_6 : Int) (x4_6 : Int) (M_6 : MM) (H : Heap) (locs : List Loc) (ls : Array Slot), inR x3_6 → inR x4_6 → RR M_6 → x3_6 = v3 → va_P D vwCl (wX ca ad M_6) H → va_S (aS 75 ad) s.heap H locs → lv_has ls 5 [(0, .ref (ad 74)), (3, .int (J x3_6)), (4, .int (J x4_6))] → fX4_withVan_L30 n x3_6 x4_6 M_6 = some N_6 → W p l e (headSpec wsX4_withVan (RmC 5 126)).room s m ([.ref (ad 74), .int (J a1), .int (J a2)] : List Value).toArray below meth c H locs 0 0 (MQ below (va_Qi (fun x (_ : Unit) => x = J res ∧ (inR res ∧ RR M')) (fun _ => (OX D ca ad M')) (aS 75 ad)) ([.ref (ad 74), .int (J a1), .int (J a2)] : List Value).toArray s 0 0 (aS 75 ad)) (F0 m 30 ls []) := by
      intro n
      induction n with
      | zero =>
        intro x3_6 x4_6 M_6 H locs ls rx3_6 rx4_6 hRM_6 e_x3_6 hP hS hl hf
        rw [fX4_withVan_L30] at hf
        cases hf
      | succ n ih =>
        intro x3_6 x4_6 M_6 H locs ls rx3_6 rx4_6 hRM_6 e_x3_6 hP hS hl hf
        rw [fX4_withVan_L30] at hf
        refine lv_iload hx hb dX4_withVan_30 (lv_at hl 2 rfl) ?_
        refine lv_iconst (v := J 5) hx hb dX4_withVan_32 rfl ?_
        refine jv_icmp_ge (tgt := 55) hx hb dX4_withVan_33 (by decide) rx4_6 (by decide : inR 5) (fun c7 => ?_) (fun c7 => ?_)
        · have hf := itep hf c7
          cases hf
          exact K6 _ _ _ hRM_6 hP hS (lv_sub hl [0] (by subst e_x3_6; rfl))
        · have hf := iten hf c7
          refine lv_aload_n hx hb dX4_withVan_36 rfl (lv_at hl 0 rfl) ?_
          refine va_get (D := D) (ci := 4) (v := .ref (ad (5 * 1))) (C := RX4) (T := TX4) (N := 8) hx hb hts hinX4 hown hK hP 74 (wL_get (by decide) (gX_x0 _)) rfl 2 (by decide) (hts (.fieldLink RX4 23 "VisitVans" "trialRoad" "LVisitVans$Road;") (List.mem_of_getElem? (i := 1) rfl)) (fun _ h => h) rfl dX4_withVan_37 ?_
          refine lv_iload_n hx hb dX4_withVan_40 rfl (lv_at hl 1 rfl) ?_
          refine lv_iload hx hb dX4_withVan_41 (lv_at hl 2 rfl) ?_
          refine lv_bipush (v := J 99) hx hb dX4_withVan_43 (by decide +kernel) ?_
          obtain ⟨v8, M9, qv8, hf⟩ := bnd2_some hf
          refine jc_i (va_runV (As := [.int (J x3_6), .int (J x4_6), .int (J 99)]) (rest := []) ⟨hx, hb, hml, hown, hts⟩ (kX3_changeStock l D ca v ad hI M_6 hRM_6 1 (by decide : 1 < 11) x3_6 x4_6 99 rx3_6 rx4_6 (by decide : inR 99) v8 M9 qv8) (cwV 3 hts gX4_withVan_X3_changeStock rfl rfl rfl (by decide +kernel) ⟨Nat.le_of_ble_eq_true rfl, Nat.le_of_ble_eq_true rfl⟩) (pvX hK hE hP hS [.int (J x3_6), .int (J x4_6), .int (J 99)] (by omega) (gX_r0 (by decide : 1 < 11) _) rfl) rfl rfl hl.1 rfl (lv_room (Nat.le_of_ble_eq_true rfl)) dX4_withVan_45 ⟨Nat.zero_le _, Nat.zero_le _⟩) hS (fun H locs t ht hφ hO hS => ?_)
          obtain ⟨rv8, hRM9⟩ := hφ
          have hP : va_P D vwCl (wX ca ad M9) H := by rw [← ht]; exact hO
          refine lv_pop hx hb dX4_withVan_48 rfl ?_
          refine lv_iinc (v := J (x4_6 + 1)) (lv' := [(4, .int (J (x4_6 + 1))), (0, .ref (ad 74)), (3, .int (J x3_6))]) hx hb dX4_withVan_49 hl (k := 2) rfl (J_add _ _) (by decide) rfl (fun ls hl => ?_)
          refine lv_goto (tgt := 30) hx hb dX4_withVan_52 (by decide) ?_
          obtain ⟨g10, hf⟩ := gd_some hf
          exact ih _ _ _ _ _ _ rx3_6 g10 hRM9 e_x3_6 hP hS (lv_sub hl [1, 2, 0] rfl) hf
    exact hL6 4000 _ _ _ _ _ _ rv3 (by decide : inR 0) hRM4 rfl hP hS (lv_sub hl [2, 1, 0] rfl) h6
  · have hf := iten hf c5
    refine lv_iload_n hx hb dX4_withVan_25 rfl (lv_at hl 0 rfl) ?_
    obtain ⟨e1, e2⟩ := Prod.mk.inj (Option.some.inj hf)
    exact jend_i hx hb hr rfl hS e1 ⟨by rw [← e1]; exact rv3, by rw [← e2]; exact hRM4⟩ (oX e2 hP) dX4_withVan_26 hlocks
def fX4_madeAtPace (a1 : Int) (M : MM) : Option (Int × MM) := bnd (fX3_copyFrom 1 0 M) (fun M2 => bnd2 (fX3_changeSetting 1 0 a1 M2) (fun v3 M4 => bnd (fX2_make 1 1 M4) (fun M6 => bnd (fX2_visitsMade 1 M6) (fun v7 => some (v7, M6)))))
set_option maxHeartbeats 4000000 in
set_option maxRecDepth 100000 in
theorem kX4_madeAtPace (l : Launch) (D : va_G) (ca : Nat → ClassId) (v : EV) (ad : Nat → Nat) (hI : aInj 75 ad) (M : MM) (hR : RR M) (a1 : Int) (i1 : inR a1) (res : Int) (M' : MM) (hf : fX4_madeAtPace a1 M = some (res, M')) : CI l yX4_madeAtPace wsX4_madeAtPace 5 126 [.ref (ad 74), .int (J a1)] (PX D ca v ad M) res (inR res ∧ RR M') (OX D ca ad M') (aS 75 ad) := by
  refine Met.ofW (cc := cX4_madeAtPace) (maxL := 2) (ret := (some .int)) (by decide) rfl ?_
  intro p e s m args below meth c s₁ B hml hv
  obtain ⟨rfl, hP, hK, hE⟩ := hv
  have hx := B.exec
  have hb := B.bytes
  have hr := B.returns
  have hts := atoms_spec (ws := wsX4_madeAtPace) B.pre
  have hown : s.vm.findClass RX4 = some m.cls := findClass_of_methodNamed B.named
  have hlocks := B.notSynchronized
  have hS : va_S (aS 75 ad) s.heap s.heap [] := va_S.rf
  have hinX4 : ∀ w ∈ wsX40, w ∈ wsX4_madeAtPace := by decide +kernel
  have hl := lv_entry ([.ref (ad 74), .int (J a1)]) (n := 2) (Nat.le_of_ble_eq_true rfl)
  rw [lg_entry_eq]
  generalize (lg_sl ([.ref (ad 74), .int (J a1)]) ++ List.replicate (2 - (lg_sl ([.ref (ad 74), .int (J a1)])).length) Slot.unset).toArray = ls at hl ⊢
  have hl : lv_has ls 2 [(0, .ref (ad 74)), (1, .int (J a1))] := hl
  unfold fX4_madeAtPace at hf
  refine lv_aload_n hx hb dX4_madeAtPace_0 rfl (lv_at hl 0 rfl) ?_
  refine va_get (D := D) (ci := 4) (v := .ref (ad (5 * 1))) (C := RX4) (T := TX4) (N := 8) hx hb hts hinX4 hown hK hP 74 (wL_get (by decide) (gX_x0 _)) rfl 2 (by decide) (hts (.fieldLink RX4 23 "VisitVans" "trialRoad" "LVisitVans$Road;") (List.mem_of_getElem? (i := 1) rfl)) (fun _ h => h) rfl dX4_madeAtPace_1 ?_
  refine lv_aload_n hx hb dX4_madeAtPace_4 rfl (lv_at hl 0 rfl) ?_
  refine va_get (D := D) (ci := 4) (v := .ref (ad (5 * 0))) (C := RX4) (T := TX4) (N := 8) hx hb hts hinX4 hown hK hP 74 (wL_get (by decide) (gX_x0 _)) rfl 0 (by decide) (hts (.fieldLink RX4 12 "VisitVans" "road" "LVisitVans$Road;") (List.mem_of_getElem? (i := 2) rfl)) (fun _ h => h) rfl dX4_madeAtPace_5 ?_
  obtain ⟨M2, qM2, hf⟩ := bnd_some hf
  refine jc_v (va_runV (As := [.ref (ad (5 * 0))]) (rest := []) ⟨hx, hb, hml, hown, hts⟩ (kX3_copyFrom l D ca v ad hI M hR 1 (by decide : 1 < 11) 0 (by decide : 0 < 11) M2 qM2) (cwV 1 hts gX4_madeAtPace_X3_copyFrom rfl rfl rfl (by decide +kernel) ⟨Nat.le_of_ble_eq_true rfl, Nat.le_of_ble_eq_true rfl⟩) (pvX hK hE hP hS [.ref (ad (5 * 0))] (by omega) (gX_r0 (by decide : 1 < 11) _) rfl) rfl rfl hl.1 rfl (lv_room (Nat.le_of_ble_eq_true rfl)) dX4_madeAtPace_8 ⟨Nat.zero_le _, Nat.zero_le _⟩) hS (fun H locs t ht hφ hO hS => ?_)
  have hRM2 := hφ
  have hP : va_P D vwCl (wX ca ad M2) H := by rw [← ht]; exact hO
  refine lv_aload_n hx hb dX4_madeAtPace_11 rfl (lv_at hl 0 rfl) ?_
  refine va_get (D := D) (ci := 4) (v := .ref (ad (5 * 1))) (C := RX4) (T := TX4) (N := 8) hx hb hts hinX4 hown hK hP 74 (wL_get (by decide) (gX_x0 _)) rfl 2 (by decide) (hts (.fieldLink RX4 23 "VisitVans" "trialRoad" "LVisitVans$Road;") (List.mem_of_getElem? (i := 1) rfl)) (fun _ h => h) rfl dX4_madeAtPace_12 ?_
  refine lv_iconst (v := J 0) hx hb dX4_madeAtPace_15 rfl ?_
  refine lv_iload_n hx hb dX4_madeAtPace_16 rfl (lv_at hl 1 rfl) ?_
  obtain ⟨v3, M4, qv3, hf⟩ := bnd2_some hf
  refine jc_i (va_runV (As := [.int (J 0), .int (J a1)]) (rest := []) ⟨hx, hb, hml, hown, hts⟩ (kX3_changeSetting l D ca v ad hI M2 hRM2 1 (by decide : 1 < 11) 0 a1 (by decide : inR 0) i1 v3 M4 qv3) (cwV 2 hts gX4_madeAtPace_X3_changeSetting rfl rfl rfl (by decide +kernel) ⟨Nat.le_of_ble_eq_true rfl, Nat.le_of_ble_eq_true rfl⟩) (pvX hK hE hP hS [.int (J 0), .int (J a1)] (by omega) (gX_r0 (by decide : 1 < 11) _) rfl) rfl rfl hl.1 rfl (lv_room (Nat.le_of_ble_eq_true rfl)) dX4_madeAtPace_17 ⟨Nat.zero_le _, Nat.zero_le _⟩) hS (fun H locs t ht hφ hO hS => ?_)
  obtain ⟨rv3, hRM4⟩ := hφ
  have hP : va_P D vwCl (wX ca ad M4) H := by rw [← ht]; exact hO
  refine lv_pop hx hb dX4_madeAtPace_20 rfl ?_
  refine lv_aload_n hx hb dX4_madeAtPace_21 rfl (lv_at hl 0 rfl) ?_
  refine va_get (D := D) (ci := 4) (v := .ref (ad (55 + 6 * 1))) (C := RX4) (T := TX4) (N := 8) hx hb hts hinX4 hown hK hP 74 (wL_get (by decide) (gX_x0 _)) rfl 3 (by decide) (hts (.fieldLink RX4 26 "VisitVans" "trialPlan" "LVisitVans$Plan;") (List.mem_of_getElem? (i := 3) rfl)) (fun _ h => h) rfl dX4_madeAtPace_22 ?_
  refine lv_aload_n hx hb dX4_madeAtPace_25 rfl (lv_at hl 0 rfl) ?_
  refine va_get (D := D) (ci := 4) (v := .ref (ad (5 * 1))) (C := RX4) (T := TX4) (N := 8) hx hb hts hinX4 hown hK hP 74 (wL_get (by decide) (gX_x0 _)) rfl 2 (by decide) (hts (.fieldLink RX4 23 "VisitVans" "trialRoad" "LVisitVans$Road;") (List.mem_of_getElem? (i := 1) rfl)) (fun _ h => h) rfl dX4_madeAtPace_26 ?_
  obtain ⟨M6, qM6, hf⟩ := bnd_some hf
  refine jc_v (va_runV (As := [.ref (ad (5 * 1))]) (rest := []) ⟨hx, hb, hml, hown, hts⟩ (kX2_make l D ca v ad hI M4 hRM4 1 (by decide : 1 < 2) 1 (by decide : 1 < 11) M6 qM6) (cwV 1 hts gX4_madeAtPace_X2_make rfl rfl rfl (by decide +kernel) ⟨Nat.le_of_ble_eq_true rfl, Nat.le_of_ble_eq_true rfl⟩) (pvX hK hE hP hS [.ref (ad (5 * 1))] (by omega) (gX_p0 (by decide : 1 < 2) _) rfl) rfl rfl hl.1 rfl (lv_room (Nat.le_of_ble_eq_true rfl)) dX4_madeAtPace_29 ⟨Nat.zero_le _, Nat.zero_le _⟩) hS (fun H locs t ht hφ hO hS => ?_)
  have hRM6 := hφ
  have hP : va_P D vwCl (wX ca ad M6) H := by rw [← ht]; exact hO
  refine lv_aload_n hx hb dX4_madeAtPace_32 rfl (lv_at hl 0 rfl) ?_
  refine va_get (D := D) (ci := 4) (v := .ref (ad (55 + 6 * 1))) (C := RX4) (T := TX4) (N := 8) hx hb hts hinX4 hown hK hP 74 (wL_get (by decide) (gX_x0 _)) rfl 3 (by decide) (hts (.fieldLink RX4 26 "VisitVans" "trialPlan" "LVisitVans$Plan;") (List.mem_of_getElem? (i := 3) rfl)) (fun _ h => h) rfl dX4_madeAtPace_33 ?_
  obtain ⟨v7, qv7, hf⟩ := bnd_some hf
  refine jc_i (va_runV (As := []) (rest := []) ⟨hx, hb, hml, hown, hts⟩ (kX2_visitsMade l D ca v ad hI M6 hRM6 1 (by decide : 1 < 2) v7 qv7) (cwV 0 hts gX4_madeAtPace_X2_visitsMade rfl rfl rfl (by decide +kernel) ⟨Nat.le_of_ble_eq_true rfl, Nat.le_of_ble_eq_true rfl⟩) (pvX hK hE hP hS [] (by omega) (gX_p0 (by decide : 1 < 2) _) rfl) rfl rfl hl.1 rfl (lv_room (Nat.le_of_ble_eq_true rfl)) dX4_madeAtPace_36 ⟨Nat.zero_le _, Nat.zero_le _⟩) hS (fun H locs t ht hφ hO hS => ?_)
  have rv7 := hφ
  have hP : va_P D vwCl (wX ca ad M6) H := by rw [← ht]; exact hO
  obtain ⟨e1, e2⟩ := Prod.mk.inj (Option.some.inj hf)
  exact jend_i hx hb hr rfl hS e1 ⟨by rw [← e1]; exact rv7, by rw [← e2]; exact hRM6⟩ (oX e2 hP) dX4_madeAtPace_39 hlocks
def fX4_slowest_L18 : Nat → Int → Int → Int → MM → Option (Int × MM)
  | 0, _, _, _, _ => none
  | n + 1, x1_5, x2_5, x3_5, M_5 => if x3_5 ≤ x1_5 then some (x1_5, M_5) else bnd2 (fX4_madeAtPace x3_5 M_5) (fun v7 M8 => if v7 < x2_5 then gd (inR (x3_5 + (-1))) (fX4_slowest_L18 n x1_5 x2_5 (x3_5 + (-1)) M8) else some (x3_5, M8))
def fX4_slowest (M : MM) : Option (Int × MM) := gd (0 ≤ (0 : Int) ∧ (0 : Int) < 3) (bnd2 (fX4_madeAtPace (lsM ((0 : Int)).toNat) M) (fun v2 M3 => gd (0 ≤ (0 : Int) ∧ (0 : Int) < 3) (fX4_slowest_L18 4000 (lsM ((0 : Int)).toNat) v2 (msM ((0 : Int)).toNat) M3)))
set_option maxHeartbeats 4000000 in
set_option maxRecDepth 100000 in
theorem kX4_slowest (l : Launch) (D : va_G) (ca : Nat → ClassId) (v : EV) (ad : Nat → Nat) (hI : aInj 75 ad) (M : MM) (hR : RR M) (res : Int) (M' : MM) (hf : fX4_slowest M = some (res, M')) : CI l yX4_slowest wsX4_slowest 6 147 [.ref (ad 74)] (PX D ca v ad M) res (inR res ∧ RR M') (OX D ca ad M') (aS 75 ad) := by
  refine Met.ofW (cc := cX4_slowest) (maxL := 4) (ret := (some .int)) (by decide) rfl ?_
  intro p e s m args below meth c s₁ B hml hv
  obtain ⟨rfl, hP, hK, hE⟩ := hv
  have hx := B.exec
  have hb := B.bytes
  have hr := B.returns
  have hts := atoms_spec (ws := wsX4_slowest) B.pre
  have hown : s.vm.findClass RX4 = some m.cls := findClass_of_methodNamed B.named
  have hlocks := B.notSynchronized
  have hS : va_S (aS 75 ad) s.heap s.heap [] := va_S.rf
  have hl := lv_entry ([.ref (ad 74)]) (n := 4) (Nat.le_of_ble_eq_true rfl)
  rw [lg_entry_eq]
  generalize (lg_sl ([.ref (ad 74)]) ++ List.replicate (4 - (lg_sl ([.ref (ad 74)])).length) Slot.unset).toArray = ls at hl ⊢
  have hl : lv_has ls 4 [(0, .ref (ad 74))] := hl
  unfold fX4_slowest at hf
  refine va_gets hx hb hE.2.1.1 hS hown (hts (.fieldLink RX4 160 "VisitVans" "LEAST_SETTING" "[I") (List.mem_of_getElem? (i := 1) rfl)) (fun _ h => h) dX4_slowest_0 ?_
  refine lv_iconst (v := J 0) hx hb dX4_slowest_3 rfl ?_
  obtain ⟨g1, hf⟩ := gd_some hf
  refine va_ti hx hb hE.2.1.2.1 hS (J_in (n := 3) (by decide) g1) (v := .int (J (lsM ((0 : Int)).toNat))) (by rw [J_nat g1.1 (by omega)]) dX4_slowest_4 ?_
  refine lv_istore_n (lv' := [(1, .int (J (lsM ((0 : Int)).toNat))), (0, .ref (ad 74))]) hx hb dX4_slowest_5 rfl hl (by decide) rfl (fun ls hl => ?_)
  refine lv_aload_n hx hb dX4_slowest_6 rfl (lv_at hl 1 rfl) ?_
  refine lv_iload_n hx hb dX4_slowest_7 rfl (lv_at hl 0 rfl) ?_
  obtain ⟨v2, M3, qv2, hf⟩ := bnd2_some hf
  refine jc_i (va_runV (As := [.int (J (lsM ((0 : Int)).toNat))]) (rest := []) ⟨hx, hb, hml, hown, hts⟩ (kX4_madeAtPace l D ca v ad hI M hR (lsM ((0 : Int)).toNat) (lsM_R _) v2 M3 qv2) (cwV 1 hts gX4_slowest_X4_madeAtPace rfl rfl rfl (by decide +kernel) ⟨Nat.le_of_ble_eq_true rfl, Nat.le_of_ble_eq_true rfl⟩) (pvX hK hE hP hS [.int (J (lsM ((0 : Int)).toNat))] (by decide) (gX_x0 _) rfl) rfl rfl hl.1 rfl (lv_room (Nat.le_of_ble_eq_true rfl)) dX4_slowest_8 ⟨Nat.zero_le _, Nat.zero_le _⟩) hS (fun H locs t ht hφ hO hS => ?_)
  obtain ⟨rv2, hRM3⟩ := hφ
  have hP : va_P D vwCl (wX ca ad M3) H := by rw [← ht]; exact hO
  refine lv_istore_n (lv' := [(2, .int (J v2)), (1, .int (J (lsM ((0 : Int)).toNat))), (0, .ref (ad 74))]) hx hb dX4_slowest_11 rfl hl (by decide) rfl (fun ls hl => ?_)
  refine va_gets hx hb hE.2.1.2.2.1 hS hown (hts (.fieldLink RX4 166 "VisitVans" "MOST_SETTING" "[I") (List.mem_of_getElem? (i := 2) rfl)) (fun _ h => h) dX4_slowest_12 ?_
  refine lv_iconst (v := J 0) hx hb dX4_slowest_15 rfl ?_
  obtain ⟨g4, hf⟩ := gd_some hf
  refine va_ti hx hb hE.2.1.2.2.2 hS (J_in (n := 3) (by decide) g4) (v := .int (J (msM ((0 : Int)).toNat))) (by rw [J_nat g4.1 (by omega)]) dX4_slowest_16 ?_
  refine lv_istore_n (lv' := [(3, .int (J (msM ((0 : Int)).toNat))), (2, .int (J v2)), (1, .int (J (lsM ((0 : Int)).toNat))), (0, .ref (ad 74))]) hx hb dX4_slowest_17 rfl hl (by decide) rfl (fun ls hl => ?_)
  have hL5 : ∀ (n : Nat) (x1_5 : Int) (x2_5 : Int) (x3_5 : Int) (M_5 : MM) (H : Heap) (locs : List Loc) (ls : Array Slot), inR x1_5 → inR x2_5 → inR x3_5 → RR M_5 → x1_5 = (lsM ((0 : Int)).toNat) → x2_5 = v2 → va_P D vwCl (wX ca ad M_5) H → va_S (aS 75 ad) s.heap H locs → lv_has ls 4 [(0, .ref (ad 74)), (1, .int (J x1_5)), (2, .int (J x2_5)), (3, .int (J x3_5))] → fX4_slowest_L18 n x1_5 x2_5 x3_5 M_5 = some (res, M') → W p l e (headSpec wsX4_slowest (RmC 6 147)).room s m ([.ref (ad 74)] : List Value).toArray below meth c H locs 0 0 (MQ below (va_Qi (fun x (_ : Unit) => x = J res ∧ (inR res ∧ RR M')) (fun _ => (OX D ca ad M')) (aS 75 ad)) ([.ref (ad 74)] : List Value).toArray s 0 0 (aS 75 ad)) (F0 m 18 ls []) := by
    intro n
    induction n with
    | zero =>
      intro x1_5 x2_5 x3_5 M_5 H locs ls rx1_5 rx2_5 rx3_5 hRM_5 e_x1_5 e_x2_5 hP hS hl hf
      rw [fX4_slowest_L18] at hf
      cases hf
    | succ n ih =>
      intro x1_5 x2_5 x3_5 M_5 H locs ls rx1_5 rx2_5 rx3_5 hRM_5 e_x1_5 e_x2_5 hP hS hl hf
      rw [fX4_slowest_L18] at hf
      refine lv_iload_n hx hb dX4_slowest_18 rfl (lv_at hl 3 rfl) ?_
      refine lv_iload_n hx hb dX4_slowest_19 rfl (lv_at hl 1 rfl) ?_
      refine jv_icmp_le (tgt := 40) hx hb dX4_slowest_20 (by decide) rx3_5 rx1_5 (fun c6 => ?_) (fun c6 => ?_)
      · have hf := itep hf c6
        refine lv_iload_n hx hb dX4_slowest_40 rfl (lv_at hl 1 rfl) ?_
        obtain ⟨e1, e2⟩ := Prod.mk.inj (Option.some.inj hf)
        exact jend_i hx hb hr rfl hS e1 ⟨by rw [← e1]; exact rx1_5, by rw [← e2]; exact hRM_5⟩ (oX e2 hP) dX4_slowest_41 hlocks
      · have hf := iten hf c6
        refine lv_aload_n hx hb dX4_slowest_23 rfl (lv_at hl 0 rfl) ?_
        refine lv_iload_n hx hb dX4_slowest_24 rfl (lv_at hl 3 rfl) ?_
        obtain ⟨v7, M8, qv7, hf⟩ := bnd2_some hf
        refine jc_i (va_runV (As := [.int (J x3_5)]) (rest := []) ⟨hx, hb, hml, hown, hts⟩ (kX4_madeAtPace l D ca v ad hI M_5 hRM_5 x3_5 rx3_5 v7 M8 qv7) (cwV 1 hts gX4_slowest_X4_madeAtPace rfl rfl rfl (by decide +kernel) ⟨Nat.le_of_ble_eq_true rfl, Nat.le_of_ble_eq_true rfl⟩) (pvX hK hE hP hS [.int (J x3_5)] (by decide) (gX_x0 _) rfl) rfl rfl hl.1 rfl (lv_room (Nat.le_of_ble_eq_true rfl)) dX4_slowest_25 ⟨Nat.zero_le _, Nat.zero_le _⟩) hS (fun H locs t ht hφ hO hS => ?_)
        obtain ⟨rv7, hRM8⟩ := hφ
        have hP : va_P D vwCl (wX ca ad M8) H := by rw [← ht]; exact hO
        refine lv_iload_n hx hb dX4_slowest_28 rfl (lv_at hl 2 rfl) ?_
        refine jv_icmp_lt (tgt := 34) hx hb dX4_slowest_29 (by decide) rv7 rx2_5 (fun c9 => ?_) (fun c9 => ?_)
        · have hf := itep hf c9
          refine lv_iinc (v := J (x3_5 + (-1))) (lv' := [(3, .int (J (x3_5 + (-1)))), (0, .ref (ad 74)), (1, .int (J x1_5)), (2, .int (J x2_5))]) hx hb dX4_slowest_34 hl (k := 3) rfl (J_add _ _) (by decide) rfl (fun ls hl => ?_)
          refine lv_goto (tgt := 18) hx hb dX4_slowest_37 (by decide) ?_
          obtain ⟨g10, hf⟩ := gd_some hf
          exact ih _ _ _ _ _ _ _ rx1_5 rx2_5 g10 hRM8 e_x1_5 e_x2_5 hP hS (lv_sub hl [1, 2, 3, 0] rfl) hf
        · have hf := iten hf c9
          refine lv_iload_n hx hb dX4_slowest_32 rfl (lv_at hl 3 rfl) ?_
          obtain ⟨e1, e2⟩ := Prod.mk.inj (Option.some.inj hf)
          exact jend_i hx hb hr rfl hS e1 ⟨by rw [← e1]; exact rx3_5, by rw [← e2]; exact hRM8⟩ (oX e2 hP) dX4_slowest_33 hlocks
  exact hL5 4000 _ _ _ _ _ _ _ (lsM_R _) rv2 (msM_R _) hRM3 rfl rfl hP hS (lv_sub hl [3, 2, 1, 0] rfl) hf
def fX4_put (a1 : Int64) (M : MM) : Option (Int × MM) := bnd2 (fX1_append a1 M) (fun v1 M2 => some (v1, M2))
set_option maxHeartbeats 4000000 in
set_option maxRecDepth 100000 in
theorem kX4_put (l : Launch) (D : va_G) (ca : Nat → ClassId) (v : EV) (ad : Nat → Nat) (hI : aInj 75 ad) (M : MM) (hR : RR M) (a1 : Int64) (res : Int) (M' : MM) (hf : fX4_put a1 M = some (res, M')) : CI l yX4_put wsX4_put 2 47 [.ref (ad 74), .long a1] (PX D ca v ad M) res (inR res ∧ RR M') (OX D ca ad M') (aS 75 ad) := by
  refine Met.ofW (cc := cX4_put) (maxL := 3) (ret := (some .int)) (by decide) rfl ?_
  intro p e s m args below meth c s₁ B hml hv
  obtain ⟨rfl, hP, hK, hE⟩ := hv
  have hx := B.exec
  have hb := B.bytes
  have hr := B.returns
  have hts := atoms_spec (ws := wsX4_put) B.pre
  have hown : s.vm.findClass RX4 = some m.cls := findClass_of_methodNamed B.named
  have hlocks := B.notSynchronized
  have hS : va_S (aS 75 ad) s.heap s.heap [] := va_S.rf
  have hinX4 : ∀ w ∈ wsX40, w ∈ wsX4_put := by decide +kernel
  have hl := lv_entry ([.ref (ad 74), .long a1]) (n := 3) (Nat.le_of_ble_eq_true rfl)
  rw [lg_entry_eq]
  generalize (lg_sl ([.ref (ad 74), .long a1]) ++ List.replicate (3 - (lg_sl ([.ref (ad 74), .long a1])).length) Slot.unset).toArray = ls at hl ⊢
  have hl : lv_has ls 3 [(0, .ref (ad 74)), (1, .long a1)] := hl
  unfold fX4_put at hf
  refine lv_aload_n hx hb dX4_put_0 rfl (lv_at hl 0 rfl) ?_
  refine va_get (D := D) (ci := 4) (v := .ref (ad 71)) (C := RX4) (T := TX4) (N := 8) hx hb hts hinX4 hown hK hP 74 (wL_get (by decide) (gX_x0 _)) rfl 7 (by decide) (hts (.fieldLink RX4 47 "VisitVans" "pad" "LVisitVans$Pad;") (List.mem_of_getElem? (i := 1) rfl)) (fun _ h => h) rfl dX4_put_1 ?_
  refine lv_lload_n hx hb dX4_put_4 rfl (lv_at hl 1 rfl) ?_
  obtain ⟨v1, M2, qv1, hf⟩ := bnd2_some hf
  refine jc_i (va_runV (As := [.long a1]) (rest := []) ⟨hx, hb, hml, hown, hts⟩ (kX1_append l D ca v ad hI M hR a1 v1 M2 qv1) (cwV 1 hts gX4_put_X1_append rfl rfl rfl (by decide +kernel) ⟨Nat.le_of_ble_eq_true rfl, Nat.le_of_ble_eq_true rfl⟩) (pvX hK hE hP hS [.long a1] (by decide) (gX_d0 _) rfl) rfl rfl hl.1 rfl (lv_room (Nat.le_of_ble_eq_true rfl)) dX4_put_5 ⟨Nat.zero_le _, Nat.zero_le _⟩) hS (fun H locs t ht hφ hO hS => ?_)
  obtain ⟨rv1, hRM2⟩ := hφ
  have hP : va_P D vwCl (wX ca ad M2) H := by rw [← ht]; exact hO
  obtain ⟨e1, e2⟩ := Prod.mk.inj (Option.some.inj hf)
  exact jend_i hx hb hr rfl hS e1 ⟨by rw [← e1]; exact rv1, by rw [← e2]; exact hRM2⟩ (oX e2 hP) dX4_put_8 hlocks
def fX4_wipe (M : MM) : Option (Int × MM) := bnd (some (stM M 71 1 0)) (fun M1 => some ((M 71 1), M1))
set_option maxHeartbeats 4000000 in
set_option maxRecDepth 100000 in
theorem kX4_wipe (l : Launch) (D : va_G) (ca : Nat → ClassId) (v : EV) (ad : Nat → Nat) (hI : aInj 75 ad) (M : MM) (hR : RR M) (res : Int) (M' : MM) (hf : fX4_wipe M = some (res, M')) : CI l yX4_wipe wsX4_wipe 0 0 [.ref (ad 74)] (PX D ca v ad M) res (inR res ∧ RR M') (OX D ca ad M') (aS 75 ad) := by
  refine Met.ofW (cc := cX4_wipe) (maxL := 2) (ret := (some .int)) (by decide) rfl ?_
  intro p e s m args below meth c s₁ B hml hv
  obtain ⟨rfl, hP, hK, hE⟩ := hv
  have hx := B.exec
  have hb := B.bytes
  have hr := B.returns
  have hts := atoms_spec (ws := wsX4_wipe) B.pre
  have hown : s.vm.findClass RX4 = some m.cls := findClass_of_methodNamed B.named
  have hlocks := B.notSynchronized
  have hS : va_S (aS 75 ad) s.heap s.heap [] := va_S.rf
  have hinX1 : ∀ w ∈ wsX10, w ∈ wsX4_wipe := by decide +kernel
  have hinX4 : ∀ w ∈ wsX40, w ∈ wsX4_wipe := by decide +kernel
  have hl := lv_entry ([.ref (ad 74)]) (n := 2) (Nat.le_of_ble_eq_true rfl)
  rw [lg_entry_eq]
  generalize (lg_sl ([.ref (ad 74)]) ++ List.replicate (2 - (lg_sl ([.ref (ad 74)])).length) Slot.unset).toArray = ls at hl ⊢
  have hl : lv_has ls 2 [(0, .ref (ad 74))] := hl
  unfold fX4_wipe at hf
  refine lv_aload_n hx hb dX4_wipe_0 rfl (lv_at hl 0 rfl) ?_
  refine va_get (D := D) (ci := 4) (v := .ref (ad 71)) (C := RX4) (T := TX4) (N := 8) hx hb hts hinX4 hown hK hP 74 (wL_get (by decide) (gX_x0 _)) rfl 7 (by decide) (hts (.fieldLink RX4 47 "VisitVans" "pad" "LVisitVans$Pad;") (List.mem_of_getElem? (i := 1) rfl)) (fun _ h => h) rfl dX4_wipe_1 ?_
  refine va_get (D := D) (ci := 1) (v := .int (J (M 71 1))) (C := RX1) (T := TX1) (N := 6) hx hb hts hinX1 hown hK hP 71 (wL_get (by decide) (gX_d0 _)) rfl 1 (by decide) (hts (.fieldLink RX4 136 "VisitVans$Pad" "length" "I") (List.mem_of_getElem? (i := 2) rfl)) (fun _ h => h) rfl dX4_wipe_4 ?_
  refine lv_istore_n (lv' := [(1, .int (J (M 71 1))), (0, .ref (ad 74))]) hx hb dX4_wipe_7 rfl hl (by decide) rfl (fun ls hl => ?_)
  refine lv_aload_n hx hb dX4_wipe_8 rfl (lv_at hl 1 rfl) ?_
  refine va_get (D := D) (ci := 4) (v := .ref (ad 71)) (C := RX4) (T := TX4) (N := 8) hx hb hts hinX4 hown hK hP 74 (wL_get (by decide) (gX_x0 _)) rfl 7 (by decide) (hts (.fieldLink RX4 47 "VisitVans" "pad" "LVisitVans$Pad;") (List.mem_of_getElem? (i := 1) rfl)) (fun _ h => h) rfl dX4_wipe_9 ?_
  refine lv_iconst (v := J 0) hx hb dX4_wipe_12 rfl ?_
  obtain ⟨M1, eM1, hf⟩ := bnd_some hf
  have eM1 := Option.some.inj eM1
  have hRM1 : RR M1 := by rw [← eM1]; exact RR_st hR 71 1 (by decide : inR 0)
  refine va_put (D := D) (ci := 1) (v := .int (J 0)) (ty := .int) (C := RX1) (T := TX1) (N := 6) hx hb hts hinX1 tyX1 tyX1_ok nmX1 hown hK hP (wL_D hI M) hS 71 (wL_get (by decide) (gX_d0 _)) rfl 1 (by decide) (hts (.fieldLink RX4 136 "VisitVans$Pad" "length" "I") (List.mem_of_getElem? (i := 2) rfl)) (fun _ h => h) rfl rfl rfl rfl (Nat.le_of_ble_eq_true rfl) dX4_wipe_13 (fun H locs hP hD hS => ?_)
  have hP : va_P D vwCl (wX ca ad M1) H := by rw [← eM1]; exact hPset (gX_d0_s1) stM_o hP
  refine lv_iload_n hx hb dX4_wipe_16 rfl (lv_at hl 0 rfl) ?_
  obtain ⟨e1, e2⟩ := Prod.mk.inj (Option.some.inj hf)
  exact jend_i hx hb hr rfl hS e1 ⟨by rw [← e1]; exact (hR 71 1), by rw [← e2]; exact hRM1⟩ (oX e2 hP) dX4_wipe_17 hlocks
def fX4_fault (M : MM) : Option (Int × MM) := bnd2 (fX1_firstFault M) (fun v1 M2 => some (v1, M2))
set_option maxHeartbeats 4000000 in
set_option maxRecDepth 100000 in
theorem kX4_fault (l : Launch) (D : va_G) (ca : Nat → ClassId) (v : EV) (ad : Nat → Nat) (hI : aInj 75 ad) (M : MM) (hR : RR M) (res : Int) (M' : MM) (hf : fX4_fault M = some (res, M')) : CI l yX4_fault wsX4_fault 7 151 [.ref (ad 74)] (PX D ca v ad M) res (inR res ∧ RR M') (OX D ca ad M') (aS 75 ad) := by
  refine Met.ofW (cc := cX4_fault) (maxL := 1) (ret := (some .int)) (by decide) rfl ?_
  intro p e s m args below meth c s₁ B hml hv
  obtain ⟨rfl, hP, hK, hE⟩ := hv
  have hx := B.exec
  have hb := B.bytes
  have hr := B.returns
  have hts := atoms_spec (ws := wsX4_fault) B.pre
  have hown : s.vm.findClass RX4 = some m.cls := findClass_of_methodNamed B.named
  have hlocks := B.notSynchronized
  have hS : va_S (aS 75 ad) s.heap s.heap [] := va_S.rf
  have hinX4 : ∀ w ∈ wsX40, w ∈ wsX4_fault := by decide +kernel
  have hl := lv_entry ([.ref (ad 74)]) (n := 1) (Nat.le_of_ble_eq_true rfl)
  rw [lg_entry_eq]
  generalize (lg_sl ([.ref (ad 74)]) ++ List.replicate (1 - (lg_sl ([.ref (ad 74)])).length) Slot.unset).toArray = ls at hl ⊢
  have hl : lv_has ls 1 [(0, .ref (ad 74))] := hl
  unfold fX4_fault at hf
  refine lv_aload_n hx hb dX4_fault_0 rfl (lv_at hl 0 rfl) ?_
  refine va_get (D := D) (ci := 4) (v := .ref (ad 71)) (C := RX4) (T := TX4) (N := 8) hx hb hts hinX4 hown hK hP 74 (wL_get (by decide) (gX_x0 _)) rfl 7 (by decide) (hts (.fieldLink RX4 47 "VisitVans" "pad" "LVisitVans$Pad;") (List.mem_of_getElem? (i := 1) rfl)) (fun _ h => h) rfl dX4_fault_1 ?_
  obtain ⟨v1, M2, qv1, hf⟩ := bnd2_some hf
  refine jc_i (va_runV (As := []) (rest := []) ⟨hx, hb, hml, hown, hts⟩ (kX1_firstFault l D ca v ad hI M hR v1 M2 qv1) (cwV 0 hts gX4_fault_X1_firstFault rfl rfl rfl (by decide +kernel) ⟨Nat.le_of_ble_eq_true rfl, Nat.le_of_ble_eq_true rfl⟩) (pvX hK hE hP hS [] (by decide) (gX_d0 _) rfl) rfl rfl hl.1 rfl (lv_room (Nat.le_of_ble_eq_true rfl)) dX4_fault_4 ⟨Nat.zero_le _, Nat.zero_le _⟩) hS (fun H locs t ht hφ hO hS => ?_)
  obtain ⟨rv1, hRM2⟩ := hφ
  have hP : va_P D vwCl (wX ca ad M2) H := by rw [← ht]; exact hO
  obtain ⟨e1, e2⟩ := Prod.mk.inj (Option.some.inj hf)
  exact jend_i hx hb hr rfl hS e1 ⟨by rw [← e1]; exact rv1, by rw [← e2]; exact hRM2⟩ (oX e2 hP) dX4_fault_7 hlocks
def fX4_carryOne (M : MM) : Option (Int × MM) := if (M 71 5) = 108 then bnd (rd M 73 6 0) (fun v2 => bnd (rd M 73 6 1) (fun v3 => bnd (rd M 73 6 2) (fun v4 => bnd2 (fX3_changeStock 0 v2 v3 v4 M) (fun v5 M6 => some (v5, M6))))) else if (M 71 5) = 118 then bnd (rd M 73 6 0) (fun v7 => bnd (rd M 73 6 1) (fun v8 => bnd (rd M 73 6 2) (fun v9 => bnd (rd M 73 6 3) (fun v10 => bnd (rd M 73 6 4) (fun v11 => bnd (rd M 73 6 5) (fun v12 => bnd2 (fX3_addVisit 0 v7 v8 v9 v10 v11 v12 M) (fun v13 M14 => some (v13, M14)))))))) else if (M 71 5) = 119 then bnd (rd M 73 6 0) (fun v15 => bnd (rd M 73 6 1) (fun v16 => bnd2 (fX3_addVan 0 v15 v16 M) (fun v17 M18 => some (v17, M18)))) else bnd (rd M 73 6 0) (fun v19 => bnd2 (fX3_removeVisit 0 v19 M) (fun v20 M21 => some (v20, M21)))
set_option maxHeartbeats 4000000 in
set_option maxRecDepth 100000 in
theorem kX4_carryOne (l : Launch) (D : va_G) (ca : Nat → ClassId) (v : EV) (ad : Nat → Nat) (hI : aInj 75 ad) (M : MM) (hR : RR M) (res : Int) (M' : MM) (hf : fX4_carryOne M = some (res, M')) : CI l yX4_carryOne wsX4_carryOne 4 94 [.ref (ad 74)] (PX D ca v ad M) res (inR res ∧ RR M') (OX D ca ad M') (aS 75 ad) := by
  refine Met.ofW (cc := cX4_carryOne) (maxL := 2) (ret := (some .int)) (by decide) rfl ?_
  intro p e s m args below meth c s₁ B hml hv
  obtain ⟨rfl, hP, hK, hE⟩ := hv
  have hx := B.exec
  have hb := B.bytes
  have hr := B.returns
  have hts := atoms_spec (ws := wsX4_carryOne) B.pre
  have hown : s.vm.findClass RX4 = some m.cls := findClass_of_methodNamed B.named
  have hlocks := B.notSynchronized
  have hS : va_S (aS 75 ad) s.heap s.heap [] := va_S.rf
  have hinX1 : ∀ w ∈ wsX10, w ∈ wsX4_carryOne := by decide +kernel
  have hinX4 : ∀ w ∈ wsX40, w ∈ wsX4_carryOne := by decide +kernel
  have hl := lv_entry ([.ref (ad 74)]) (n := 2) (Nat.le_of_ble_eq_true rfl)
  rw [lg_entry_eq]
  generalize (lg_sl ([.ref (ad 74)]) ++ List.replicate (2 - (lg_sl ([.ref (ad 74)])).length) Slot.unset).toArray = ls at hl ⊢
  have hl : lv_has ls 2 [(0, .ref (ad 74))] := hl
  unfold fX4_carryOne at hf
  refine lv_aload_n hx hb dX4_carryOne_0 rfl (lv_at hl 0 rfl) ?_
  refine va_get (D := D) (ci := 4) (v := .ref (ad 71)) (C := RX4) (T := TX4) (N := 8) hx hb hts hinX4 hown hK hP 74 (wL_get (by decide) (gX_x0 _)) rfl 7 (by decide) (hts (.fieldLink RX4 47 "VisitVans" "pad" "LVisitVans$Pad;") (List.mem_of_getElem? (i := 1) rfl)) (fun _ h => h) rfl dX4_carryOne_1 ?_
  refine va_get (D := D) (ci := 1) (v := .ref (ad 73)) (C := RX1) (T := TX1) (N := 6) hx hb hts hinX1 hown hK hP 71 (wL_get (by decide) (gX_d0 _)) rfl 4 (by decide) (hts (.fieldLink RX4 198 "VisitVans$Pad" "told" "[I") (List.mem_of_getElem? (i := 2) rfl)) (fun _ h => h) rfl dX4_carryOne_4 ?_
  refine lv_astore_n (lv' := [(1, .ref (ad 73)), (0, .ref (ad 74))]) hx hb dX4_carryOne_7 rfl hl (by decide) rfl (fun ls hl => ?_)
  refine lv_aload_n hx hb dX4_carryOne_8 rfl (lv_at hl 1 rfl) ?_
  refine va_get (D := D) (ci := 4) (v := .ref (ad 71)) (C := RX4) (T := TX4) (N := 8) hx hb hts hinX4 hown hK hP 74 (wL_get (by decide) (gX_x0 _)) rfl 7 (by decide) (hts (.fieldLink RX4 47 "VisitVans" "pad" "LVisitVans$Pad;") (List.mem_of_getElem? (i := 1) rfl)) (fun _ h => h) rfl dX4_carryOne_9 ?_
  refine va_get (D := D) (ci := 1) (v := .int (J (M 71 5))) (C := RX1) (T := TX1) (N := 6) hx hb hts hinX1 hown hK hP 71 (wL_get (by decide) (gX_d0 _)) rfl 5 (by decide) (hts (.fieldLink RX4 201 "VisitVans$Pad" "kind" "C") (List.mem_of_getElem? (i := 3) rfl)) (fun _ h => h) rfl dX4_carryOne_12 ?_
  by_cases c1_0 : (M 71 5) = 108
  · have hf := itep hf c1_0
    refine jv_look (off := 73) (tgt := 88) hx hb dX4_carryOne_15 (hR 71 5) (by decide) (by rw [c1_0]; rfl) (by decide) ?_
    refine lv_aload_n hx hb dX4_carryOne_88 rfl (lv_at hl 1 rfl) ?_
    refine va_get (D := D) (ci := 4) (v := .ref (ad (5 * 0))) (C := RX4) (T := TX4) (N := 8) hx hb hts hinX4 hown hK hP 74 (wL_get (by decide) (gX_x0 _)) rfl 0 (by decide) (hts (.fieldLink RX4 12 "VisitVans" "road" "LVisitVans$Road;") (List.mem_of_getElem? (i := 4) rfl)) (fun _ h => h) rfl dX4_carryOne_89 ?_
    refine lv_aload_n hx hb dX4_carryOne_92 rfl (lv_at hl 0 rfl) ?_
    refine lv_iconst (v := J 0) hx hb dX4_carryOne_93 rfl ?_
    obtain ⟨v2, qv2, hf⟩ := bnd_some hf
    obtain ⟨bv2, ev2⟩ := rd_some qv2
    have rv2 : inR v2 := by rw [ev2]; exact hR _ _
    refine jx_iald hx hb hK hP 73 0 (by decide) gX_d2 rfl (by decide) bv2 ev2 dX4_carryOne_94 ?_
    refine lv_aload_n hx hb dX4_carryOne_95 rfl (lv_at hl 0 rfl) ?_
    refine lv_iconst (v := J 1) hx hb dX4_carryOne_96 rfl ?_
    obtain ⟨v3, qv3, hf⟩ := bnd_some hf
    obtain ⟨bv3, ev3⟩ := rd_some qv3
    have rv3 : inR v3 := by rw [ev3]; exact hR _ _
    refine jx_iald hx hb hK hP 73 0 (by decide) gX_d2 rfl (by decide) bv3 ev3 dX4_carryOne_97 ?_
    refine lv_aload_n hx hb dX4_carryOne_98 rfl (lv_at hl 0 rfl) ?_
    refine lv_iconst (v := J 2) hx hb dX4_carryOne_99 rfl ?_
    obtain ⟨v4, qv4, hf⟩ := bnd_some hf
    obtain ⟨bv4, ev4⟩ := rd_some qv4
    have rv4 : inR v4 := by rw [ev4]; exact hR _ _
    refine jx_iald hx hb hK hP 73 0 (by decide) gX_d2 rfl (by decide) bv4 ev4 dX4_carryOne_100 ?_
    obtain ⟨v5, M6, qv5, hf⟩ := bnd2_some hf
    refine jc_i (va_runV (As := [.int (J v2), .int (J v3), .int (J v4)]) (rest := []) ⟨hx, hb, hml, hown, hts⟩ (kX3_changeStock l D ca v ad hI M hR 0 (by decide : 0 < 11) v2 v3 v4 rv2 rv3 rv4 v5 M6 qv5) (cwV 3 hts gX4_carryOne_X3_changeStock rfl rfl rfl (by decide +kernel) ⟨Nat.le_of_ble_eq_true rfl, Nat.le_of_ble_eq_true rfl⟩) (pvX hK hE hP hS [.int (J v2), .int (J v3), .int (J v4)] (by omega) (gX_r0 (by decide : 0 < 11) _) rfl) rfl rfl hl.1 rfl (lv_room (Nat.le_of_ble_eq_true rfl)) dX4_carryOne_101 ⟨Nat.zero_le _, Nat.zero_le _⟩) hS (fun H locs t ht hφ hO hS => ?_)
    obtain ⟨rv5, hRM6⟩ := hφ
    have hP : va_P D vwCl (wX ca ad M6) H := by rw [← ht]; exact hO
    obtain ⟨e1, e2⟩ := Prod.mk.inj (Option.some.inj hf)
    exact jend_i hx hb hr rfl hS e1 ⟨by rw [← e1]; exact rv5, by rw [← e2]; exact hRM6⟩ (oX e2 hP) dX4_carryOne_104 hlocks
  · have hf := iten hf c1_0
    by_cases c1_1 : (M 71 5) = 118
    · have hf := itep hf c1_1
      refine jv_look (off := 33) (tgt := 48) hx hb dX4_carryOne_15 (hR 71 5) (by decide) (by rw [c1_1]; rfl) (by decide) ?_
      refine lv_aload_n hx hb dX4_carryOne_48 rfl (lv_at hl 1 rfl) ?_
      refine va_get (D := D) (ci := 4) (v := .ref (ad (5 * 0))) (C := RX4) (T := TX4) (N := 8) hx hb hts hinX4 hown hK hP 74 (wL_get (by decide) (gX_x0 _)) rfl 0 (by decide) (hts (.fieldLink RX4 12 "VisitVans" "road" "LVisitVans$Road;") (List.mem_of_getElem? (i := 4) rfl)) (fun _ h => h) rfl dX4_carryOne_49 ?_
      refine lv_aload_n hx hb dX4_carryOne_52 rfl (lv_at hl 0 rfl) ?_
      refine lv_iconst (v := J 0) hx hb dX4_carryOne_53 rfl ?_
      obtain ⟨v7, qv7, hf⟩ := bnd_some hf
      obtain ⟨bv7, ev7⟩ := rd_some qv7
      have rv7 : inR v7 := by rw [ev7]; exact hR _ _
      refine jx_iald hx hb hK hP 73 0 (by decide) gX_d2 rfl (by decide) bv7 ev7 dX4_carryOne_54 ?_
      refine lv_aload_n hx hb dX4_carryOne_55 rfl (lv_at hl 0 rfl) ?_
      refine lv_iconst (v := J 1) hx hb dX4_carryOne_56 rfl ?_
      obtain ⟨v8, qv8, hf⟩ := bnd_some hf
      obtain ⟨bv8, ev8⟩ := rd_some qv8
      have rv8 : inR v8 := by rw [ev8]; exact hR _ _
      refine jx_iald hx hb hK hP 73 0 (by decide) gX_d2 rfl (by decide) bv8 ev8 dX4_carryOne_57 ?_
      refine lv_aload_n hx hb dX4_carryOne_58 rfl (lv_at hl 0 rfl) ?_
      refine lv_iconst (v := J 2) hx hb dX4_carryOne_59 rfl ?_
      obtain ⟨v9, qv9, hf⟩ := bnd_some hf
      obtain ⟨bv9, ev9⟩ := rd_some qv9
      have rv9 : inR v9 := by rw [ev9]; exact hR _ _
      refine jx_iald hx hb hK hP 73 0 (by decide) gX_d2 rfl (by decide) bv9 ev9 dX4_carryOne_60 ?_
      refine lv_aload_n hx hb dX4_carryOne_61 rfl (lv_at hl 0 rfl) ?_
      refine lv_iconst (v := J 3) hx hb dX4_carryOne_62 rfl ?_
      obtain ⟨v10, qv10, hf⟩ := bnd_some hf
      obtain ⟨bv10, ev10⟩ := rd_some qv10
      have rv10 : inR v10 := by rw [ev10]; exact hR _ _
      refine jx_iald hx hb hK hP 73 0 (by decide) gX_d2 rfl (by decide) bv10 ev10 dX4_carryOne_63 ?_
      refine lv_aload_n hx hb dX4_carryOne_64 rfl (lv_at hl 0 rfl) ?_
      refine lv_iconst (v := J 4) hx hb dX4_carryOne_65 rfl ?_
      obtain ⟨v11, qv11, hf⟩ := bnd_some hf
      obtain ⟨bv11, ev11⟩ := rd_some qv11
      have rv11 : inR v11 := by rw [ev11]; exact hR _ _
      refine jx_iald hx hb hK hP 73 0 (by decide) gX_d2 rfl (by decide) bv11 ev11 dX4_carryOne_66 ?_
      refine lv_aload_n hx hb dX4_carryOne_67 rfl (lv_at hl 0 rfl) ?_
      refine lv_iconst (v := J 5) hx hb dX4_carryOne_68 rfl ?_
      obtain ⟨v12, qv12, hf⟩ := bnd_some hf
      obtain ⟨bv12, ev12⟩ := rd_some qv12
      have rv12 : inR v12 := by rw [ev12]; exact hR _ _
      refine jx_iald hx hb hK hP 73 0 (by decide) gX_d2 rfl (by decide) bv12 ev12 dX4_carryOne_69 ?_
      obtain ⟨v13, M14, qv13, hf⟩ := bnd2_some hf
      refine jc_i (va_runV (As := [.int (J v7), .int (J v8), .int (J v9), .int (J v10), .int (J v11), .int (J v12)]) (rest := []) ⟨hx, hb, hml, hown, hts⟩ (kX3_addVisit l D ca v ad hI M hR 0 (by decide : 0 < 11) v7 v8 v9 v10 v11 v12 rv7 rv8 rv9 rv10 rv11 rv12 v13 M14 qv13) (cwV 6 hts gX4_carryOne_X3_addVisit rfl rfl rfl (by decide +kernel) ⟨Nat.le_of_ble_eq_true rfl, Nat.le_of_ble_eq_true rfl⟩) (pvX hK hE hP hS [.int (J v7), .int (J v8), .int (J v9), .int (J v10), .int (J v11), .int (J v12)] (by omega) (gX_r0 (by decide : 0 < 11) _) rfl) rfl rfl hl.1 rfl (lv_room (Nat.le_of_ble_eq_true rfl)) dX4_carryOne_70 ⟨Nat.zero_le _, Nat.zero_le _⟩) hS (fun H locs t ht hφ hO hS => ?_)
      obtain ⟨rv13, hRM14⟩ := hφ
      have hP : va_P D vwCl (wX ca ad M14) H := by rw [← ht]; exact hO
      obtain ⟨e1, e2⟩ := Prod.mk.inj (Option.some.inj hf)
      exact jend_i hx hb hr rfl hS e1 ⟨by rw [← e1]; exact rv13, by rw [← e2]; exact hRM14⟩ (oX e2 hP) dX4_carryOne_73 hlocks
    · have hf := iten hf c1_1
      by_cases c1_2 : (M 71 5) = 119
      · have hf := itep hf c1_2
        refine jv_look (off := 59) (tgt := 74) hx hb dX4_carryOne_15 (hR 71 5) (by decide) (by rw [c1_2]; rfl) (by decide) ?_
        refine lv_aload_n hx hb dX4_carryOne_74 rfl (lv_at hl 1 rfl) ?_
        refine va_get (D := D) (ci := 4) (v := .ref (ad (5 * 0))) (C := RX4) (T := TX4) (N := 8) hx hb hts hinX4 hown hK hP 74 (wL_get (by decide) (gX_x0 _)) rfl 0 (by decide) (hts (.fieldLink RX4 12 "VisitVans" "road" "LVisitVans$Road;") (List.mem_of_getElem? (i := 4) rfl)) (fun _ h => h) rfl dX4_carryOne_75 ?_
        refine lv_aload_n hx hb dX4_carryOne_78 rfl (lv_at hl 0 rfl) ?_
        refine lv_iconst (v := J 0) hx hb dX4_carryOne_79 rfl ?_
        obtain ⟨v15, qv15, hf⟩ := bnd_some hf
        obtain ⟨bv15, ev15⟩ := rd_some qv15
        have rv15 : inR v15 := by rw [ev15]; exact hR _ _
        refine jx_iald hx hb hK hP 73 0 (by decide) gX_d2 rfl (by decide) bv15 ev15 dX4_carryOne_80 ?_
        refine lv_aload_n hx hb dX4_carryOne_81 rfl (lv_at hl 0 rfl) ?_
        refine lv_iconst (v := J 1) hx hb dX4_carryOne_82 rfl ?_
        obtain ⟨v16, qv16, hf⟩ := bnd_some hf
        obtain ⟨bv16, ev16⟩ := rd_some qv16
        have rv16 : inR v16 := by rw [ev16]; exact hR _ _
        refine jx_iald hx hb hK hP 73 0 (by decide) gX_d2 rfl (by decide) bv16 ev16 dX4_carryOne_83 ?_
        obtain ⟨v17, M18, qv17, hf⟩ := bnd2_some hf
        refine jc_i (va_runV (As := [.int (J v15), .int (J v16)]) (rest := []) ⟨hx, hb, hml, hown, hts⟩ (kX3_addVan l D ca v ad hI M hR 0 (by decide : 0 < 11) v15 v16 rv15 rv16 v17 M18 qv17) (cwV 2 hts gX4_carryOne_X3_addVan rfl rfl rfl (by decide +kernel) ⟨Nat.le_of_ble_eq_true rfl, Nat.le_of_ble_eq_true rfl⟩) (pvX hK hE hP hS [.int (J v15), .int (J v16)] (by omega) (gX_r0 (by decide : 0 < 11) _) rfl) rfl rfl hl.1 rfl (lv_room (Nat.le_of_ble_eq_true rfl)) dX4_carryOne_84 ⟨Nat.zero_le _, Nat.zero_le _⟩) hS (fun H locs t ht hφ hO hS => ?_)
        obtain ⟨rv17, hRM18⟩ := hφ
        have hP : va_P D vwCl (wX ca ad M18) H := by rw [← ht]; exact hO
        obtain ⟨e1, e2⟩ := Prod.mk.inj (Option.some.inj hf)
        exact jend_i hx hb hr rfl hS e1 ⟨by rw [← e1]; exact rv17, by rw [← e2]; exact hRM18⟩ (oX e2 hP) dX4_carryOne_87 hlocks
      · have hf := iten hf c1_2
        refine jv_look (off := 90) (tgt := 105) hx hb dX4_carryOne_15 (hR 71 5) (by decide) (by show Op.lookupswitch.offset [(108, 73), (118, 33), (119, 59)] _ _ = _; rw [Op.lookupswitch.offset_cons, if_neg (by omega), Op.lookupswitch.offset_cons, if_neg (by omega), Op.lookupswitch.offset_cons, if_neg (by omega)]; rfl) (by decide) ?_
        refine lv_aload_n hx hb dX4_carryOne_105 rfl (lv_at hl 1 rfl) ?_
        refine va_get (D := D) (ci := 4) (v := .ref (ad (5 * 0))) (C := RX4) (T := TX4) (N := 8) hx hb hts hinX4 hown hK hP 74 (wL_get (by decide) (gX_x0 _)) rfl 0 (by decide) (hts (.fieldLink RX4 12 "VisitVans" "road" "LVisitVans$Road;") (List.mem_of_getElem? (i := 4) rfl)) (fun _ h => h) rfl dX4_carryOne_106 ?_
        refine lv_aload_n hx hb dX4_carryOne_109 rfl (lv_at hl 0 rfl) ?_
        refine lv_iconst (v := J 0) hx hb dX4_carryOne_110 rfl ?_
        obtain ⟨v19, qv19, hf⟩ := bnd_some hf
        obtain ⟨bv19, ev19⟩ := rd_some qv19
        have rv19 : inR v19 := by rw [ev19]; exact hR _ _
        refine jx_iald hx hb hK hP 73 0 (by decide) gX_d2 rfl (by decide) bv19 ev19 dX4_carryOne_111 ?_
        obtain ⟨v20, M21, qv20, hf⟩ := bnd2_some hf
        refine jc_i (va_runV (As := [.int (J v19)]) (rest := []) ⟨hx, hb, hml, hown, hts⟩ (kX3_removeVisit l D ca v ad hI M hR 0 (by decide : 0 < 11) v19 rv19 v20 M21 qv20) (cwV 1 hts gX4_carryOne_X3_removeVisit rfl rfl rfl (by decide +kernel) ⟨Nat.le_of_ble_eq_true rfl, Nat.le_of_ble_eq_true rfl⟩) (pvX hK hE hP hS [.int (J v19)] (by omega) (gX_r0 (by decide : 0 < 11) _) rfl) rfl rfl hl.1 rfl (lv_room (Nat.le_of_ble_eq_true rfl)) dX4_carryOne_112 ⟨Nat.zero_le _, Nat.zero_le _⟩) hS (fun H locs t ht hφ hO hS => ?_)
        obtain ⟨rv20, hRM21⟩ := hφ
        have hP : va_P D vwCl (wX ca ad M21) H := by rw [← ht]; exact hO
        obtain ⟨e1, e2⟩ := Prod.mk.inj (Option.some.inj hf)
        exact jend_i hx hb hr rfl hS e1 ⟨by rw [← e1]; exact rv20, by rw [← e2]; exact hRM21⟩ (oX e2 hP) dX4_carryOne_115 hlocks
def fX4_carryOrders_L9 : Nat → Int → MM → Option (Int × MM)
  | 0, _, _ => none
  | n + 1, x1_3, M_3 => if 80 ≤ x1_3 then some (x1_3, M_3) else bnd (fX1_hasMore M_3) (fun v5 => if v5 = 0 then some (x1_3, M_3) else bnd2 (fX1_readOrder M_3) (fun v8 M9 => if v8 = 0 then some (x1_3, M9) else bnd2 (fX4_carryOne M9) (fun v11 M12 => if v11 < 0 then some (x1_3, M12) else gd (inR (x1_3 + 1)) (fX4_carryOrders_L9 n (x1_3 + 1) M12))))
def fX4_carryOrders (M : MM) : Option (Int × MM) := bnd (fX1_start M) (fun M2 => bnd2 (fX4_carryOrders_L9 4000 0 M2) (fun y3_0 N_3 => some (y3_0, N_3)))
set_option maxHeartbeats 4000000 in
set_option maxRecDepth 100000 in
theorem kX4_carryOrders (l : Launch) (D : va_G) (ca : Nat → ClassId) (v : EV) (ad : Nat → Nat) (hI : aInj 75 ad) (M : MM) (hR : RR M) (res : Int) (M' : MM) (hf : fX4_carryOrders M = some (res, M')) : CI l yX4_carryOrders wsX4_carryOrders 6 129 [.ref (ad 74)] (PX D ca v ad M) res (inR res ∧ RR M') (OX D ca ad M') (aS 75 ad) := by
  refine Met.ofW (cc := cX4_carryOrders) (maxL := 2) (ret := (some .int)) (by decide) rfl ?_
  intro p e s m args below meth c s₁ B hml hv
  obtain ⟨rfl, hP, hK, hE⟩ := hv
  have hx := B.exec
  have hb := B.bytes
  have hr := B.returns
  have hts := atoms_spec (ws := wsX4_carryOrders) B.pre
  have hown : s.vm.findClass RX4 = some m.cls := findClass_of_methodNamed B.named
  have hlocks := B.notSynchronized
  have hS : va_S (aS 75 ad) s.heap s.heap [] := va_S.rf
  have hinX4 : ∀ w ∈ wsX40, w ∈ wsX4_carryOrders := by decide +kernel
  have hl := lv_entry ([.ref (ad 74)]) (n := 2) (Nat.le_of_ble_eq_true rfl)
  rw [lg_entry_eq]
  generalize (lg_sl ([.ref (ad 74)]) ++ List.replicate (2 - (lg_sl ([.ref (ad 74)])).length) Slot.unset).toArray = ls at hl ⊢
  have hl : lv_has ls 2 [(0, .ref (ad 74))] := hl
  unfold fX4_carryOrders at hf
  refine lv_aload_n hx hb dX4_carryOrders_0 rfl (lv_at hl 0 rfl) ?_
  refine va_get (D := D) (ci := 4) (v := .ref (ad 71)) (C := RX4) (T := TX4) (N := 8) hx hb hts hinX4 hown hK hP 74 (wL_get (by decide) (gX_x0 _)) rfl 7 (by decide) (hts (.fieldLink RX4 47 "VisitVans" "pad" "LVisitVans$Pad;") (List.mem_of_getElem? (i := 1) rfl)) (fun _ h => h) rfl dX4_carryOrders_1 ?_
  obtain ⟨M2, qM2, hf⟩ := bnd_some hf
  refine jc_v (va_runV (As := []) (rest := []) ⟨hx, hb, hml, hown, hts⟩ (kX1_start l D ca v ad hI M hR M2 qM2) (cwV 0 hts gX4_carryOrders_X1_start rfl rfl rfl (by decide +kernel) ⟨Nat.le_of_ble_eq_true rfl, Nat.le_of_ble_eq_true rfl⟩) (pvX hK hE hP hS [] (by decide) (gX_d0 _) rfl) rfl rfl hl.1 rfl (lv_room (Nat.le_of_ble_eq_true rfl)) dX4_carryOrders_4 ⟨Nat.zero_le _, Nat.zero_le _⟩) hS (fun H locs t ht hφ hO hS => ?_)
  have hRM2 := hφ
  have hP : va_P D vwCl (wX ca ad M2) H := by rw [← ht]; exact hO
  refine lv_iconst (v := J 0) hx hb dX4_carryOrders_7 rfl ?_
  refine lv_istore_n (lv' := [(1, .int (J 0)), (0, .ref (ad 74))]) hx hb dX4_carryOrders_8 rfl hl (by decide) rfl (fun ls hl => ?_)
  obtain ⟨y3_0, N_3, h3, hf⟩ := bnd2_some hf
  have K3 : ∀ (H : Heap) (locs : List Loc) (ls : Array Slot), inR y3_0 → RR N_3 → va_P D vwCl (wX ca ad N_3) H → va_S (aS 75 ad) s.heap H locs → lv_has ls 2 [(1, .int (J y3_0))] → W p l e (headSpec wsX4_carryOrders (RmC 6 129)).room s m ([.ref (ad 74)] : List Value).toArray below meth c H locs 0 0 (MQ below (va_Qi (fun x (_ : Unit) => x = J res ∧ (inR res ∧ RR M')) (fun _ => (OX D ca ad M')) (aS 75 ad)) ([.ref (ad 74)] : List Value).toArray s 0 0 (aS 75 ad)) (F0 m 48 ls []) := by
    intro H locs ls ry3_0 hRN_3 hP hS hl
    refine lv_iload_n hx hb dX4_carryOrders_48 rfl (lv_at hl 0 rfl) ?_
    obtain ⟨e1, e2⟩ := Prod.mk.inj (Option.some.inj hf)
    exact jend_i hx hb hr rfl hS e1 ⟨by rw [← e1]; exact ry3_0, by rw [← e2]; exact hRN_3⟩ (oX e2 hP) dX4_carryOrders_49 hlocks
  have hL3 : ∀ (n : Nat) (x1_3 : Int) (M_3 : MM) (H : Heap) (locs : List Loc) (ls : Array Slot), inR x1_3 → RR M_3 → va_P D vwCl (wX ca ad M_3) H → va_S (aS 75 ad) s.heap H locs → lv_has ls 2 [(0, .ref (ad 74)), (1, .int (J x1_3))] → fX4_carryOrders_L9 n x1_3 M_3 = some (y3_0, N_3) → W p l e (headSpec wsX4_carryOrders (RmC 6 129)).room s m ([.ref (ad 74)] : List Value).toArray below meth c H locs 0 0 (MQ below (va_Qi (fun x (_ : Unit) => x = J res ∧ (inR res ∧ RR M')) (fun _ => (OX D ca ad M')) (aS 75 ad)) ([.ref (ad 74)] : List Value).toArray s 0 0 (aS 75 ad)) (F0 m 9 ls []) := by
    intro n
    induction n with
    | zero =>
      intro x1_3 M_3 H locs ls rx1_3 hRM_3 hP hS hl hf
      rw [fX4_carryOrders_L9] at hf
      cases hf
    | succ n ih =>
      intro x1_3 M_3 H locs ls rx1_3 hRM_3 hP hS hl hf
      rw [fX4_carryOrders_L9] at hf
      refine lv_iload_n hx hb dX4_carryOrders_9 rfl (lv_at hl 1 rfl) ?_
      refine lv_bipush (v := J 80) hx hb dX4_carryOrders_10 (by decide +kernel) ?_
      refine jv_icmp_ge (tgt := 48) hx hb dX4_carryOrders_12 (by decide) rx1_3 (by decide : inR 80) (fun c4 => ?_) (fun c4 => ?_)
      · have hf := itep hf c4
        cases hf
        exact K3 _ _ _ rx1_3 hRM_3 hP hS (lv_sub hl [1] rfl)
      · have hf := iten hf c4
        refine lv_aload_n hx hb dX4_carryOrders_15 rfl (lv_at hl 0 rfl) ?_
        refine va_get (D := D) (ci := 4) (v := .ref (ad 71)) (C := RX4) (T := TX4) (N := 8) hx hb hts hinX4 hown hK hP 74 (wL_get (by decide) (gX_x0 _)) rfl 7 (by decide) (hts (.fieldLink RX4 47 "VisitVans" "pad" "LVisitVans$Pad;") (List.mem_of_getElem? (i := 1) rfl)) (fun _ h => h) rfl dX4_carryOrders_16 ?_
        obtain ⟨v5, qv5, hf⟩ := bnd_some hf
        refine jc_i (va_runV (As := []) (rest := []) ⟨hx, hb, hml, hown, hts⟩ (kX1_hasMore l D ca v ad hI M_3 hRM_3 v5 qv5) (cwV 0 hts gX4_carryOrders_X1_hasMore rfl rfl rfl (by decide +kernel) ⟨Nat.le_of_ble_eq_true rfl, Nat.le_of_ble_eq_true rfl⟩) (pvX hK hE hP hS [] (by decide) (gX_d0 _) rfl) rfl rfl hl.1 rfl (lv_room (Nat.le_of_ble_eq_true rfl)) dX4_carryOrders_19 ⟨Nat.zero_le _, Nat.zero_le _⟩) hS (fun H locs t ht hφ hO hS => ?_)
        have rv5 := hφ
        have hP : va_P D vwCl (wX ca ad M_3) H := by rw [← ht]; exact hO
        refine jv_if_eq (tgt := 48) hx hb dX4_carryOrders_22 (by decide) rv5 (fun c7 => ?_) (fun c7 => ?_)
        · have hf := itep hf c7
          cases hf
          exact K3 _ _ _ rx1_3 hRM_3 hP hS (lv_sub hl [1] rfl)
        · have hf := iten hf c7
          refine lv_aload_n hx hb dX4_carryOrders_25 rfl (lv_at hl 0 rfl) ?_
          refine va_get (D := D) (ci := 4) (v := .ref (ad 71)) (C := RX4) (T := TX4) (N := 8) hx hb hts hinX4 hown hK hP 74 (wL_get (by decide) (gX_x0 _)) rfl 7 (by decide) (hts (.fieldLink RX4 47 "VisitVans" "pad" "LVisitVans$Pad;") (List.mem_of_getElem? (i := 1) rfl)) (fun _ h => h) rfl dX4_carryOrders_26 ?_
          obtain ⟨v8, M9, qv8, hf⟩ := bnd2_some hf
          refine jc_i (va_runV (As := []) (rest := []) ⟨hx, hb, hml, hown, hts⟩ (kX1_readOrder l D ca v ad hI M_3 hRM_3 v8 M9 qv8) (cwV 0 hts gX4_carryOrders_X1_readOrder rfl rfl rfl (by decide +kernel) ⟨Nat.le_of_ble_eq_true rfl, Nat.le_of_ble_eq_true rfl⟩) (pvX hK hE hP hS [] (by decide) (gX_d0 _) rfl) rfl rfl hl.1 rfl (lv_room (Nat.le_of_ble_eq_true rfl)) dX4_carryOrders_29 ⟨Nat.zero_le _, Nat.zero_le _⟩) hS (fun H locs t ht hφ hO hS => ?_)
          obtain ⟨rv8, hRM9⟩ := hφ
          have hP : va_P D vwCl (wX ca ad M9) H := by rw [← ht]; exact hO
          refine jv_if_eq (tgt := 48) hx hb dX4_carryOrders_32 (by decide) rv8 (fun c10 => ?_) (fun c10 => ?_)
          · have hf := itep hf c10
            cases hf
            exact K3 _ _ _ rx1_3 hRM9 hP hS (lv_sub hl [1] rfl)
          · have hf := iten hf c10
            refine lv_aload_n hx hb dX4_carryOrders_35 rfl (lv_at hl 0 rfl) ?_
            obtain ⟨v11, M12, qv11, hf⟩ := bnd2_some hf
            refine jc_i (va_runV (As := []) (rest := []) ⟨hx, hb, hml, hown, hts⟩ (kX4_carryOne l D ca v ad hI M9 hRM9 v11 M12 qv11) (cwV 0 hts gX4_carryOrders_X4_carryOne rfl rfl rfl (by decide +kernel) ⟨Nat.le_of_ble_eq_true rfl, Nat.le_of_ble_eq_true rfl⟩) (pvX hK hE hP hS [] (by decide) (gX_x0 _) rfl) rfl rfl hl.1 rfl (lv_room (Nat.le_of_ble_eq_true rfl)) dX4_carryOrders_36 ⟨Nat.zero_le _, Nat.zero_le _⟩) hS (fun H locs t ht hφ hO hS => ?_)
            obtain ⟨rv11, hRM12⟩ := hφ
            have hP : va_P D vwCl (wX ca ad M12) H := by rw [← ht]; exact hO
            refine jv_if_lt (tgt := 48) hx hb dX4_carryOrders_39 (by decide) rv11 (fun c13 => ?_) (fun c13 => ?_)
            · have hf := itep hf c13
              cases hf
              exact K3 _ _ _ rx1_3 hRM12 hP hS (lv_sub hl [1] rfl)
            · have hf := iten hf c13
              refine lv_iinc (v := J (x1_3 + 1)) (lv' := [(1, .int (J (x1_3 + 1))), (0, .ref (ad 74))]) hx hb dX4_carryOrders_42 hl (k := 1) rfl (J_add _ _) (by decide) rfl (fun ls hl => ?_)
              refine lv_goto (tgt := 9) hx hb dX4_carryOrders_45 (by decide) ?_
              obtain ⟨g14, hf⟩ := gd_some hf
              exact ih _ _ _ _ _ g14 hRM12 hP hS (lv_sub hl [1, 0] rfl) hf
  exact hL3 4000 _ _ _ _ _ (by decide : inR 0) hRM2 hP hS (lv_sub hl [1, 0] rfl) h3
def fX4_carryOut (M : MM) : Option (Int × MM) := bnd2 (fX1_firstFault M) (fun v1 M2 => if v1 = (-6) then bnd (fX0_note 0 M2) (fun M5 => bnd2 (fX4_carryOrders M5) (fun v6 M7 => bnd (some (stM M7 71 1 0)) (fun M8 => bnd2 (fX4_changed v6 M8) (fun v9 M10 => some (v9, M10))))) else some ((-3), M2))
set_option maxHeartbeats 4000000 in
set_option maxRecDepth 100000 in
theorem kX4_carryOut (l : Launch) (D : va_G) (ca : Nat → ClassId) (v : EV) (ad : Nat → Nat) (hI : aInj 75 ad) (M : MM) (hR : RR M) (res : Int) (M' : MM) (hf : fX4_carryOut M = some (res, M')) : CI l yX4_carryOut wsX4_carryOut 7 151 [.ref (ad 74)] (PX D ca v ad M) res (inR res ∧ RR M') (OX D ca ad M') (aS 75 ad) := by
  refine Met.ofW (cc := cX4_carryOut) (maxL := 2) (ret := (some .int)) (by decide) rfl ?_
  intro p e s m args below meth c s₁ B hml hv
  obtain ⟨rfl, hP, hK, hE⟩ := hv
  have hx := B.exec
  have hb := B.bytes
  have hr := B.returns
  have hts := atoms_spec (ws := wsX4_carryOut) B.pre
  have hown : s.vm.findClass RX4 = some m.cls := findClass_of_methodNamed B.named
  have hlocks := B.notSynchronized
  have hS : va_S (aS 75 ad) s.heap s.heap [] := va_S.rf
  have hinX1 : ∀ w ∈ wsX10, w ∈ wsX4_carryOut := by decide +kernel
  have hinX4 : ∀ w ∈ wsX40, w ∈ wsX4_carryOut := by decide +kernel
  have hl := lv_entry ([.ref (ad 74)]) (n := 2) (Nat.le_of_ble_eq_true rfl)
  rw [lg_entry_eq]
  generalize (lg_sl ([.ref (ad 74)]) ++ List.replicate (2 - (lg_sl ([.ref (ad 74)])).length) Slot.unset).toArray = ls at hl ⊢
  have hl : lv_has ls 2 [(0, .ref (ad 74))] := hl
  unfold fX4_carryOut at hf
  refine lv_aload_n hx hb dX4_carryOut_0 rfl (lv_at hl 0 rfl) ?_
  refine va_get (D := D) (ci := 4) (v := .ref (ad 71)) (C := RX4) (T := TX4) (N := 8) hx hb hts hinX4 hown hK hP 74 (wL_get (by decide) (gX_x0 _)) rfl 7 (by decide) (hts (.fieldLink RX4 47 "VisitVans" "pad" "LVisitVans$Pad;") (List.mem_of_getElem? (i := 1) rfl)) (fun _ h => h) rfl dX4_carryOut_1 ?_
  obtain ⟨v1, M2, qv1, hf⟩ := bnd2_some hf
  refine jc_i (va_runV (As := []) (rest := []) ⟨hx, hb, hml, hown, hts⟩ (kX1_firstFault l D ca v ad hI M hR v1 M2 qv1) (cwV 0 hts gX4_carryOut_X1_firstFault rfl rfl rfl (by decide +kernel) ⟨Nat.le_of_ble_eq_true rfl, Nat.le_of_ble_eq_true rfl⟩) (pvX hK hE hP hS [] (by decide) (gX_d0 _) rfl) rfl rfl hl.1 rfl (lv_room (Nat.le_of_ble_eq_true rfl)) dX4_carryOut_4 ⟨Nat.zero_le _, Nat.zero_le _⟩) hS (fun H locs t ht hφ hO hS => ?_)
  obtain ⟨rv1, hRM2⟩ := hφ
  have hP : va_P D vwCl (wX ca ad M2) H := by rw [← ht]; exact hO
  refine lv_bipush (v := J (-6)) hx hb dX4_carryOut_7 (by decide +kernel) ?_
  refine jv_icmp_eq (tgt := 15) hx hb dX4_carryOut_9 (by decide) rv1 (by decide : inR (-6)) (fun c3 => ?_) (fun c3 => ?_)
  · have hf := itep hf c3
    refine lv_aload_n hx hb dX4_carryOut_15 rfl (lv_at hl 0 rfl) ?_
    refine va_get (D := D) (ci := 4) (v := .ref (ad 67)) (C := RX4) (T := TX4) (N := 8) hx hb hts hinX4 hown hK hP 74 (wL_get (by decide) (gX_x0 _)) rfl 4 (by decide) (hts (.fieldLink RX4 32 "VisitVans" "history" "LVisitVans$History;") (List.mem_of_getElem? (i := 2) rfl)) (fun _ h => h) rfl dX4_carryOut_16 ?_
    refine lv_aload_n hx hb dX4_carryOut_19 rfl (lv_at hl 0 rfl) ?_
    refine va_get (D := D) (ci := 4) (v := .ref (ad (5 * 0))) (C := RX4) (T := TX4) (N := 8) hx hb hts hinX4 hown hK hP 74 (wL_get (by decide) (gX_x0 _)) rfl 0 (by decide) (hts (.fieldLink RX4 12 "VisitVans" "road" "LVisitVans$Road;") (List.mem_of_getElem? (i := 3) rfl)) (fun _ h => h) rfl dX4_carryOut_20 ?_
    obtain ⟨M5, qM5, hf⟩ := bnd_some hf
    refine jc_v (va_runV (As := [.ref (ad (5 * 0))]) (rest := []) ⟨hx, hb, hml, hown, hts⟩ (kX0_note l D ca v ad hI M2 hRM2 0 (by decide : 0 < 11) M5 qM5) (cwV 1 hts gX4_carryOut_X0_note rfl rfl rfl (by decide +kernel) ⟨Nat.le_of_ble_eq_true rfl, Nat.le_of_ble_eq_true rfl⟩) (pvX hK hE hP hS [.ref (ad (5 * 0))] (by decide) (gX_h0 _) rfl) rfl rfl hl.1 rfl (lv_room (Nat.le_of_ble_eq_true rfl)) dX4_carryOut_23 ⟨Nat.zero_le _, Nat.zero_le _⟩) hS (fun H locs t ht hφ hO hS => ?_)
    have hRM5 := hφ
    have hP : va_P D vwCl (wX ca ad M5) H := by rw [← ht]; exact hO
    refine lv_aload_n hx hb dX4_carryOut_26 rfl (lv_at hl 0 rfl) ?_
    obtain ⟨v6, M7, qv6, hf⟩ := bnd2_some hf
    refine jc_i (va_runV (As := []) (rest := []) ⟨hx, hb, hml, hown, hts⟩ (kX4_carryOrders l D ca v ad hI M5 hRM5 v6 M7 qv6) (cwV 0 hts gX4_carryOut_X4_carryOrders rfl rfl rfl (by decide +kernel) ⟨Nat.le_of_ble_eq_true rfl, Nat.le_of_ble_eq_true rfl⟩) (pvX hK hE hP hS [] (by decide) (gX_x0 _) rfl) rfl rfl hl.1 rfl (lv_room (Nat.le_of_ble_eq_true rfl)) dX4_carryOut_27 ⟨Nat.zero_le _, Nat.zero_le _⟩) hS (fun H locs t ht hφ hO hS => ?_)
    obtain ⟨rv6, hRM7⟩ := hφ
    have hP : va_P D vwCl (wX ca ad M7) H := by rw [← ht]; exact hO
    refine lv_istore_n (lv' := [(1, .int (J v6)), (0, .ref (ad 74))]) hx hb dX4_carryOut_30 rfl hl (by decide) rfl (fun ls hl => ?_)
    refine lv_aload_n hx hb dX4_carryOut_31 rfl (lv_at hl 1 rfl) ?_
    refine va_get (D := D) (ci := 4) (v := .ref (ad 71)) (C := RX4) (T := TX4) (N := 8) hx hb hts hinX4 hown hK hP 74 (wL_get (by decide) (gX_x0 _)) rfl 7 (by decide) (hts (.fieldLink RX4 47 "VisitVans" "pad" "LVisitVans$Pad;") (List.mem_of_getElem? (i := 1) rfl)) (fun _ h => h) rfl dX4_carryOut_32 ?_
    refine lv_iconst (v := J 0) hx hb dX4_carryOut_35 rfl ?_
    obtain ⟨M8, eM8, hf⟩ := bnd_some hf
    have eM8 := Option.some.inj eM8
    have hRM8 : RR M8 := by rw [← eM8]; exact RR_st hRM7 71 1 (by decide : inR 0)
    refine va_put (D := D) (ci := 1) (v := .int (J 0)) (ty := .int) (C := RX1) (T := TX1) (N := 6) hx hb hts hinX1 tyX1 tyX1_ok nmX1 hown hK hP (wL_D hI M7) hS 71 (wL_get (by decide) (gX_d0 _)) rfl 1 (by decide) (hts (.fieldLink RX4 136 "VisitVans$Pad" "length" "I") (List.mem_of_getElem? (i := 4) rfl)) (fun _ h => h) rfl rfl rfl rfl (Nat.le_of_ble_eq_true rfl) dX4_carryOut_36 (fun H locs hP hD hS => ?_)
    have hP : va_P D vwCl (wX ca ad M8) H := by rw [← eM8]; exact hPset (gX_d0_s1) stM_o hP
    refine lv_aload_n hx hb dX4_carryOut_39 rfl (lv_at hl 1 rfl) ?_
    refine lv_iload_n hx hb dX4_carryOut_40 rfl (lv_at hl 0 rfl) ?_
    obtain ⟨v9, M10, qv9, hf⟩ := bnd2_some hf
    refine jc_i (va_runV (As := [.int (J v6)]) (rest := []) ⟨hx, hb, hml, hown, hts⟩ (kX4_changed l D ca v ad hI M8 hRM8 v6 rv6 v9 M10 qv9) (cwV 1 hts gX4_carryOut_X4_changed rfl rfl rfl (by decide +kernel) ⟨Nat.le_of_ble_eq_true rfl, Nat.le_of_ble_eq_true rfl⟩) (pvX hK hE hP hS [.int (J v6)] (by decide) (gX_x0 _) rfl) rfl rfl hl.1 rfl (lv_room (Nat.le_of_ble_eq_true rfl)) dX4_carryOut_41 ⟨Nat.zero_le _, Nat.zero_le _⟩) hS (fun H locs t ht hφ hO hS => ?_)
    obtain ⟨rv9, hRM10⟩ := hφ
    have hP : va_P D vwCl (wX ca ad M10) H := by rw [← ht]; exact hO
    obtain ⟨e1, e2⟩ := Prod.mk.inj (Option.some.inj hf)
    exact jend_i hx hb hr rfl hS e1 ⟨by rw [← e1]; exact rv9, by rw [← e2]; exact hRM10⟩ (oX e2 hP) dX4_carryOut_44 hlocks
  · have hf := iten hf c3
    refine lv_bipush (v := J (-3)) hx hb dX4_carryOut_12 (by decide +kernel) ?_
    obtain ⟨e1, e2⟩ := Prod.mk.inj (Option.some.inj hf)
    exact jend_i hx hb hr rfl hS e1 ⟨by rw [← e1]; exact (by decide : inR (-3)), by rw [← e2]; exact hRM2⟩ (oX e2 hP) dX4_carryOut_14 hlocks
def fX0_takeBack (r1 : Nat) (M : MM) : Option (MM) := bnd (if (M 67 2) ≤ 0 then some (M) else gd (inR ((M 67 2) - 1)) (bnd (some (stM M 67 2 ((M 67 2) - 1))) (fun M4 => gd (0 ≤ (irem ((M4 67 1) + (M4 67 2)) 7) ∧ (irem ((M4 67 1) + (M4 67 2)) 7) < 7) (bnd (fX3_copyFrom r1 (4 + ((irem ((M4 67 1) + (M4 67 2)) 7)).toNat) M4) (fun M7 => some (M7)))))) (fun M_2 => some M_2)
set_option maxHeartbeats 4000000 in
set_option maxRecDepth 100000 in
theorem kX0_takeBack (l : Launch) (D : va_G) (ca : Nat → ClassId) (v : EV) (ad : Nat → Nat) (hI : aInj 75 ad) (M : MM) (hR : RR M) (r1 : Nat) (hr1 : r1 < 11) (M' : MM) (hf : fX0_takeBack r1 M = some M') : CV l yX0_takeBack wsX0_takeBack 2 61 [.ref (ad 67), .ref (ad (5 * r1))] (PX D ca v ad M) (RR M') (OX D ca ad M') (aS 75 ad) := by
  refine Met.ofW (cc := cX0_takeBack) (maxL := 2) (ret := none) (by decide) rfl ?_
  intro p e s m args below meth c s₁ B hml hv
  obtain ⟨rfl, hP, hK, hE⟩ := hv
  have hx := B.exec
  have hb := B.bytes
  have hr := B.returns
  have hts := atoms_spec (ws := wsX0_takeBack) B.pre
  have hown : s.vm.findClass RX0 = some m.cls := findClass_of_methodNamed B.named
  have hlocks := B.notSynchronized
  have hS : va_S (aS 75 ad) s.heap s.heap [] := va_S.rf
  have hinX0 : ∀ w ∈ wsX00, w ∈ wsX0_takeBack := by decide +kernel
  have hl := lv_entry ([.ref (ad 67), .ref (ad (5 * r1))]) (n := 2) (Nat.le_of_ble_eq_true rfl)
  rw [lg_entry_eq]
  generalize (lg_sl ([.ref (ad 67), .ref (ad (5 * r1))]) ++ List.replicate (2 - (lg_sl ([.ref (ad 67), .ref (ad (5 * r1))])).length) Slot.unset).toArray = ls at hl ⊢
  have hl : lv_has ls 2 [(0, .ref (ad 67)), (1, .ref (ad (5 * r1)))] := hl
  unfold fX0_takeBack at hf
  refine lv_aload_n hx hb dX0_takeBack_0 rfl (lv_at hl 0 rfl) ?_
  refine va_get (D := D) (ci := 0) (v := .int (J (M 67 2))) (C := RX0) (T := TX0) (N := 3) hx hb hts hinX0 hown hK hP 67 (wL_get (by decide) (gX_h0 _)) rfl 2 (by decide) (hts (.fieldLink RX0 22 "VisitVans$History" "many" "I") (List.mem_of_getElem? (i := 1) rfl)) (fun _ h => h) rfl dX0_takeBack_1 ?_
  obtain ⟨M_2, h2, hf⟩ := bnd_some hf
  have K2 : ∀ (H : Heap) (locs : List Loc) (ls : Array Slot), RR M_2 → va_P D vwCl (wX ca ad M_2) H → va_S (aS 75 ad) s.heap H locs → lv_has ls 2 [] → W p l e (headSpec wsX0_takeBack (RmC 2 61)).room s m ([.ref (ad 67), .ref (ad (5 * r1))] : List Value).toArray below meth c H locs 0 0 (MQ below (va_Qv (fun (_ : Unit) => (RR M')) (fun _ => (OX D ca ad M')) (aS 75 ad)) ([.ref (ad 67), .ref (ad (5 * r1))] : List Value).toArray s 0 0 (aS 75 ad)) (F0 m 38 ls []) := by
    intro H locs ls hRM_2  hP hS hl
    have e2 := Option.some.inj hf
    exact jend_v hx hb hr hS (by rw [← e2]; exact hRM_2) (oX e2 hP) dX0_takeBack_38 hlocks
  have hf := h2
  clear h2
  refine jv_if_le (tgt := 38) hx hb dX0_takeBack_4 (by decide) (hR 67 2) (fun c1 => ?_) (fun c1 => ?_)
  · have hf := itep hf c1
    cases hf
    exact K2 _ _ _ hR hP hS (lv_sub hl [] rfl)
  · have hf := iten hf c1
    refine lv_aload_n hx hb dX0_takeBack_7 rfl (lv_at hl 0 rfl) ?_
    refine lv_dup hx hb dX0_takeBack_8 rfl ?_
    refine va_get (D := D) (ci := 0) (v := .int (J (M 67 2))) (C := RX0) (T := TX0) (N := 3) hx hb hts hinX0 hown hK hP 67 (wL_get (by decide) (gX_h0 _)) rfl 2 (by decide) (hts (.fieldLink RX0 22 "VisitVans$History" "many" "I") (List.mem_of_getElem? (i := 1) rfl)) (fun _ h => h) rfl dX0_takeBack_9 ?_
    refine lv_iconst (v := J 1) hx hb dX0_takeBack_12 rfl ?_
    refine jv_isub hx hb dX0_takeBack_13 ?_
    obtain ⟨g3, hf⟩ := gd_some hf
    obtain ⟨M4, eM4, hf⟩ := bnd_some hf
    have eM4 := Option.some.inj eM4
    have hRM4 : RR M4 := by rw [← eM4]; exact RR_st hR 67 2 g3
    refine va_put (D := D) (ci := 0) (v := .int (J ((M 67 2) - 1))) (ty := .int) (C := RX0) (T := TX0) (N := 3) hx hb hts hinX0 tyX0 tyX0_ok nmX0 hown hK hP (wL_D hI M) hS 67 (wL_get (by decide) (gX_h0 _)) rfl 2 (by decide) (hts (.fieldLink RX0 22 "VisitVans$History" "many" "I") (List.mem_of_getElem? (i := 1) rfl)) (fun _ h => h) rfl rfl rfl rfl (Nat.le_of_ble_eq_true rfl) dX0_takeBack_14 (fun H locs hP hD hS => ?_)
    have hP : va_P D vwCl (wX ca ad M4) H := by rw [← eM4]; exact hPset (gX_h0_s2) stM_o hP
    refine lv_aload_n hx hb dX0_takeBack_17 rfl (lv_at hl 1 rfl) ?_
    refine lv_aload_n hx hb dX0_takeBack_18 rfl (lv_at hl 0 rfl) ?_
    refine va_get (D := D) (ci := 0) (v := .ref (ad 68)) (C := RX0) (T := TX0) (N := 3) hx hb hts hinX0 hown hK hP 67 (wL_get (by decide) (gX_h0 _)) rfl 0 (by decide) (hts (.fieldLink RX0 13 "VisitVans$History" "states" "[LVisitVans$Road;") (List.mem_of_getElem? (i := 2) rfl)) (fun _ h => h) rfl dX0_takeBack_19 ?_
    refine lv_aload_n hx hb dX0_takeBack_22 rfl (lv_at hl 0 rfl) ?_
    refine va_get (D := D) (ci := 0) (v := .int (J (M4 67 1))) (C := RX0) (T := TX0) (N := 3) hx hb hts hinX0 hown hK hP 67 (wL_get (by decide) (gX_h0 _)) rfl 1 (by decide) (hts (.fieldLink RX0 18 "VisitVans$History" "oldest" "I") (List.mem_of_getElem? (i := 3) rfl)) (fun _ h => h) rfl dX0_takeBack_23 ?_
    refine lv_aload_n hx hb dX0_takeBack_26 rfl (lv_at hl 0 rfl) ?_
    refine va_get (D := D) (ci := 0) (v := .int (J (M4 67 2))) (C := RX0) (T := TX0) (N := 3) hx hb hts hinX0 hown hK hP 67 (wL_get (by decide) (gX_h0 _)) rfl 2 (by decide) (hts (.fieldLink RX0 22 "VisitVans$History" "many" "I") (List.mem_of_getElem? (i := 1) rfl)) (fun _ h => h) rfl dX0_takeBack_27 ?_
    refine jv_iadd hx hb dX0_takeBack_30 ?_
    refine lv_bipush (v := J 7) hx hb dX0_takeBack_31 (by decide +kernel) ?_
    refine jv_irem hx hb dX0_takeBack_33 (by decide) ?_
    obtain ⟨g5, hf⟩ := gd_some hf
    have hhg5 : (4 + ((irem ((M4 67 1) + (M4 67 2)) 7)).toNat) < 11 := by omega
    refine jx_aald hx hb hK hP 68 3 (by decide) gX_h1 rfl (by decide) (by exact g5) dX0_takeBack_34 ?_
    obtain ⟨M7, qM7, hf⟩ := bnd_some hf
    refine jc_v (va_runV (As := [.ref (ad (5 * (4 + ((irem ((M4 67 1) + (M4 67 2)) 7)).toNat)))]) (rest := []) ⟨hx, hb, hml, hown, hts⟩ (kX3_copyFrom l D ca v ad hI M4 hRM4 r1 hr1 (4 + ((irem ((M4 67 1) + (M4 67 2)) 7)).toNat) hhg5 M7 qM7) (cwV 1 hts gX0_takeBack_X3_copyFrom rfl rfl rfl (by decide +kernel) ⟨Nat.le_of_ble_eq_true rfl, Nat.le_of_ble_eq_true rfl⟩) (pvX hK hE hP hS [.ref (ad (5 * (4 + ((irem ((M4 67 1) + (M4 67 2)) 7)).toNat)))] (by omega) (gX_r0 hr1 _) rfl) rfl rfl hl.1 rfl (lv_room (Nat.le_of_ble_eq_true rfl)) dX0_takeBack_35 ⟨Nat.zero_le _, Nat.zero_le _⟩) hS (fun H locs t ht hφ hO hS => ?_)
    have hRM7 := hφ
    have hP : va_P D vwCl (wX ca ad M7) H := by rw [← ht]; exact hO
    cases hf
    exact K2 _ _ _ hRM7 hP hS (lv_sub hl [] rfl)
def fX4_undo (M : MM) : Option (Int × MM) := if (M 67 2) = 0 then some ((-5), M) else bnd (fX0_takeBack 0 M) (fun M3 => bnd (fX2_make 0 0 M3) (fun M5 => some ((M5 67 2), M5)))
set_option maxHeartbeats 4000000 in
set_option maxRecDepth 100000 in
theorem kX4_undo (l : Launch) (D : va_G) (ca : Nat → ClassId) (v : EV) (ad : Nat → Nat) (hI : aInj 75 ad) (M : MM) (hR : RR M) (res : Int) (M' : MM) (hf : fX4_undo M = some (res, M')) : CI l yX4_undo wsX4_undo 5 126 [.ref (ad 74)] (PX D ca v ad M) res (inR res ∧ RR M') (OX D ca ad M') (aS 75 ad) := by
  refine Met.ofW (cc := cX4_undo) (maxL := 1) (ret := (some .int)) (by decide) rfl ?_
  intro p e s m args below meth c s₁ B hml hv
  obtain ⟨rfl, hP, hK, hE⟩ := hv
  have hx := B.exec
  have hb := B.bytes
  have hr := B.returns
  have hts := atoms_spec (ws := wsX4_undo) B.pre
  have hown : s.vm.findClass RX4 = some m.cls := findClass_of_methodNamed B.named
  have hlocks := B.notSynchronized
  have hS : va_S (aS 75 ad) s.heap s.heap [] := va_S.rf
  have hinX0 : ∀ w ∈ wsX00, w ∈ wsX4_undo := by decide +kernel
  have hinX4 : ∀ w ∈ wsX40, w ∈ wsX4_undo := by decide +kernel
  have hl := lv_entry ([.ref (ad 74)]) (n := 1) (Nat.le_of_ble_eq_true rfl)
  rw [lg_entry_eq]
  generalize (lg_sl ([.ref (ad 74)]) ++ List.replicate (1 - (lg_sl ([.ref (ad 74)])).length) Slot.unset).toArray = ls at hl ⊢
  have hl : lv_has ls 1 [(0, .ref (ad 74))] := hl
  unfold fX4_undo at hf
  refine lv_aload_n hx hb dX4_undo_0 rfl (lv_at hl 0 rfl) ?_
  refine va_get (D := D) (ci := 4) (v := .ref (ad 67)) (C := RX4) (T := TX4) (N := 8) hx hb hts hinX4 hown hK hP 74 (wL_get (by decide) (gX_x0 _)) rfl 4 (by decide) (hts (.fieldLink RX4 32 "VisitVans" "history" "LVisitVans$History;") (List.mem_of_getElem? (i := 1) rfl)) (fun _ h => h) rfl dX4_undo_1 ?_
  refine va_get (D := D) (ci := 0) (v := .int (J (M 67 2))) (C := RX0) (T := TX0) (N := 3) hx hb hts hinX0 hown hK hP 67 (wL_get (by decide) (gX_h0 _)) rfl 2 (by decide) (hts (.fieldLink RX4 139 "VisitVans$History" "many" "I") (List.mem_of_getElem? (i := 2) rfl)) (fun _ h => h) rfl dX4_undo_4 ?_
  refine jv_if_ne (tgt := 13) hx hb dX4_undo_7 (by decide) (hR 67 2) (fun c1 => ?_) (fun c1 => ?_)
  · have hf := iten hf c1
    refine lv_aload_n hx hb dX4_undo_13 rfl (lv_at hl 0 rfl) ?_
    refine va_get (D := D) (ci := 4) (v := .ref (ad 67)) (C := RX4) (T := TX4) (N := 8) hx hb hts hinX4 hown hK hP 74 (wL_get (by decide) (gX_x0 _)) rfl 4 (by decide) (hts (.fieldLink RX4 32 "VisitVans" "history" "LVisitVans$History;") (List.mem_of_getElem? (i := 1) rfl)) (fun _ h => h) rfl dX4_undo_14 ?_
    refine lv_aload_n hx hb dX4_undo_17 rfl (lv_at hl 0 rfl) ?_
    refine va_get (D := D) (ci := 4) (v := .ref (ad (5 * 0))) (C := RX4) (T := TX4) (N := 8) hx hb hts hinX4 hown hK hP 74 (wL_get (by decide) (gX_x0 _)) rfl 0 (by decide) (hts (.fieldLink RX4 12 "VisitVans" "road" "LVisitVans$Road;") (List.mem_of_getElem? (i := 3) rfl)) (fun _ h => h) rfl dX4_undo_18 ?_
    obtain ⟨M3, qM3, hf⟩ := bnd_some hf
    refine jc_v (va_runV (As := [.ref (ad (5 * 0))]) (rest := []) ⟨hx, hb, hml, hown, hts⟩ (kX0_takeBack l D ca v ad hI M hR 0 (by decide : 0 < 11) M3 qM3) (cwV 1 hts gX4_undo_X0_takeBack rfl rfl rfl (by decide +kernel) ⟨Nat.le_of_ble_eq_true rfl, Nat.le_of_ble_eq_true rfl⟩) (pvX hK hE hP hS [.ref (ad (5 * 0))] (by decide) (gX_h0 _) rfl) rfl rfl hl.1 rfl (lv_room (Nat.le_of_ble_eq_true rfl)) dX4_undo_21 ⟨Nat.zero_le _, Nat.zero_le _⟩) hS (fun H locs t ht hφ hO hS => ?_)
    have hRM3 := hφ
    have hP : va_P D vwCl (wX ca ad M3) H := by rw [← ht]; exact hO
    refine lv_aload_n hx hb dX4_undo_24 rfl (lv_at hl 0 rfl) ?_
    refine va_get (D := D) (ci := 4) (v := .ref (ad (55 + 6 * 0))) (C := RX4) (T := TX4) (N := 8) hx hb hts hinX4 hown hK hP 74 (wL_get (by decide) (gX_x0 _)) rfl 1 (by decide) (hts (.fieldLink RX4 19 "VisitVans" "plan" "LVisitVans$Plan;") (List.mem_of_getElem? (i := 4) rfl)) (fun _ h => h) rfl dX4_undo_25 ?_
    refine lv_aload_n hx hb dX4_undo_28 rfl (lv_at hl 0 rfl) ?_
    refine va_get (D := D) (ci := 4) (v := .ref (ad (5 * 0))) (C := RX4) (T := TX4) (N := 8) hx hb hts hinX4 hown hK hP 74 (wL_get (by decide) (gX_x0 _)) rfl 0 (by decide) (hts (.fieldLink RX4 12 "VisitVans" "road" "LVisitVans$Road;") (List.mem_of_getElem? (i := 3) rfl)) (fun _ h => h) rfl dX4_undo_29 ?_
    obtain ⟨M5, qM5, hf⟩ := bnd_some hf
    refine jc_v (va_runV (As := [.ref (ad (5 * 0))]) (rest := []) ⟨hx, hb, hml, hown, hts⟩ (kX2_make l D ca v ad hI M3 hRM3 0 (by decide : 0 < 2) 0 (by decide : 0 < 11) M5 qM5) (cwV 1 hts gX4_undo_X2_make rfl rfl rfl (by decide +kernel) ⟨Nat.le_of_ble_eq_true rfl, Nat.le_of_ble_eq_true rfl⟩) (pvX hK hE hP hS [.ref (ad (5 * 0))] (by omega) (gX_p0 (by decide : 0 < 2) _) rfl) rfl rfl hl.1 rfl (lv_room (Nat.le_of_ble_eq_true rfl)) dX4_undo_32 ⟨Nat.zero_le _, Nat.zero_le _⟩) hS (fun H locs t ht hφ hO hS => ?_)
    have hRM5 := hφ
    have hP : va_P D vwCl (wX ca ad M5) H := by rw [← ht]; exact hO
    refine lv_aload_n hx hb dX4_undo_35 rfl (lv_at hl 0 rfl) ?_
    refine va_get (D := D) (ci := 4) (v := .ref (ad 67)) (C := RX4) (T := TX4) (N := 8) hx hb hts hinX4 hown hK hP 74 (wL_get (by decide) (gX_x0 _)) rfl 4 (by decide) (hts (.fieldLink RX4 32 "VisitVans" "history" "LVisitVans$History;") (List.mem_of_getElem? (i := 1) rfl)) (fun _ h => h) rfl dX4_undo_36 ?_
    refine va_get (D := D) (ci := 0) (v := .int (J (M5 67 2))) (C := RX0) (T := TX0) (N := 3) hx hb hts hinX0 hown hK hP 67 (wL_get (by decide) (gX_h0 _)) rfl 2 (by decide) (hts (.fieldLink RX4 139 "VisitVans$History" "many" "I") (List.mem_of_getElem? (i := 2) rfl)) (fun _ h => h) rfl dX4_undo_39 ?_
    obtain ⟨e1, e2⟩ := Prod.mk.inj (Option.some.inj hf)
    exact jend_i hx hb hr rfl hS e1 ⟨by rw [← e1]; exact (hRM5 67 2), by rw [← e2]; exact hRM5⟩ (oX e2 hP) dX4_undo_42 hlocks
  · have hf := itep hf c1
    refine lv_bipush (v := J (-5)) hx hb dX4_undo_10 (by decide +kernel) ?_
    obtain ⟨e1, e2⟩ := Prod.mk.inj (Option.some.inj hf)
    exact jend_i hx hb hr rfl hS e1 ⟨by rw [← e1]; exact (by decide : inR (-5)), by rw [← e2]; exact hR⟩ (oX e2 hP) dX4_undo_12 hlocks
def fX4_save (a1 : Int) (M : MM) : Option (Int × MM) := bnd (fX4_within a1 0 1) (fun v1 => if v1 = 0 then some ((-2), M) else gd (0 ≤ a1 ∧ a1 < 2) (bnd (fX3_copyFrom (2 + (a1).toNat) 0 M) (fun M6 => bnd (wrZ M6 70 2 a1 1) (fun M7 => some ((M7 (5 * 0) 4), M7)))))
set_option maxHeartbeats 4000000 in
set_option maxRecDepth 100000 in
theorem kX4_save (l : Launch) (D : va_G) (ca : Nat → ClassId) (v : EV) (ad : Nat → Nat) (hI : aInj 75 ad) (M : MM) (hR : RR M) (a1 : Int) (i1 : inR a1) (res : Int) (M' : MM) (hf : fX4_save a1 M = some (res, M')) : CI l yX4_save wsX4_save 2 61 [.ref (ad 74), .int (J a1)] (PX D ca v ad M) res (inR res ∧ RR M') (OX D ca ad M') (aS 75 ad) := by
  refine Met.ofW (cc := cX4_save) (maxL := 2) (ret := (some .int)) (by decide) rfl ?_
  intro p e s m args below meth c s₁ B hml hv
  obtain ⟨rfl, hP, hK, hE⟩ := hv
  have hx := B.exec
  have hb := B.bytes
  have hr := B.returns
  have hts := atoms_spec (ws := wsX4_save) B.pre
  have hown : s.vm.findClass RX4 = some m.cls := findClass_of_methodNamed B.named
  have hlocks := B.notSynchronized
  have hS : va_S (aS 75 ad) s.heap s.heap [] := va_S.rf
  have hinX3 : ∀ w ∈ wsX30, w ∈ wsX4_save := by decide +kernel
  have hinX4 : ∀ w ∈ wsX40, w ∈ wsX4_save := by decide +kernel
  have hl := lv_entry ([.ref (ad 74), .int (J a1)]) (n := 2) (Nat.le_of_ble_eq_true rfl)
  rw [lg_entry_eq]
  generalize (lg_sl ([.ref (ad 74), .int (J a1)]) ++ List.replicate (2 - (lg_sl ([.ref (ad 74), .int (J a1)])).length) Slot.unset).toArray = ls at hl ⊢
  have hl : lv_has ls 2 [(0, .ref (ad 74)), (1, .int (J a1))] := hl
  unfold fX4_save at hf
  refine lv_iload_n hx hb dX4_save_0 rfl (lv_at hl 1 rfl) ?_
  refine lv_iconst (v := J 0) hx hb dX4_save_1 rfl ?_
  refine lv_iconst (v := J 1) hx hb dX4_save_2 rfl ?_
  obtain ⟨v1, qv1, hf⟩ := bnd_some hf
  refine jc_i (va_runS (As := [.int (J a1), .int (J 0), .int (J 1)]) (rest := []) ⟨hx, hb, hml, hown, hts⟩ (kX4_within l D ca v ad hI M hR a1 0 1 i1 (by decide : inR 0) (by decide : inR 1) v1 qv1) (va_cwS 3 hts gX4_save_X4_within rfl rfl rfl (by decide +kernel) ⟨Nat.le_of_ble_eq_true rfl, Nat.le_of_ble_eq_true rfl⟩) (psX hK hE hP hS [.int (J a1), .int (J 0), .int (J 1)]) rfl rfl hl.1 rfl (lv_room (Nat.le_of_ble_eq_true rfl)) dX4_save_3 ⟨Nat.zero_le _, Nat.zero_le _⟩) hS (fun H locs t ht hφ hO hS => ?_)
  have rv1 := hφ
  have hP : va_P D vwCl (wX ca ad M) H := by rw [← ht]; exact hO
  refine jv_if_ne (tgt := 12) hx hb dX4_save_6 (by decide) rv1 (fun c3 => ?_) (fun c3 => ?_)
  · have hf := iten hf c3
    refine lv_aload_n hx hb dX4_save_12 rfl (lv_at hl 0 rfl) ?_
    refine va_get (D := D) (ci := 4) (v := .ref (ad 69)) (C := RX4) (T := TX4) (N := 8) hx hb hts hinX4 hown hK hP 74 (wL_get (by decide) (gX_x0 _)) rfl 5 (by decide) (hts (.fieldLink RX4 36 "VisitVans" "slots" "[LVisitVans$Road;") (List.mem_of_getElem? (i := 1) rfl)) (fun _ h => h) rfl dX4_save_13 ?_
    refine lv_iload_n hx hb dX4_save_16 rfl (lv_at hl 1 rfl) ?_
    obtain ⟨g4, hf⟩ := gd_some hf
    have hhg4 : (2 + (a1).toNat) < 11 := by omega
    refine jx_aald hx hb hK hP 69 3 (by decide) gX_sl rfl (by decide) (by exact g4) dX4_save_17 ?_
    refine lv_aload_n hx hb dX4_save_18 rfl (lv_at hl 0 rfl) ?_
    refine va_get (D := D) (ci := 4) (v := .ref (ad (5 * 0))) (C := RX4) (T := TX4) (N := 8) hx hb hts hinX4 hown hK hP 74 (wL_get (by decide) (gX_x0 _)) rfl 0 (by decide) (hts (.fieldLink RX4 12 "VisitVans" "road" "LVisitVans$Road;") (List.mem_of_getElem? (i := 2) rfl)) (fun _ h => h) rfl dX4_save_19 ?_
    obtain ⟨M6, qM6, hf⟩ := bnd_some hf
    refine jc_v (va_runV (As := [.ref (ad (5 * 0))]) (rest := []) ⟨hx, hb, hml, hown, hts⟩ (kX3_copyFrom l D ca v ad hI M hR (2 + (a1).toNat) hhg4 0 (by decide : 0 < 11) M6 qM6) (cwV 1 hts gX4_save_X3_copyFrom rfl rfl rfl (by decide +kernel) ⟨Nat.le_of_ble_eq_true rfl, Nat.le_of_ble_eq_true rfl⟩) (pvX hK hE hP hS [.ref (ad (5 * 0))] (by omega) (gX_r0 hhg4 _) rfl) rfl rfl hl.1 rfl (lv_room (Nat.le_of_ble_eq_true rfl)) dX4_save_22 ⟨Nat.zero_le _, Nat.zero_le _⟩) hS (fun H locs t ht hφ hO hS => ?_)
    have hRM6 := hφ
    have hP : va_P D vwCl (wX ca ad M6) H := by rw [← ht]; exact hO
    refine lv_aload_n hx hb dX4_save_25 rfl (lv_at hl 0 rfl) ?_
    refine va_get (D := D) (ci := 4) (v := .ref (ad 70)) (C := RX4) (T := TX4) (N := 8) hx hb hts hinX4 hown hK hP 74 (wL_get (by decide) (gX_x0 _)) rfl 6 (by decide) (hts (.fieldLink RX4 40 "VisitVans" "saved" "[Z") (List.mem_of_getElem? (i := 3) rfl)) (fun _ h => h) rfl dX4_save_26 ?_
    refine lv_iload_n hx hb dX4_save_29 rfl (lv_at hl 1 rfl) ?_
    refine lv_iconst (v := J 1) hx hb dX4_save_30 rfl ?_
    obtain ⟨M7, qM7, hf⟩ := bnd_some hf
    obtain ⟨bM7, zM7, eM7⟩ := wrZ_some qM7
    have hRM7 : RR M7 := by rw [eM7]; exact RR_st hRM6 _ _ (J_bR zM7)
    refine jx_zast hx hb hK hP hI hS 70 2 (by decide) gX_sv rfl (by decide) bM7 zM7 dX4_save_31 (fun H locs hP hS => ?_)
    rw [← eM7] at hP
    refine lv_aload_n hx hb dX4_save_32 rfl (lv_at hl 0 rfl) ?_
    refine va_get (D := D) (ci := 4) (v := .ref (ad (5 * 0))) (C := RX4) (T := TX4) (N := 8) hx hb hts hinX4 hown hK hP 74 (wL_get (by decide) (gX_x0 _)) rfl 0 (by decide) (hts (.fieldLink RX4 12 "VisitVans" "road" "LVisitVans$Road;") (List.mem_of_getElem? (i := 2) rfl)) (fun _ h => h) rfl dX4_save_33 ?_
    refine va_get (D := D) (ci := 3) (v := .int (J (M7 (5 * 0) 4))) (C := RX3) (T := TX3) (N := 6) hx hb hts hinX3 hown hK hP (5 * 0) (wL_get (by omega) (gX_r0 (by decide : 0 < 11) _)) rfl 4 (by decide) (hts (.fieldLink RX4 112 "VisitVans$Road" "visitCount" "I") (List.mem_of_getElem? (i := 4) rfl)) (fun _ h => h) rfl dX4_save_36 ?_
    obtain ⟨e1, e2⟩ := Prod.mk.inj (Option.some.inj hf)
    exact jend_i hx hb hr rfl hS e1 ⟨by rw [← e1]; exact (hRM7 (5 * 0) 4), by rw [← e2]; exact hRM7⟩ (oX e2 hP) dX4_save_39 hlocks
  · have hf := itep hf c3
    refine lv_bipush (v := J (-2)) hx hb dX4_save_9 (by decide +kernel) ?_
    obtain ⟨e1, e2⟩ := Prod.mk.inj (Option.some.inj hf)
    exact jend_i hx hb hr rfl hS e1 ⟨by rw [← e1]; exact (by decide : inR (-2)), by rw [← e2]; exact hR⟩ (oX e2 hP) dX4_save_11 hlocks
def fX4_restore (a1 : Int) (M : MM) : Option (Int × MM) := bnd (fX4_within a1 0 1) (fun v1 => if v1 = 0 then some ((-2), M) else bnd (rd M 70 2 a1) (fun v4 => if v4 = 0 then some ((-5), M) else bnd (fX0_note 0 M) (fun M7 => gd (0 ≤ a1 ∧ a1 < 2) (bnd (fX3_copyFrom 0 (2 + (a1).toNat) M7) (fun M10 => bnd2 (fX4_changed (M10 (5 * 0) 4) M10) (fun v11 M12 => some (v11, M12)))))))
set_option maxHeartbeats 4000000 in
set_option maxRecDepth 100000 in
theorem kX4_restore (l : Launch) (D : va_G) (ca : Nat → ClassId) (v : EV) (ad : Nat → Nat) (hI : aInj 75 ad) (M : MM) (hR : RR M) (a1 : Int) (i1 : inR a1) (res : Int) (M' : MM) (hf : fX4_restore a1 M = some (res, M')) : CI l yX4_restore wsX4_restore 6 147 [.ref (ad 74), .int (J a1)] (PX D ca v ad M) res (inR res ∧ RR M') (OX D ca ad M') (aS 75 ad) := by
  refine Met.ofW (cc := cX4_restore) (maxL := 2) (ret := (some .int)) (by decide) rfl ?_
  intro p e s m args below meth c s₁ B hml hv
  obtain ⟨rfl, hP, hK, hE⟩ := hv
  have hx := B.exec
  have hb := B.bytes
  have hr := B.returns
  have hts := atoms_spec (ws := wsX4_restore) B.pre
  have hown : s.vm.findClass RX4 = some m.cls := findClass_of_methodNamed B.named
  have hlocks := B.notSynchronized
  have hS : va_S (aS 75 ad) s.heap s.heap [] := va_S.rf
  have hinX3 : ∀ w ∈ wsX30, w ∈ wsX4_restore := by decide +kernel
  have hinX4 : ∀ w ∈ wsX40, w ∈ wsX4_restore := by decide +kernel
  have hl := lv_entry ([.ref (ad 74), .int (J a1)]) (n := 2) (Nat.le_of_ble_eq_true rfl)
  rw [lg_entry_eq]
  generalize (lg_sl ([.ref (ad 74), .int (J a1)]) ++ List.replicate (2 - (lg_sl ([.ref (ad 74), .int (J a1)])).length) Slot.unset).toArray = ls at hl ⊢
  have hl : lv_has ls 2 [(0, .ref (ad 74)), (1, .int (J a1))] := hl
  unfold fX4_restore at hf
  refine lv_iload_n hx hb dX4_restore_0 rfl (lv_at hl 1 rfl) ?_
  refine lv_iconst (v := J 0) hx hb dX4_restore_1 rfl ?_
  refine lv_iconst (v := J 1) hx hb dX4_restore_2 rfl ?_
  obtain ⟨v1, qv1, hf⟩ := bnd_some hf
  refine jc_i (va_runS (As := [.int (J a1), .int (J 0), .int (J 1)]) (rest := []) ⟨hx, hb, hml, hown, hts⟩ (kX4_within l D ca v ad hI M hR a1 0 1 i1 (by decide : inR 0) (by decide : inR 1) v1 qv1) (va_cwS 3 hts gX4_restore_X4_within rfl rfl rfl (by decide +kernel) ⟨Nat.le_of_ble_eq_true rfl, Nat.le_of_ble_eq_true rfl⟩) (psX hK hE hP hS [.int (J a1), .int (J 0), .int (J 1)]) rfl rfl hl.1 rfl (lv_room (Nat.le_of_ble_eq_true rfl)) dX4_restore_3 ⟨Nat.zero_le _, Nat.zero_le _⟩) hS (fun H locs t ht hφ hO hS => ?_)
  have rv1 := hφ
  have hP : va_P D vwCl (wX ca ad M) H := by rw [← ht]; exact hO
  refine jv_if_ne (tgt := 12) hx hb dX4_restore_6 (by decide) rv1 (fun c3 => ?_) (fun c3 => ?_)
  · have hf := iten hf c3
    refine lv_aload_n hx hb dX4_restore_12 rfl (lv_at hl 0 rfl) ?_
    refine va_get (D := D) (ci := 4) (v := .ref (ad 70)) (C := RX4) (T := TX4) (N := 8) hx hb hts hinX4 hown hK hP 74 (wL_get (by decide) (gX_x0 _)) rfl 6 (by decide) (hts (.fieldLink RX4 40 "VisitVans" "saved" "[Z") (List.mem_of_getElem? (i := 1) rfl)) (fun _ h => h) rfl dX4_restore_13 ?_
    refine lv_iload_n hx hb dX4_restore_16 rfl (lv_at hl 1 rfl) ?_
    obtain ⟨v4, qv4, hf⟩ := bnd_some hf
    obtain ⟨bv4, ev4⟩ := rd_some qv4
    have rv4 : inR v4 := by rw [ev4]; exact hR _ _
    refine jx_zald hx hb hK hP 70 2 (by decide) gX_sv rfl (by decide) bv4 ev4 dX4_restore_17 ?_
    refine jv_if_ne (tgt := 24) hx hb dX4_restore_18 (by decide) rv4 (fun c5 => ?_) (fun c5 => ?_)
    · have hf := iten hf c5
      refine lv_aload_n hx hb dX4_restore_24 rfl (lv_at hl 0 rfl) ?_
      refine va_get (D := D) (ci := 4) (v := .ref (ad 67)) (C := RX4) (T := TX4) (N := 8) hx hb hts hinX4 hown hK hP 74 (wL_get (by decide) (gX_x0 _)) rfl 4 (by decide) (hts (.fieldLink RX4 32 "VisitVans" "history" "LVisitVans$History;") (List.mem_of_getElem? (i := 2) rfl)) (fun _ h => h) rfl dX4_restore_25 ?_
      refine lv_aload_n hx hb dX4_restore_28 rfl (lv_at hl 0 rfl) ?_
      refine va_get (D := D) (ci := 4) (v := .ref (ad (5 * 0))) (C := RX4) (T := TX4) (N := 8) hx hb hts hinX4 hown hK hP 74 (wL_get (by decide) (gX_x0 _)) rfl 0 (by decide) (hts (.fieldLink RX4 12 "VisitVans" "road" "LVisitVans$Road;") (List.mem_of_getElem? (i := 3) rfl)) (fun _ h => h) rfl dX4_restore_29 ?_
      obtain ⟨M7, qM7, hf⟩ := bnd_some hf
      refine jc_v (va_runV (As := [.ref (ad (5 * 0))]) (rest := []) ⟨hx, hb, hml, hown, hts⟩ (kX0_note l D ca v ad hI M hR 0 (by decide : 0 < 11) M7 qM7) (cwV 1 hts gX4_restore_X0_note rfl rfl rfl (by decide +kernel) ⟨Nat.le_of_ble_eq_true rfl, Nat.le_of_ble_eq_true rfl⟩) (pvX hK hE hP hS [.ref (ad (5 * 0))] (by decide) (gX_h0 _) rfl) rfl rfl hl.1 rfl (lv_room (Nat.le_of_ble_eq_true rfl)) dX4_restore_32 ⟨Nat.zero_le _, Nat.zero_le _⟩) hS (fun H locs t ht hφ hO hS => ?_)
      have hRM7 := hφ
      have hP : va_P D vwCl (wX ca ad M7) H := by rw [← ht]; exact hO
      refine lv_aload_n hx hb dX4_restore_35 rfl (lv_at hl 0 rfl) ?_
      refine va_get (D := D) (ci := 4) (v := .ref (ad (5 * 0))) (C := RX4) (T := TX4) (N := 8) hx hb hts hinX4 hown hK hP 74 (wL_get (by decide) (gX_x0 _)) rfl 0 (by decide) (hts (.fieldLink RX4 12 "VisitVans" "road" "LVisitVans$Road;") (List.mem_of_getElem? (i := 3) rfl)) (fun _ h => h) rfl dX4_restore_36 ?_
      refine lv_aload_n hx hb dX4_restore_39 rfl (lv_at hl 0 rfl) ?_
      refine va_get (D := D) (ci := 4) (v := .ref (ad 69)) (C := RX4) (T := TX4) (N := 8) hx hb hts hinX4 hown hK hP 74 (wL_get (by decide) (gX_x0 _)) rfl 5 (by decide) (hts (.fieldLink RX4 36 "VisitVans" "slots" "[LVisitVans$Road;") (List.mem_of_getElem? (i := 4) rfl)) (fun _ h => h) rfl dX4_restore_40 ?_
      refine lv_iload_n hx hb dX4_restore_43 rfl (lv_at hl 1 rfl) ?_
      obtain ⟨g8, hf⟩ := gd_some hf
      have hhg8 : (2 + (a1).toNat) < 11 := by omega
      refine jx_aald hx hb hK hP 69 3 (by decide) gX_sl rfl (by decide) (by exact g8) dX4_restore_44 ?_
      obtain ⟨M10, qM10, hf⟩ := bnd_some hf
      refine jc_v (va_runV (As := [.ref (ad (5 * (2 + (a1).toNat)))]) (rest := []) ⟨hx, hb, hml, hown, hts⟩ (kX3_copyFrom l D ca v ad hI M7 hRM7 0 (by decide : 0 < 11) (2 + (a1).toNat) hhg8 M10 qM10) (cwV 1 hts gX4_restore_X3_copyFrom rfl rfl rfl (by decide +kernel) ⟨Nat.le_of_ble_eq_true rfl, Nat.le_of_ble_eq_true rfl⟩) (pvX hK hE hP hS [.ref (ad (5 * (2 + (a1).toNat)))] (by omega) (gX_r0 (by decide : 0 < 11) _) rfl) rfl rfl hl.1 rfl (lv_room (Nat.le_of_ble_eq_true rfl)) dX4_restore_45 ⟨Nat.zero_le _, Nat.zero_le _⟩) hS (fun H locs t ht hφ hO hS => ?_)
      have hRM10 := hφ
      have hP : va_P D vwCl (wX ca ad M10) H := by rw [← ht]; exact hO
      refine lv_aload_n hx hb dX4_restore_48 rfl (lv_at hl 0 rfl) ?_
      refine lv_aload_n hx hb dX4_restore_49 rfl (lv_at hl 0 rfl) ?_
      refine va_get (D := D) (ci := 4) (v := .ref (ad (5 * 0))) (C := RX4) (T := TX4) (N := 8) hx hb hts hinX4 hown hK hP 74 (wL_get (by decide) (gX_x0 _)) rfl 0 (by decide) (hts (.fieldLink RX4 12 "VisitVans" "road" "LVisitVans$Road;") (List.mem_of_getElem? (i := 3) rfl)) (fun _ h => h) rfl dX4_restore_50 ?_
      refine va_get (D := D) (ci := 3) (v := .int (J (M10 (5 * 0) 4))) (C := RX3) (T := TX3) (N := 6) hx hb hts hinX3 hown hK hP (5 * 0) (wL_get (by omega) (gX_r0 (by decide : 0 < 11) _)) rfl 4 (by decide) (hts (.fieldLink RX4 112 "VisitVans$Road" "visitCount" "I") (List.mem_of_getElem? (i := 5) rfl)) (fun _ h => h) rfl dX4_restore_53 ?_
      obtain ⟨v11, M12, qv11, hf⟩ := bnd2_some hf
      refine jc_i (va_runV (As := [.int (J (M10 (5 * 0) 4))]) (rest := []) ⟨hx, hb, hml, hown, hts⟩ (kX4_changed l D ca v ad hI M10 hRM10 (M10 (5 * 0) 4) (hRM10 (5 * 0) 4) v11 M12 qv11) (cwV 1 hts gX4_restore_X4_changed rfl rfl rfl (by decide +kernel) ⟨Nat.le_of_ble_eq_true rfl, Nat.le_of_ble_eq_true rfl⟩) (pvX hK hE hP hS [.int (J (M10 (5 * 0) 4))] (by decide) (gX_x0 _) rfl) rfl rfl hl.1 rfl (lv_room (Nat.le_of_ble_eq_true rfl)) dX4_restore_56 ⟨Nat.zero_le _, Nat.zero_le _⟩) hS (fun H locs t ht hφ hO hS => ?_)
      obtain ⟨rv11, hRM12⟩ := hφ
      have hP : va_P D vwCl (wX ca ad M12) H := by rw [← ht]; exact hO
      obtain ⟨e1, e2⟩ := Prod.mk.inj (Option.some.inj hf)
      exact jend_i hx hb hr rfl hS e1 ⟨by rw [← e1]; exact rv11, by rw [← e2]; exact hRM12⟩ (oX e2 hP) dX4_restore_59 hlocks
    · have hf := itep hf c5
      refine lv_bipush (v := J (-5)) hx hb dX4_restore_21 (by decide +kernel) ?_
      obtain ⟨e1, e2⟩ := Prod.mk.inj (Option.some.inj hf)
      exact jend_i hx hb hr rfl hS e1 ⟨by rw [← e1]; exact (by decide : inR (-5)), by rw [← e2]; exact hR⟩ (oX e2 hP) dX4_restore_23 hlocks
  · have hf := itep hf c3
    refine lv_bipush (v := J (-2)) hx hb dX4_restore_9 (by decide +kernel) ?_
    obtain ⟨e1, e2⟩ := Prod.mk.inj (Option.some.inj hf)
    exact jend_i hx hb hr rfl hS e1 ⟨by rw [← e1]; exact (by decide : inR (-2)), by rw [← e2]; exact hR⟩ (oX e2 hP) dX4_restore_11 hlocks
