/-! METHODS: pure functions and the walks of their bytecode, laid by program (wip/whole): X2_sendVansHome X2_orderByEnds X2_hasSkill X2_partsLeft X2_hasParts X2_driveFact X2_comes X2_firstToBegin X2_reason X2_putOutcome X2_outcome X2_addEvent X2_drive X2_look X2_make X2_eventFact X2_promisesThatAre X2_visitsMade X2_sumOverVans X2_lastFree -/
def fX2_sendVansHome_L18 : Nat → Nat → Nat → Int → Int → Int → MM → Option (MM)
  | 0, _, _, _, _, _, _ => none
  | n + 1, p0, r1, x2_3, x3_3, x4_3, M_3 => if 6 ≤ x4_3 then some M_3 else bnd (wr M_3 (55 + 6 * p0 + 3) 24 (x3_3 + x4_3) 0) (fun M6 => gd (inR (x4_3 + 1)) (fX2_sendVansHome_L18 n p0 r1 x2_3 x3_3 (x4_3 + 1) M6))
def fX2_sendVansHome_L58 : Nat → Nat → Nat → Int → Int → MM → Option (MM)
  | 0, _, _, _, _, _ => none
  | n + 1, p0, r1, x2_11, x4_11, M_11 => if 5 ≤ x4_11 then some M_11 else bnd (fX3_partsOf r1 x2_11 x4_11 M_11) (fun v13 => bnd (wr M_11 (55 + 6 * p0 + 4) 20 ((x2_11 * 5) + x4_11) v13) (fun M15 => gd (inR (x4_11 + 1)) (fX2_sendVansHome_L58 n p0 r1 x2_11 (x4_11 + 1) M15)))
def fX2_sendVansHome_L2 : Nat → Nat → Nat → Int → MM → Option (MM)
  | 0, _, _, _, _ => none
  | n + 1, p0, r1, x2_1, M_1 => if (M_1 (55 + 6 * p0) 6) ≤ x2_1 then some M_1 else gd (inR (x2_1 * 6)) (bnd (fX2_sendVansHome_L18 4000 p0 r1 x2_1 (x2_1 * 6) 0 M_1) (fun N_3 => bnd (fX3_vanFact r1 x2_1 0 N_3) (fun v8 => bnd (wr N_3 (55 + 6 * p0 + 3) 24 ((x2_1 * 6) + 4) v8) (fun M10 => bnd (fX2_sendVansHome_L58 4000 p0 r1 x2_1 0 M10) (fun N_11 => gd (inR (x2_1 + 1)) (fX2_sendVansHome_L2 n p0 r1 (x2_1 + 1) N_11))))))
def fX2_sendVansHome (p0 : Nat) (r1 : Nat) (M : MM) : Option (MM) := bnd (fX2_sendVansHome_L2 4000 p0 r1 0 M) (fun N_1 => some N_1)
set_option maxHeartbeats 4000000 in
set_option maxRecDepth 100000 in
theorem kX2_sendVansHome (l : Launch) (D : va_G) (ca : Nat → ClassId) (v : EV) (ad : Nat → Nat) (hI : aInj 75 ad) (M : MM) (hR : RR M) (p0 : Nat) (hp0 : p0 < 2) (r1 : Nat) (hr1 : r1 < 11) (M' : MM) (hf : fX2_sendVansHome p0 r1 M = some M') : CV l yX2_sendVansHome wsX2_sendVansHome 1 22 [.ref (ad (55 + 6 * p0)), .ref (ad (5 * r1))] (PX D ca v ad M) (RR M') (OX D ca ad M') (aS 75 ad) := by
  refine Met.ofW (cc := cX2_sendVansHome) (maxL := 5) (ret := none) (by decide) rfl ?_
  intro p e s m args below meth c s₁ B hml hv
  obtain ⟨rfl, hP, hK, hE⟩ := hv
  have hx := B.exec
  have hb := B.bytes
  have hr := B.returns
  have hts := atoms_spec (ws := wsX2_sendVansHome) B.pre
  have hown : s.vm.findClass RX2 = some m.cls := findClass_of_methodNamed B.named
  have hlocks := B.notSynchronized
  have hS : va_S (aS 75 ad) s.heap s.heap [] := va_S.rf
  have hinX2 : ∀ w ∈ wsX20, w ∈ wsX2_sendVansHome := by decide +kernel
  have hl := lv_entry ([.ref (ad (55 + 6 * p0)), .ref (ad (5 * r1))]) (n := 5) (Nat.le_of_ble_eq_true rfl)
  rw [lg_entry_eq]
  generalize (lg_sl ([.ref (ad (55 + 6 * p0)), .ref (ad (5 * r1))]) ++ List.replicate (5 - (lg_sl ([.ref (ad (55 + 6 * p0)), .ref (ad (5 * r1))])).length) Slot.unset).toArray = ls at hl ⊢
  have hl : lv_has ls 5 [(0, .ref (ad (55 + 6 * p0))), (1, .ref (ad (5 * r1)))] := hl
  unfold fX2_sendVansHome at hf
  refine lv_iconst (v := J 0) hx hb dX2_sendVansHome_0 rfl ?_
  refine lv_istore_n (lv' := [(2, .int (J 0)), (0, .ref (ad (55 + 6 * p0))), (1, .ref (ad (5 * r1)))]) hx hb dX2_sendVansHome_1 rfl hl (by decide) rfl (fun ls hl => ?_)
  obtain ⟨N_1, h1, hf⟩ := bnd_some hf
  have K1 : ∀ (H : Heap) (locs : List Loc) (ls : Array Slot), RR N_1 → va_P D vwCl (wX ca ad N_1) H → va_S (aS 75 ad) s.heap H locs → lv_has ls 5 [] → W p l e (headSpec wsX2_sendVansHome (RmC 1 22)).room s m ([.ref (ad (55 + 6 * p0)), .ref (ad (5 * r1))] : List Value).toArray below meth c H locs 0 0 (MQ below (va_Qv (fun (_ : Unit) => (RR M')) (fun _ => (OX D ca ad M')) (aS 75 ad)) ([.ref (ad (55 + 6 * p0)), .ref (ad (5 * r1))] : List Value).toArray s 0 0 (aS 75 ad)) (F0 m 94 ls []) := by
    intro H locs ls hRN_1 hP hS hl
    have e2 := Option.some.inj hf
    exact jend_v hx hb hr hS (by rw [← e2]; exact hRN_1) (oX e2 hP) dX2_sendVansHome_94 hlocks
  have hL1 : ∀ (n : Nat) (x2_1 : Int) (M_1 : MM) (H : Heap) (locs : List Loc) (ls : Array Slot), inR x2_1 → RR M_1 → va_P D vwCl (wX ca ad M_1) H → va_S (aS 75 ad) s.heap H locs → lv_has ls 5 [(0, .ref (ad (55 + 6 * p0))), (1, .ref (ad (5 * r1))), (2, .int (J x2_1))] → fX2_sendVansHome_L2 n p0 r1 x2_1 M_1 = some N_1 → W p l e (headSpec wsX2_sendVansHome (RmC 1 22)).room s m ([.ref (ad (55 + 6 * p0)), .ref (ad (5 * r1))] : List Value).toArray below meth c H locs 0 0 (MQ below (va_Qv (fun (_ : Unit) => (RR M')) (fun _ => (OX D ca ad M')) (aS 75 ad)) ([.ref (ad (55 + 6 * p0)), .ref (ad (5 * r1))] : List Value).toArray s 0 0 (aS 75 ad)) (F0 m 2 ls []) := by
    intro n
    induction n with
    | zero =>
      intro x2_1 M_1 H locs ls rx2_1 hRM_1 hP hS hl hf
      rw [fX2_sendVansHome_L2] at hf
      cases hf
    | succ n ih =>
      intro x2_1 M_1 H locs ls rx2_1 hRM_1 hP hS hl hf
      rw [fX2_sendVansHome_L2] at hf
      refine lv_iload_n hx hb dX2_sendVansHome_2 rfl (lv_at hl 2 rfl) ?_
      refine lv_aload_n hx hb dX2_sendVansHome_3 rfl (lv_at hl 0 rfl) ?_
      refine va_get (D := D) (ci := 2) (v := .int (J (M_1 (55 + 6 * p0) 6))) (C := RX2) (T := TX2) (N := 7) hx hb hts hinX2 hown hK hP (55 + 6 * p0) (wL_get (by omega) (gX_p0 hp0 _)) rfl 6 (by decide) (hts (.fieldLink RX2 37 "VisitVans$Plan" "vanCount" "I") (List.mem_of_getElem? (i := 1) rfl)) (fun _ h => h) rfl dX2_sendVansHome_4 ?_
      refine jv_icmp_ge (tgt := 94) hx hb dX2_sendVansHome_7 (by decide) rx2_1 (hRM_1 (55 + 6 * p0) 6) (fun c2 => ?_) (fun c2 => ?_)
      · have hf := itep hf c2
        cases hf
        exact K1 _ _ _ hRM_1 hP hS (lv_sub hl [] rfl)
      · have hf := iten hf c2
        refine lv_iload_n hx hb dX2_sendVansHome_10 rfl (lv_at hl 2 rfl) ?_
        refine lv_bipush (v := J 6) hx hb dX2_sendVansHome_11 (by decide +kernel) ?_
        refine jv_imul hx hb dX2_sendVansHome_13 ?_
        refine lv_istore_n (lv' := [(3, .int (J (x2_1 * 6))), (0, .ref (ad (55 + 6 * p0))), (1, .ref (ad (5 * r1))), (2, .int (J x2_1))]) hx hb dX2_sendVansHome_14 rfl hl (by decide) rfl (fun ls hl => ?_)
        refine lv_iconst (v := J 0) hx hb dX2_sendVansHome_15 rfl ?_
        refine lv_istore (lv' := [(4, .int (J 0)), (3, .int (J (x2_1 * 6))), (0, .ref (ad (55 + 6 * p0))), (1, .ref (ad (5 * r1))), (2, .int (J x2_1))]) hx hb dX2_sendVansHome_16 hl (by decide) rfl (fun ls hl => ?_)
        obtain ⟨g4, hf⟩ := gd_some hf
        obtain ⟨N_3, h3, hf⟩ := bnd_some hf
        have K3 : ∀ (H : Heap) (locs : List Loc) (ls : Array Slot), RR N_3 → va_P D vwCl (wX ca ad N_3) H → va_S (aS 75 ad) s.heap H locs → lv_has ls 5 [(0, .ref (ad (55 + 6 * p0))), (1, .ref (ad (5 * r1))), (2, .int (J x2_1)), (3, .int (J (x2_1 * 6)))] → W p l e (headSpec wsX2_sendVansHome (RmC 1 22)).room s m ([.ref (ad (55 + 6 * p0)), .ref (ad (5 * r1))] : List Value).toArray below meth c H locs 0 0 (MQ below (va_Qv (fun (_ : Unit) => (RR M')) (fun _ => (OX D ca ad M')) (aS 75 ad)) ([.ref (ad (55 + 6 * p0)), .ref (ad (5 * r1))] : List Value).toArray s 0 0 (aS 75 ad)) (F0 m 41 ls []) := by
          intro H locs ls hRN_3 hP hS hl
          refine lv_aload_n hx hb dX2_sendVansHome_41 rfl (lv_at hl 0 rfl) ?_
          refine va_get (D := D) (ci := 2) (v := .ref (ad (55 + 6 * p0 + 3))) (C := RX2) (T := TX2) (N := 7) hx hb hts hinX2 hown hK hP (55 + 6 * p0) (wL_get (by omega) (gX_p0 hp0 _)) rfl 2 (by decide) (hts (.fieldLink RX2 18 "VisitVans$Plan" "drives" "[I") (List.mem_of_getElem? (i := 2) rfl)) (fun _ h => h) rfl dX2_sendVansHome_42 ?_
          refine lv_iload_n hx hb dX2_sendVansHome_45 rfl (lv_at hl 3 rfl) ?_
          refine lv_iconst (v := J 4) hx hb dX2_sendVansHome_46 rfl ?_
          refine jv_iadd hx hb dX2_sendVansHome_47 ?_
          refine lv_aload_n hx hb dX2_sendVansHome_48 rfl (lv_at hl 1 rfl) ?_
          refine lv_iload_n hx hb dX2_sendVansHome_49 rfl (lv_at hl 2 rfl) ?_
          refine lv_iconst (v := J 0) hx hb dX2_sendVansHome_50 rfl ?_
          obtain ⟨v8, qv8, hf⟩ := bnd_some hf
          refine jc_i (va_runV (As := [.int (J x2_1), .int (J 0)]) (rest := [.int (J ((x2_1 * 6) + 4)), .ref (ad (55 + 6 * p0 + 3))]) ⟨hx, hb, hml, hown, hts⟩ (kX3_vanFact l D ca v ad hI N_3 hRN_3 r1 hr1 x2_1 0 rx2_1 (by decide : inR 0) v8 qv8) (cwV 2 hts gX2_sendVansHome_X3_vanFact rfl rfl rfl (by decide +kernel) ⟨Nat.le_of_ble_eq_true rfl, Nat.le_of_ble_eq_true rfl⟩) (pvX hK hE hP hS [.int (J x2_1), .int (J 0)] (by omega) (gX_r0 hr1 _) rfl) rfl rfl hl.1 rfl (lv_room (Nat.le_of_ble_eq_true rfl)) dX2_sendVansHome_51 ⟨Nat.zero_le _, Nat.zero_le _⟩) hS (fun H locs t ht hφ hO hS => ?_)
          have rv8 := hφ
          have hP : va_P D vwCl (wX ca ad N_3) H := by rw [← ht]; exact hO
          obtain ⟨M10, qM10, hf⟩ := bnd_some hf
          obtain ⟨bM10, zM10, eM10⟩ := wr_some qM10
          have hRM10 : RR M10 := by rw [eM10]; exact RR_st hRN_3 _ _ zM10
          refine jx_iast hx hb hK hP hI hS (55 + 6 * p0 + 3) 0 (by omega) (gX_p3 hp0) rfl (by decide) bM10 zM10 dX2_sendVansHome_54 (fun H locs hP hS => ?_)
          rw [← eM10] at hP
          refine lv_iconst (v := J 0) hx hb dX2_sendVansHome_55 rfl ?_
          refine lv_istore (lv' := [(4, .int (J 0)), (0, .ref (ad (55 + 6 * p0))), (1, .ref (ad (5 * r1))), (2, .int (J x2_1)), (3, .int (J (x2_1 * 6)))]) hx hb dX2_sendVansHome_56 hl (by decide) rfl (fun ls hl => ?_)
          obtain ⟨N_11, h11, hf⟩ := bnd_some hf
          have K11 : ∀ (H : Heap) (locs : List Loc) (ls : Array Slot), RR N_11 → va_P D vwCl (wX ca ad N_11) H → va_S (aS 75 ad) s.heap H locs → lv_has ls 5 [(0, .ref (ad (55 + 6 * p0))), (1, .ref (ad (5 * r1))), (2, .int (J x2_1))] → W p l e (headSpec wsX2_sendVansHome (RmC 1 22)).room s m ([.ref (ad (55 + 6 * p0)), .ref (ad (5 * r1))] : List Value).toArray below meth c H locs 0 0 (MQ below (va_Qv (fun (_ : Unit) => (RR M')) (fun _ => (OX D ca ad M')) (aS 75 ad)) ([.ref (ad (55 + 6 * p0)), .ref (ad (5 * r1))] : List Value).toArray s 0 0 (aS 75 ad)) (F0 m 88 ls []) := by
            intro H locs ls hRN_11 hP hS hl
            refine lv_iinc (v := J (x2_1 + 1)) (lv' := [(2, .int (J (x2_1 + 1))), (0, .ref (ad (55 + 6 * p0))), (1, .ref (ad (5 * r1)))]) hx hb dX2_sendVansHome_88 hl (k := 2) rfl (J_add _ _) (by decide) rfl (fun ls hl => ?_)
            refine lv_goto (tgt := 2) hx hb dX2_sendVansHome_91 (by decide) ?_
            obtain ⟨g17, hf⟩ := gd_some hf
            exact ih _ _ _ _ _ g17 hRN_11 hP hS (lv_sub hl [1, 2, 0] rfl) hf
          have hL11 : ∀ (n : Nat) (x2_11 : Int) (x4_11 : Int) (M_11 : MM) (H : Heap) (locs : List Loc) (ls : Array Slot), inR x2_11 → inR x4_11 → RR M_11 → x2_11 = x2_1 → va_P D vwCl (wX ca ad M_11) H → va_S (aS 75 ad) s.heap H locs → lv_has ls 5 [(0, .ref (ad (55 + 6 * p0))), (1, .ref (ad (5 * r1))), (2, .int (J x2_11)), (4, .int (J x4_11))] → fX2_sendVansHome_L58 n p0 r1 x2_11 x4_11 M_11 = some N_11 → W p l e (headSpec wsX2_sendVansHome (RmC 1 22)).room s m ([.ref (ad (55 + 6 * p0)), .ref (ad (5 * r1))] : List Value).toArray below meth c H locs 0 0 (MQ below (va_Qv (fun (_ : Unit) => (RR M')) (fun _ => (OX D ca ad M')) (aS 75 ad)) ([.ref (ad (55 + 6 * p0)), .ref (ad (5 * r1))] : List Value).toArray s 0 0 (aS 75 ad)) (F0 m 58 ls []) := by
            intro n
            induction n with
            | zero =>
              intro x2_11 x4_11 M_11 H locs ls rx2_11 rx4_11 hRM_11 e_x2_11 hP hS hl hf
              rw [fX2_sendVansHome_L58] at hf
              cases hf
            | succ n ih =>
              intro x2_11 x4_11 M_11 H locs ls rx2_11 rx4_11 hRM_11 e_x2_11 hP hS hl hf
              rw [fX2_sendVansHome_L58] at hf
              refine lv_iload hx hb dX2_sendVansHome_58 (lv_at hl 3 rfl) ?_
              refine lv_iconst (v := J 5) hx hb dX2_sendVansHome_60 rfl ?_
              refine jv_icmp_ge (tgt := 88) hx hb dX2_sendVansHome_61 (by decide) rx4_11 (by decide : inR 5) (fun c12 => ?_) (fun c12 => ?_)
              · have hf := itep hf c12
                cases hf
                exact K11 _ _ _ hRM_11 hP hS (lv_sub hl [0, 1, 2] (by subst e_x2_11; rfl))
              · have hf := iten hf c12
                refine lv_aload_n hx hb dX2_sendVansHome_64 rfl (lv_at hl 0 rfl) ?_
                refine va_get (D := D) (ci := 2) (v := .ref (ad (55 + 6 * p0 + 4))) (C := RX2) (T := TX2) (N := 7) hx hb hts hinX2 hown hK hP (55 + 6 * p0) (wL_get (by omega) (gX_p0 hp0 _)) rfl 3 (by decide) (hts (.fieldLink RX2 21 "VisitVans$Plan" "left" "[I") (List.mem_of_getElem? (i := 3) rfl)) (fun _ h => h) rfl dX2_sendVansHome_65 ?_
                refine lv_iload_n hx hb dX2_sendVansHome_68 rfl (lv_at hl 2 rfl) ?_
                refine lv_iconst (v := J 5) hx hb dX2_sendVansHome_69 rfl ?_
                refine jv_imul hx hb dX2_sendVansHome_70 ?_
                refine lv_iload hx hb dX2_sendVansHome_71 (lv_at hl 3 rfl) ?_
                refine jv_iadd hx hb dX2_sendVansHome_73 ?_
                refine lv_aload_n hx hb dX2_sendVansHome_74 rfl (lv_at hl 1 rfl) ?_
                refine lv_iload_n hx hb dX2_sendVansHome_75 rfl (lv_at hl 2 rfl) ?_
                refine lv_iload hx hb dX2_sendVansHome_76 (lv_at hl 3 rfl) ?_
                obtain ⟨v13, qv13, hf⟩ := bnd_some hf
                refine jc_i (va_runV (As := [.int (J x2_11), .int (J x4_11)]) (rest := [.int (J ((x2_11 * 5) + x4_11)), .ref (ad (55 + 6 * p0 + 4))]) ⟨hx, hb, hml, hown, hts⟩ (kX3_partsOf l D ca v ad hI M_11 hRM_11 r1 hr1 x2_11 x4_11 rx2_11 rx4_11 v13 qv13) (cwV 2 hts gX2_sendVansHome_X3_partsOf rfl rfl rfl (by decide +kernel) ⟨Nat.le_of_ble_eq_true rfl, Nat.le_of_ble_eq_true rfl⟩) (pvX hK hE hP hS [.int (J x2_11), .int (J x4_11)] (by omega) (gX_r0 hr1 _) rfl) rfl rfl hl.1 rfl (lv_room (Nat.le_of_ble_eq_true rfl)) dX2_sendVansHome_78 ⟨Nat.zero_le _, Nat.zero_le _⟩) hS (fun H locs t ht hφ hO hS => ?_)
                have rv13 := hφ
                have hP : va_P D vwCl (wX ca ad M_11) H := by rw [← ht]; exact hO
                obtain ⟨M15, qM15, hf⟩ := bnd_some hf
                obtain ⟨bM15, zM15, eM15⟩ := wr_some qM15
                have hRM15 : RR M15 := by rw [eM15]; exact RR_st hRM_11 _ _ zM15
                refine jx_iast hx hb hK hP hI hS (55 + 6 * p0 + 4) 0 (by omega) (gX_p4 hp0) rfl (by decide) bM15 zM15 dX2_sendVansHome_81 (fun H locs hP hS => ?_)
                rw [← eM15] at hP
                refine lv_iinc (v := J (x4_11 + 1)) (lv' := [(4, .int (J (x4_11 + 1))), (0, .ref (ad (55 + 6 * p0))), (1, .ref (ad (5 * r1))), (2, .int (J x2_11))]) hx hb dX2_sendVansHome_82 hl (k := 3) rfl (J_add _ _) (by decide) rfl (fun ls hl => ?_)
                refine lv_goto (tgt := 58) hx hb dX2_sendVansHome_85 (by decide) ?_
                obtain ⟨g16, hf⟩ := gd_some hf
                exact ih _ _ _ _ _ _ rx2_11 g16 hRM15 e_x2_11 hP hS (lv_sub hl [1, 2, 3, 0] rfl) hf
          exact hL11 4000 _ _ _ _ _ _ rx2_1 (by decide : inR 0) hRM10 rfl hP hS (lv_sub hl [1, 2, 3, 0] rfl) h11
        have hL3 : ∀ (n : Nat) (x2_3 : Int) (x3_3 : Int) (x4_3 : Int) (M_3 : MM) (H : Heap) (locs : List Loc) (ls : Array Slot), inR x2_3 → inR x3_3 → inR x4_3 → RR M_3 → x2_3 = x2_1 → x3_3 = (x2_1 * 6) → va_P D vwCl (wX ca ad M_3) H → va_S (aS 75 ad) s.heap H locs → lv_has ls 5 [(0, .ref (ad (55 + 6 * p0))), (1, .ref (ad (5 * r1))), (2, .int (J x2_3)), (3, .int (J x3_3)), (4, .int (J x4_3))] → fX2_sendVansHome_L18 n p0 r1 x2_3 x3_3 x4_3 M_3 = some N_3 → W p l e (headSpec wsX2_sendVansHome (RmC 1 22)).room s m ([.ref (ad (55 + 6 * p0)), .ref (ad (5 * r1))] : List Value).toArray below meth c H locs 0 0 (MQ below (va_Qv (fun (_ : Unit) => (RR M')) (fun _ => (OX D ca ad M')) (aS 75 ad)) ([.ref (ad (55 + 6 * p0)), .ref (ad (5 * r1))] : List Value).toArray s 0 0 (aS 75 ad)) (F0 m 18 ls []) := by
          intro n
          induction n with
          | zero =>
            intro x2_3 x3_3 x4_3 M_3 H locs ls rx2_3 rx3_3 rx4_3 hRM_3 e_x2_3 e_x3_3 hP hS hl hf
            rw [fX2_sendVansHome_L18] at hf
            cases hf
          | succ n ih =>
            intro x2_3 x3_3 x4_3 M_3 H locs ls rx2_3 rx3_3 rx4_3 hRM_3 e_x2_3 e_x3_3 hP hS hl hf
            rw [fX2_sendVansHome_L18] at hf
            refine lv_iload hx hb dX2_sendVansHome_18 (lv_at hl 4 rfl) ?_
            refine lv_bipush (v := J 6) hx hb dX2_sendVansHome_20 (by decide +kernel) ?_
            refine jv_icmp_ge (tgt := 41) hx hb dX2_sendVansHome_22 (by decide) rx4_3 (by decide : inR 6) (fun c5 => ?_) (fun c5 => ?_)
            · have hf := itep hf c5
              cases hf
              exact K3 _ _ _ hRM_3 hP hS (lv_sub hl [0, 1, 2, 3] (by subst e_x2_3; subst e_x3_3; rfl))
            · have hf := iten hf c5
              refine lv_aload_n hx hb dX2_sendVansHome_25 rfl (lv_at hl 0 rfl) ?_
              refine va_get (D := D) (ci := 2) (v := .ref (ad (55 + 6 * p0 + 3))) (C := RX2) (T := TX2) (N := 7) hx hb hts hinX2 hown hK hP (55 + 6 * p0) (wL_get (by omega) (gX_p0 hp0 _)) rfl 2 (by decide) (hts (.fieldLink RX2 18 "VisitVans$Plan" "drives" "[I") (List.mem_of_getElem? (i := 2) rfl)) (fun _ h => h) rfl dX2_sendVansHome_26 ?_
              refine lv_iload_n hx hb dX2_sendVansHome_29 rfl (lv_at hl 3 rfl) ?_
              refine lv_iload hx hb dX2_sendVansHome_30 (lv_at hl 4 rfl) ?_
              refine jv_iadd hx hb dX2_sendVansHome_32 ?_
              refine lv_iconst (v := J 0) hx hb dX2_sendVansHome_33 rfl ?_
              obtain ⟨M6, qM6, hf⟩ := bnd_some hf
              obtain ⟨bM6, zM6, eM6⟩ := wr_some qM6
              have hRM6 : RR M6 := by rw [eM6]; exact RR_st hRM_3 _ _ zM6
              refine jx_iast hx hb hK hP hI hS (55 + 6 * p0 + 3) 0 (by omega) (gX_p3 hp0) rfl (by decide) bM6 zM6 dX2_sendVansHome_34 (fun H locs hP hS => ?_)
              rw [← eM6] at hP
              refine lv_iinc (v := J (x4_3 + 1)) (lv' := [(4, .int (J (x4_3 + 1))), (0, .ref (ad (55 + 6 * p0))), (1, .ref (ad (5 * r1))), (2, .int (J x2_3)), (3, .int (J x3_3))]) hx hb dX2_sendVansHome_35 hl (k := 4) rfl (J_add _ _) (by decide) rfl (fun ls hl => ?_)
              refine lv_goto (tgt := 18) hx hb dX2_sendVansHome_38 (by decide) ?_
              obtain ⟨g7, hf⟩ := gd_some hf
              exact ih _ _ _ _ _ _ _ rx2_3 rx3_3 g7 hRM6 e_x2_3 e_x3_3 hP hS (lv_sub hl [1, 2, 3, 4, 0] rfl) hf
        exact hL3 4000 _ _ _ _ _ _ _ rx2_1 g4 (by decide : inR 0) hRM_1 rfl rfl hP hS (lv_sub hl [2, 3, 4, 1, 0] rfl) h3
  exact hL1 4000 _ _ _ _ _ (by decide : inR 0) hR hP hS (lv_sub hl [1, 2, 0] rfl) h1
def fX2_orderByEnds_L20 : Nat → Nat → Nat → Int → Int → Int → MM → Option (Int × MM)
  | 0, _, _, _, _, _, _ => none
  | n + 1, p0, r1, x2_5, x3_5, x4_5, M_5 => if x4_5 ≤ 0 then some (x4_5, M_5) else bnd (rd M_5 (55 + 6 * p0 + 1) 21 (x4_5 - 1)) (fun v7 => bnd (fX3_visitFact r1 v7 5 M_5) (fun v8 => if v8 ≤ x3_5 then some (x4_5, M_5) else bnd (rd M_5 (55 + 6 * p0 + 1) 21 (x4_5 - 1)) (fun v11 => bnd (wr M_5 (55 + 6 * p0 + 1) 21 x4_5 v11) (fun M12 => gd (inR (x4_5 + (-1))) (fX2_orderByEnds_L20 n p0 r1 x2_5 x3_5 (x4_5 + (-1)) M12)))))
def fX2_orderByEnds_L2 : Nat → Nat → Nat → Int → MM → Option (MM)
  | 0, _, _, _, _ => none
  | n + 1, p0, r1, x2_1, M_1 => if (M_1 (55 + 6 * p0) 5) ≤ x2_1 then some M_1 else bnd (fX3_visitFact r1 x2_1 5 M_1) (fun v3 => bnd2 (fX2_orderByEnds_L20 4000 p0 r1 x2_1 v3 x2_1 M_1) (fun y5_0 N_5 => bnd (wr N_5 (55 + 6 * p0 + 1) 21 y5_0 x2_1) (fun M14 => gd (inR (x2_1 + 1)) (fX2_orderByEnds_L2 n p0 r1 (x2_1 + 1) M14))))
def fX2_orderByEnds (p0 : Nat) (r1 : Nat) (M : MM) : Option (MM) := bnd (fX2_orderByEnds_L2 4000 p0 r1 0 M) (fun N_1 => some N_1)
set_option maxHeartbeats 4000000 in
set_option maxRecDepth 100000 in
theorem kX2_orderByEnds (l : Launch) (D : va_G) (ca : Nat → ClassId) (v : EV) (ad : Nat → Nat) (hI : aInj 75 ad) (M : MM) (hR : RR M) (p0 : Nat) (hp0 : p0 < 2) (r1 : Nat) (hr1 : r1 < 11) (M' : MM) (hf : fX2_orderByEnds p0 r1 M = some M') : CV l yX2_orderByEnds wsX2_orderByEnds 1 22 [.ref (ad (55 + 6 * p0)), .ref (ad (5 * r1))] (PX D ca v ad M) (RR M') (OX D ca ad M') (aS 75 ad) := by
  refine Met.ofW (cc := cX2_orderByEnds) (maxL := 5) (ret := none) (by decide) rfl ?_
  intro p e s m args below meth c s₁ B hml hv
  obtain ⟨rfl, hP, hK, hE⟩ := hv
  have hx := B.exec
  have hb := B.bytes
  have hr := B.returns
  have hts := atoms_spec (ws := wsX2_orderByEnds) B.pre
  have hown : s.vm.findClass RX2 = some m.cls := findClass_of_methodNamed B.named
  have hlocks := B.notSynchronized
  have hS : va_S (aS 75 ad) s.heap s.heap [] := va_S.rf
  have hinX2 : ∀ w ∈ wsX20, w ∈ wsX2_orderByEnds := by decide +kernel
  have hl := lv_entry ([.ref (ad (55 + 6 * p0)), .ref (ad (5 * r1))]) (n := 5) (Nat.le_of_ble_eq_true rfl)
  rw [lg_entry_eq]
  generalize (lg_sl ([.ref (ad (55 + 6 * p0)), .ref (ad (5 * r1))]) ++ List.replicate (5 - (lg_sl ([.ref (ad (55 + 6 * p0)), .ref (ad (5 * r1))])).length) Slot.unset).toArray = ls at hl ⊢
  have hl : lv_has ls 5 [(0, .ref (ad (55 + 6 * p0))), (1, .ref (ad (5 * r1)))] := hl
  unfold fX2_orderByEnds at hf
  refine lv_iconst (v := J 0) hx hb dX2_orderByEnds_0 rfl ?_
  refine lv_istore_n (lv' := [(2, .int (J 0)), (0, .ref (ad (55 + 6 * p0))), (1, .ref (ad (5 * r1)))]) hx hb dX2_orderByEnds_1 rfl hl (by decide) rfl (fun ls hl => ?_)
  obtain ⟨N_1, h1, hf⟩ := bnd_some hf
  have K1 : ∀ (H : Heap) (locs : List Loc) (ls : Array Slot), RR N_1 → va_P D vwCl (wX ca ad N_1) H → va_S (aS 75 ad) s.heap H locs → lv_has ls 5 [] → W p l e (headSpec wsX2_orderByEnds (RmC 1 22)).room s m ([.ref (ad (55 + 6 * p0)), .ref (ad (5 * r1))] : List Value).toArray below meth c H locs 0 0 (MQ below (va_Qv (fun (_ : Unit) => (RR M')) (fun _ => (OX D ca ad M')) (aS 75 ad)) ([.ref (ad (55 + 6 * p0)), .ref (ad (5 * r1))] : List Value).toArray s 0 0 (aS 75 ad)) (F0 m 79 ls []) := by
    intro H locs ls hRN_1 hP hS hl
    have e2 := Option.some.inj hf
    exact jend_v hx hb hr hS (by rw [← e2]; exact hRN_1) (oX e2 hP) dX2_orderByEnds_79 hlocks
  have hL1 : ∀ (n : Nat) (x2_1 : Int) (M_1 : MM) (H : Heap) (locs : List Loc) (ls : Array Slot), inR x2_1 → RR M_1 → va_P D vwCl (wX ca ad M_1) H → va_S (aS 75 ad) s.heap H locs → lv_has ls 5 [(0, .ref (ad (55 + 6 * p0))), (1, .ref (ad (5 * r1))), (2, .int (J x2_1))] → fX2_orderByEnds_L2 n p0 r1 x2_1 M_1 = some N_1 → W p l e (headSpec wsX2_orderByEnds (RmC 1 22)).room s m ([.ref (ad (55 + 6 * p0)), .ref (ad (5 * r1))] : List Value).toArray below meth c H locs 0 0 (MQ below (va_Qv (fun (_ : Unit) => (RR M')) (fun _ => (OX D ca ad M')) (aS 75 ad)) ([.ref (ad (55 + 6 * p0)), .ref (ad (5 * r1))] : List Value).toArray s 0 0 (aS 75 ad)) (F0 m 2 ls []) := by
    intro n
    induction n with
    | zero =>
      intro x2_1 M_1 H locs ls rx2_1 hRM_1 hP hS hl hf
      rw [fX2_orderByEnds_L2] at hf
      cases hf
    | succ n ih =>
      intro x2_1 M_1 H locs ls rx2_1 hRM_1 hP hS hl hf
      rw [fX2_orderByEnds_L2] at hf
      refine lv_iload_n hx hb dX2_orderByEnds_2 rfl (lv_at hl 2 rfl) ?_
      refine lv_aload_n hx hb dX2_orderByEnds_3 rfl (lv_at hl 0 rfl) ?_
      refine va_get (D := D) (ci := 2) (v := .int (J (M_1 (55 + 6 * p0) 5))) (C := RX2) (T := TX2) (N := 7) hx hb hts hinX2 hown hK hP (55 + 6 * p0) (wL_get (by omega) (gX_p0 hp0 _)) rfl 5 (by decide) (hts (.fieldLink RX2 33 "VisitVans$Plan" "visitCount" "I") (List.mem_of_getElem? (i := 1) rfl)) (fun _ h => h) rfl dX2_orderByEnds_4 ?_
      refine jv_icmp_ge (tgt := 79) hx hb dX2_orderByEnds_7 (by decide) rx2_1 (hRM_1 (55 + 6 * p0) 5) (fun c2 => ?_) (fun c2 => ?_)
      · have hf := itep hf c2
        cases hf
        exact K1 _ _ _ hRM_1 hP hS (lv_sub hl [] rfl)
      · have hf := iten hf c2
        refine lv_aload_n hx hb dX2_orderByEnds_10 rfl (lv_at hl 1 rfl) ?_
        refine lv_iload_n hx hb dX2_orderByEnds_11 rfl (lv_at hl 2 rfl) ?_
        refine lv_iconst (v := J 5) hx hb dX2_orderByEnds_12 rfl ?_
        obtain ⟨v3, qv3, hf⟩ := bnd_some hf
        refine jc_i (va_runV (As := [.int (J x2_1), .int (J 5)]) (rest := []) ⟨hx, hb, hml, hown, hts⟩ (kX3_visitFact l D ca v ad hI M_1 hRM_1 r1 hr1 x2_1 5 rx2_1 (by decide : inR 5) v3 qv3) (cwV 2 hts gX2_orderByEnds_X3_visitFact rfl rfl rfl (by decide +kernel) ⟨Nat.le_of_ble_eq_true rfl, Nat.le_of_ble_eq_true rfl⟩) (pvX hK hE hP hS [.int (J x2_1), .int (J 5)] (by omega) (gX_r0 hr1 _) rfl) rfl rfl hl.1 rfl (lv_room (Nat.le_of_ble_eq_true rfl)) dX2_orderByEnds_13 ⟨Nat.zero_le _, Nat.zero_le _⟩) hS (fun H locs t ht hφ hO hS => ?_)
        have rv3 := hφ
        have hP : va_P D vwCl (wX ca ad M_1) H := by rw [← ht]; exact hO
        refine lv_istore_n (lv' := [(3, .int (J v3)), (0, .ref (ad (55 + 6 * p0))), (1, .ref (ad (5 * r1))), (2, .int (J x2_1))]) hx hb dX2_orderByEnds_16 rfl hl (by decide) rfl (fun ls hl => ?_)
        refine lv_iload_n hx hb dX2_orderByEnds_17 rfl (lv_at hl 3 rfl) ?_
        refine lv_istore (lv' := [(4, .int (J x2_1)), (3, .int (J v3)), (0, .ref (ad (55 + 6 * p0))), (1, .ref (ad (5 * r1))), (2, .int (J x2_1))]) hx hb dX2_orderByEnds_18 hl (by decide) rfl (fun ls hl => ?_)
        obtain ⟨y5_0, N_5, h5, hf⟩ := bnd2_some hf
        have K5 : ∀ (H : Heap) (locs : List Loc) (ls : Array Slot), inR y5_0 → RR N_5 → va_P D vwCl (wX ca ad N_5) H → va_S (aS 75 ad) s.heap H locs → lv_has ls 5 [(0, .ref (ad (55 + 6 * p0))), (1, .ref (ad (5 * r1))), (2, .int (J x2_1)), (4, .int (J y5_0))] → W p l e (headSpec wsX2_orderByEnds (RmC 1 22)).room s m ([.ref (ad (55 + 6 * p0)), .ref (ad (5 * r1))] : List Value).toArray below meth c H locs 0 0 (MQ below (va_Qv (fun (_ : Unit) => (RR M')) (fun _ => (OX D ca ad M')) (aS 75 ad)) ([.ref (ad (55 + 6 * p0)), .ref (ad (5 * r1))] : List Value).toArray s 0 0 (aS 75 ad)) (F0 m 65 ls []) := by
          intro H locs ls ry5_0 hRN_5 hP hS hl
          refine lv_aload_n hx hb dX2_orderByEnds_65 rfl (lv_at hl 0 rfl) ?_
          refine va_get (D := D) (ci := 2) (v := .ref (ad (55 + 6 * p0 + 1))) (C := RX2) (T := TX2) (N := 7) hx hb hts hinX2 hown hK hP (55 + 6 * p0) (wL_get (by omega) (gX_p0 hp0 _)) rfl 0 (by decide) (hts (.fieldLink RX2 9 "VisitVans$Plan" "order" "[I") (List.mem_of_getElem? (i := 2) rfl)) (fun _ h => h) rfl dX2_orderByEnds_66 ?_
          refine lv_iload hx hb dX2_orderByEnds_69 (lv_at hl 3 rfl) ?_
          refine lv_iload_n hx hb dX2_orderByEnds_71 rfl (lv_at hl 2 rfl) ?_
          obtain ⟨M14, qM14, hf⟩ := bnd_some hf
          obtain ⟨bM14, zM14, eM14⟩ := wr_some qM14
          have hRM14 : RR M14 := by rw [eM14]; exact RR_st hRN_5 _ _ zM14
          refine jx_iast hx hb hK hP hI hS (55 + 6 * p0 + 1) 0 (by omega) (gX_p1 hp0) rfl (by decide) bM14 zM14 dX2_orderByEnds_72 (fun H locs hP hS => ?_)
          rw [← eM14] at hP
          refine lv_iinc (v := J (x2_1 + 1)) (lv' := [(2, .int (J (x2_1 + 1))), (0, .ref (ad (55 + 6 * p0))), (1, .ref (ad (5 * r1))), (4, .int (J y5_0))]) hx hb dX2_orderByEnds_73 hl (k := 2) rfl (J_add _ _) (by decide) rfl (fun ls hl => ?_)
          refine lv_goto (tgt := 2) hx hb dX2_orderByEnds_76 (by decide) ?_
          obtain ⟨g15, hf⟩ := gd_some hf
          exact ih _ _ _ _ _ g15 hRM14 hP hS (lv_sub hl [1, 2, 0] rfl) hf
        have hL5 : ∀ (n : Nat) (x2_5 : Int) (x3_5 : Int) (x4_5 : Int) (M_5 : MM) (H : Heap) (locs : List Loc) (ls : Array Slot), inR x2_5 → inR x3_5 → inR x4_5 → RR M_5 → x2_5 = x2_1 → x3_5 = v3 → va_P D vwCl (wX ca ad M_5) H → va_S (aS 75 ad) s.heap H locs → lv_has ls 5 [(0, .ref (ad (55 + 6 * p0))), (1, .ref (ad (5 * r1))), (2, .int (J x2_5)), (3, .int (J x3_5)), (4, .int (J x4_5))] → fX2_orderByEnds_L20 n p0 r1 x2_5 x3_5 x4_5 M_5 = some (y5_0, N_5) → W p l e (headSpec wsX2_orderByEnds (RmC 1 22)).room s m ([.ref (ad (55 + 6 * p0)), .ref (ad (5 * r1))] : List Value).toArray below meth c H locs 0 0 (MQ below (va_Qv (fun (_ : Unit) => (RR M')) (fun _ => (OX D ca ad M')) (aS 75 ad)) ([.ref (ad (55 + 6 * p0)), .ref (ad (5 * r1))] : List Value).toArray s 0 0 (aS 75 ad)) (F0 m 20 ls []) := by
          intro n
          induction n with
          | zero =>
            intro x2_5 x3_5 x4_5 M_5 H locs ls rx2_5 rx3_5 rx4_5 hRM_5 e_x2_5 e_x3_5 hP hS hl hf
            rw [fX2_orderByEnds_L20] at hf
            cases hf
          | succ n ih =>
            intro x2_5 x3_5 x4_5 M_5 H locs ls rx2_5 rx3_5 rx4_5 hRM_5 e_x2_5 e_x3_5 hP hS hl hf
            rw [fX2_orderByEnds_L20] at hf
            refine lv_iload hx hb dX2_orderByEnds_20 (lv_at hl 4 rfl) ?_
            refine jv_if_le (tgt := 65) hx hb dX2_orderByEnds_22 (by decide) rx4_5 (fun c6 => ?_) (fun c6 => ?_)
            · have hf := itep hf c6
              cases hf
              exact K5 _ _ _ rx4_5 hRM_5 hP hS (lv_sub hl [0, 1, 2, 4] (by subst e_x2_5; subst e_x3_5; rfl))
            · have hf := iten hf c6
              refine lv_aload_n hx hb dX2_orderByEnds_25 rfl (lv_at hl 1 rfl) ?_
              refine lv_aload_n hx hb dX2_orderByEnds_26 rfl (lv_at hl 0 rfl) ?_
              refine va_get (D := D) (ci := 2) (v := .ref (ad (55 + 6 * p0 + 1))) (C := RX2) (T := TX2) (N := 7) hx hb hts hinX2 hown hK hP (55 + 6 * p0) (wL_get (by omega) (gX_p0 hp0 _)) rfl 0 (by decide) (hts (.fieldLink RX2 9 "VisitVans$Plan" "order" "[I") (List.mem_of_getElem? (i := 2) rfl)) (fun _ h => h) rfl dX2_orderByEnds_27 ?_
              refine lv_iload hx hb dX2_orderByEnds_30 (lv_at hl 4 rfl) ?_
              refine lv_iconst (v := J 1) hx hb dX2_orderByEnds_32 rfl ?_
              refine jv_isub hx hb dX2_orderByEnds_33 ?_
              obtain ⟨v7, qv7, hf⟩ := bnd_some hf
              obtain ⟨bv7, ev7⟩ := rd_some qv7
              have rv7 : inR v7 := by rw [ev7]; exact hRM_5 _ _
              refine jx_iald hx hb hK hP (55 + 6 * p0 + 1) 0 (by omega) (gX_p1 hp0) rfl (by decide) bv7 ev7 dX2_orderByEnds_34 ?_
              refine lv_iconst (v := J 5) hx hb dX2_orderByEnds_35 rfl ?_
              obtain ⟨v8, qv8, hf⟩ := bnd_some hf
              refine jc_i (va_runV (As := [.int (J v7), .int (J 5)]) (rest := []) ⟨hx, hb, hml, hown, hts⟩ (kX3_visitFact l D ca v ad hI M_5 hRM_5 r1 hr1 v7 5 rv7 (by decide : inR 5) v8 qv8) (cwV 2 hts gX2_orderByEnds_X3_visitFact rfl rfl rfl (by decide +kernel) ⟨Nat.le_of_ble_eq_true rfl, Nat.le_of_ble_eq_true rfl⟩) (pvX hK hE hP hS [.int (J v7), .int (J 5)] (by omega) (gX_r0 hr1 _) rfl) rfl rfl hl.1 rfl (lv_room (Nat.le_of_ble_eq_true rfl)) dX2_orderByEnds_36 ⟨Nat.zero_le _, Nat.zero_le _⟩) hS (fun H locs t ht hφ hO hS => ?_)
              have rv8 := hφ
              have hP : va_P D vwCl (wX ca ad M_5) H := by rw [← ht]; exact hO
              refine lv_iload_n hx hb dX2_orderByEnds_39 rfl (lv_at hl 3 rfl) ?_
              refine jv_icmp_le (tgt := 65) hx hb dX2_orderByEnds_40 (by decide) rv8 rx3_5 (fun c10 => ?_) (fun c10 => ?_)
              · have hf := itep hf c10
                cases hf
                exact K5 _ _ _ rx4_5 hRM_5 hP hS (lv_sub hl [0, 1, 2, 4] (by subst e_x2_5; subst e_x3_5; rfl))
              · have hf := iten hf c10
                refine lv_aload_n hx hb dX2_orderByEnds_43 rfl (lv_at hl 0 rfl) ?_
                refine va_get (D := D) (ci := 2) (v := .ref (ad (55 + 6 * p0 + 1))) (C := RX2) (T := TX2) (N := 7) hx hb hts hinX2 hown hK hP (55 + 6 * p0) (wL_get (by omega) (gX_p0 hp0 _)) rfl 0 (by decide) (hts (.fieldLink RX2 9 "VisitVans$Plan" "order" "[I") (List.mem_of_getElem? (i := 2) rfl)) (fun _ h => h) rfl dX2_orderByEnds_44 ?_
                refine lv_iload hx hb dX2_orderByEnds_47 (lv_at hl 4 rfl) ?_
                refine lv_aload_n hx hb dX2_orderByEnds_49 rfl (lv_at hl 0 rfl) ?_
                refine va_get (D := D) (ci := 2) (v := .ref (ad (55 + 6 * p0 + 1))) (C := RX2) (T := TX2) (N := 7) hx hb hts hinX2 hown hK hP (55 + 6 * p0) (wL_get (by omega) (gX_p0 hp0 _)) rfl 0 (by decide) (hts (.fieldLink RX2 9 "VisitVans$Plan" "order" "[I") (List.mem_of_getElem? (i := 2) rfl)) (fun _ h => h) rfl dX2_orderByEnds_50 ?_
                refine lv_iload hx hb dX2_orderByEnds_53 (lv_at hl 4 rfl) ?_
                refine lv_iconst (v := J 1) hx hb dX2_orderByEnds_55 rfl ?_
                refine jv_isub hx hb dX2_orderByEnds_56 ?_
                obtain ⟨v11, qv11, hf⟩ := bnd_some hf
                obtain ⟨bv11, ev11⟩ := rd_some qv11
                have rv11 : inR v11 := by rw [ev11]; exact hRM_5 _ _
                refine jx_iald hx hb hK hP (55 + 6 * p0 + 1) 0 (by omega) (gX_p1 hp0) rfl (by decide) bv11 ev11 dX2_orderByEnds_57 ?_
                obtain ⟨M12, qM12, hf⟩ := bnd_some hf
                obtain ⟨bM12, zM12, eM12⟩ := wr_some qM12
                have hRM12 : RR M12 := by rw [eM12]; exact RR_st hRM_5 _ _ zM12
                refine jx_iast hx hb hK hP hI hS (55 + 6 * p0 + 1) 0 (by omega) (gX_p1 hp0) rfl (by decide) bM12 zM12 dX2_orderByEnds_58 (fun H locs hP hS => ?_)
                rw [← eM12] at hP
                refine lv_iinc (v := J (x4_5 + (-1))) (lv' := [(4, .int (J (x4_5 + (-1)))), (0, .ref (ad (55 + 6 * p0))), (1, .ref (ad (5 * r1))), (2, .int (J x2_5)), (3, .int (J x3_5))]) hx hb dX2_orderByEnds_59 hl (k := 4) rfl (J_add _ _) (by decide) rfl (fun ls hl => ?_)
                refine lv_goto (tgt := 20) hx hb dX2_orderByEnds_62 (by decide) ?_
                obtain ⟨g13, hf⟩ := gd_some hf
                exact ih _ _ _ _ _ _ _ rx2_5 rx3_5 g13 hRM12 e_x2_5 e_x3_5 hP hS (lv_sub hl [1, 2, 3, 4, 0] rfl) hf
        exact hL5 4000 _ _ _ _ _ _ _ rx2_1 rv3 rx2_1 hRM_1 rfl rfl hP hS (lv_sub hl [2, 3, 4, 1, 0] rfl) h5
  exact hL1 4000 _ _ _ _ _ (by decide : inR 0) hR hP hS (lv_sub hl [1, 2, 0] rfl) h1
def fX2_hasSkill (p0 : Nat) (r1 : Nat) (a2 : Int) (a3 : Int) (M : MM) : Option (Int) := bnd (fX3_vanFact r1 a2 1 M) (fun v1 => bnd (fX3_visitFact r1 a3 1 M) (fun v3 => bnd (if (iand (ishr v1 v3) 1) = 1 then some ((1 : Int)) else some ((0 : Int))) (fun y6_0 => gd (y6_0 = 0 ∨ y6_0 = 1) (some y6_0))))
set_option maxHeartbeats 4000000 in
set_option maxRecDepth 100000 in
theorem kX2_hasSkill (l : Launch) (D : va_G) (ca : Nat → ClassId) (v : EV) (ad : Nat → Nat) (hI : aInj 75 ad) (M : MM) (hR : RR M) (p0 : Nat) (hp0 : p0 < 2) (r1 : Nat) (hr1 : r1 < 11) (a2 : Int) (a3 : Int) (i2 : inR a2) (i3 : inR a3) (res : Int) (hf : fX2_hasSkill p0 r1 a2 a3 M = some res) : CI l yX2_hasSkill wsX2_hasSkill 1 22 [.ref (ad (55 + 6 * p0)), .ref (ad (5 * r1)), .int (J a2), .int (J a3)] (PX D ca v ad M) res (inR res) (OX D ca ad M) (aS 75 ad) := by
  refine Met.ofW (cc := cX2_hasSkill) (maxL := 4) (ret := (some .boolean)) (by decide) rfl ?_
  intro p e s m args below meth c s₁ B hml hv
  obtain ⟨rfl, hP, hK, hE⟩ := hv
  have hx := B.exec
  have hb := B.bytes
  have hr := B.returns
  have hts := atoms_spec (ws := wsX2_hasSkill) B.pre
  have hown : s.vm.findClass RX2 = some m.cls := findClass_of_methodNamed B.named
  have hlocks := B.notSynchronized
  have hS : va_S (aS 75 ad) s.heap s.heap [] := va_S.rf
  have hl := lv_entry ([.ref (ad (55 + 6 * p0)), .ref (ad (5 * r1)), .int (J a2), .int (J a3)]) (n := 4) (Nat.le_of_ble_eq_true rfl)
  rw [lg_entry_eq]
  generalize (lg_sl ([.ref (ad (55 + 6 * p0)), .ref (ad (5 * r1)), .int (J a2), .int (J a3)]) ++ List.replicate (4 - (lg_sl ([.ref (ad (55 + 6 * p0)), .ref (ad (5 * r1)), .int (J a2), .int (J a3)])).length) Slot.unset).toArray = ls at hl ⊢
  have hl : lv_has ls 4 [(0, .ref (ad (55 + 6 * p0))), (1, .ref (ad (5 * r1))), (2, .int (J a2)), (3, .int (J a3))] := hl
  unfold fX2_hasSkill at hf
  refine lv_aload_n hx hb dX2_hasSkill_0 rfl (lv_at hl 1 rfl) ?_
  refine lv_iload_n hx hb dX2_hasSkill_1 rfl (lv_at hl 2 rfl) ?_
  refine lv_iconst (v := J 1) hx hb dX2_hasSkill_2 rfl ?_
  obtain ⟨v1, qv1, hf⟩ := bnd_some hf
  refine jc_i (va_runV (As := [.int (J a2), .int (J 1)]) (rest := []) ⟨hx, hb, hml, hown, hts⟩ (kX3_vanFact l D ca v ad hI M hR r1 hr1 a2 1 i2 (by decide : inR 1) v1 qv1) (cwV 2 hts gX2_hasSkill_X3_vanFact rfl rfl rfl (by decide +kernel) ⟨Nat.le_of_ble_eq_true rfl, Nat.le_of_ble_eq_true rfl⟩) (pvX hK hE hP hS [.int (J a2), .int (J 1)] (by omega) (gX_r0 hr1 _) rfl) rfl rfl hl.1 rfl (lv_room (Nat.le_of_ble_eq_true rfl)) dX2_hasSkill_3 ⟨Nat.zero_le _, Nat.zero_le _⟩) hS (fun H locs t ht hφ hO hS => ?_)
  have rv1 := hφ
  have hP : va_P D vwCl (wX ca ad M) H := by rw [← ht]; exact hO
  refine lv_aload_n hx hb dX2_hasSkill_6 rfl (lv_at hl 1 rfl) ?_
  refine lv_iload_n hx hb dX2_hasSkill_7 rfl (lv_at hl 3 rfl) ?_
  refine lv_iconst (v := J 1) hx hb dX2_hasSkill_8 rfl ?_
  obtain ⟨v3, qv3, hf⟩ := bnd_some hf
  refine jc_i (va_runV (As := [.int (J a3), .int (J 1)]) (rest := [.int (J v1)]) ⟨hx, hb, hml, hown, hts⟩ (kX3_visitFact l D ca v ad hI M hR r1 hr1 a3 1 i3 (by decide : inR 1) v3 qv3) (cwV 2 hts gX2_hasSkill_X3_visitFact rfl rfl rfl (by decide +kernel) ⟨Nat.le_of_ble_eq_true rfl, Nat.le_of_ble_eq_true rfl⟩) (pvX hK hE hP hS [.int (J a3), .int (J 1)] (by omega) (gX_r0 hr1 _) rfl) rfl rfl hl.1 rfl (lv_room (Nat.le_of_ble_eq_true rfl)) dX2_hasSkill_9 ⟨Nat.zero_le _, Nat.zero_le _⟩) hS (fun H locs t ht hφ hO hS => ?_)
  have rv3 := hφ
  have hP : va_P D vwCl (wX ca ad M) H := by rw [← ht]; exact hO
  refine jv_ishr hx hb dX2_hasSkill_12 ?_
  refine lv_iconst (v := J 1) hx hb dX2_hasSkill_13 rfl ?_
  refine jv_iand hx hb dX2_hasSkill_14 ?_
  refine lv_iconst (v := J 1) hx hb dX2_hasSkill_15 rfl ?_
  obtain ⟨y6_0, h6, hf⟩ := bnd_some hf
  have K6 : ∀ (H : Heap) (locs : List Loc) (ls : Array Slot), inR y6_0 → va_P D vwCl (wX ca ad M) H → va_S (aS 75 ad) s.heap H locs → lv_has ls 4 [] → W p l e (headSpec wsX2_hasSkill (RmC 1 22)).room s m ([.ref (ad (55 + 6 * p0)), .ref (ad (5 * r1)), .int (J a2), .int (J a3)] : List Value).toArray below meth c H locs 0 0 (MQ below (va_Qi (fun x (_ : Unit) => x = J res ∧ (inR res)) (fun _ => (OX D ca ad M)) (aS 75 ad)) ([.ref (ad (55 + 6 * p0)), .ref (ad (5 * r1)), .int (J a2), .int (J a3)] : List Value).toArray s 0 0 (aS 75 ad)) (F0 m 24 ls [.int (J y6_0)]) := by
    intro H locs ls ry6_0  hP hS hl
    obtain ⟨g7, hf⟩ := gd_some hf
    have e1 := Option.some.inj hf
    exact jend_i hx hb hr (J_wZ g7).1 hS e1 (by rw [← e1]; exact ry6_0) (oX rfl hP) dX2_hasSkill_24 hlocks
  have hf := h6
  clear h6
  refine jv_icmp_ne (tgt := 23) hx hb dX2_hasSkill_16 (by decide) (J_inR _) (by decide : inR 1) (fun c5 => ?_) (fun c5 => ?_)
  · have hf := iten hf c5
    refine lv_iconst (v := J 0) hx hb dX2_hasSkill_23 rfl ?_
    cases hf
    exact K6 _ _ _ (by decide : inR 0)  hP hS (lv_sub hl [] rfl)
  · have hf := itep hf c5
    refine lv_iconst (v := J 1) hx hb dX2_hasSkill_19 rfl ?_
    refine lv_goto (tgt := 24) hx hb dX2_hasSkill_20 (by decide) ?_
    cases hf
    exact K6 _ _ _ (by decide : inR 1)  hP hS (lv_sub hl [] rfl)
def fX2_partsLeft (p0 : Nat) (a1 : Int) (a2 : Int) (M : MM) : Option (Int) := bnd (rd M (55 + 6 * p0 + 4) 20 ((a1 * 5) + a2)) (fun v1 => some v1)
set_option maxHeartbeats 4000000 in
set_option maxRecDepth 100000 in
theorem kX2_partsLeft (l : Launch) (D : va_G) (ca : Nat → ClassId) (v : EV) (ad : Nat → Nat) (hI : aInj 75 ad) (M : MM) (hR : RR M) (p0 : Nat) (hp0 : p0 < 2) (a1 : Int) (a2 : Int) (i1 : inR a1) (i2 : inR a2) (res : Int) (hf : fX2_partsLeft p0 a1 a2 M = some res) : CI l yX2_partsLeft wsX2_partsLeft 0 0 [.ref (ad (55 + 6 * p0)), .int (J a1), .int (J a2)] (PX D ca v ad M) res (inR res) (OX D ca ad M) (aS 75 ad) := by
  refine Met.ofW (cc := cX2_partsLeft) (maxL := 3) (ret := (some .int)) (by decide) rfl ?_
  intro p e s m args below meth c s₁ B hml hv
  obtain ⟨rfl, hP, hK, hE⟩ := hv
  have hx := B.exec
  have hb := B.bytes
  have hr := B.returns
  have hts := atoms_spec (ws := wsX2_partsLeft) B.pre
  have hown : s.vm.findClass RX2 = some m.cls := findClass_of_methodNamed B.named
  have hlocks := B.notSynchronized
  have hS : va_S (aS 75 ad) s.heap s.heap [] := va_S.rf
  have hinX2 : ∀ w ∈ wsX20, w ∈ wsX2_partsLeft := by decide +kernel
  have hl := lv_entry ([.ref (ad (55 + 6 * p0)), .int (J a1), .int (J a2)]) (n := 3) (Nat.le_of_ble_eq_true rfl)
  rw [lg_entry_eq]
  generalize (lg_sl ([.ref (ad (55 + 6 * p0)), .int (J a1), .int (J a2)]) ++ List.replicate (3 - (lg_sl ([.ref (ad (55 + 6 * p0)), .int (J a1), .int (J a2)])).length) Slot.unset).toArray = ls at hl ⊢
  have hl : lv_has ls 3 [(0, .ref (ad (55 + 6 * p0))), (1, .int (J a1)), (2, .int (J a2))] := hl
  unfold fX2_partsLeft at hf
  refine lv_aload_n hx hb dX2_partsLeft_0 rfl (lv_at hl 0 rfl) ?_
  refine va_get (D := D) (ci := 2) (v := .ref (ad (55 + 6 * p0 + 4))) (C := RX2) (T := TX2) (N := 7) hx hb hts hinX2 hown hK hP (55 + 6 * p0) (wL_get (by omega) (gX_p0 hp0 _)) rfl 3 (by decide) (hts (.fieldLink RX2 21 "VisitVans$Plan" "left" "[I") (List.mem_of_getElem? (i := 1) rfl)) (fun _ h => h) rfl dX2_partsLeft_1 ?_
  refine lv_iload_n hx hb dX2_partsLeft_4 rfl (lv_at hl 1 rfl) ?_
  refine lv_iconst (v := J 5) hx hb dX2_partsLeft_5 rfl ?_
  refine jv_imul hx hb dX2_partsLeft_6 ?_
  refine lv_iload_n hx hb dX2_partsLeft_7 rfl (lv_at hl 2 rfl) ?_
  refine jv_iadd hx hb dX2_partsLeft_8 ?_
  obtain ⟨v1, qv1, hf⟩ := bnd_some hf
  obtain ⟨bv1, ev1⟩ := rd_some qv1
  have rv1 : inR v1 := by rw [ev1]; exact hR _ _
  refine jx_iald hx hb hK hP (55 + 6 * p0 + 4) 0 (by omega) (gX_p4 hp0) rfl (by decide) bv1 ev1 dX2_partsLeft_9 ?_
  have e1 := Option.some.inj hf
  exact jend_i hx hb hr rfl hS e1 (by rw [← e1]; exact rv1) (oX rfl hP) dX2_partsLeft_10 hlocks
def fX2_hasParts (p0 : Nat) (r1 : Nat) (a2 : Int) (a3 : Int) (M : MM) : Option (Int) := bnd (fX3_visitFact r1 a3 2 M) (fun v1 => bnd (fX2_partsLeft p0 a2 v1 M) (fun v3 => bnd (fX3_visitFact r1 a3 3 M) (fun v5 => bnd (if v3 < v5 then some ((0 : Int)) else some ((1 : Int))) (fun y8_0 => gd (y8_0 = 0 ∨ y8_0 = 1) (some y8_0)))))
set_option maxHeartbeats 4000000 in
set_option maxRecDepth 100000 in
theorem kX2_hasParts (l : Launch) (D : va_G) (ca : Nat → ClassId) (v : EV) (ad : Nat → Nat) (hI : aInj 75 ad) (M : MM) (hR : RR M) (p0 : Nat) (hp0 : p0 < 2) (r1 : Nat) (hr1 : r1 < 11) (a2 : Int) (a3 : Int) (i2 : inR a2) (i3 : inR a3) (res : Int) (hf : fX2_hasParts p0 r1 a2 a3 M = some res) : CI l yX2_hasParts wsX2_hasParts 1 22 [.ref (ad (55 + 6 * p0)), .ref (ad (5 * r1)), .int (J a2), .int (J a3)] (PX D ca v ad M) res (inR res) (OX D ca ad M) (aS 75 ad) := by
  refine Met.ofW (cc := cX2_hasParts) (maxL := 4) (ret := (some .boolean)) (by decide) rfl ?_
  intro p e s m args below meth c s₁ B hml hv
  obtain ⟨rfl, hP, hK, hE⟩ := hv
  have hx := B.exec
  have hb := B.bytes
  have hr := B.returns
  have hts := atoms_spec (ws := wsX2_hasParts) B.pre
  have hown : s.vm.findClass RX2 = some m.cls := findClass_of_methodNamed B.named
  have hlocks := B.notSynchronized
  have hS : va_S (aS 75 ad) s.heap s.heap [] := va_S.rf
  have hl := lv_entry ([.ref (ad (55 + 6 * p0)), .ref (ad (5 * r1)), .int (J a2), .int (J a3)]) (n := 4) (Nat.le_of_ble_eq_true rfl)
  rw [lg_entry_eq]
  generalize (lg_sl ([.ref (ad (55 + 6 * p0)), .ref (ad (5 * r1)), .int (J a2), .int (J a3)]) ++ List.replicate (4 - (lg_sl ([.ref (ad (55 + 6 * p0)), .ref (ad (5 * r1)), .int (J a2), .int (J a3)])).length) Slot.unset).toArray = ls at hl ⊢
  have hl : lv_has ls 4 [(0, .ref (ad (55 + 6 * p0))), (1, .ref (ad (5 * r1))), (2, .int (J a2)), (3, .int (J a3))] := hl
  unfold fX2_hasParts at hf
  refine lv_aload_n hx hb dX2_hasParts_0 rfl (lv_at hl 0 rfl) ?_
  refine lv_iload_n hx hb dX2_hasParts_1 rfl (lv_at hl 2 rfl) ?_
  refine lv_aload_n hx hb dX2_hasParts_2 rfl (lv_at hl 1 rfl) ?_
  refine lv_iload_n hx hb dX2_hasParts_3 rfl (lv_at hl 3 rfl) ?_
  refine lv_iconst (v := J 2) hx hb dX2_hasParts_4 rfl ?_
  obtain ⟨v1, qv1, hf⟩ := bnd_some hf
  refine jc_i (va_runV (As := [.int (J a3), .int (J 2)]) (rest := [.int (J a2), .ref (ad (55 + 6 * p0))]) ⟨hx, hb, hml, hown, hts⟩ (kX3_visitFact l D ca v ad hI M hR r1 hr1 a3 2 i3 (by decide : inR 2) v1 qv1) (cwV 2 hts gX2_hasParts_X3_visitFact rfl rfl rfl (by decide +kernel) ⟨Nat.le_of_ble_eq_true rfl, Nat.le_of_ble_eq_true rfl⟩) (pvX hK hE hP hS [.int (J a3), .int (J 2)] (by omega) (gX_r0 hr1 _) rfl) rfl rfl hl.1 rfl (lv_room (Nat.le_of_ble_eq_true rfl)) dX2_hasParts_5 ⟨Nat.zero_le _, Nat.zero_le _⟩) hS (fun H locs t ht hφ hO hS => ?_)
  have rv1 := hφ
  have hP : va_P D vwCl (wX ca ad M) H := by rw [← ht]; exact hO
  obtain ⟨v3, qv3, hf⟩ := bnd_some hf
  refine jc_i (va_runV (As := [.int (J a2), .int (J v1)]) (rest := []) ⟨hx, hb, hml, hown, hts⟩ (kX2_partsLeft l D ca v ad hI M hR p0 hp0 a2 v1 i2 rv1 v3 qv3) (cwV 2 hts gX2_hasParts_X2_partsLeft rfl rfl rfl (by decide +kernel) ⟨Nat.le_of_ble_eq_true rfl, Nat.le_of_ble_eq_true rfl⟩) (pvX hK hE hP hS [.int (J a2), .int (J v1)] (by omega) (gX_p0 hp0 _) rfl) rfl rfl hl.1 rfl (lv_room (Nat.le_of_ble_eq_true rfl)) dX2_hasParts_8 ⟨Nat.zero_le _, Nat.zero_le _⟩) hS (fun H locs t ht hφ hO hS => ?_)
  have rv3 := hφ
  have hP : va_P D vwCl (wX ca ad M) H := by rw [← ht]; exact hO
  refine lv_aload_n hx hb dX2_hasParts_11 rfl (lv_at hl 1 rfl) ?_
  refine lv_iload_n hx hb dX2_hasParts_12 rfl (lv_at hl 3 rfl) ?_
  refine lv_iconst (v := J 3) hx hb dX2_hasParts_13 rfl ?_
  obtain ⟨v5, qv5, hf⟩ := bnd_some hf
  refine jc_i (va_runV (As := [.int (J a3), .int (J 3)]) (rest := [.int (J v3)]) ⟨hx, hb, hml, hown, hts⟩ (kX3_visitFact l D ca v ad hI M hR r1 hr1 a3 3 i3 (by decide : inR 3) v5 qv5) (cwV 2 hts gX2_hasParts_X3_visitFact rfl rfl rfl (by decide +kernel) ⟨Nat.le_of_ble_eq_true rfl, Nat.le_of_ble_eq_true rfl⟩) (pvX hK hE hP hS [.int (J a3), .int (J 3)] (by omega) (gX_r0 hr1 _) rfl) rfl rfl hl.1 rfl (lv_room (Nat.le_of_ble_eq_true rfl)) dX2_hasParts_14 ⟨Nat.zero_le _, Nat.zero_le _⟩) hS (fun H locs t ht hφ hO hS => ?_)
  have rv5 := hφ
  have hP : va_P D vwCl (wX ca ad M) H := by rw [← ht]; exact hO
  obtain ⟨y8_0, h8, hf⟩ := bnd_some hf
  have K8 : ∀ (H : Heap) (locs : List Loc) (ls : Array Slot), inR y8_0 → va_P D vwCl (wX ca ad M) H → va_S (aS 75 ad) s.heap H locs → lv_has ls 4 [] → W p l e (headSpec wsX2_hasParts (RmC 1 22)).room s m ([.ref (ad (55 + 6 * p0)), .ref (ad (5 * r1)), .int (J a2), .int (J a3)] : List Value).toArray below meth c H locs 0 0 (MQ below (va_Qi (fun x (_ : Unit) => x = J res ∧ (inR res)) (fun _ => (OX D ca ad M)) (aS 75 ad)) ([.ref (ad (55 + 6 * p0)), .ref (ad (5 * r1)), .int (J a2), .int (J a3)] : List Value).toArray s 0 0 (aS 75 ad)) (F0 m 25 ls [.int (J y8_0)]) := by
    intro H locs ls ry8_0  hP hS hl
    obtain ⟨g9, hf⟩ := gd_some hf
    have e1 := Option.some.inj hf
    exact jend_i hx hb hr (J_wZ g9).1 hS e1 (by rw [← e1]; exact ry8_0) (oX rfl hP) dX2_hasParts_25 hlocks
  have hf := h8
  clear h8
  refine jv_icmp_lt (tgt := 24) hx hb dX2_hasParts_17 (by decide) rv3 rv5 (fun c7 => ?_) (fun c7 => ?_)
  · have hf := itep hf c7
    refine lv_iconst (v := J 0) hx hb dX2_hasParts_24 rfl ?_
    cases hf
    exact K8 _ _ _ (by decide : inR 0)  hP hS (lv_sub hl [] rfl)
  · have hf := iten hf c7
    refine lv_iconst (v := J 1) hx hb dX2_hasParts_20 rfl ?_
    refine lv_goto (tgt := 25) hx hb dX2_hasParts_21 (by decide) ?_
    cases hf
    exact K8 _ _ _ (by decide : inR 1)  hP hS (lv_sub hl [] rfl)
def fX2_driveFact (p0 : Nat) (a1 : Int) (a2 : Int) (M : MM) : Option (Int) := bnd (rd M (55 + 6 * p0 + 3) 24 ((a1 * 6) + a2)) (fun v1 => some v1)
set_option maxHeartbeats 4000000 in
set_option maxRecDepth 100000 in
theorem kX2_driveFact (l : Launch) (D : va_G) (ca : Nat → ClassId) (v : EV) (ad : Nat → Nat) (hI : aInj 75 ad) (M : MM) (hR : RR M) (p0 : Nat) (hp0 : p0 < 2) (a1 : Int) (a2 : Int) (i1 : inR a1) (i2 : inR a2) (res : Int) (hf : fX2_driveFact p0 a1 a2 M = some res) : CI l yX2_driveFact wsX2_driveFact 0 0 [.ref (ad (55 + 6 * p0)), .int (J a1), .int (J a2)] (PX D ca v ad M) res (inR res) (OX D ca ad M) (aS 75 ad) := by
  refine Met.ofW (cc := cX2_driveFact) (maxL := 3) (ret := (some .int)) (by decide) rfl ?_
  intro p e s m args below meth c s₁ B hml hv
  obtain ⟨rfl, hP, hK, hE⟩ := hv
  have hx := B.exec
  have hb := B.bytes
  have hr := B.returns
  have hts := atoms_spec (ws := wsX2_driveFact) B.pre
  have hown : s.vm.findClass RX2 = some m.cls := findClass_of_methodNamed B.named
  have hlocks := B.notSynchronized
  have hS : va_S (aS 75 ad) s.heap s.heap [] := va_S.rf
  have hinX2 : ∀ w ∈ wsX20, w ∈ wsX2_driveFact := by decide +kernel
  have hl := lv_entry ([.ref (ad (55 + 6 * p0)), .int (J a1), .int (J a2)]) (n := 3) (Nat.le_of_ble_eq_true rfl)
  rw [lg_entry_eq]
  generalize (lg_sl ([.ref (ad (55 + 6 * p0)), .int (J a1), .int (J a2)]) ++ List.replicate (3 - (lg_sl ([.ref (ad (55 + 6 * p0)), .int (J a1), .int (J a2)])).length) Slot.unset).toArray = ls at hl ⊢
  have hl : lv_has ls 3 [(0, .ref (ad (55 + 6 * p0))), (1, .int (J a1)), (2, .int (J a2))] := hl
  unfold fX2_driveFact at hf
  refine lv_aload_n hx hb dX2_driveFact_0 rfl (lv_at hl 0 rfl) ?_
  refine va_get (D := D) (ci := 2) (v := .ref (ad (55 + 6 * p0 + 3))) (C := RX2) (T := TX2) (N := 7) hx hb hts hinX2 hown hK hP (55 + 6 * p0) (wL_get (by omega) (gX_p0 hp0 _)) rfl 2 (by decide) (hts (.fieldLink RX2 18 "VisitVans$Plan" "drives" "[I") (List.mem_of_getElem? (i := 1) rfl)) (fun _ h => h) rfl dX2_driveFact_1 ?_
  refine lv_iload_n hx hb dX2_driveFact_4 rfl (lv_at hl 1 rfl) ?_
  refine lv_bipush (v := J 6) hx hb dX2_driveFact_5 (by decide +kernel) ?_
  refine jv_imul hx hb dX2_driveFact_7 ?_
  refine lv_iload_n hx hb dX2_driveFact_8 rfl (lv_at hl 2 rfl) ?_
  refine jv_iadd hx hb dX2_driveFact_9 ?_
  obtain ⟨v1, qv1, hf⟩ := bnd_some hf
  obtain ⟨bv1, ev1⟩ := rd_some qv1
  have rv1 : inR v1 := by rw [ev1]; exact hR _ _
  refine jx_iald hx hb hK hP (55 + 6 * p0 + 3) 0 (by omega) (gX_p3 hp0) rfl (by decide) bv1 ev1 dX2_driveFact_10 ?_
  have e1 := Option.some.inj hf
  exact jend_i hx hb hr rfl hS e1 (by rw [← e1]; exact rv1) (oX rfl hP) dX2_driveFact_11 hlocks
def fX2_comes (p0 : Nat) (r1 : Nat) (a2 : Int) (a3 : Int) (M : MM) : Option (Int) := bnd (fX3_visitFact r1 a3 0 M) (fun v1 => bnd (fX2_driveFact p0 a2 4 M) (fun v3 => gd (inR (v1 - v3)) (bnd (fX2_driveFact p0 a2 3 M) (fun v6 => bnd (rd M (5 * r1 + 1) 3 0) (fun v8 => gd (inR (v6 + ((iabs (v1 - v3)) * v8))) (some (v6 + ((iabs (v1 - v3)) * v8))))))))
set_option maxHeartbeats 4000000 in
set_option maxRecDepth 100000 in
theorem kX2_comes (l : Launch) (D : va_G) (ca : Nat → ClassId) (v : EV) (ad : Nat → Nat) (hI : aInj 75 ad) (M : MM) (hR : RR M) (p0 : Nat) (hp0 : p0 < 2) (r1 : Nat) (hr1 : r1 < 11) (a2 : Int) (a3 : Int) (i2 : inR a2) (i3 : inR a3) (res : Int) (hf : fX2_comes p0 r1 a2 a3 M = some res) : CI l yX2_comes wsX2_comes 1 22 [.ref (ad (55 + 6 * p0)), .ref (ad (5 * r1)), .int (J a2), .int (J a3)] (PX D ca v ad M) res (inR res) (OX D ca ad M) (aS 75 ad) := by
  refine Met.ofW (cc := cX2_comes) (maxL := 5) (ret := (some .int)) (by decide) rfl ?_
  intro p e s m args below meth c s₁ B hml hv
  obtain ⟨rfl, hP, hK, hE⟩ := hv
  have hx := B.exec
  have hb := B.bytes
  have hr := B.returns
  have hts := atoms_spec (ws := wsX2_comes) B.pre
  have hown : s.vm.findClass RX2 = some m.cls := findClass_of_methodNamed B.named
  have hlocks := B.notSynchronized
  have hS : va_S (aS 75 ad) s.heap s.heap [] := va_S.rf
  have hinX3 : ∀ w ∈ wsX30, w ∈ wsX2_comes := by decide +kernel
  have hl := lv_entry ([.ref (ad (55 + 6 * p0)), .ref (ad (5 * r1)), .int (J a2), .int (J a3)]) (n := 5) (Nat.le_of_ble_eq_true rfl)
  rw [lg_entry_eq]
  generalize (lg_sl ([.ref (ad (55 + 6 * p0)), .ref (ad (5 * r1)), .int (J a2), .int (J a3)]) ++ List.replicate (5 - (lg_sl ([.ref (ad (55 + 6 * p0)), .ref (ad (5 * r1)), .int (J a2), .int (J a3)])).length) Slot.unset).toArray = ls at hl ⊢
  have hl : lv_has ls 5 [(0, .ref (ad (55 + 6 * p0))), (1, .ref (ad (5 * r1))), (2, .int (J a2)), (3, .int (J a3))] := hl
  unfold fX2_comes at hf
  refine lv_aload_n hx hb dX2_comes_0 rfl (lv_at hl 1 rfl) ?_
  refine lv_iload_n hx hb dX2_comes_1 rfl (lv_at hl 3 rfl) ?_
  refine lv_iconst (v := J 0) hx hb dX2_comes_2 rfl ?_
  obtain ⟨v1, qv1, hf⟩ := bnd_some hf
  refine jc_i (va_runV (As := [.int (J a3), .int (J 0)]) (rest := []) ⟨hx, hb, hml, hown, hts⟩ (kX3_visitFact l D ca v ad hI M hR r1 hr1 a3 0 i3 (by decide : inR 0) v1 qv1) (cwV 2 hts gX2_comes_X3_visitFact rfl rfl rfl (by decide +kernel) ⟨Nat.le_of_ble_eq_true rfl, Nat.le_of_ble_eq_true rfl⟩) (pvX hK hE hP hS [.int (J a3), .int (J 0)] (by omega) (gX_r0 hr1 _) rfl) rfl rfl hl.1 rfl (lv_room (Nat.le_of_ble_eq_true rfl)) dX2_comes_3 ⟨Nat.zero_le _, Nat.zero_le _⟩) hS (fun H locs t ht hφ hO hS => ?_)
  have rv1 := hφ
  have hP : va_P D vwCl (wX ca ad M) H := by rw [← ht]; exact hO
  refine lv_aload_n hx hb dX2_comes_6 rfl (lv_at hl 0 rfl) ?_
  refine lv_iload_n hx hb dX2_comes_7 rfl (lv_at hl 2 rfl) ?_
  refine lv_iconst (v := J 4) hx hb dX2_comes_8 rfl ?_
  obtain ⟨v3, qv3, hf⟩ := bnd_some hf
  refine jc_i (va_runV (As := [.int (J a2), .int (J 4)]) (rest := [.int (J v1)]) ⟨hx, hb, hml, hown, hts⟩ (kX2_driveFact l D ca v ad hI M hR p0 hp0 a2 4 i2 (by decide : inR 4) v3 qv3) (cwV 2 hts gX2_comes_X2_driveFact rfl rfl rfl (by decide +kernel) ⟨Nat.le_of_ble_eq_true rfl, Nat.le_of_ble_eq_true rfl⟩) (pvX hK hE hP hS [.int (J a2), .int (J 4)] (by omega) (gX_p0 hp0 _) rfl) rfl rfl hl.1 rfl (lv_room (Nat.le_of_ble_eq_true rfl)) dX2_comes_9 ⟨Nat.zero_le _, Nat.zero_le _⟩) hS (fun H locs t ht hφ hO hS => ?_)
  have rv3 := hφ
  have hP : va_P D vwCl (wX ca ad M) H := by rw [← ht]; exact hO
  refine jv_isub hx hb dX2_comes_12 ?_
  obtain ⟨g5, hf⟩ := gd_some hf
  refine va_mabs hx hb (by rw [hml]; exact hl.1.symm) hown (hts (.methodLink RX2 105 Lib.Math.abs.name) (List.mem_of_getElem? (i := 1) rfl)) (hts (.static Lib.Math.abs.name) (List.mem_of_getElem? (i := 2) rfl)) (hts (.initialized "java/lang/Math") (List.mem_of_getElem? (i := 3) rfl)) (hts (.code Lib.Math.abs.name Lib.Math.abs.code 1 (some .int)) (List.mem_of_getElem? (i := 4) rfl)) (Nat.le_of_ble_eq_true rfl) (Nat.le_of_ble_eq_true rfl) (Nat.zero_le _) (Nat.zero_le _) dX2_comes_13 ?_
  rw [J_abs _ g5]
  refine lv_istore (lv' := [(4, .int (J (iabs (v1 - v3)))), (0, .ref (ad (55 + 6 * p0))), (1, .ref (ad (5 * r1))), (2, .int (J a2)), (3, .int (J a3))]) hx hb dX2_comes_16 hl (by decide) rfl (fun ls hl => ?_)
  refine lv_aload_n hx hb dX2_comes_18 rfl (lv_at hl 1 rfl) ?_
  refine lv_iload_n hx hb dX2_comes_19 rfl (lv_at hl 3 rfl) ?_
  refine lv_iconst (v := J 3) hx hb dX2_comes_20 rfl ?_
  obtain ⟨v6, qv6, hf⟩ := bnd_some hf
  refine jc_i (va_runV (As := [.int (J a2), .int (J 3)]) (rest := []) ⟨hx, hb, hml, hown, hts⟩ (kX2_driveFact l D ca v ad hI M hR p0 hp0 a2 3 i2 (by decide : inR 3) v6 qv6) (cwV 2 hts gX2_comes_X2_driveFact rfl rfl rfl (by decide +kernel) ⟨Nat.le_of_ble_eq_true rfl, Nat.le_of_ble_eq_true rfl⟩) (pvX hK hE hP hS [.int (J a2), .int (J 3)] (by omega) (gX_p0 hp0 _) rfl) rfl rfl hl.1 rfl (lv_room (Nat.le_of_ble_eq_true rfl)) dX2_comes_21 ⟨Nat.zero_le _, Nat.zero_le _⟩) hS (fun H locs t ht hφ hO hS => ?_)
  have rv6 := hφ
  have hP : va_P D vwCl (wX ca ad M) H := by rw [← ht]; exact hO
  refine lv_iload hx hb dX2_comes_24 (lv_at hl 0 rfl) ?_
  refine lv_aload_n hx hb dX2_comes_26 rfl (lv_at hl 2 rfl) ?_
  refine va_get (D := D) (ci := 3) (v := .ref (ad (5 * r1 + 1))) (C := RX3) (T := TX3) (N := 6) hx hb hts hinX3 hown hK hP (5 * r1) (wL_get (by omega) (gX_r0 hr1 _)) rfl 0 (by decide) (hts (.fieldLink RX2 74 "VisitVans$Road" "settings" "[I") (List.mem_of_getElem? (i := 5) rfl)) (fun _ h => h) rfl dX2_comes_27 ?_
  refine lv_iconst (v := J 0) hx hb dX2_comes_30 rfl ?_
  obtain ⟨v8, qv8, hf⟩ := bnd_some hf
  obtain ⟨bv8, ev8⟩ := rd_some qv8
  have rv8 : inR v8 := by rw [ev8]; exact hR _ _
  refine jx_iald hx hb hK hP (5 * r1 + 1) 0 (by omega) (gX_r1 hr1) rfl (by decide) bv8 ev8 dX2_comes_31 ?_
  refine jv_imul hx hb dX2_comes_32 ?_
  refine jv_iadd hx hb dX2_comes_33 ?_
  obtain ⟨g9, hf⟩ := gd_some hf
  have e1 := Option.some.inj hf
  exact jend_i hx hb hr rfl hS e1 (by rw [← e1]; exact g9) (oX rfl hP) dX2_comes_34 hlocks
def fX2_firstToBegin_L30 : Nat → Nat → Nat → Int → Int → Int → Int → Int → Int → MM → Option (Int)
  | 0, _, _, _, _, _, _, _, _, _ => none
  | n + 1, p0, r1, x2_5, x4_5, x5_5, x6_5, x7_5, x8_5, M_5 => if (M_5 (55 + 6 * p0) 6) ≤ x8_5 then some x6_5 else bnd (fX2_hasSkill p0 r1 x8_5 x2_5 M_5) (fun v9 => bnd2 (if v9 = 0 then some (x6_5, x7_5) else bnd (fX2_hasParts p0 r1 x8_5 x2_5 M_5) (fun v13 => if v13 = 0 then some (x6_5, x7_5) else bnd (fX2_comes p0 r1 x8_5 x2_5 M_5) (fun v16 => if x5_5 < (imax v16 x4_5) then some (x6_5, x7_5) else if x6_5 = (-6) then some (x8_5, (imax v16 x4_5)) else if x7_5 ≤ (imax v16 x4_5) then some (x6_5, x7_5) else some (x8_5, (imax v16 x4_5))))) (fun y12_0 y12_1 => gd (inR (x8_5 + 1)) (fX2_firstToBegin_L30 n p0 r1 x2_5 x4_5 x5_5 y12_0 y12_1 (x8_5 + 1) M_5)))
def fX2_firstToBegin (p0 : Nat) (r1 : Nat) (a2 : Int) (a3 : Int) (M : MM) : Option (Int) := bnd (fX3_visitFact r1 a2 4 M) (fun v1 => bnd (fX3_visitFact r1 a2 5 M) (fun v3 => gd (inR (v1 + a3)) (gd (inR (v3 + a3)) (bnd (fX2_firstToBegin_L30 4000 p0 r1 a2 (v1 + a3) (v3 + a3) (-6) 0 0 M) (fun y5_0 => some y5_0)))))
set_option maxHeartbeats 4000000 in
set_option maxRecDepth 100000 in
theorem kX2_firstToBegin (l : Launch) (D : va_G) (ca : Nat → ClassId) (v : EV) (ad : Nat → Nat) (hI : aInj 75 ad) (M : MM) (hR : RR M) (p0 : Nat) (hp0 : p0 < 2) (r1 : Nat) (hr1 : r1 < 11) (a2 : Int) (a3 : Int) (i2 : inR a2) (i3 : inR a3) (res : Int) (hf : fX2_firstToBegin p0 r1 a2 a3 M = some res) : CI l yX2_firstToBegin wsX2_firstToBegin 2 46 [.ref (ad (55 + 6 * p0)), .ref (ad (5 * r1)), .int (J a2), .int (J a3)] (PX D ca v ad M) res (inR res) (OX D ca ad M) (aS 75 ad) := by
  refine Met.ofW (cc := cX2_firstToBegin) (maxL := 10) (ret := (some .int)) (by decide) rfl ?_
  intro p e s m args below meth c s₁ B hml hv
  obtain ⟨rfl, hP, hK, hE⟩ := hv
  have hx := B.exec
  have hb := B.bytes
  have hr := B.returns
  have hts := atoms_spec (ws := wsX2_firstToBegin) B.pre
  have hown : s.vm.findClass RX2 = some m.cls := findClass_of_methodNamed B.named
  have hlocks := B.notSynchronized
  have hS : va_S (aS 75 ad) s.heap s.heap [] := va_S.rf
  have hinX2 : ∀ w ∈ wsX20, w ∈ wsX2_firstToBegin := by decide +kernel
  have hl := lv_entry ([.ref (ad (55 + 6 * p0)), .ref (ad (5 * r1)), .int (J a2), .int (J a3)]) (n := 10) (Nat.le_of_ble_eq_true rfl)
  rw [lg_entry_eq]
  generalize (lg_sl ([.ref (ad (55 + 6 * p0)), .ref (ad (5 * r1)), .int (J a2), .int (J a3)]) ++ List.replicate (10 - (lg_sl ([.ref (ad (55 + 6 * p0)), .ref (ad (5 * r1)), .int (J a2), .int (J a3)])).length) Slot.unset).toArray = ls at hl ⊢
  have hl : lv_has ls 10 [(0, .ref (ad (55 + 6 * p0))), (1, .ref (ad (5 * r1))), (2, .int (J a2)), (3, .int (J a3))] := hl
  unfold fX2_firstToBegin at hf
  refine lv_aload_n hx hb dX2_firstToBegin_0 rfl (lv_at hl 1 rfl) ?_
  refine lv_iload_n hx hb dX2_firstToBegin_1 rfl (lv_at hl 2 rfl) ?_
  refine lv_iconst (v := J 4) hx hb dX2_firstToBegin_2 rfl ?_
  obtain ⟨v1, qv1, hf⟩ := bnd_some hf
  refine jc_i (va_runV (As := [.int (J a2), .int (J 4)]) (rest := []) ⟨hx, hb, hml, hown, hts⟩ (kX3_visitFact l D ca v ad hI M hR r1 hr1 a2 4 i2 (by decide : inR 4) v1 qv1) (cwV 2 hts gX2_firstToBegin_X3_visitFact rfl rfl rfl (by decide +kernel) ⟨Nat.le_of_ble_eq_true rfl, Nat.le_of_ble_eq_true rfl⟩) (pvX hK hE hP hS [.int (J a2), .int (J 4)] (by omega) (gX_r0 hr1 _) rfl) rfl rfl hl.1 rfl (lv_room (Nat.le_of_ble_eq_true rfl)) dX2_firstToBegin_3 ⟨Nat.zero_le _, Nat.zero_le _⟩) hS (fun H locs t ht hφ hO hS => ?_)
  have rv1 := hφ
  have hP : va_P D vwCl (wX ca ad M) H := by rw [← ht]; exact hO
  refine lv_iload_n hx hb dX2_firstToBegin_6 rfl (lv_at hl 3 rfl) ?_
  refine jv_iadd hx hb dX2_firstToBegin_7 ?_
  refine lv_istore (lv' := [(4, .int (J (v1 + a3))), (0, .ref (ad (55 + 6 * p0))), (1, .ref (ad (5 * r1))), (2, .int (J a2)), (3, .int (J a3))]) hx hb dX2_firstToBegin_8 hl (by decide) rfl (fun ls hl => ?_)
  refine lv_aload_n hx hb dX2_firstToBegin_10 rfl (lv_at hl 2 rfl) ?_
  refine lv_iload_n hx hb dX2_firstToBegin_11 rfl (lv_at hl 3 rfl) ?_
  refine lv_iconst (v := J 5) hx hb dX2_firstToBegin_12 rfl ?_
  obtain ⟨v3, qv3, hf⟩ := bnd_some hf
  refine jc_i (va_runV (As := [.int (J a2), .int (J 5)]) (rest := []) ⟨hx, hb, hml, hown, hts⟩ (kX3_visitFact l D ca v ad hI M hR r1 hr1 a2 5 i2 (by decide : inR 5) v3 qv3) (cwV 2 hts gX2_firstToBegin_X3_visitFact rfl rfl rfl (by decide +kernel) ⟨Nat.le_of_ble_eq_true rfl, Nat.le_of_ble_eq_true rfl⟩) (pvX hK hE hP hS [.int (J a2), .int (J 5)] (by omega) (gX_r0 hr1 _) rfl) rfl rfl hl.1 rfl (lv_room (Nat.le_of_ble_eq_true rfl)) dX2_firstToBegin_13 ⟨Nat.zero_le _, Nat.zero_le _⟩) hS (fun H locs t ht hφ hO hS => ?_)
  have rv3 := hφ
  have hP : va_P D vwCl (wX ca ad M) H := by rw [← ht]; exact hO
  refine lv_iload_n hx hb dX2_firstToBegin_16 rfl (lv_at hl 4 rfl) ?_
  refine jv_iadd hx hb dX2_firstToBegin_17 ?_
  refine lv_istore (lv' := [(5, .int (J (v3 + a3))), (4, .int (J (v1 + a3))), (0, .ref (ad (55 + 6 * p0))), (1, .ref (ad (5 * r1))), (2, .int (J a2)), (3, .int (J a3))]) hx hb dX2_firstToBegin_18 hl (by decide) rfl (fun ls hl => ?_)
  refine lv_bipush (v := J (-6)) hx hb dX2_firstToBegin_20 (by decide +kernel) ?_
  refine lv_istore (lv' := [(6, .int (J (-6))), (5, .int (J (v3 + a3))), (4, .int (J (v1 + a3))), (0, .ref (ad (55 + 6 * p0))), (1, .ref (ad (5 * r1))), (2, .int (J a2)), (3, .int (J a3))]) hx hb dX2_firstToBegin_22 hl (by decide) rfl (fun ls hl => ?_)
  refine lv_iconst (v := J 0) hx hb dX2_firstToBegin_24 rfl ?_
  refine lv_istore (lv' := [(7, .int (J 0)), (6, .int (J (-6))), (5, .int (J (v3 + a3))), (4, .int (J (v1 + a3))), (0, .ref (ad (55 + 6 * p0))), (1, .ref (ad (5 * r1))), (2, .int (J a2)), (3, .int (J a3))]) hx hb dX2_firstToBegin_25 hl (by decide) rfl (fun ls hl => ?_)
  refine lv_iconst (v := J 0) hx hb dX2_firstToBegin_27 rfl ?_
  refine lv_istore (lv' := [(8, .int (J 0)), (7, .int (J 0)), (6, .int (J (-6))), (5, .int (J (v3 + a3))), (4, .int (J (v1 + a3))), (0, .ref (ad (55 + 6 * p0))), (1, .ref (ad (5 * r1))), (2, .int (J a2)), (3, .int (J a3))]) hx hb dX2_firstToBegin_28 hl (by decide) rfl (fun ls hl => ?_)
  obtain ⟨g6, hf⟩ := gd_some hf
  obtain ⟨g7, hf⟩ := gd_some hf
  obtain ⟨y5_0, h5, hf⟩ := bnd_some hf
  have K5 : ∀ (H : Heap) (locs : List Loc) (ls : Array Slot), inR y5_0 → va_P D vwCl (wX ca ad M) H → va_S (aS 75 ad) s.heap H locs → lv_has ls 10 [(6, .int (J y5_0))] → W p l e (headSpec wsX2_firstToBegin (RmC 2 46)).room s m ([.ref (ad (55 + 6 * p0)), .ref (ad (5 * r1)), .int (J a2), .int (J a3)] : List Value).toArray below meth c H locs 0 0 (MQ below (va_Qi (fun x (_ : Unit) => x = J res ∧ (inR res)) (fun _ => (OX D ca ad M)) (aS 75 ad)) ([.ref (ad (55 + 6 * p0)), .ref (ad (5 * r1)), .int (J a2), .int (J a3)] : List Value).toArray s 0 0 (aS 75 ad)) (F0 m 111 ls []) := by
    intro H locs ls ry5_0 hP hS hl
    refine lv_iload hx hb dX2_firstToBegin_111 (lv_at hl 0 rfl) ?_
    have e1 := Option.some.inj hf
    exact jend_i hx hb hr rfl hS e1 (by rw [← e1]; exact ry5_0) (oX rfl hP) dX2_firstToBegin_113 hlocks
  have hL5 : ∀ (n : Nat) (x2_5 : Int) (x4_5 : Int) (x5_5 : Int) (x6_5 : Int) (x7_5 : Int) (x8_5 : Int) (M_5 : MM) (H : Heap) (locs : List Loc) (ls : Array Slot), inR x2_5 → inR x4_5 → inR x5_5 → inR x6_5 → inR x7_5 → inR x8_5 → RR M_5 → x2_5 = a2 → x4_5 = (v1 + a3) → x5_5 = (v3 + a3) → M_5 = M → va_P D vwCl (wX ca ad M_5) H → va_S (aS 75 ad) s.heap H locs → lv_has ls 10 [(0, .ref (ad (55 + 6 * p0))), (1, .ref (ad (5 * r1))), (2, .int (J x2_5)), (4, .int (J x4_5)), (5, .int (J x5_5)), (6, .int (J x6_5)), (7, .int (J x7_5)), (8, .int (J x8_5))] → fX2_firstToBegin_L30 n p0 r1 x2_5 x4_5 x5_5 x6_5 x7_5 x8_5 M_5 = some y5_0 → W p l e (headSpec wsX2_firstToBegin (RmC 2 46)).room s m ([.ref (ad (55 + 6 * p0)), .ref (ad (5 * r1)), .int (J a2), .int (J a3)] : List Value).toArray below meth c H locs 0 0 (MQ below (va_Qi (fun x (_ : Unit) => x = J res ∧ (inR res)) (fun _ => (OX D ca ad M)) (aS 75 ad)) ([.ref (ad (55 + 6 * p0)), .ref (ad (5 * r1)), .int (J a2), .int (J a3)] : List Value).toArray s 0 0 (aS 75 ad)) (F0 m 30 ls []) := by
    intro n
    induction n with
    | zero =>
      intro x2_5 x4_5 x5_5 x6_5 x7_5 x8_5 M_5 H locs ls rx2_5 rx4_5 rx5_5 rx6_5 rx7_5 rx8_5 hRM_5 e_x2_5 e_x4_5 e_x5_5 e_M_5 hP hS hl hf
      rw [fX2_firstToBegin_L30] at hf
      cases hf
    | succ n ih =>
      intro x2_5 x4_5 x5_5 x6_5 x7_5 x8_5 M_5 H locs ls rx2_5 rx4_5 rx5_5 rx6_5 rx7_5 rx8_5 hRM_5 e_x2_5 e_x4_5 e_x5_5 e_M_5 hP hS hl hf
      rw [fX2_firstToBegin_L30] at hf
      refine lv_iload hx hb dX2_firstToBegin_30 (lv_at hl 7 rfl) ?_
      refine lv_aload_n hx hb dX2_firstToBegin_32 rfl (lv_at hl 0 rfl) ?_
      refine va_get (D := D) (ci := 2) (v := .int (J (M_5 (55 + 6 * p0) 6))) (C := RX2) (T := TX2) (N := 7) hx hb hts hinX2 hown hK hP (55 + 6 * p0) (wL_get (by omega) (gX_p0 hp0 _)) rfl 6 (by decide) (hts (.fieldLink RX2 37 "VisitVans$Plan" "vanCount" "I") (List.mem_of_getElem? (i := 1) rfl)) (fun _ h => h) rfl dX2_firstToBegin_33 ?_
      refine jv_icmp_ge (tgt := 111) hx hb dX2_firstToBegin_36 (by decide) rx8_5 (hRM_5 (55 + 6 * p0) 6) (fun c8 => ?_) (fun c8 => ?_)
      · have hf := itep hf c8
        cases hf
        exact K5 _ _ _ rx6_5  (e_M_5 ▸ hP) hS (lv_sub hl [5] (by subst e_x2_5; subst e_x4_5; subst e_x5_5; rfl))
      · have hf := iten hf c8
        refine lv_aload_n hx hb dX2_firstToBegin_39 rfl (lv_at hl 0 rfl) ?_
        refine lv_aload_n hx hb dX2_firstToBegin_40 rfl (lv_at hl 1 rfl) ?_
        refine lv_iload hx hb dX2_firstToBegin_41 (lv_at hl 7 rfl) ?_
        refine lv_iload_n hx hb dX2_firstToBegin_43 rfl (lv_at hl 2 rfl) ?_
        obtain ⟨v9, qv9, hf⟩ := bnd_some hf
        refine jc_i (va_runV (As := [.ref (ad (5 * r1)), .int (J x8_5), .int (J x2_5)]) (rest := []) ⟨hx, hb, hml, hown, hts⟩ (kX2_hasSkill l D ca v ad hI M_5 hRM_5 p0 hp0 r1 hr1 x8_5 x2_5 rx8_5 rx2_5 v9 qv9) (cwV 3 hts gX2_firstToBegin_X2_hasSkill rfl rfl rfl (by decide +kernel) ⟨Nat.le_of_ble_eq_true rfl, Nat.le_of_ble_eq_true rfl⟩) (pvX hK hE hP hS [.ref (ad (5 * r1)), .int (J x8_5), .int (J x2_5)] (by omega) (gX_p0 hp0 _) rfl) rfl rfl hl.1 rfl (lv_room (Nat.le_of_ble_eq_true rfl)) dX2_firstToBegin_44 ⟨Nat.zero_le _, Nat.zero_le _⟩) hS (fun H locs t ht hφ hO hS => ?_)
        have rv9 := hφ
        have hP : va_P D vwCl (wX ca ad M_5) H := by rw [← ht]; exact hO
        obtain ⟨y12_0, y12_1, h12, hf⟩ := bnd2_some hf
        have K12 : ∀ (H : Heap) (locs : List Loc) (ls : Array Slot), inR y12_0 → inR y12_1 → va_P D vwCl (wX ca ad M_5) H → va_S (aS 75 ad) s.heap H locs → lv_has ls 10 [(0, .ref (ad (55 + 6 * p0))), (1, .ref (ad (5 * r1))), (2, .int (J x2_5)), (4, .int (J x4_5)), (5, .int (J x5_5)), (6, .int (J y12_0)), (7, .int (J y12_1)), (8, .int (J x8_5))] → W p l e (headSpec wsX2_firstToBegin (RmC 2 46)).room s m ([.ref (ad (55 + 6 * p0)), .ref (ad (5 * r1)), .int (J a2), .int (J a3)] : List Value).toArray below meth c H locs 0 0 (MQ below (va_Qi (fun x (_ : Unit) => x = J res ∧ (inR res)) (fun _ => (OX D ca ad M)) (aS 75 ad)) ([.ref (ad (55 + 6 * p0)), .ref (ad (5 * r1)), .int (J a2), .int (J a3)] : List Value).toArray s 0 0 (aS 75 ad)) (F0 m 105 ls []) := by
          intro H locs ls ry12_0 ry12_1  hP hS hl
          refine lv_iinc (v := J (x8_5 + 1)) (lv' := [(8, .int (J (x8_5 + 1))), (0, .ref (ad (55 + 6 * p0))), (1, .ref (ad (5 * r1))), (2, .int (J x2_5)), (4, .int (J x4_5)), (5, .int (J x5_5)), (6, .int (J y12_0)), (7, .int (J y12_1))]) hx hb dX2_firstToBegin_105 hl (k := 7) rfl (J_add _ _) (by decide) rfl (fun ls hl => ?_)
          refine lv_goto (tgt := 30) hx hb dX2_firstToBegin_108 (by decide) ?_
          obtain ⟨g21, hf⟩ := gd_some hf
          exact ih _ _ _ _ _ _ _ _ _ _ rx2_5 rx4_5 rx5_5 ry12_0 ry12_1 g21 hRM_5 e_x2_5 e_x4_5 e_x5_5 e_M_5 hP hS (lv_sub hl [1, 2, 3, 4, 5, 6, 7, 0] rfl) hf
        have hf := h12
        clear h12
        refine jv_if_eq (tgt := 105) hx hb dX2_firstToBegin_47 (by decide) rv9 (fun c11 => ?_) (fun c11 => ?_)
        · have hf := itep hf c11
          cases hf
          exact K12 _ _ _ rx6_5 rx7_5  hP hS (lv_sub hl [0, 1, 2, 3, 4, 5, 6, 7] rfl)
        · have hf := iten hf c11
          refine lv_aload_n hx hb dX2_firstToBegin_50 rfl (lv_at hl 0 rfl) ?_
          refine lv_aload_n hx hb dX2_firstToBegin_51 rfl (lv_at hl 1 rfl) ?_
          refine lv_iload hx hb dX2_firstToBegin_52 (lv_at hl 7 rfl) ?_
          refine lv_iload_n hx hb dX2_firstToBegin_54 rfl (lv_at hl 2 rfl) ?_
          obtain ⟨v13, qv13, hf⟩ := bnd_some hf
          refine jc_i (va_runV (As := [.ref (ad (5 * r1)), .int (J x8_5), .int (J x2_5)]) (rest := []) ⟨hx, hb, hml, hown, hts⟩ (kX2_hasParts l D ca v ad hI M_5 hRM_5 p0 hp0 r1 hr1 x8_5 x2_5 rx8_5 rx2_5 v13 qv13) (cwV 3 hts gX2_firstToBegin_X2_hasParts rfl rfl rfl (by decide +kernel) ⟨Nat.le_of_ble_eq_true rfl, Nat.le_of_ble_eq_true rfl⟩) (pvX hK hE hP hS [.ref (ad (5 * r1)), .int (J x8_5), .int (J x2_5)] (by omega) (gX_p0 hp0 _) rfl) rfl rfl hl.1 rfl (lv_room (Nat.le_of_ble_eq_true rfl)) dX2_firstToBegin_55 ⟨Nat.zero_le _, Nat.zero_le _⟩) hS (fun H locs t ht hφ hO hS => ?_)
          have rv13 := hφ
          have hP : va_P D vwCl (wX ca ad M_5) H := by rw [← ht]; exact hO
          refine jv_if_eq (tgt := 105) hx hb dX2_firstToBegin_58 (by decide) rv13 (fun c15 => ?_) (fun c15 => ?_)
          · have hf := itep hf c15
            cases hf
            exact K12 _ _ _ rx6_5 rx7_5  hP hS (lv_sub hl [0, 1, 2, 3, 4, 5, 6, 7] rfl)
          · have hf := iten hf c15
            refine lv_aload_n hx hb dX2_firstToBegin_61 rfl (lv_at hl 0 rfl) ?_
            refine lv_aload_n hx hb dX2_firstToBegin_62 rfl (lv_at hl 1 rfl) ?_
            refine lv_iload hx hb dX2_firstToBegin_63 (lv_at hl 7 rfl) ?_
            refine lv_iload_n hx hb dX2_firstToBegin_65 rfl (lv_at hl 2 rfl) ?_
            obtain ⟨v16, qv16, hf⟩ := bnd_some hf
            refine jc_i (va_runV (As := [.ref (ad (5 * r1)), .int (J x8_5), .int (J x2_5)]) (rest := []) ⟨hx, hb, hml, hown, hts⟩ (kX2_comes l D ca v ad hI M_5 hRM_5 p0 hp0 r1 hr1 x8_5 x2_5 rx8_5 rx2_5 v16 qv16) (cwV 3 hts gX2_firstToBegin_X2_comes rfl rfl rfl (by decide +kernel) ⟨Nat.le_of_ble_eq_true rfl, Nat.le_of_ble_eq_true rfl⟩) (pvX hK hE hP hS [.ref (ad (5 * r1)), .int (J x8_5), .int (J x2_5)] (by omega) (gX_p0 hp0 _) rfl) rfl rfl hl.1 rfl (lv_room (Nat.le_of_ble_eq_true rfl)) dX2_firstToBegin_66 ⟨Nat.zero_le _, Nat.zero_le _⟩) hS (fun H locs t ht hφ hO hS => ?_)
            have rv16 := hφ
            have hP : va_P D vwCl (wX ca ad M_5) H := by rw [← ht]; exact hO
            refine lv_iload hx hb dX2_firstToBegin_69 (lv_at hl 3 rfl) ?_
            refine va_mmax hx hb (by rw [hml]; exact hl.1.symm) hown (hts (.methodLink RX2 60 Lib.Math.max.name) (List.mem_of_getElem? (i := 2) rfl)) (hts (.static Lib.Math.max.name) (List.mem_of_getElem? (i := 3) rfl)) (hts (.initialized "java/lang/Math") (List.mem_of_getElem? (i := 4) rfl)) (hts (.code Lib.Math.max.name Lib.Math.max.code 2 (some .int)) (List.mem_of_getElem? (i := 5) rfl)) (Nat.le_of_ble_eq_true rfl) (Nat.le_of_ble_eq_true rfl) (Nat.zero_le _) (Nat.zero_le _) dX2_firstToBegin_71 ?_
            rw [J_max _ _ rv16 rx4_5]
            refine lv_istore (lv' := [(9, .int (J (imax v16 x4_5))), (0, .ref (ad (55 + 6 * p0))), (1, .ref (ad (5 * r1))), (2, .int (J x2_5)), (4, .int (J x4_5)), (5, .int (J x5_5)), (6, .int (J x6_5)), (7, .int (J x7_5)), (8, .int (J x8_5))]) hx hb dX2_firstToBegin_74 hl (by decide) rfl (fun ls hl => ?_)
            refine lv_iload hx hb dX2_firstToBegin_76 (lv_at hl 0 rfl) ?_
            refine lv_iload hx hb dX2_firstToBegin_78 (lv_at hl 5 rfl) ?_
            refine jv_icmp_gt (tgt := 105) hx hb dX2_firstToBegin_80 (by decide) (imax_R rv16 rx4_5) rx5_5 (fun c18 => ?_) (fun c18 => ?_)
            · have hf := itep hf c18
              cases hf
              exact K12 _ _ _ rx6_5 rx7_5  hP hS (lv_sub hl [1, 2, 3, 4, 5, 6, 7, 8] rfl)
            · have hf := iten hf c18
              refine lv_iload hx hb dX2_firstToBegin_83 (lv_at hl 6 rfl) ?_
              refine lv_bipush (v := J (-6)) hx hb dX2_firstToBegin_85 (by decide +kernel) ?_
              refine jv_icmp_eq (tgt := 97) hx hb dX2_firstToBegin_87 (by decide) rx6_5 (by decide : inR (-6)) (fun c19 => ?_) (fun c19 => ?_)
              · have hf := itep hf c19
                refine lv_iload hx hb dX2_firstToBegin_97 (lv_at hl 8 rfl) ?_
                refine lv_istore (lv' := [(6, .int (J x8_5)), (9, .int (J (imax v16 x4_5))), (0, .ref (ad (55 + 6 * p0))), (1, .ref (ad (5 * r1))), (2, .int (J x2_5)), (4, .int (J x4_5)), (5, .int (J x5_5)), (7, .int (J x7_5)), (8, .int (J x8_5))]) hx hb dX2_firstToBegin_99 hl (by decide) rfl (fun ls hl => ?_)
                refine lv_iload hx hb dX2_firstToBegin_101 (lv_at hl 1 rfl) ?_
                refine lv_istore (lv' := [(7, .int (J (imax v16 x4_5))), (6, .int (J x8_5)), (9, .int (J (imax v16 x4_5))), (0, .ref (ad (55 + 6 * p0))), (1, .ref (ad (5 * r1))), (2, .int (J x2_5)), (4, .int (J x4_5)), (5, .int (J x5_5)), (8, .int (J x8_5))]) hx hb dX2_firstToBegin_103 hl (by decide) rfl (fun ls hl => ?_)
                cases hf
                exact K12 _ _ _ rx8_5 (imax_R rv16 rx4_5)  hP hS (lv_sub hl [3, 4, 5, 6, 7, 1, 0, 8] rfl)
              · have hf := iten hf c19
                refine lv_iload hx hb dX2_firstToBegin_90 (lv_at hl 0 rfl) ?_
                refine lv_iload hx hb dX2_firstToBegin_92 (lv_at hl 7 rfl) ?_
                refine jv_icmp_ge (tgt := 105) hx hb dX2_firstToBegin_94 (by decide) (imax_R rv16 rx4_5) rx7_5 (fun c20 => ?_) (fun c20 => ?_)
                · have hf := itep hf c20
                  cases hf
                  exact K12 _ _ _ rx6_5 rx7_5  hP hS (lv_sub hl [1, 2, 3, 4, 5, 6, 7, 8] rfl)
                · have hf := iten hf c20
                  refine lv_iload hx hb dX2_firstToBegin_97 (lv_at hl 8 rfl) ?_
                  refine lv_istore (lv' := [(6, .int (J x8_5)), (9, .int (J (imax v16 x4_5))), (0, .ref (ad (55 + 6 * p0))), (1, .ref (ad (5 * r1))), (2, .int (J x2_5)), (4, .int (J x4_5)), (5, .int (J x5_5)), (7, .int (J x7_5)), (8, .int (J x8_5))]) hx hb dX2_firstToBegin_99 hl (by decide) rfl (fun ls hl => ?_)
                  refine lv_iload hx hb dX2_firstToBegin_101 (lv_at hl 1 rfl) ?_
                  refine lv_istore (lv' := [(7, .int (J (imax v16 x4_5))), (6, .int (J x8_5)), (9, .int (J (imax v16 x4_5))), (0, .ref (ad (55 + 6 * p0))), (1, .ref (ad (5 * r1))), (2, .int (J x2_5)), (4, .int (J x4_5)), (5, .int (J x5_5)), (8, .int (J x8_5))]) hx hb dX2_firstToBegin_103 hl (by decide) rfl (fun ls hl => ?_)
                  cases hf
                  exact K12 _ _ _ rx8_5 (imax_R rv16 rx4_5)  hP hS (lv_sub hl [3, 4, 5, 6, 7, 1, 0, 8] rfl)
  exact hL5 4000 _ _ _ _ _ _ _ _ _ _ i2 g6 g7 (by decide : inR (-6)) (by decide : inR 0) (by decide : inR 0) hR rfl rfl rfl rfl hP hS (lv_sub hl [5, 6, 7, 4, 3, 2, 1, 0] rfl) h5
def fX2_reason_L5 : Nat → Nat → Nat → Int → Int → Int → MM → Option (Int)
  | 0, _, _, _, _, _, _ => none
  | n + 1, p0, r1, x2_1, x3_1, x4_1, M_1 => if (M_1 (55 + 6 * p0) 6) ≤ x4_1 then some x3_1 else bnd (fX2_hasSkill p0 r1 x4_1 x2_1 M_1) (fun v3 => if v3 = 0 then gd (inR (x4_1 + 1)) (fX2_reason_L5 n p0 r1 x2_1 x3_1 (x4_1 + 1) M_1) else bnd (fX2_hasParts p0 r1 x4_1 x2_1 M_1) (fun v7 => if v7 = 0 then gd (inR (x4_1 + 1)) (fX2_reason_L5 n p0 r1 x2_1 3 (x4_1 + 1) M_1) else some 4))
def fX2_reason (p0 : Nat) (r1 : Nat) (a2 : Int) (M : MM) : Option (Int) := fX2_reason_L5 4000 p0 r1 a2 2 0 M
set_option maxHeartbeats 4000000 in
set_option maxRecDepth 100000 in
theorem kX2_reason (l : Launch) (D : va_G) (ca : Nat → ClassId) (v : EV) (ad : Nat → Nat) (hI : aInj 75 ad) (M : MM) (hR : RR M) (p0 : Nat) (hp0 : p0 < 2) (r1 : Nat) (hr1 : r1 < 11) (a2 : Int) (i2 : inR a2) (res : Int) (hf : fX2_reason p0 r1 a2 M = some res) : CI l yX2_reason wsX2_reason 2 45 [.ref (ad (55 + 6 * p0)), .ref (ad (5 * r1)), .int (J a2)] (PX D ca v ad M) res (inR res) (OX D ca ad M) (aS 75 ad) := by
  refine Met.ofW (cc := cX2_reason) (maxL := 5) (ret := (some .int)) (by decide) rfl ?_
  intro p e s m args below meth c s₁ B hml hv
  obtain ⟨rfl, hP, hK, hE⟩ := hv
  have hx := B.exec
  have hb := B.bytes
  have hr := B.returns
  have hts := atoms_spec (ws := wsX2_reason) B.pre
  have hown : s.vm.findClass RX2 = some m.cls := findClass_of_methodNamed B.named
  have hlocks := B.notSynchronized
  have hS : va_S (aS 75 ad) s.heap s.heap [] := va_S.rf
  have hinX2 : ∀ w ∈ wsX20, w ∈ wsX2_reason := by decide +kernel
  have hl := lv_entry ([.ref (ad (55 + 6 * p0)), .ref (ad (5 * r1)), .int (J a2)]) (n := 5) (Nat.le_of_ble_eq_true rfl)
  rw [lg_entry_eq]
  generalize (lg_sl ([.ref (ad (55 + 6 * p0)), .ref (ad (5 * r1)), .int (J a2)]) ++ List.replicate (5 - (lg_sl ([.ref (ad (55 + 6 * p0)), .ref (ad (5 * r1)), .int (J a2)])).length) Slot.unset).toArray = ls at hl ⊢
  have hl : lv_has ls 5 [(0, .ref (ad (55 + 6 * p0))), (1, .ref (ad (5 * r1))), (2, .int (J a2))] := hl
  unfold fX2_reason at hf
  refine lv_iconst (v := J 2) hx hb dX2_reason_0 rfl ?_
  refine lv_istore_n (lv' := [(3, .int (J 2)), (0, .ref (ad (55 + 6 * p0))), (1, .ref (ad (5 * r1))), (2, .int (J a2))]) hx hb dX2_reason_1 rfl hl (by decide) rfl (fun ls hl => ?_)
  refine lv_iconst (v := J 0) hx hb dX2_reason_2 rfl ?_
  refine lv_istore (lv' := [(4, .int (J 0)), (3, .int (J 2)), (0, .ref (ad (55 + 6 * p0))), (1, .ref (ad (5 * r1))), (2, .int (J a2))]) hx hb dX2_reason_3 hl (by decide) rfl (fun ls hl => ?_)
  have hL1 : ∀ (n : Nat) (x2_1 : Int) (x3_1 : Int) (x4_1 : Int) (M_1 : MM) (H : Heap) (locs : List Loc) (ls : Array Slot), inR x2_1 → inR x3_1 → inR x4_1 → RR M_1 → x2_1 = a2 → M_1 = M → va_P D vwCl (wX ca ad M_1) H → va_S (aS 75 ad) s.heap H locs → lv_has ls 5 [(0, .ref (ad (55 + 6 * p0))), (1, .ref (ad (5 * r1))), (2, .int (J x2_1)), (3, .int (J x3_1)), (4, .int (J x4_1))] → fX2_reason_L5 n p0 r1 x2_1 x3_1 x4_1 M_1 = some res → W p l e (headSpec wsX2_reason (RmC 2 45)).room s m ([.ref (ad (55 + 6 * p0)), .ref (ad (5 * r1)), .int (J a2)] : List Value).toArray below meth c H locs 0 0 (MQ below (va_Qi (fun x (_ : Unit) => x = J res ∧ (inR res)) (fun _ => (OX D ca ad M)) (aS 75 ad)) ([.ref (ad (55 + 6 * p0)), .ref (ad (5 * r1)), .int (J a2)] : List Value).toArray s 0 0 (aS 75 ad)) (F0 m 5 ls []) := by
    intro n
    induction n with
    | zero =>
      intro x2_1 x3_1 x4_1 M_1 H locs ls rx2_1 rx3_1 rx4_1 hRM_1 e_x2_1 e_M_1 hP hS hl hf
      rw [fX2_reason_L5] at hf
      cases hf
    | succ n ih =>
      intro x2_1 x3_1 x4_1 M_1 H locs ls rx2_1 rx3_1 rx4_1 hRM_1 e_x2_1 e_M_1 hP hS hl hf
      rw [fX2_reason_L5] at hf
      refine lv_iload hx hb dX2_reason_5 (lv_at hl 4 rfl) ?_
      refine lv_aload_n hx hb dX2_reason_7 rfl (lv_at hl 0 rfl) ?_
      refine va_get (D := D) (ci := 2) (v := .int (J (M_1 (55 + 6 * p0) 6))) (C := RX2) (T := TX2) (N := 7) hx hb hts hinX2 hown hK hP (55 + 6 * p0) (wL_get (by omega) (gX_p0 hp0 _)) rfl 6 (by decide) (hts (.fieldLink RX2 37 "VisitVans$Plan" "vanCount" "I") (List.mem_of_getElem? (i := 1) rfl)) (fun _ h => h) rfl dX2_reason_8 ?_
      refine jv_icmp_ge (tgt := 46) hx hb dX2_reason_11 (by decide) rx4_1 (hRM_1 (55 + 6 * p0) 6) (fun c2 => ?_) (fun c2 => ?_)
      · have hf := itep hf c2
        refine lv_iload_n hx hb dX2_reason_46 rfl (lv_at hl 3 rfl) ?_
        have e1 := Option.some.inj hf
        exact jend_i hx hb hr rfl hS e1 (by rw [← e1]; exact rx3_1) (oX e_M_1 hP) dX2_reason_47 hlocks
      · have hf := iten hf c2
        refine lv_aload_n hx hb dX2_reason_14 rfl (lv_at hl 0 rfl) ?_
        refine lv_aload_n hx hb dX2_reason_15 rfl (lv_at hl 1 rfl) ?_
        refine lv_iload hx hb dX2_reason_16 (lv_at hl 4 rfl) ?_
        refine lv_iload_n hx hb dX2_reason_18 rfl (lv_at hl 2 rfl) ?_
        obtain ⟨v3, qv3, hf⟩ := bnd_some hf
        refine jc_i (va_runV (As := [.ref (ad (5 * r1)), .int (J x4_1), .int (J x2_1)]) (rest := []) ⟨hx, hb, hml, hown, hts⟩ (kX2_hasSkill l D ca v ad hI M_1 hRM_1 p0 hp0 r1 hr1 x4_1 x2_1 rx4_1 rx2_1 v3 qv3) (cwV 3 hts gX2_reason_X2_hasSkill rfl rfl rfl (by decide +kernel) ⟨Nat.le_of_ble_eq_true rfl, Nat.le_of_ble_eq_true rfl⟩) (pvX hK hE hP hS [.ref (ad (5 * r1)), .int (J x4_1), .int (J x2_1)] (by omega) (gX_p0 hp0 _) rfl) rfl rfl hl.1 rfl (lv_room (Nat.le_of_ble_eq_true rfl)) dX2_reason_19 ⟨Nat.zero_le _, Nat.zero_le _⟩) hS (fun H locs t ht hφ hO hS => ?_)
        have rv3 := hφ
        have hP : va_P D vwCl (wX ca ad M_1) H := by rw [← ht]; exact hO
        refine jv_if_eq (tgt := 40) hx hb dX2_reason_22 (by decide) rv3 (fun c5 => ?_) (fun c5 => ?_)
        · have hf := itep hf c5
          refine lv_iinc (v := J (x4_1 + 1)) (lv' := [(4, .int (J (x4_1 + 1))), (0, .ref (ad (55 + 6 * p0))), (1, .ref (ad (5 * r1))), (2, .int (J x2_1)), (3, .int (J x3_1))]) hx hb dX2_reason_40 hl (k := 4) rfl (J_add _ _) (by decide) rfl (fun ls hl => ?_)
          refine lv_goto (tgt := 5) hx hb dX2_reason_43 (by decide) ?_
          obtain ⟨g6, hf⟩ := gd_some hf
          exact ih _ _ _ _ _ _ _ rx2_1 rx3_1 g6 hRM_1 e_x2_1 e_M_1 hP hS (lv_sub hl [1, 2, 3, 4, 0] rfl) hf
        · have hf := iten hf c5
          refine lv_aload_n hx hb dX2_reason_25 rfl (lv_at hl 0 rfl) ?_
          refine lv_aload_n hx hb dX2_reason_26 rfl (lv_at hl 1 rfl) ?_
          refine lv_iload hx hb dX2_reason_27 (lv_at hl 4 rfl) ?_
          refine lv_iload_n hx hb dX2_reason_29 rfl (lv_at hl 2 rfl) ?_
          obtain ⟨v7, qv7, hf⟩ := bnd_some hf
          refine jc_i (va_runV (As := [.ref (ad (5 * r1)), .int (J x4_1), .int (J x2_1)]) (rest := []) ⟨hx, hb, hml, hown, hts⟩ (kX2_hasParts l D ca v ad hI M_1 hRM_1 p0 hp0 r1 hr1 x4_1 x2_1 rx4_1 rx2_1 v7 qv7) (cwV 3 hts gX2_reason_X2_hasParts rfl rfl rfl (by decide +kernel) ⟨Nat.le_of_ble_eq_true rfl, Nat.le_of_ble_eq_true rfl⟩) (pvX hK hE hP hS [.ref (ad (5 * r1)), .int (J x4_1), .int (J x2_1)] (by omega) (gX_p0 hp0 _) rfl) rfl rfl hl.1 rfl (lv_room (Nat.le_of_ble_eq_true rfl)) dX2_reason_30 ⟨Nat.zero_le _, Nat.zero_le _⟩) hS (fun H locs t ht hφ hO hS => ?_)
          have rv7 := hφ
          have hP : va_P D vwCl (wX ca ad M_1) H := by rw [← ht]; exact hO
          refine jv_if_eq (tgt := 38) hx hb dX2_reason_33 (by decide) rv7 (fun c9 => ?_) (fun c9 => ?_)
          · have hf := itep hf c9
            refine lv_iconst (v := J 3) hx hb dX2_reason_38 rfl ?_
            refine lv_istore_n (lv' := [(3, .int (J 3)), (0, .ref (ad (55 + 6 * p0))), (1, .ref (ad (5 * r1))), (2, .int (J x2_1)), (4, .int (J x4_1))]) hx hb dX2_reason_39 rfl hl (by decide) rfl (fun ls hl => ?_)
            refine lv_iinc (v := J (x4_1 + 1)) (lv' := [(4, .int (J (x4_1 + 1))), (3, .int (J 3)), (0, .ref (ad (55 + 6 * p0))), (1, .ref (ad (5 * r1))), (2, .int (J x2_1))]) hx hb dX2_reason_40 hl (k := 4) rfl (J_add _ _) (by decide) rfl (fun ls hl => ?_)
            refine lv_goto (tgt := 5) hx hb dX2_reason_43 (by decide) ?_
            obtain ⟨g10, hf⟩ := gd_some hf
            exact ih _ _ _ _ _ _ _ rx2_1 (by decide : inR 3) g10 hRM_1 e_x2_1 e_M_1 hP hS (lv_sub hl [2, 3, 4, 1, 0] rfl) hf
          · have hf := iten hf c9
            refine lv_iconst (v := J 4) hx hb dX2_reason_36 rfl ?_
            have e1 := Option.some.inj hf
            exact jend_i hx hb hr rfl hS e1 (by rw [← e1]; exact (by decide : inR 4)) (oX e_M_1 hP) dX2_reason_37 hlocks
  exact hL1 4000 _ _ _ _ _ _ _ i2 (by decide : inR 2) (by decide : inR 0) hR rfl rfl hP hS (lv_sub hl [2, 3, 4, 1, 0] rfl) hf
def fX2_putOutcome (p0 : Nat) (a1 : Int) (a2 : Int) (a3 : Int) (a4 : Int) (a5 : Int) (M : MM) : Option (MM) := bnd (wr M (55 + 6 * p0 + 2) 84 ((a1 * 4) + 0) a2) (fun M1 => bnd (wr M1 (55 + 6 * p0 + 2) 84 ((a1 * 4) + 1) a3) (fun M2 => bnd (wr M2 (55 + 6 * p0 + 2) 84 ((a1 * 4) + 2) a4) (fun M3 => bnd (wr M3 (55 + 6 * p0 + 2) 84 ((a1 * 4) + 3) a5) (fun M4 => some M4))))
set_option maxHeartbeats 4000000 in
set_option maxRecDepth 100000 in
theorem kX2_putOutcome (l : Launch) (D : va_G) (ca : Nat → ClassId) (v : EV) (ad : Nat → Nat) (hI : aInj 75 ad) (M : MM) (hR : RR M) (p0 : Nat) (hp0 : p0 < 2) (a1 : Int) (a2 : Int) (a3 : Int) (a4 : Int) (a5 : Int) (i1 : inR a1) (i2 : inR a2) (i3 : inR a3) (i4 : inR a4) (i5 : inR a5) (M' : MM) (hf : fX2_putOutcome p0 a1 a2 a3 a4 a5 M = some M') : CV l yX2_putOutcome wsX2_putOutcome 0 0 [.ref (ad (55 + 6 * p0)), .int (J a1), .int (J a2), .int (J a3), .int (J a4), .int (J a5)] (PX D ca v ad M) (RR M') (OX D ca ad M') (aS 75 ad) := by
  refine Met.ofW (cc := cX2_putOutcome) (maxL := 7) (ret := none) (by decide) rfl ?_
  intro p e s m args below meth c s₁ B hml hv
  obtain ⟨rfl, hP, hK, hE⟩ := hv
  have hx := B.exec
  have hb := B.bytes
  have hr := B.returns
  have hts := atoms_spec (ws := wsX2_putOutcome) B.pre
  have hown : s.vm.findClass RX2 = some m.cls := findClass_of_methodNamed B.named
  have hlocks := B.notSynchronized
  have hS : va_S (aS 75 ad) s.heap s.heap [] := va_S.rf
  have hinX2 : ∀ w ∈ wsX20, w ∈ wsX2_putOutcome := by decide +kernel
  have hl := lv_entry ([.ref (ad (55 + 6 * p0)), .int (J a1), .int (J a2), .int (J a3), .int (J a4), .int (J a5)]) (n := 7) (Nat.le_of_ble_eq_true rfl)
  rw [lg_entry_eq]
  generalize (lg_sl ([.ref (ad (55 + 6 * p0)), .int (J a1), .int (J a2), .int (J a3), .int (J a4), .int (J a5)]) ++ List.replicate (7 - (lg_sl ([.ref (ad (55 + 6 * p0)), .int (J a1), .int (J a2), .int (J a3), .int (J a4), .int (J a5)])).length) Slot.unset).toArray = ls at hl ⊢
  have hl : lv_has ls 7 [(0, .ref (ad (55 + 6 * p0))), (1, .int (J a1)), (2, .int (J a2)), (3, .int (J a3)), (4, .int (J a4)), (5, .int (J a5))] := hl
  unfold fX2_putOutcome at hf
  refine lv_iload_n hx hb dX2_putOutcome_0 rfl (lv_at hl 1 rfl) ?_
  refine lv_iconst (v := J 4) hx hb dX2_putOutcome_1 rfl ?_
  refine jv_imul hx hb dX2_putOutcome_2 ?_
  refine lv_istore (lv' := [(6, .int (J (a1 * 4))), (0, .ref (ad (55 + 6 * p0))), (1, .int (J a1)), (2, .int (J a2)), (3, .int (J a3)), (4, .int (J a4)), (5, .int (J a5))]) hx hb dX2_putOutcome_3 hl (by decide) rfl (fun ls hl => ?_)
  refine lv_aload_n hx hb dX2_putOutcome_5 rfl (lv_at hl 1 rfl) ?_
  refine va_get (D := D) (ci := 2) (v := .ref (ad (55 + 6 * p0 + 2))) (C := RX2) (T := TX2) (N := 7) hx hb hts hinX2 hown hK hP (55 + 6 * p0) (wL_get (by omega) (gX_p0 hp0 _)) rfl 1 (by decide) (hts (.fieldLink RX2 15 "VisitVans$Plan" "outcomes" "[I") (List.mem_of_getElem? (i := 1) rfl)) (fun _ h => h) rfl dX2_putOutcome_6 ?_
  refine lv_iload hx hb dX2_putOutcome_9 (lv_at hl 0 rfl) ?_
  refine lv_iconst (v := J 0) hx hb dX2_putOutcome_11 rfl ?_
  refine jv_iadd hx hb dX2_putOutcome_12 ?_
  refine lv_iload_n hx hb dX2_putOutcome_13 rfl (lv_at hl 3 rfl) ?_
  obtain ⟨M1, qM1, hf⟩ := bnd_some hf
  obtain ⟨bM1, zM1, eM1⟩ := wr_some qM1
  have hRM1 : RR M1 := by rw [eM1]; exact RR_st hR _ _ zM1
  refine jx_iast hx hb hK hP hI hS (55 + 6 * p0 + 2) 0 (by omega) (gX_p2 hp0) rfl (by decide) bM1 zM1 dX2_putOutcome_14 (fun H locs hP hS => ?_)
  rw [← eM1] at hP
  refine lv_aload_n hx hb dX2_putOutcome_15 rfl (lv_at hl 1 rfl) ?_
  refine va_get (D := D) (ci := 2) (v := .ref (ad (55 + 6 * p0 + 2))) (C := RX2) (T := TX2) (N := 7) hx hb hts hinX2 hown hK hP (55 + 6 * p0) (wL_get (by omega) (gX_p0 hp0 _)) rfl 1 (by decide) (hts (.fieldLink RX2 15 "VisitVans$Plan" "outcomes" "[I") (List.mem_of_getElem? (i := 1) rfl)) (fun _ h => h) rfl dX2_putOutcome_16 ?_
  refine lv_iload hx hb dX2_putOutcome_19 (lv_at hl 0 rfl) ?_
  refine lv_iconst (v := J 1) hx hb dX2_putOutcome_21 rfl ?_
  refine jv_iadd hx hb dX2_putOutcome_22 ?_
  refine lv_iload_n hx hb dX2_putOutcome_23 rfl (lv_at hl 4 rfl) ?_
  obtain ⟨M2, qM2, hf⟩ := bnd_some hf
  obtain ⟨bM2, zM2, eM2⟩ := wr_some qM2
  have hRM2 : RR M2 := by rw [eM2]; exact RR_st hRM1 _ _ zM2
  refine jx_iast hx hb hK hP hI hS (55 + 6 * p0 + 2) 0 (by omega) (gX_p2 hp0) rfl (by decide) bM2 zM2 dX2_putOutcome_24 (fun H locs hP hS => ?_)
  rw [← eM2] at hP
  refine lv_aload_n hx hb dX2_putOutcome_25 rfl (lv_at hl 1 rfl) ?_
  refine va_get (D := D) (ci := 2) (v := .ref (ad (55 + 6 * p0 + 2))) (C := RX2) (T := TX2) (N := 7) hx hb hts hinX2 hown hK hP (55 + 6 * p0) (wL_get (by omega) (gX_p0 hp0 _)) rfl 1 (by decide) (hts (.fieldLink RX2 15 "VisitVans$Plan" "outcomes" "[I") (List.mem_of_getElem? (i := 1) rfl)) (fun _ h => h) rfl dX2_putOutcome_26 ?_
  refine lv_iload hx hb dX2_putOutcome_29 (lv_at hl 0 rfl) ?_
  refine lv_iconst (v := J 2) hx hb dX2_putOutcome_31 rfl ?_
  refine jv_iadd hx hb dX2_putOutcome_32 ?_
  refine lv_iload hx hb dX2_putOutcome_33 (lv_at hl 5 rfl) ?_
  obtain ⟨M3, qM3, hf⟩ := bnd_some hf
  obtain ⟨bM3, zM3, eM3⟩ := wr_some qM3
  have hRM3 : RR M3 := by rw [eM3]; exact RR_st hRM2 _ _ zM3
  refine jx_iast hx hb hK hP hI hS (55 + 6 * p0 + 2) 0 (by omega) (gX_p2 hp0) rfl (by decide) bM3 zM3 dX2_putOutcome_35 (fun H locs hP hS => ?_)
  rw [← eM3] at hP
  refine lv_aload_n hx hb dX2_putOutcome_36 rfl (lv_at hl 1 rfl) ?_
  refine va_get (D := D) (ci := 2) (v := .ref (ad (55 + 6 * p0 + 2))) (C := RX2) (T := TX2) (N := 7) hx hb hts hinX2 hown hK hP (55 + 6 * p0) (wL_get (by omega) (gX_p0 hp0 _)) rfl 1 (by decide) (hts (.fieldLink RX2 15 "VisitVans$Plan" "outcomes" "[I") (List.mem_of_getElem? (i := 1) rfl)) (fun _ h => h) rfl dX2_putOutcome_37 ?_
  refine lv_iload hx hb dX2_putOutcome_40 (lv_at hl 0 rfl) ?_
  refine lv_iconst (v := J 3) hx hb dX2_putOutcome_42 rfl ?_
  refine jv_iadd hx hb dX2_putOutcome_43 ?_
  refine lv_iload hx hb dX2_putOutcome_44 (lv_at hl 6 rfl) ?_
  obtain ⟨M4, qM4, hf⟩ := bnd_some hf
  obtain ⟨bM4, zM4, eM4⟩ := wr_some qM4
  have hRM4 : RR M4 := by rw [eM4]; exact RR_st hRM3 _ _ zM4
  refine jx_iast hx hb hK hP hI hS (55 + 6 * p0 + 2) 0 (by omega) (gX_p2 hp0) rfl (by decide) bM4 zM4 dX2_putOutcome_46 (fun H locs hP hS => ?_)
  rw [← eM4] at hP
  have e2 := Option.some.inj hf
  exact jend_v hx hb hr hS (by rw [← e2]; exact hRM4) (oX e2 hP) dX2_putOutcome_47 hlocks
def fX2_outcome (p0 : Nat) (a1 : Int) (a2 : Int) (M : MM) : Option (Int) := bnd (rd M (55 + 6 * p0 + 2) 84 ((a1 * 4) + a2)) (fun v1 => some v1)
set_option maxHeartbeats 4000000 in
set_option maxRecDepth 100000 in
theorem kX2_outcome (l : Launch) (D : va_G) (ca : Nat → ClassId) (v : EV) (ad : Nat → Nat) (hI : aInj 75 ad) (M : MM) (hR : RR M) (p0 : Nat) (hp0 : p0 < 2) (a1 : Int) (a2 : Int) (i1 : inR a1) (i2 : inR a2) (res : Int) (hf : fX2_outcome p0 a1 a2 M = some res) : CI l yX2_outcome wsX2_outcome 0 0 [.ref (ad (55 + 6 * p0)), .int (J a1), .int (J a2)] (PX D ca v ad M) res (inR res) (OX D ca ad M) (aS 75 ad) := by
  refine Met.ofW (cc := cX2_outcome) (maxL := 3) (ret := (some .int)) (by decide) rfl ?_
  intro p e s m args below meth c s₁ B hml hv
  obtain ⟨rfl, hP, hK, hE⟩ := hv
  have hx := B.exec
  have hb := B.bytes
  have hr := B.returns
  have hts := atoms_spec (ws := wsX2_outcome) B.pre
  have hown : s.vm.findClass RX2 = some m.cls := findClass_of_methodNamed B.named
  have hlocks := B.notSynchronized
  have hS : va_S (aS 75 ad) s.heap s.heap [] := va_S.rf
  have hinX2 : ∀ w ∈ wsX20, w ∈ wsX2_outcome := by decide +kernel
  have hl := lv_entry ([.ref (ad (55 + 6 * p0)), .int (J a1), .int (J a2)]) (n := 3) (Nat.le_of_ble_eq_true rfl)
  rw [lg_entry_eq]
  generalize (lg_sl ([.ref (ad (55 + 6 * p0)), .int (J a1), .int (J a2)]) ++ List.replicate (3 - (lg_sl ([.ref (ad (55 + 6 * p0)), .int (J a1), .int (J a2)])).length) Slot.unset).toArray = ls at hl ⊢
  have hl : lv_has ls 3 [(0, .ref (ad (55 + 6 * p0))), (1, .int (J a1)), (2, .int (J a2))] := hl
  unfold fX2_outcome at hf
  refine lv_aload_n hx hb dX2_outcome_0 rfl (lv_at hl 0 rfl) ?_
  refine va_get (D := D) (ci := 2) (v := .ref (ad (55 + 6 * p0 + 2))) (C := RX2) (T := TX2) (N := 7) hx hb hts hinX2 hown hK hP (55 + 6 * p0) (wL_get (by omega) (gX_p0 hp0 _)) rfl 1 (by decide) (hts (.fieldLink RX2 15 "VisitVans$Plan" "outcomes" "[I") (List.mem_of_getElem? (i := 1) rfl)) (fun _ h => h) rfl dX2_outcome_1 ?_
  refine lv_iload_n hx hb dX2_outcome_4 rfl (lv_at hl 1 rfl) ?_
  refine lv_iconst (v := J 4) hx hb dX2_outcome_5 rfl ?_
  refine jv_imul hx hb dX2_outcome_6 ?_
  refine lv_iload_n hx hb dX2_outcome_7 rfl (lv_at hl 2 rfl) ?_
  refine jv_iadd hx hb dX2_outcome_8 ?_
  obtain ⟨v1, qv1, hf⟩ := bnd_some hf
  obtain ⟨bv1, ev1⟩ := rd_some qv1
  have rv1 : inR v1 := by rw [ev1]; exact hR _ _
  refine jx_iald hx hb hK hP (55 + 6 * p0 + 2) 0 (by omega) (gX_p2 hp0) rfl (by decide) bv1 ev1 dX2_outcome_9 ?_
  have e1 := Option.some.inj hf
  exact jend_i hx hb hr rfl hS e1 (by rw [← e1]; exact rv1) (oX rfl hP) dX2_outcome_10 hlocks
def fX2_addEvent (p0 : Nat) (a1 : Int) (a2 : Int) (a3 : Int) (a4 : Int) (a5 : Int) (M : MM) : Option (MM) := bnd (fX2_driveFact p0 a1 5 M) (fun v1 => if a3 = a4 then some M else if v1 < 63 then bnd (wr M (55 + 6 * p0 + 5) 1008 ((((a1 * 63) + v1) * 4) + 0) a2) (fun M5 => bnd (wr M5 (55 + 6 * p0 + 5) 1008 ((((a1 * 63) + v1) * 4) + 1) a3) (fun M6 => bnd (wr M6 (55 + 6 * p0 + 5) 1008 ((((a1 * 63) + v1) * 4) + 2) a4) (fun M7 => bnd (wr M7 (55 + 6 * p0 + 5) 1008 ((((a1 * 63) + v1) * 4) + 3) a5) (fun M8 => bnd (wr M8 (55 + 6 * p0 + 3) 24 ((a1 * 6) + 5) (v1 + 1)) (fun M9 => some M9))))) else some M)
set_option maxHeartbeats 4000000 in
set_option maxRecDepth 100000 in
theorem kX2_addEvent (l : Launch) (D : va_G) (ca : Nat → ClassId) (v : EV) (ad : Nat → Nat) (hI : aInj 75 ad) (M : MM) (hR : RR M) (p0 : Nat) (hp0 : p0 < 2) (a1 : Int) (a2 : Int) (a3 : Int) (a4 : Int) (a5 : Int) (i1 : inR a1) (i2 : inR a2) (i3 : inR a3) (i4 : inR a4) (i5 : inR a5) (M' : MM) (hf : fX2_addEvent p0 a1 a2 a3 a4 a5 M = some M') : CV l yX2_addEvent wsX2_addEvent 1 22 [.ref (ad (55 + 6 * p0)), .int (J a1), .int (J a2), .int (J a3), .int (J a4), .int (J a5)] (PX D ca v ad M) (RR M') (OX D ca ad M') (aS 75 ad) := by
  refine Met.ofW (cc := cX2_addEvent) (maxL := 8) (ret := none) (by decide) rfl ?_
  intro p e s m args below meth c s₁ B hml hv
  obtain ⟨rfl, hP, hK, hE⟩ := hv
  have hx := B.exec
  have hb := B.bytes
  have hr := B.returns
  have hts := atoms_spec (ws := wsX2_addEvent) B.pre
  have hown : s.vm.findClass RX2 = some m.cls := findClass_of_methodNamed B.named
  have hlocks := B.notSynchronized
  have hS : va_S (aS 75 ad) s.heap s.heap [] := va_S.rf
  have hinX2 : ∀ w ∈ wsX20, w ∈ wsX2_addEvent := by decide +kernel
  have hl := lv_entry ([.ref (ad (55 + 6 * p0)), .int (J a1), .int (J a2), .int (J a3), .int (J a4), .int (J a5)]) (n := 8) (Nat.le_of_ble_eq_true rfl)
  rw [lg_entry_eq]
  generalize (lg_sl ([.ref (ad (55 + 6 * p0)), .int (J a1), .int (J a2), .int (J a3), .int (J a4), .int (J a5)]) ++ List.replicate (8 - (lg_sl ([.ref (ad (55 + 6 * p0)), .int (J a1), .int (J a2), .int (J a3), .int (J a4), .int (J a5)])).length) Slot.unset).toArray = ls at hl ⊢
  have hl : lv_has ls 8 [(0, .ref (ad (55 + 6 * p0))), (1, .int (J a1)), (2, .int (J a2)), (3, .int (J a3)), (4, .int (J a4)), (5, .int (J a5))] := hl
  unfold fX2_addEvent at hf
  refine lv_aload_n hx hb dX2_addEvent_0 rfl (lv_at hl 0 rfl) ?_
  refine lv_iload_n hx hb dX2_addEvent_1 rfl (lv_at hl 1 rfl) ?_
  refine lv_iconst (v := J 5) hx hb dX2_addEvent_2 rfl ?_
  obtain ⟨v1, qv1, hf⟩ := bnd_some hf
  refine jc_i (va_runV (As := [.int (J a1), .int (J 5)]) (rest := []) ⟨hx, hb, hml, hown, hts⟩ (kX2_driveFact l D ca v ad hI M hR p0 hp0 a1 5 i1 (by decide : inR 5) v1 qv1) (cwV 2 hts gX2_addEvent_X2_driveFact rfl rfl rfl (by decide +kernel) ⟨Nat.le_of_ble_eq_true rfl, Nat.le_of_ble_eq_true rfl⟩) (pvX hK hE hP hS [.int (J a1), .int (J 5)] (by omega) (gX_p0 hp0 _) rfl) rfl rfl hl.1 rfl (lv_room (Nat.le_of_ble_eq_true rfl)) dX2_addEvent_3 ⟨Nat.zero_le _, Nat.zero_le _⟩) hS (fun H locs t ht hφ hO hS => ?_)
  have rv1 := hφ
  have hP : va_P D vwCl (wX ca ad M) H := by rw [← ht]; exact hO
  refine lv_istore (lv' := [(6, .int (J v1)), (0, .ref (ad (55 + 6 * p0))), (1, .int (J a1)), (2, .int (J a2)), (3, .int (J a3)), (4, .int (J a4)), (5, .int (J a5))]) hx hb dX2_addEvent_6 hl (by decide) rfl (fun ls hl => ?_)
  refine lv_iload_n hx hb dX2_addEvent_8 rfl (lv_at hl 4 rfl) ?_
  refine lv_iload hx hb dX2_addEvent_9 (lv_at hl 5 rfl) ?_
  refine jv_icmp_eq (tgt := 21) hx hb dX2_addEvent_11 (by decide) i3 i4 (fun c3 => ?_) (fun c3 => ?_)
  · have hf := itep hf c3
    have e2 := Option.some.inj hf
    exact jend_v hx hb hr hS (by rw [← e2]; exact hR) (oX e2 hP) dX2_addEvent_21 hlocks
  · have hf := iten hf c3
    refine lv_iload hx hb dX2_addEvent_14 (lv_at hl 0 rfl) ?_
    refine lv_bipush (v := J 63) hx hb dX2_addEvent_16 (by decide +kernel) ?_
    refine jv_icmp_lt (tgt := 22) hx hb dX2_addEvent_18 (by decide) rv1 (by decide : inR 63) (fun c4 => ?_) (fun c4 => ?_)
    · have hf := itep hf c4
      refine lv_iload_n hx hb dX2_addEvent_22 rfl (lv_at hl 2 rfl) ?_
      refine lv_bipush (v := J 63) hx hb dX2_addEvent_23 (by decide +kernel) ?_
      refine jv_imul hx hb dX2_addEvent_25 ?_
      refine lv_iload hx hb dX2_addEvent_26 (lv_at hl 0 rfl) ?_
      refine jv_iadd hx hb dX2_addEvent_28 ?_
      refine lv_iconst (v := J 4) hx hb dX2_addEvent_29 rfl ?_
      refine jv_imul hx hb dX2_addEvent_30 ?_
      refine lv_istore (lv' := [(7, .int (J (((a1 * 63) + v1) * 4))), (6, .int (J v1)), (0, .ref (ad (55 + 6 * p0))), (1, .int (J a1)), (2, .int (J a2)), (3, .int (J a3)), (4, .int (J a4)), (5, .int (J a5))]) hx hb dX2_addEvent_31 hl (by decide) rfl (fun ls hl => ?_)
      refine lv_aload_n hx hb dX2_addEvent_33 rfl (lv_at hl 2 rfl) ?_
      refine va_get (D := D) (ci := 2) (v := .ref (ad (55 + 6 * p0 + 5))) (C := RX2) (T := TX2) (N := 7) hx hb hts hinX2 hown hK hP (55 + 6 * p0) (wL_get (by omega) (gX_p0 hp0 _)) rfl 4 (by decide) (hts (.fieldLink RX2 24 "VisitVans$Plan" "events" "[I") (List.mem_of_getElem? (i := 1) rfl)) (fun _ h => h) rfl dX2_addEvent_34 ?_
      refine lv_iload hx hb dX2_addEvent_37 (lv_at hl 0 rfl) ?_
      refine lv_iconst (v := J 0) hx hb dX2_addEvent_39 rfl ?_
      refine jv_iadd hx hb dX2_addEvent_40 ?_
      refine lv_iload_n hx hb dX2_addEvent_41 rfl (lv_at hl 4 rfl) ?_
      obtain ⟨M5, qM5, hf⟩ := bnd_some hf
      obtain ⟨bM5, zM5, eM5⟩ := wr_some qM5
      have hRM5 : RR M5 := by rw [eM5]; exact RR_st hR _ _ zM5
      refine jx_iast hx hb hK hP hI hS (55 + 6 * p0 + 5) 0 (by omega) (gX_p5 hp0) rfl (by decide) bM5 zM5 dX2_addEvent_42 (fun H locs hP hS => ?_)
      rw [← eM5] at hP
      refine lv_aload_n hx hb dX2_addEvent_43 rfl (lv_at hl 2 rfl) ?_
      refine va_get (D := D) (ci := 2) (v := .ref (ad (55 + 6 * p0 + 5))) (C := RX2) (T := TX2) (N := 7) hx hb hts hinX2 hown hK hP (55 + 6 * p0) (wL_get (by omega) (gX_p0 hp0 _)) rfl 4 (by decide) (hts (.fieldLink RX2 24 "VisitVans$Plan" "events" "[I") (List.mem_of_getElem? (i := 1) rfl)) (fun _ h => h) rfl dX2_addEvent_44 ?_
      refine lv_iload hx hb dX2_addEvent_47 (lv_at hl 0 rfl) ?_
      refine lv_iconst (v := J 1) hx hb dX2_addEvent_49 rfl ?_
      refine jv_iadd hx hb dX2_addEvent_50 ?_
      refine lv_iload_n hx hb dX2_addEvent_51 rfl (lv_at hl 5 rfl) ?_
      obtain ⟨M6, qM6, hf⟩ := bnd_some hf
      obtain ⟨bM6, zM6, eM6⟩ := wr_some qM6
      have hRM6 : RR M6 := by rw [eM6]; exact RR_st hRM5 _ _ zM6
      refine jx_iast hx hb hK hP hI hS (55 + 6 * p0 + 5) 0 (by omega) (gX_p5 hp0) rfl (by decide) bM6 zM6 dX2_addEvent_52 (fun H locs hP hS => ?_)
      rw [← eM6] at hP
      refine lv_aload_n hx hb dX2_addEvent_53 rfl (lv_at hl 2 rfl) ?_
      refine va_get (D := D) (ci := 2) (v := .ref (ad (55 + 6 * p0 + 5))) (C := RX2) (T := TX2) (N := 7) hx hb hts hinX2 hown hK hP (55 + 6 * p0) (wL_get (by omega) (gX_p0 hp0 _)) rfl 4 (by decide) (hts (.fieldLink RX2 24 "VisitVans$Plan" "events" "[I") (List.mem_of_getElem? (i := 1) rfl)) (fun _ h => h) rfl dX2_addEvent_54 ?_
      refine lv_iload hx hb dX2_addEvent_57 (lv_at hl 0 rfl) ?_
      refine lv_iconst (v := J 2) hx hb dX2_addEvent_59 rfl ?_
      refine jv_iadd hx hb dX2_addEvent_60 ?_
      refine lv_iload hx hb dX2_addEvent_61 (lv_at hl 6 rfl) ?_
      obtain ⟨M7, qM7, hf⟩ := bnd_some hf
      obtain ⟨bM7, zM7, eM7⟩ := wr_some qM7
      have hRM7 : RR M7 := by rw [eM7]; exact RR_st hRM6 _ _ zM7
      refine jx_iast hx hb hK hP hI hS (55 + 6 * p0 + 5) 0 (by omega) (gX_p5 hp0) rfl (by decide) bM7 zM7 dX2_addEvent_63 (fun H locs hP hS => ?_)
      rw [← eM7] at hP
      refine lv_aload_n hx hb dX2_addEvent_64 rfl (lv_at hl 2 rfl) ?_
      refine va_get (D := D) (ci := 2) (v := .ref (ad (55 + 6 * p0 + 5))) (C := RX2) (T := TX2) (N := 7) hx hb hts hinX2 hown hK hP (55 + 6 * p0) (wL_get (by omega) (gX_p0 hp0 _)) rfl 4 (by decide) (hts (.fieldLink RX2 24 "VisitVans$Plan" "events" "[I") (List.mem_of_getElem? (i := 1) rfl)) (fun _ h => h) rfl dX2_addEvent_65 ?_
      refine lv_iload hx hb dX2_addEvent_68 (lv_at hl 0 rfl) ?_
      refine lv_iconst (v := J 3) hx hb dX2_addEvent_70 rfl ?_
      refine jv_iadd hx hb dX2_addEvent_71 ?_
      refine lv_iload hx hb dX2_addEvent_72 (lv_at hl 7 rfl) ?_
      obtain ⟨M8, qM8, hf⟩ := bnd_some hf
      obtain ⟨bM8, zM8, eM8⟩ := wr_some qM8
      have hRM8 : RR M8 := by rw [eM8]; exact RR_st hRM7 _ _ zM8
      refine jx_iast hx hb hK hP hI hS (55 + 6 * p0 + 5) 0 (by omega) (gX_p5 hp0) rfl (by decide) bM8 zM8 dX2_addEvent_74 (fun H locs hP hS => ?_)
      rw [← eM8] at hP
      refine lv_aload_n hx hb dX2_addEvent_75 rfl (lv_at hl 2 rfl) ?_
      refine va_get (D := D) (ci := 2) (v := .ref (ad (55 + 6 * p0 + 3))) (C := RX2) (T := TX2) (N := 7) hx hb hts hinX2 hown hK hP (55 + 6 * p0) (wL_get (by omega) (gX_p0 hp0 _)) rfl 2 (by decide) (hts (.fieldLink RX2 18 "VisitVans$Plan" "drives" "[I") (List.mem_of_getElem? (i := 2) rfl)) (fun _ h => h) rfl dX2_addEvent_76 ?_
      refine lv_iload_n hx hb dX2_addEvent_79 rfl (lv_at hl 3 rfl) ?_
      refine lv_bipush (v := J 6) hx hb dX2_addEvent_80 (by decide +kernel) ?_
      refine jv_imul hx hb dX2_addEvent_82 ?_
      refine lv_iconst (v := J 5) hx hb dX2_addEvent_83 rfl ?_
      refine jv_iadd hx hb dX2_addEvent_84 ?_
      refine lv_iload hx hb dX2_addEvent_85 (lv_at hl 1 rfl) ?_
      refine lv_iconst (v := J 1) hx hb dX2_addEvent_87 rfl ?_
      refine jv_iadd hx hb dX2_addEvent_88 ?_
      obtain ⟨M9, qM9, hf⟩ := bnd_some hf
      obtain ⟨bM9, zM9, eM9⟩ := wr_some qM9
      have hRM9 : RR M9 := by rw [eM9]; exact RR_st hRM8 _ _ zM9
      refine jx_iast hx hb hK hP hI hS (55 + 6 * p0 + 3) 0 (by omega) (gX_p3 hp0) rfl (by decide) bM9 zM9 dX2_addEvent_89 (fun H locs hP hS => ?_)
      rw [← eM9] at hP
      have e2 := Option.some.inj hf
      exact jend_v hx hb hr hS (by rw [← e2]; exact hRM9) (oX e2 hP) dX2_addEvent_90 hlocks
    · have hf := iten hf c4
      have e2 := Option.some.inj hf
      exact jend_v hx hb hr hS (by rw [← e2]; exact hR) (oX e2 hP) dX2_addEvent_21 hlocks
def fX2_drive (p0 : Nat) (r1 : Nat) (a2 : Int) (a3 : Int) (M : MM) : Option (MM) := bnd (rd M (55 + 6 * p0 + 3) 24 ((a2 * 6) + 3)) (fun v1 => bnd (fX2_comes p0 r1 a2 a3 M) (fun v2 => bnd (fX2_outcome p0 a3 2 M) (fun v4 => bnd (fX2_outcome p0 a3 3 M) (fun v6 => bnd (fX2_addEvent p0 a2 0 v1 v2 a3 M) (fun M9 => bnd (fX2_addEvent p0 a2 1 v2 v4 a3 M9) (fun M11 => bnd (fX2_addEvent p0 a2 2 v4 v6 a3 M11) (fun M13 => bnd (rd M13 (55 + 6 * p0 + 3) 24 ((a2 * 6) + 0)) (fun v14 => bnd (wr M13 (55 + 6 * p0 + 3) 24 ((a2 * 6) + 0) (ior v14 (ishl 1 a3))) (fun M15 => bnd (rd M15 (55 + 6 * p0 + 3) 24 ((a2 * 6) + 1)) (fun v16 => bnd (wr M15 (55 + 6 * p0 + 3) 24 ((a2 * 6) + 1) (v16 + (v2 - v1))) (fun M17 => bnd (rd M17 (55 + 6 * p0 + 3) 24 ((a2 * 6) + 2)) (fun v18 => bnd (wr M17 (55 + 6 * p0 + 3) 24 ((a2 * 6) + 2) (v18 + (v4 - v2))) (fun M19 => bnd (wr M19 (55 + 6 * p0 + 3) 24 ((a2 * 6) + 3) v6) (fun M20 => bnd (fX3_visitFact r1 a3 0 M20) (fun v21 => bnd (wr M20 (55 + 6 * p0 + 3) 24 ((a2 * 6) + 4) v21) (fun M23 => bnd (fX3_visitFact r1 a3 2 M23) (fun v24 => bnd (rd M23 (55 + 6 * p0 + 4) 20 ((a2 * 5) + v24)) (fun v26 => bnd (fX3_visitFact r1 a3 3 M23) (fun v27 => bnd (wr M23 (55 + 6 * p0 + 4) 20 ((a2 * 5) + v24) (v26 - v27)) (fun M29 => some M29))))))))))))))))))))
set_option maxHeartbeats 4000000 in
set_option maxRecDepth 100000 in
theorem kX2_drive (l : Launch) (D : va_G) (ca : Nat → ClassId) (v : EV) (ad : Nat → Nat) (hI : aInj 75 ad) (M : MM) (hR : RR M) (p0 : Nat) (hp0 : p0 < 2) (r1 : Nat) (hr1 : r1 < 11) (a2 : Int) (a3 : Int) (i2 : inR a2) (i3 : inR a3) (M' : MM) (hf : fX2_drive p0 r1 a2 a3 M = some M') : CV l yX2_drive wsX2_drive 2 49 [.ref (ad (55 + 6 * p0)), .ref (ad (5 * r1)), .int (J a2), .int (J a3)] (PX D ca v ad M) (RR M') (OX D ca ad M') (aS 75 ad) := by
  refine Met.ofW (cc := cX2_drive) (maxL := 9) (ret := none) (by decide) rfl ?_
  intro p e s m args below meth c s₁ B hml hv
  obtain ⟨rfl, hP, hK, hE⟩ := hv
  have hx := B.exec
  have hb := B.bytes
  have hr := B.returns
  have hts := atoms_spec (ws := wsX2_drive) B.pre
  have hown : s.vm.findClass RX2 = some m.cls := findClass_of_methodNamed B.named
  have hlocks := B.notSynchronized
  have hS : va_S (aS 75 ad) s.heap s.heap [] := va_S.rf
  have hinX2 : ∀ w ∈ wsX20, w ∈ wsX2_drive := by decide +kernel
  have hl := lv_entry ([.ref (ad (55 + 6 * p0)), .ref (ad (5 * r1)), .int (J a2), .int (J a3)]) (n := 9) (Nat.le_of_ble_eq_true rfl)
  rw [lg_entry_eq]
  generalize (lg_sl ([.ref (ad (55 + 6 * p0)), .ref (ad (5 * r1)), .int (J a2), .int (J a3)]) ++ List.replicate (9 - (lg_sl ([.ref (ad (55 + 6 * p0)), .ref (ad (5 * r1)), .int (J a2), .int (J a3)])).length) Slot.unset).toArray = ls at hl ⊢
  have hl : lv_has ls 9 [(0, .ref (ad (55 + 6 * p0))), (1, .ref (ad (5 * r1))), (2, .int (J a2)), (3, .int (J a3))] := hl
  unfold fX2_drive at hf
  refine lv_iload_n hx hb dX2_drive_0 rfl (lv_at hl 2 rfl) ?_
  refine lv_bipush (v := J 6) hx hb dX2_drive_1 (by decide +kernel) ?_
  refine jv_imul hx hb dX2_drive_3 ?_
  refine lv_istore (lv' := [(4, .int (J (a2 * 6))), (0, .ref (ad (55 + 6 * p0))), (1, .ref (ad (5 * r1))), (2, .int (J a2)), (3, .int (J a3))]) hx hb dX2_drive_4 hl (by decide) rfl (fun ls hl => ?_)
  refine lv_aload_n hx hb dX2_drive_6 rfl (lv_at hl 1 rfl) ?_
  refine va_get (D := D) (ci := 2) (v := .ref (ad (55 + 6 * p0 + 3))) (C := RX2) (T := TX2) (N := 7) hx hb hts hinX2 hown hK hP (55 + 6 * p0) (wL_get (by omega) (gX_p0 hp0 _)) rfl 2 (by decide) (hts (.fieldLink RX2 18 "VisitVans$Plan" "drives" "[I") (List.mem_of_getElem? (i := 1) rfl)) (fun _ h => h) rfl dX2_drive_7 ?_
  refine lv_iload hx hb dX2_drive_10 (lv_at hl 0 rfl) ?_
  refine lv_iconst (v := J 3) hx hb dX2_drive_12 rfl ?_
  refine jv_iadd hx hb dX2_drive_13 ?_
  obtain ⟨v1, qv1, hf⟩ := bnd_some hf
  obtain ⟨bv1, ev1⟩ := rd_some qv1
  have rv1 : inR v1 := by rw [ev1]; exact hR _ _
  refine jx_iald hx hb hK hP (55 + 6 * p0 + 3) 0 (by omega) (gX_p3 hp0) rfl (by decide) bv1 ev1 dX2_drive_14 ?_
  refine lv_istore (lv' := [(5, .int (J v1)), (4, .int (J (a2 * 6))), (0, .ref (ad (55 + 6 * p0))), (1, .ref (ad (5 * r1))), (2, .int (J a2)), (3, .int (J a3))]) hx hb dX2_drive_15 hl (by decide) rfl (fun ls hl => ?_)
  refine lv_aload_n hx hb dX2_drive_17 rfl (lv_at hl 2 rfl) ?_
  refine lv_aload_n hx hb dX2_drive_18 rfl (lv_at hl 3 rfl) ?_
  refine lv_iload_n hx hb dX2_drive_19 rfl (lv_at hl 4 rfl) ?_
  refine lv_iload_n hx hb dX2_drive_20 rfl (lv_at hl 5 rfl) ?_
  obtain ⟨v2, qv2, hf⟩ := bnd_some hf
  refine jc_i (va_runV (As := [.ref (ad (5 * r1)), .int (J a2), .int (J a3)]) (rest := []) ⟨hx, hb, hml, hown, hts⟩ (kX2_comes l D ca v ad hI M hR p0 hp0 r1 hr1 a2 a3 i2 i3 v2 qv2) (cwV 3 hts gX2_drive_X2_comes rfl rfl rfl (by decide +kernel) ⟨Nat.le_of_ble_eq_true rfl, Nat.le_of_ble_eq_true rfl⟩) (pvX hK hE hP hS [.ref (ad (5 * r1)), .int (J a2), .int (J a3)] (by omega) (gX_p0 hp0 _) rfl) rfl rfl hl.1 rfl (lv_room (Nat.le_of_ble_eq_true rfl)) dX2_drive_21 ⟨Nat.zero_le _, Nat.zero_le _⟩) hS (fun H locs t ht hφ hO hS => ?_)
  have rv2 := hφ
  have hP : va_P D vwCl (wX ca ad M) H := by rw [← ht]; exact hO
  refine lv_istore (lv' := [(6, .int (J v2)), (5, .int (J v1)), (4, .int (J (a2 * 6))), (0, .ref (ad (55 + 6 * p0))), (1, .ref (ad (5 * r1))), (2, .int (J a2)), (3, .int (J a3))]) hx hb dX2_drive_24 hl (by decide) rfl (fun ls hl => ?_)
  refine lv_aload_n hx hb dX2_drive_26 rfl (lv_at hl 3 rfl) ?_
  refine lv_iload_n hx hb dX2_drive_27 rfl (lv_at hl 6 rfl) ?_
  refine lv_iconst (v := J 2) hx hb dX2_drive_28 rfl ?_
  obtain ⟨v4, qv4, hf⟩ := bnd_some hf
  refine jc_i (va_runV (As := [.int (J a3), .int (J 2)]) (rest := []) ⟨hx, hb, hml, hown, hts⟩ (kX2_outcome l D ca v ad hI M hR p0 hp0 a3 2 i3 (by decide : inR 2) v4 qv4) (cwV 2 hts gX2_drive_X2_outcome rfl rfl rfl (by decide +kernel) ⟨Nat.le_of_ble_eq_true rfl, Nat.le_of_ble_eq_true rfl⟩) (pvX hK hE hP hS [.int (J a3), .int (J 2)] (by omega) (gX_p0 hp0 _) rfl) rfl rfl hl.1 rfl (lv_room (Nat.le_of_ble_eq_true rfl)) dX2_drive_29 ⟨Nat.zero_le _, Nat.zero_le _⟩) hS (fun H locs t ht hφ hO hS => ?_)
  have rv4 := hφ
  have hP : va_P D vwCl (wX ca ad M) H := by rw [← ht]; exact hO
  refine lv_istore (lv' := [(7, .int (J v4)), (6, .int (J v2)), (5, .int (J v1)), (4, .int (J (a2 * 6))), (0, .ref (ad (55 + 6 * p0))), (1, .ref (ad (5 * r1))), (2, .int (J a2)), (3, .int (J a3))]) hx hb dX2_drive_32 hl (by decide) rfl (fun ls hl => ?_)
  refine lv_aload_n hx hb dX2_drive_34 rfl (lv_at hl 4 rfl) ?_
  refine lv_iload_n hx hb dX2_drive_35 rfl (lv_at hl 7 rfl) ?_
  refine lv_iconst (v := J 3) hx hb dX2_drive_36 rfl ?_
  obtain ⟨v6, qv6, hf⟩ := bnd_some hf
  refine jc_i (va_runV (As := [.int (J a3), .int (J 3)]) (rest := []) ⟨hx, hb, hml, hown, hts⟩ (kX2_outcome l D ca v ad hI M hR p0 hp0 a3 3 i3 (by decide : inR 3) v6 qv6) (cwV 2 hts gX2_drive_X2_outcome rfl rfl rfl (by decide +kernel) ⟨Nat.le_of_ble_eq_true rfl, Nat.le_of_ble_eq_true rfl⟩) (pvX hK hE hP hS [.int (J a3), .int (J 3)] (by omega) (gX_p0 hp0 _) rfl) rfl rfl hl.1 rfl (lv_room (Nat.le_of_ble_eq_true rfl)) dX2_drive_37 ⟨Nat.zero_le _, Nat.zero_le _⟩) hS (fun H locs t ht hφ hO hS => ?_)
  have rv6 := hφ
  have hP : va_P D vwCl (wX ca ad M) H := by rw [← ht]; exact hO
  refine lv_istore (lv' := [(8, .int (J v6)), (7, .int (J v4)), (6, .int (J v2)), (5, .int (J v1)), (4, .int (J (a2 * 6))), (0, .ref (ad (55 + 6 * p0))), (1, .ref (ad (5 * r1))), (2, .int (J a2)), (3, .int (J a3))]) hx hb dX2_drive_40 hl (by decide) rfl (fun ls hl => ?_)
  refine lv_aload_n hx hb dX2_drive_42 rfl (lv_at hl 5 rfl) ?_
  refine lv_iload_n hx hb dX2_drive_43 rfl (lv_at hl 7 rfl) ?_
  refine lv_iconst (v := J 0) hx hb dX2_drive_44 rfl ?_
  refine lv_iload hx hb dX2_drive_45 (lv_at hl 3 rfl) ?_
  refine lv_iload hx hb dX2_drive_47 (lv_at hl 2 rfl) ?_
  refine lv_iload_n hx hb dX2_drive_49 rfl (lv_at hl 8 rfl) ?_
  obtain ⟨M9, qM9, hf⟩ := bnd_some hf
  refine jc_v (va_runV (As := [.int (J a2), .int (J 0), .int (J v1), .int (J v2), .int (J a3)]) (rest := []) ⟨hx, hb, hml, hown, hts⟩ (kX2_addEvent l D ca v ad hI M hR p0 hp0 a2 0 v1 v2 a3 i2 (by decide : inR 0) rv1 rv2 i3 M9 qM9) (cwV 5 hts gX2_drive_X2_addEvent rfl rfl rfl (by decide +kernel) ⟨Nat.le_of_ble_eq_true rfl, Nat.le_of_ble_eq_true rfl⟩) (pvX hK hE hP hS [.int (J a2), .int (J 0), .int (J v1), .int (J v2), .int (J a3)] (by omega) (gX_p0 hp0 _) rfl) rfl rfl hl.1 rfl (lv_room (Nat.le_of_ble_eq_true rfl)) dX2_drive_50 ⟨Nat.zero_le _, Nat.zero_le _⟩) hS (fun H locs t ht hφ hO hS => ?_)
  have hRM9 := hφ
  have hP : va_P D vwCl (wX ca ad M9) H := by rw [← ht]; exact hO
  refine lv_aload_n hx hb dX2_drive_53 rfl (lv_at hl 5 rfl) ?_
  refine lv_iload_n hx hb dX2_drive_54 rfl (lv_at hl 7 rfl) ?_
  refine lv_iconst (v := J 1) hx hb dX2_drive_55 rfl ?_
  refine lv_iload hx hb dX2_drive_56 (lv_at hl 2 rfl) ?_
  refine lv_iload hx hb dX2_drive_58 (lv_at hl 1 rfl) ?_
  refine lv_iload_n hx hb dX2_drive_60 rfl (lv_at hl 8 rfl) ?_
  obtain ⟨M11, qM11, hf⟩ := bnd_some hf
  refine jc_v (va_runV (As := [.int (J a2), .int (J 1), .int (J v2), .int (J v4), .int (J a3)]) (rest := []) ⟨hx, hb, hml, hown, hts⟩ (kX2_addEvent l D ca v ad hI M9 hRM9 p0 hp0 a2 1 v2 v4 a3 i2 (by decide : inR 1) rv2 rv4 i3 M11 qM11) (cwV 5 hts gX2_drive_X2_addEvent rfl rfl rfl (by decide +kernel) ⟨Nat.le_of_ble_eq_true rfl, Nat.le_of_ble_eq_true rfl⟩) (pvX hK hE hP hS [.int (J a2), .int (J 1), .int (J v2), .int (J v4), .int (J a3)] (by omega) (gX_p0 hp0 _) rfl) rfl rfl hl.1 rfl (lv_room (Nat.le_of_ble_eq_true rfl)) dX2_drive_61 ⟨Nat.zero_le _, Nat.zero_le _⟩) hS (fun H locs t ht hφ hO hS => ?_)
  have hRM11 := hφ
  have hP : va_P D vwCl (wX ca ad M11) H := by rw [← ht]; exact hO
  refine lv_aload_n hx hb dX2_drive_64 rfl (lv_at hl 5 rfl) ?_
  refine lv_iload_n hx hb dX2_drive_65 rfl (lv_at hl 7 rfl) ?_
  refine lv_iconst (v := J 2) hx hb dX2_drive_66 rfl ?_
  refine lv_iload hx hb dX2_drive_67 (lv_at hl 1 rfl) ?_
  refine lv_iload hx hb dX2_drive_69 (lv_at hl 0 rfl) ?_
  refine lv_iload_n hx hb dX2_drive_71 rfl (lv_at hl 8 rfl) ?_
  obtain ⟨M13, qM13, hf⟩ := bnd_some hf
  refine jc_v (va_runV (As := [.int (J a2), .int (J 2), .int (J v4), .int (J v6), .int (J a3)]) (rest := []) ⟨hx, hb, hml, hown, hts⟩ (kX2_addEvent l D ca v ad hI M11 hRM11 p0 hp0 a2 2 v4 v6 a3 i2 (by decide : inR 2) rv4 rv6 i3 M13 qM13) (cwV 5 hts gX2_drive_X2_addEvent rfl rfl rfl (by decide +kernel) ⟨Nat.le_of_ble_eq_true rfl, Nat.le_of_ble_eq_true rfl⟩) (pvX hK hE hP hS [.int (J a2), .int (J 2), .int (J v4), .int (J v6), .int (J a3)] (by omega) (gX_p0 hp0 _) rfl) rfl rfl hl.1 rfl (lv_room (Nat.le_of_ble_eq_true rfl)) dX2_drive_72 ⟨Nat.zero_le _, Nat.zero_le _⟩) hS (fun H locs t ht hφ hO hS => ?_)
  have hRM13 := hφ
  have hP : va_P D vwCl (wX ca ad M13) H := by rw [← ht]; exact hO
  refine lv_aload_n hx hb dX2_drive_75 rfl (lv_at hl 5 rfl) ?_
  refine va_get (D := D) (ci := 2) (v := .ref (ad (55 + 6 * p0 + 3))) (C := RX2) (T := TX2) (N := 7) hx hb hts hinX2 hown hK hP (55 + 6 * p0) (wL_get (by omega) (gX_p0 hp0 _)) rfl 2 (by decide) (hts (.fieldLink RX2 18 "VisitVans$Plan" "drives" "[I") (List.mem_of_getElem? (i := 1) rfl)) (fun _ h => h) rfl dX2_drive_76 ?_
  refine lv_iload hx hb dX2_drive_79 (lv_at hl 4 rfl) ?_
  refine lv_iconst (v := J 0) hx hb dX2_drive_81 rfl ?_
  refine jv_iadd hx hb dX2_drive_82 ?_
  refine lv_dup2_11 hx hb dX2_drive_83 rfl rfl ?_
  obtain ⟨v14, qv14, hf⟩ := bnd_some hf
  obtain ⟨bv14, ev14⟩ := rd_some qv14
  have rv14 : inR v14 := by rw [ev14]; exact hRM13 _ _
  refine jx_iald hx hb hK hP (55 + 6 * p0 + 3) 0 (by omega) (gX_p3 hp0) rfl (by decide) bv14 ev14 dX2_drive_84 ?_
  refine lv_iconst (v := J 1) hx hb dX2_drive_85 rfl ?_
  refine lv_iload_n hx hb dX2_drive_86 rfl (lv_at hl 8 rfl) ?_
  refine jv_ishl hx hb dX2_drive_87 ?_
  refine jv_ior hx hb dX2_drive_88 ?_
  obtain ⟨M15, qM15, hf⟩ := bnd_some hf
  obtain ⟨bM15, zM15, eM15⟩ := wr_some qM15
  have hRM15 : RR M15 := by rw [eM15]; exact RR_st hRM13 _ _ zM15
  refine jx_iast hx hb hK hP hI hS (55 + 6 * p0 + 3) 0 (by omega) (gX_p3 hp0) rfl (by decide) bM15 zM15 dX2_drive_89 (fun H locs hP hS => ?_)
  rw [← eM15] at hP
  refine lv_aload_n hx hb dX2_drive_90 rfl (lv_at hl 5 rfl) ?_
  refine va_get (D := D) (ci := 2) (v := .ref (ad (55 + 6 * p0 + 3))) (C := RX2) (T := TX2) (N := 7) hx hb hts hinX2 hown hK hP (55 + 6 * p0) (wL_get (by omega) (gX_p0 hp0 _)) rfl 2 (by decide) (hts (.fieldLink RX2 18 "VisitVans$Plan" "drives" "[I") (List.mem_of_getElem? (i := 1) rfl)) (fun _ h => h) rfl dX2_drive_91 ?_
  refine lv_iload hx hb dX2_drive_94 (lv_at hl 4 rfl) ?_
  refine lv_iconst (v := J 1) hx hb dX2_drive_96 rfl ?_
  refine jv_iadd hx hb dX2_drive_97 ?_
  refine lv_dup2_11 hx hb dX2_drive_98 rfl rfl ?_
  obtain ⟨v16, qv16, hf⟩ := bnd_some hf
  obtain ⟨bv16, ev16⟩ := rd_some qv16
  have rv16 : inR v16 := by rw [ev16]; exact hRM15 _ _
  refine jx_iald hx hb hK hP (55 + 6 * p0 + 3) 0 (by omega) (gX_p3 hp0) rfl (by decide) bv16 ev16 dX2_drive_99 ?_
  refine lv_iload hx hb dX2_drive_100 (lv_at hl 2 rfl) ?_
  refine lv_iload hx hb dX2_drive_102 (lv_at hl 3 rfl) ?_
  refine jv_isub hx hb dX2_drive_104 ?_
  refine jv_iadd hx hb dX2_drive_105 ?_
  obtain ⟨M17, qM17, hf⟩ := bnd_some hf
  obtain ⟨bM17, zM17, eM17⟩ := wr_some qM17
  have hRM17 : RR M17 := by rw [eM17]; exact RR_st hRM15 _ _ zM17
  refine jx_iast hx hb hK hP hI hS (55 + 6 * p0 + 3) 0 (by omega) (gX_p3 hp0) rfl (by decide) bM17 zM17 dX2_drive_106 (fun H locs hP hS => ?_)
  rw [← eM17] at hP
  refine lv_aload_n hx hb dX2_drive_107 rfl (lv_at hl 5 rfl) ?_
  refine va_get (D := D) (ci := 2) (v := .ref (ad (55 + 6 * p0 + 3))) (C := RX2) (T := TX2) (N := 7) hx hb hts hinX2 hown hK hP (55 + 6 * p0) (wL_get (by omega) (gX_p0 hp0 _)) rfl 2 (by decide) (hts (.fieldLink RX2 18 "VisitVans$Plan" "drives" "[I") (List.mem_of_getElem? (i := 1) rfl)) (fun _ h => h) rfl dX2_drive_108 ?_
  refine lv_iload hx hb dX2_drive_111 (lv_at hl 4 rfl) ?_
  refine lv_iconst (v := J 2) hx hb dX2_drive_113 rfl ?_
  refine jv_iadd hx hb dX2_drive_114 ?_
  refine lv_dup2_11 hx hb dX2_drive_115 rfl rfl ?_
  obtain ⟨v18, qv18, hf⟩ := bnd_some hf
  obtain ⟨bv18, ev18⟩ := rd_some qv18
  have rv18 : inR v18 := by rw [ev18]; exact hRM17 _ _
  refine jx_iald hx hb hK hP (55 + 6 * p0 + 3) 0 (by omega) (gX_p3 hp0) rfl (by decide) bv18 ev18 dX2_drive_116 ?_
  refine lv_iload hx hb dX2_drive_117 (lv_at hl 1 rfl) ?_
  refine lv_iload hx hb dX2_drive_119 (lv_at hl 2 rfl) ?_
  refine jv_isub hx hb dX2_drive_121 ?_
  refine jv_iadd hx hb dX2_drive_122 ?_
  obtain ⟨M19, qM19, hf⟩ := bnd_some hf
  obtain ⟨bM19, zM19, eM19⟩ := wr_some qM19
  have hRM19 : RR M19 := by rw [eM19]; exact RR_st hRM17 _ _ zM19
  refine jx_iast hx hb hK hP hI hS (55 + 6 * p0 + 3) 0 (by omega) (gX_p3 hp0) rfl (by decide) bM19 zM19 dX2_drive_123 (fun H locs hP hS => ?_)
  rw [← eM19] at hP
  refine lv_aload_n hx hb dX2_drive_124 rfl (lv_at hl 5 rfl) ?_
  refine va_get (D := D) (ci := 2) (v := .ref (ad (55 + 6 * p0 + 3))) (C := RX2) (T := TX2) (N := 7) hx hb hts hinX2 hown hK hP (55 + 6 * p0) (wL_get (by omega) (gX_p0 hp0 _)) rfl 2 (by decide) (hts (.fieldLink RX2 18 "VisitVans$Plan" "drives" "[I") (List.mem_of_getElem? (i := 1) rfl)) (fun _ h => h) rfl dX2_drive_125 ?_
  refine lv_iload hx hb dX2_drive_128 (lv_at hl 4 rfl) ?_
  refine lv_iconst (v := J 3) hx hb dX2_drive_130 rfl ?_
  refine jv_iadd hx hb dX2_drive_131 ?_
  refine lv_iload hx hb dX2_drive_132 (lv_at hl 0 rfl) ?_
  obtain ⟨M20, qM20, hf⟩ := bnd_some hf
  obtain ⟨bM20, zM20, eM20⟩ := wr_some qM20
  have hRM20 : RR M20 := by rw [eM20]; exact RR_st hRM19 _ _ zM20
  refine jx_iast hx hb hK hP hI hS (55 + 6 * p0 + 3) 0 (by omega) (gX_p3 hp0) rfl (by decide) bM20 zM20 dX2_drive_134 (fun H locs hP hS => ?_)
  rw [← eM20] at hP
  refine lv_aload_n hx hb dX2_drive_135 rfl (lv_at hl 5 rfl) ?_
  refine va_get (D := D) (ci := 2) (v := .ref (ad (55 + 6 * p0 + 3))) (C := RX2) (T := TX2) (N := 7) hx hb hts hinX2 hown hK hP (55 + 6 * p0) (wL_get (by omega) (gX_p0 hp0 _)) rfl 2 (by decide) (hts (.fieldLink RX2 18 "VisitVans$Plan" "drives" "[I") (List.mem_of_getElem? (i := 1) rfl)) (fun _ h => h) rfl dX2_drive_136 ?_
  refine lv_iload hx hb dX2_drive_139 (lv_at hl 4 rfl) ?_
  refine lv_iconst (v := J 4) hx hb dX2_drive_141 rfl ?_
  refine jv_iadd hx hb dX2_drive_142 ?_
  refine lv_aload_n hx hb dX2_drive_143 rfl (lv_at hl 6 rfl) ?_
  refine lv_iload_n hx hb dX2_drive_144 rfl (lv_at hl 8 rfl) ?_
  refine lv_iconst (v := J 0) hx hb dX2_drive_145 rfl ?_
  obtain ⟨v21, qv21, hf⟩ := bnd_some hf
  refine jc_i (va_runV (As := [.int (J a3), .int (J 0)]) (rest := [.int (J ((a2 * 6) + 4)), .ref (ad (55 + 6 * p0 + 3))]) ⟨hx, hb, hml, hown, hts⟩ (kX3_visitFact l D ca v ad hI M20 hRM20 r1 hr1 a3 0 i3 (by decide : inR 0) v21 qv21) (cwV 2 hts gX2_drive_X3_visitFact rfl rfl rfl (by decide +kernel) ⟨Nat.le_of_ble_eq_true rfl, Nat.le_of_ble_eq_true rfl⟩) (pvX hK hE hP hS [.int (J a3), .int (J 0)] (by omega) (gX_r0 hr1 _) rfl) rfl rfl hl.1 rfl (lv_room (Nat.le_of_ble_eq_true rfl)) dX2_drive_146 ⟨Nat.zero_le _, Nat.zero_le _⟩) hS (fun H locs t ht hφ hO hS => ?_)
  have rv21 := hφ
  have hP : va_P D vwCl (wX ca ad M20) H := by rw [← ht]; exact hO
  obtain ⟨M23, qM23, hf⟩ := bnd_some hf
  obtain ⟨bM23, zM23, eM23⟩ := wr_some qM23
  have hRM23 : RR M23 := by rw [eM23]; exact RR_st hRM20 _ _ zM23
  refine jx_iast hx hb hK hP hI hS (55 + 6 * p0 + 3) 0 (by omega) (gX_p3 hp0) rfl (by decide) bM23 zM23 dX2_drive_149 (fun H locs hP hS => ?_)
  rw [← eM23] at hP
  refine lv_aload_n hx hb dX2_drive_150 rfl (lv_at hl 5 rfl) ?_
  refine va_get (D := D) (ci := 2) (v := .ref (ad (55 + 6 * p0 + 4))) (C := RX2) (T := TX2) (N := 7) hx hb hts hinX2 hown hK hP (55 + 6 * p0) (wL_get (by omega) (gX_p0 hp0 _)) rfl 3 (by decide) (hts (.fieldLink RX2 21 "VisitVans$Plan" "left" "[I") (List.mem_of_getElem? (i := 2) rfl)) (fun _ h => h) rfl dX2_drive_151 ?_
  refine lv_iload_n hx hb dX2_drive_154 rfl (lv_at hl 7 rfl) ?_
  refine lv_iconst (v := J 5) hx hb dX2_drive_155 rfl ?_
  refine jv_imul hx hb dX2_drive_156 ?_
  refine lv_aload_n hx hb dX2_drive_157 rfl (lv_at hl 6 rfl) ?_
  refine lv_iload_n hx hb dX2_drive_158 rfl (lv_at hl 8 rfl) ?_
  refine lv_iconst (v := J 2) hx hb dX2_drive_159 rfl ?_
  obtain ⟨v24, qv24, hf⟩ := bnd_some hf
  refine jc_i (va_runV (As := [.int (J a3), .int (J 2)]) (rest := [.int (J (a2 * 5)), .ref (ad (55 + 6 * p0 + 4))]) ⟨hx, hb, hml, hown, hts⟩ (kX3_visitFact l D ca v ad hI M23 hRM23 r1 hr1 a3 2 i3 (by decide : inR 2) v24 qv24) (cwV 2 hts gX2_drive_X3_visitFact rfl rfl rfl (by decide +kernel) ⟨Nat.le_of_ble_eq_true rfl, Nat.le_of_ble_eq_true rfl⟩) (pvX hK hE hP hS [.int (J a3), .int (J 2)] (by omega) (gX_r0 hr1 _) rfl) rfl rfl hl.1 rfl (lv_room (Nat.le_of_ble_eq_true rfl)) dX2_drive_160 ⟨Nat.zero_le _, Nat.zero_le _⟩) hS (fun H locs t ht hφ hO hS => ?_)
  have rv24 := hφ
  have hP : va_P D vwCl (wX ca ad M23) H := by rw [← ht]; exact hO
  refine jv_iadd hx hb dX2_drive_163 ?_
  refine lv_dup2_11 hx hb dX2_drive_164 rfl rfl ?_
  obtain ⟨v26, qv26, hf⟩ := bnd_some hf
  obtain ⟨bv26, ev26⟩ := rd_some qv26
  have rv26 : inR v26 := by rw [ev26]; exact hRM23 _ _
  refine jx_iald hx hb hK hP (55 + 6 * p0 + 4) 0 (by omega) (gX_p4 hp0) rfl (by decide) bv26 ev26 dX2_drive_165 ?_
  refine lv_aload_n hx hb dX2_drive_166 rfl (lv_at hl 6 rfl) ?_
  refine lv_iload_n hx hb dX2_drive_167 rfl (lv_at hl 8 rfl) ?_
  refine lv_iconst (v := J 3) hx hb dX2_drive_168 rfl ?_
  obtain ⟨v27, qv27, hf⟩ := bnd_some hf
  refine jc_i (va_runV (As := [.int (J a3), .int (J 3)]) (rest := [.int (J v26), .int (J ((a2 * 5) + v24)), .ref (ad (55 + 6 * p0 + 4))]) ⟨hx, hb, hml, hown, hts⟩ (kX3_visitFact l D ca v ad hI M23 hRM23 r1 hr1 a3 3 i3 (by decide : inR 3) v27 qv27) (cwV 2 hts gX2_drive_X3_visitFact rfl rfl rfl (by decide +kernel) ⟨Nat.le_of_ble_eq_true rfl, Nat.le_of_ble_eq_true rfl⟩) (pvX hK hE hP hS [.int (J a3), .int (J 3)] (by omega) (gX_r0 hr1 _) rfl) rfl rfl hl.1 rfl (lv_room (Nat.le_of_ble_eq_true rfl)) dX2_drive_169 ⟨Nat.zero_le _, Nat.zero_le _⟩) hS (fun H locs t ht hφ hO hS => ?_)
  have rv27 := hφ
  have hP : va_P D vwCl (wX ca ad M23) H := by rw [← ht]; exact hO
  refine jv_isub hx hb dX2_drive_172 ?_
  obtain ⟨M29, qM29, hf⟩ := bnd_some hf
  obtain ⟨bM29, zM29, eM29⟩ := wr_some qM29
  have hRM29 : RR M29 := by rw [eM29]; exact RR_st hRM23 _ _ zM29
  refine jx_iast hx hb hK hP hI hS (55 + 6 * p0 + 4) 0 (by omega) (gX_p4 hp0) rfl (by decide) bM29 zM29 dX2_drive_173 (fun H locs hP hS => ?_)
  rw [← eM29] at hP
  have e2 := Option.some.inj hf
  exact jend_v hx hb hr hS (by rw [← e2]; exact hRM29) (oX e2 hP) dX2_drive_174 hlocks
def fX2_look (p0 : Nat) (r1 : Nat) (a2 : Int) (a3 : Int) (M : MM) : Option (MM) := bnd (rd M (5 * r1 + 1) 3 2) (fun v1 => gd (inR (a3 * v1)) (bnd (fX2_firstToBegin p0 r1 a2 (a3 * v1) M) (fun v3 => if v3 = (-6) then bnd (fX2_reason p0 r1 a2 M) (fun v19 => bnd (fX2_putOutcome p0 a2 v19 (-6) (-6) (-6) M) (fun M22 => some M22)) else bnd (fX2_comes p0 r1 v3 a2 M) (fun v6 => bnd (fX3_visitFact r1 a2 4 M) (fun v8 => gd (inR (v8 + (a3 * v1))) (bnd (rd M (5 * r1 + 1) 3 1) (fun v11 => bnd (if a3 = 0 then some ((0 : Int)) else some ((1 : Int))) (fun y13_0 => gd (inR ((imax v6 (v8 + (a3 * v1))) + v11)) (bnd (fX2_putOutcome p0 a2 y13_0 v3 (imax v6 (v8 + (a3 * v1))) ((imax v6 (v8 + (a3 * v1))) + v11) M) (fun M16 => bnd (fX2_drive p0 r1 v3 a2 M16) (fun M18 => some M18)))))))))))
set_option maxHeartbeats 4000000 in
set_option maxRecDepth 100000 in
theorem kX2_look (l : Launch) (D : va_G) (ca : Nat → ClassId) (v : EV) (ad : Nat → Nat) (hI : aInj 75 ad) (M : MM) (hR : RR M) (p0 : Nat) (hp0 : p0 < 2) (r1 : Nat) (hr1 : r1 < 11) (a2 : Int) (a3 : Int) (i2 : inR a2) (i3 : inR a3) (M' : MM) (hf : fX2_look p0 r1 a2 a3 M = some M') : CV l yX2_look wsX2_look 3 77 [.ref (ad (55 + 6 * p0)), .ref (ad (5 * r1)), .int (J a2), .int (J a3)] (PX D ca v ad M) (RR M') (OX D ca ad M') (aS 75 ad) := by
  refine Met.ofW (cc := cX2_look) (maxL := 8) (ret := none) (by decide) rfl ?_
  intro p e s m args below meth c s₁ B hml hv
  obtain ⟨rfl, hP, hK, hE⟩ := hv
  have hx := B.exec
  have hb := B.bytes
  have hr := B.returns
  have hts := atoms_spec (ws := wsX2_look) B.pre
  have hown : s.vm.findClass RX2 = some m.cls := findClass_of_methodNamed B.named
  have hlocks := B.notSynchronized
  have hS : va_S (aS 75 ad) s.heap s.heap [] := va_S.rf
  have hinX3 : ∀ w ∈ wsX30, w ∈ wsX2_look := by decide +kernel
  have hl := lv_entry ([.ref (ad (55 + 6 * p0)), .ref (ad (5 * r1)), .int (J a2), .int (J a3)]) (n := 8) (Nat.le_of_ble_eq_true rfl)
  rw [lg_entry_eq]
  generalize (lg_sl ([.ref (ad (55 + 6 * p0)), .ref (ad (5 * r1)), .int (J a2), .int (J a3)]) ++ List.replicate (8 - (lg_sl ([.ref (ad (55 + 6 * p0)), .ref (ad (5 * r1)), .int (J a2), .int (J a3)])).length) Slot.unset).toArray = ls at hl ⊢
  have hl : lv_has ls 8 [(0, .ref (ad (55 + 6 * p0))), (1, .ref (ad (5 * r1))), (2, .int (J a2)), (3, .int (J a3))] := hl
  unfold fX2_look at hf
  refine lv_iload_n hx hb dX2_look_0 rfl (lv_at hl 3 rfl) ?_
  refine lv_aload_n hx hb dX2_look_1 rfl (lv_at hl 1 rfl) ?_
  refine va_get (D := D) (ci := 3) (v := .ref (ad (5 * r1 + 1))) (C := RX3) (T := TX3) (N := 6) hx hb hts hinX3 hown hK hP (5 * r1) (wL_get (by omega) (gX_r0 hr1 _)) rfl 0 (by decide) (hts (.fieldLink RX2 74 "VisitVans$Road" "settings" "[I") (List.mem_of_getElem? (i := 1) rfl)) (fun _ h => h) rfl dX2_look_2 ?_
  refine lv_iconst (v := J 2) hx hb dX2_look_5 rfl ?_
  obtain ⟨v1, qv1, hf⟩ := bnd_some hf
  obtain ⟨bv1, ev1⟩ := rd_some qv1
  have rv1 : inR v1 := by rw [ev1]; exact hR _ _
  refine jx_iald hx hb hK hP (5 * r1 + 1) 0 (by omega) (gX_r1 hr1) rfl (by decide) bv1 ev1 dX2_look_6 ?_
  refine jv_imul hx hb dX2_look_7 ?_
  refine lv_istore (lv' := [(4, .int (J (a3 * v1))), (0, .ref (ad (55 + 6 * p0))), (1, .ref (ad (5 * r1))), (2, .int (J a2)), (3, .int (J a3))]) hx hb dX2_look_8 hl (by decide) rfl (fun ls hl => ?_)
  refine lv_aload_n hx hb dX2_look_10 rfl (lv_at hl 1 rfl) ?_
  refine lv_aload_n hx hb dX2_look_11 rfl (lv_at hl 2 rfl) ?_
  refine lv_iload_n hx hb dX2_look_12 rfl (lv_at hl 3 rfl) ?_
  refine lv_iload hx hb dX2_look_13 (lv_at hl 0 rfl) ?_
  obtain ⟨g2, hf⟩ := gd_some hf
  obtain ⟨v3, qv3, hf⟩ := bnd_some hf
  refine jc_i (va_runV (As := [.ref (ad (5 * r1)), .int (J a2), .int (J (a3 * v1))]) (rest := []) ⟨hx, hb, hml, hown, hts⟩ (kX2_firstToBegin l D ca v ad hI M hR p0 hp0 r1 hr1 a2 (a3 * v1) i2 g2 v3 qv3) (cwV 3 hts gX2_look_X2_firstToBegin rfl rfl rfl (by decide +kernel) ⟨Nat.le_of_ble_eq_true rfl, Nat.le_of_ble_eq_true rfl⟩) (pvX hK hE hP hS [.ref (ad (5 * r1)), .int (J a2), .int (J (a3 * v1))] (by omega) (gX_p0 hp0 _) rfl) rfl rfl hl.1 rfl (lv_room (Nat.le_of_ble_eq_true rfl)) dX2_look_15 ⟨Nat.zero_le _, Nat.zero_le _⟩) hS (fun H locs t ht hφ hO hS => ?_)
  have rv3 := hφ
  have hP : va_P D vwCl (wX ca ad M) H := by rw [← ht]; exact hO
  refine lv_istore (lv' := [(5, .int (J v3)), (4, .int (J (a3 * v1))), (0, .ref (ad (55 + 6 * p0))), (1, .ref (ad (5 * r1))), (2, .int (J a2)), (3, .int (J a3))]) hx hb dX2_look_18 hl (by decide) rfl (fun ls hl => ?_)
  refine lv_iload hx hb dX2_look_20 (lv_at hl 0 rfl) ?_
  refine lv_bipush (v := J (-6)) hx hb dX2_look_22 (by decide +kernel) ?_
  refine jv_icmp_ne (tgt := 45) hx hb dX2_look_24 (by decide) rv3 (by decide : inR (-6)) (fun c5 => ?_) (fun c5 => ?_)
  · have hf := iten hf c5
    refine lv_aload_n hx hb dX2_look_45 rfl (lv_at hl 2 rfl) ?_
    refine lv_aload_n hx hb dX2_look_46 rfl (lv_at hl 3 rfl) ?_
    refine lv_iload hx hb dX2_look_47 (lv_at hl 0 rfl) ?_
    refine lv_iload_n hx hb dX2_look_49 rfl (lv_at hl 4 rfl) ?_
    obtain ⟨v6, qv6, hf⟩ := bnd_some hf
    refine jc_i (va_runV (As := [.ref (ad (5 * r1)), .int (J v3), .int (J a2)]) (rest := []) ⟨hx, hb, hml, hown, hts⟩ (kX2_comes l D ca v ad hI M hR p0 hp0 r1 hr1 v3 a2 rv3 i2 v6 qv6) (cwV 3 hts gX2_look_X2_comes rfl rfl rfl (by decide +kernel) ⟨Nat.le_of_ble_eq_true rfl, Nat.le_of_ble_eq_true rfl⟩) (pvX hK hE hP hS [.ref (ad (5 * r1)), .int (J v3), .int (J a2)] (by omega) (gX_p0 hp0 _) rfl) rfl rfl hl.1 rfl (lv_room (Nat.le_of_ble_eq_true rfl)) dX2_look_50 ⟨Nat.zero_le _, Nat.zero_le _⟩) hS (fun H locs t ht hφ hO hS => ?_)
    have rv6 := hφ
    have hP : va_P D vwCl (wX ca ad M) H := by rw [← ht]; exact hO
    refine lv_aload_n hx hb dX2_look_53 rfl (lv_at hl 3 rfl) ?_
    refine lv_iload_n hx hb dX2_look_54 rfl (lv_at hl 4 rfl) ?_
    refine lv_iconst (v := J 4) hx hb dX2_look_55 rfl ?_
    obtain ⟨v8, qv8, hf⟩ := bnd_some hf
    refine jc_i (va_runV (As := [.int (J a2), .int (J 4)]) (rest := [.int (J v6)]) ⟨hx, hb, hml, hown, hts⟩ (kX3_visitFact l D ca v ad hI M hR r1 hr1 a2 4 i2 (by decide : inR 4) v8 qv8) (cwV 2 hts gX2_look_X3_visitFact rfl rfl rfl (by decide +kernel) ⟨Nat.le_of_ble_eq_true rfl, Nat.le_of_ble_eq_true rfl⟩) (pvX hK hE hP hS [.int (J a2), .int (J 4)] (by omega) (gX_r0 hr1 _) rfl) rfl rfl hl.1 rfl (lv_room (Nat.le_of_ble_eq_true rfl)) dX2_look_56 ⟨Nat.zero_le _, Nat.zero_le _⟩) hS (fun H locs t ht hφ hO hS => ?_)
    have rv8 := hφ
    have hP : va_P D vwCl (wX ca ad M) H := by rw [← ht]; exact hO
    refine lv_iload hx hb dX2_look_59 (lv_at hl 1 rfl) ?_
    refine jv_iadd hx hb dX2_look_61 ?_
    obtain ⟨g10, hf⟩ := gd_some hf
    refine va_mmax hx hb (by rw [hml]; exact hl.1.symm) hown (hts (.methodLink RX2 60 Lib.Math.max.name) (List.mem_of_getElem? (i := 2) rfl)) (hts (.static Lib.Math.max.name) (List.mem_of_getElem? (i := 3) rfl)) (hts (.initialized "java/lang/Math") (List.mem_of_getElem? (i := 4) rfl)) (hts (.code Lib.Math.max.name Lib.Math.max.code 2 (some .int)) (List.mem_of_getElem? (i := 5) rfl)) (Nat.le_of_ble_eq_true rfl) (Nat.le_of_ble_eq_true rfl) (Nat.zero_le _) (Nat.zero_le _) dX2_look_62 ?_
    rw [J_max _ _ rv6 g10]
    refine lv_istore (lv' := [(6, .int (J (imax v6 (v8 + (a3 * v1))))), (5, .int (J v3)), (4, .int (J (a3 * v1))), (0, .ref (ad (55 + 6 * p0))), (1, .ref (ad (5 * r1))), (2, .int (J a2)), (3, .int (J a3))]) hx hb dX2_look_65 hl (by decide) rfl (fun ls hl => ?_)
    refine lv_iload hx hb dX2_look_67 (lv_at hl 0 rfl) ?_
    refine lv_aload_n hx hb dX2_look_69 rfl (lv_at hl 4 rfl) ?_
    refine va_get (D := D) (ci := 3) (v := .ref (ad (5 * r1 + 1))) (C := RX3) (T := TX3) (N := 6) hx hb hts hinX3 hown hK hP (5 * r1) (wL_get (by omega) (gX_r0 hr1 _)) rfl 0 (by decide) (hts (.fieldLink RX2 74 "VisitVans$Road" "settings" "[I") (List.mem_of_getElem? (i := 1) rfl)) (fun _ h => h) rfl dX2_look_70 ?_
    refine lv_iconst (v := J 1) hx hb dX2_look_73 rfl ?_
    obtain ⟨v11, qv11, hf⟩ := bnd_some hf
    obtain ⟨bv11, ev11⟩ := rd_some qv11
    have rv11 : inR v11 := by rw [ev11]; exact hR _ _
    refine jx_iald hx hb hK hP (5 * r1 + 1) 0 (by omega) (gX_r1 hr1) rfl (by decide) bv11 ev11 dX2_look_74 ?_
    refine jv_iadd hx hb dX2_look_75 ?_
    refine lv_istore (lv' := [(7, .int (J ((imax v6 (v8 + (a3 * v1))) + v11))), (6, .int (J (imax v6 (v8 + (a3 * v1))))), (5, .int (J v3)), (4, .int (J (a3 * v1))), (0, .ref (ad (55 + 6 * p0))), (1, .ref (ad (5 * r1))), (2, .int (J a2)), (3, .int (J a3))]) hx hb dX2_look_76 hl (by decide) rfl (fun ls hl => ?_)
    refine lv_aload_n hx hb dX2_look_78 rfl (lv_at hl 4 rfl) ?_
    refine lv_iload_n hx hb dX2_look_79 rfl (lv_at hl 6 rfl) ?_
    refine lv_iload_n hx hb dX2_look_80 rfl (lv_at hl 7 rfl) ?_
    obtain ⟨y13_0, h13, hf⟩ := bnd_some hf
    have K13 : ∀ (H : Heap) (locs : List Loc) (ls : Array Slot), inR y13_0 → va_P D vwCl (wX ca ad M) H → va_S (aS 75 ad) s.heap H locs → lv_has ls 8 [(0, .ref (ad (55 + 6 * p0))), (1, .ref (ad (5 * r1))), (2, .int (J a2)), (5, .int (J v3)), (6, .int (J (imax v6 (v8 + (a3 * v1))))), (7, .int (J ((imax v6 (v8 + (a3 * v1))) + v11)))] → W p l e (headSpec wsX2_look (RmC 3 77)).room s m ([.ref (ad (55 + 6 * p0)), .ref (ad (5 * r1)), .int (J a2), .int (J a3)] : List Value).toArray below meth c H locs 0 0 (MQ below (va_Qv (fun (_ : Unit) => (RR M')) (fun _ => (OX D ca ad M')) (aS 75 ad)) ([.ref (ad (55 + 6 * p0)), .ref (ad (5 * r1)), .int (J a2), .int (J a3)] : List Value).toArray s 0 0 (aS 75 ad)) (F0 m 89 ls [.int (J y13_0), .int (J a2), .ref (ad (55 + 6 * p0))]) := by
      intro H locs ls ry13_0  hP hS hl
      refine lv_iload hx hb dX2_look_89 (lv_at hl 3 rfl) ?_
      refine lv_iload hx hb dX2_look_91 (lv_at hl 4 rfl) ?_
      refine lv_iload hx hb dX2_look_93 (lv_at hl 5 rfl) ?_
      obtain ⟨g14, hf⟩ := gd_some hf
      obtain ⟨M16, qM16, hf⟩ := bnd_some hf
      refine jc_v (va_runV (As := [.int (J a2), .int (J y13_0), .int (J v3), .int (J (imax v6 (v8 + (a3 * v1)))), .int (J ((imax v6 (v8 + (a3 * v1))) + v11))]) (rest := []) ⟨hx, hb, hml, hown, hts⟩ (kX2_putOutcome l D ca v ad hI M hR p0 hp0 a2 y13_0 v3 (imax v6 (v8 + (a3 * v1))) ((imax v6 (v8 + (a3 * v1))) + v11) i2 ry13_0 rv3 (imax_R rv6 g10) g14 M16 qM16) (cwV 5 hts gX2_look_X2_putOutcome rfl rfl rfl (by decide +kernel) ⟨Nat.le_of_ble_eq_true rfl, Nat.le_of_ble_eq_true rfl⟩) (pvX hK hE hP hS [.int (J a2), .int (J y13_0), .int (J v3), .int (J (imax v6 (v8 + (a3 * v1)))), .int (J ((imax v6 (v8 + (a3 * v1))) + v11))] (by omega) (gX_p0 hp0 _) rfl) rfl rfl hl.1 rfl (lv_room (Nat.le_of_ble_eq_true rfl)) dX2_look_95 ⟨Nat.zero_le _, Nat.zero_le _⟩) hS (fun H locs t ht hφ hO hS => ?_)
      have hRM16 := hφ
      have hP : va_P D vwCl (wX ca ad M16) H := by rw [← ht]; exact hO
      refine lv_aload_n hx hb dX2_look_98 rfl (lv_at hl 0 rfl) ?_
      refine lv_aload_n hx hb dX2_look_99 rfl (lv_at hl 1 rfl) ?_
      refine lv_iload hx hb dX2_look_100 (lv_at hl 3 rfl) ?_
      refine lv_iload_n hx hb dX2_look_102 rfl (lv_at hl 2 rfl) ?_
      obtain ⟨M18, qM18, hf⟩ := bnd_some hf
      refine jc_v (va_runV (As := [.ref (ad (5 * r1)), .int (J v3), .int (J a2)]) (rest := []) ⟨hx, hb, hml, hown, hts⟩ (kX2_drive l D ca v ad hI M16 hRM16 p0 hp0 r1 hr1 v3 a2 rv3 i2 M18 qM18) (cwV 3 hts gX2_look_X2_drive rfl rfl rfl (by decide +kernel) ⟨Nat.le_of_ble_eq_true rfl, Nat.le_of_ble_eq_true rfl⟩) (pvX hK hE hP hS [.ref (ad (5 * r1)), .int (J v3), .int (J a2)] (by omega) (gX_p0 hp0 _) rfl) rfl rfl hl.1 rfl (lv_room (Nat.le_of_ble_eq_true rfl)) dX2_look_103 ⟨Nat.zero_le _, Nat.zero_le _⟩) hS (fun H locs t ht hφ hO hS => ?_)
      have hRM18 := hφ
      have hP : va_P D vwCl (wX ca ad M18) H := by rw [← ht]; exact hO
      have e2 := Option.some.inj hf
      exact jend_v hx hb hr hS (by rw [← e2]; exact hRM18) (oX e2 hP) dX2_look_106 hlocks
    have hf := h13
    clear h13
    refine jv_if_ne (tgt := 88) hx hb dX2_look_81 (by decide) i3 (fun c12 => ?_) (fun c12 => ?_)
    · have hf := iten hf c12
      refine lv_iconst (v := J 1) hx hb dX2_look_88 rfl ?_
      cases hf
      exact K13 _ _ _ (by decide : inR 1)  hP hS (lv_sub hl [4, 5, 6, 2, 1, 0] rfl)
    · have hf := itep hf c12
      refine lv_iconst (v := J 0) hx hb dX2_look_84 rfl ?_
      refine lv_goto (tgt := 89) hx hb dX2_look_85 (by decide) ?_
      cases hf
      exact K13 _ _ _ (by decide : inR 0)  hP hS (lv_sub hl [4, 5, 6, 2, 1, 0] rfl)
  · have hf := itep hf c5
    refine lv_aload_n hx hb dX2_look_27 rfl (lv_at hl 2 rfl) ?_
    refine lv_iload_n hx hb dX2_look_28 rfl (lv_at hl 4 rfl) ?_
    refine lv_aload_n hx hb dX2_look_29 rfl (lv_at hl 2 rfl) ?_
    refine lv_aload_n hx hb dX2_look_30 rfl (lv_at hl 3 rfl) ?_
    refine lv_iload_n hx hb dX2_look_31 rfl (lv_at hl 4 rfl) ?_
    obtain ⟨v19, qv19, hf⟩ := bnd_some hf
    refine jc_i (va_runV (As := [.ref (ad (5 * r1)), .int (J a2)]) (rest := [.int (J a2), .ref (ad (55 + 6 * p0))]) ⟨hx, hb, hml, hown, hts⟩ (kX2_reason l D ca v ad hI M hR p0 hp0 r1 hr1 a2 i2 v19 qv19) (cwV 2 hts gX2_look_X2_reason rfl rfl rfl (by decide +kernel) ⟨Nat.le_of_ble_eq_true rfl, Nat.le_of_ble_eq_true rfl⟩) (pvX hK hE hP hS [.ref (ad (5 * r1)), .int (J a2)] (by omega) (gX_p0 hp0 _) rfl) rfl rfl hl.1 rfl (lv_room (Nat.le_of_ble_eq_true rfl)) dX2_look_32 ⟨Nat.zero_le _, Nat.zero_le _⟩) hS (fun H locs t ht hφ hO hS => ?_)
    have rv19 := hφ
    have hP : va_P D vwCl (wX ca ad M) H := by rw [← ht]; exact hO
    refine lv_bipush (v := J (-6)) hx hb dX2_look_35 (by decide +kernel) ?_
    refine lv_bipush (v := J (-6)) hx hb dX2_look_37 (by decide +kernel) ?_
    refine lv_bipush (v := J (-6)) hx hb dX2_look_39 (by decide +kernel) ?_
    obtain ⟨M22, qM22, hf⟩ := bnd_some hf
    refine jc_v (va_runV (As := [.int (J a2), .int (J v19), .int (J (-6)), .int (J (-6)), .int (J (-6))]) (rest := []) ⟨hx, hb, hml, hown, hts⟩ (kX2_putOutcome l D ca v ad hI M hR p0 hp0 a2 v19 (-6) (-6) (-6) i2 rv19 (by decide : inR (-6)) (by decide : inR (-6)) (by decide : inR (-6)) M22 qM22) (cwV 5 hts gX2_look_X2_putOutcome rfl rfl rfl (by decide +kernel) ⟨Nat.le_of_ble_eq_true rfl, Nat.le_of_ble_eq_true rfl⟩) (pvX hK hE hP hS [.int (J a2), .int (J v19), .int (J (-6)), .int (J (-6)), .int (J (-6))] (by omega) (gX_p0 hp0 _) rfl) rfl rfl hl.1 rfl (lv_room (Nat.le_of_ble_eq_true rfl)) dX2_look_41 ⟨Nat.zero_le _, Nat.zero_le _⟩) hS (fun H locs t ht hφ hO hS => ?_)
    have hRM22 := hφ
    have hP : va_P D vwCl (wX ca ad M22) H := by rw [← ht]; exact hO
    have e2 := Option.some.inj hf
    exact jend_v hx hb hr hS (by rw [← e2]; exact hRM22) (oX e2 hP) dX2_look_44 hlocks
def fX2_make_L28 : Nat → Nat → Nat → Int → MM → Option (MM)
  | 0, _, _, _, _ => none
  | n + 1, p0, r1, x2_7, M_7 => if (M_7 (55 + 6 * p0) 5) ≤ x2_7 then some M_7 else bnd (rd M_7 (55 + 6 * p0 + 1) 21 x2_7) (fun v9 => bnd (fX2_look p0 r1 v9 0 M_7) (fun M11 => gd (inR (x2_7 + 1)) (fX2_make_L28 n p0 r1 (x2_7 + 1) M11)))
def fX2_make_L56 : Nat → Nat → Nat → Int → MM → Option (MM)
  | 0, _, _, _, _ => none
  | n + 1, p0, r1, x2_13, M_13 => if (M_13 (55 + 6 * p0) 5) ≤ x2_13 then some M_13 else bnd (rd M_13 (55 + 6 * p0 + 1) 21 x2_13) (fun v15 => bnd (fX2_outcome p0 v15 0 M_13) (fun v16 => bnd (if v16 = 4 then bnd (rd M_13 (55 + 6 * p0 + 1) 21 x2_13) (fun v20 => bnd (fX2_look p0 r1 v20 1 M_13) (fun M22 => some (M22))) else some (M_13)) (fun M_19 => gd (inR (x2_13 + 1)) (fX2_make_L56 n p0 r1 (x2_13 + 1) M_19))))
def fX2_make (p0 : Nat) (r1 : Nat) (M : MM) : Option (MM) := bnd (some (stM M (55 + 6 * p0) 5 (M (5 * r1) 4))) (fun M1 => bnd (some (stM M1 (55 + 6 * p0) 6 (M1 (5 * r1) 5))) (fun M2 => bnd (fX2_sendVansHome p0 r1 M2) (fun M4 => bnd (fX2_orderByEnds p0 r1 M4) (fun M6 => bnd (fX2_make_L28 4000 p0 r1 0 M6) (fun N_7 => bnd (fX2_make_L56 4000 p0 r1 0 N_7) (fun N_13 => some N_13))))))
set_option maxHeartbeats 4000000 in
set_option maxRecDepth 100000 in
theorem kX2_make (l : Launch) (D : va_G) (ca : Nat → ClassId) (v : EV) (ad : Nat → Nat) (hI : aInj 75 ad) (M : MM) (hR : RR M) (p0 : Nat) (hp0 : p0 < 2) (r1 : Nat) (hr1 : r1 < 11) (M' : MM) (hf : fX2_make p0 r1 M = some M') : CV l yX2_make wsX2_make 4 104 [.ref (ad (55 + 6 * p0)), .ref (ad (5 * r1))] (PX D ca v ad M) (RR M') (OX D ca ad M') (aS 75 ad) := by
  refine Met.ofW (cc := cX2_make) (maxL := 3) (ret := none) (by decide) rfl ?_
  intro p e s m args below meth c s₁ B hml hv
  obtain ⟨rfl, hP, hK, hE⟩ := hv
  have hx := B.exec
  have hb := B.bytes
  have hr := B.returns
  have hts := atoms_spec (ws := wsX2_make) B.pre
  have hown : s.vm.findClass RX2 = some m.cls := findClass_of_methodNamed B.named
  have hlocks := B.notSynchronized
  have hS : va_S (aS 75 ad) s.heap s.heap [] := va_S.rf
  have hinX2 : ∀ w ∈ wsX20, w ∈ wsX2_make := by decide +kernel
  have hinX3 : ∀ w ∈ wsX30, w ∈ wsX2_make := by decide +kernel
  have hl := lv_entry ([.ref (ad (55 + 6 * p0)), .ref (ad (5 * r1))]) (n := 3) (Nat.le_of_ble_eq_true rfl)
  rw [lg_entry_eq]
  generalize (lg_sl ([.ref (ad (55 + 6 * p0)), .ref (ad (5 * r1))]) ++ List.replicate (3 - (lg_sl ([.ref (ad (55 + 6 * p0)), .ref (ad (5 * r1))])).length) Slot.unset).toArray = ls at hl ⊢
  have hl : lv_has ls 3 [(0, .ref (ad (55 + 6 * p0))), (1, .ref (ad (5 * r1)))] := hl
  unfold fX2_make at hf
  refine lv_aload_n hx hb dX2_make_0 rfl (lv_at hl 0 rfl) ?_
  refine lv_aload_n hx hb dX2_make_1 rfl (lv_at hl 1 rfl) ?_
  refine va_get (D := D) (ci := 3) (v := .int (J (M (5 * r1) 4))) (C := RX3) (T := TX3) (N := 6) hx hb hts hinX3 hown hK hP (5 * r1) (wL_get (by omega) (gX_r0 hr1 _)) rfl 4 (by decide) (hts (.fieldLink RX2 27 "VisitVans$Road" "visitCount" "I") (List.mem_of_getElem? (i := 1) rfl)) (fun _ h => h) rfl dX2_make_2 ?_
  obtain ⟨M1, eM1, hf⟩ := bnd_some hf
  have eM1 := Option.some.inj eM1
  have hRM1 : RR M1 := by rw [← eM1]; exact RR_st hR (55 + 6 * p0) 5 (hR (5 * r1) 4)
  refine va_put (D := D) (ci := 2) (v := .int (J (M (5 * r1) 4))) (ty := .int) (C := RX2) (T := TX2) (N := 7) hx hb hts hinX2 tyX2 tyX2_ok nmX2 hown hK hP (wL_D hI M) hS (55 + 6 * p0) (wL_get (by omega) (gX_p0 hp0 _)) rfl 5 (by decide) (hts (.fieldLink RX2 33 "VisitVans$Plan" "visitCount" "I") (List.mem_of_getElem? (i := 2) rfl)) (fun _ h => h) rfl rfl rfl rfl (Nat.le_of_ble_eq_true rfl) dX2_make_5 (fun H locs hP hD hS => ?_)
  have hP : va_P D vwCl (wX ca ad M1) H := by rw [← eM1]; exact hPset (gX_p0_s5 hp0) stM_o hP
  refine lv_aload_n hx hb dX2_make_8 rfl (lv_at hl 0 rfl) ?_
  refine lv_aload_n hx hb dX2_make_9 rfl (lv_at hl 1 rfl) ?_
  refine va_get (D := D) (ci := 3) (v := .int (J (M1 (5 * r1) 5))) (C := RX3) (T := TX3) (N := 6) hx hb hts hinX3 hown hK hP (5 * r1) (wL_get (by omega) (gX_r0 hr1 _)) rfl 5 (by decide) (hts (.fieldLink RX2 34 "VisitVans$Road" "vanCount" "I") (List.mem_of_getElem? (i := 3) rfl)) (fun _ h => h) rfl dX2_make_10 ?_
  obtain ⟨M2, eM2, hf⟩ := bnd_some hf
  have eM2 := Option.some.inj eM2
  have hRM2 : RR M2 := by rw [← eM2]; exact RR_st hRM1 (55 + 6 * p0) 6 (hRM1 (5 * r1) 5)
  refine va_put (D := D) (ci := 2) (v := .int (J (M1 (5 * r1) 5))) (ty := .int) (C := RX2) (T := TX2) (N := 7) hx hb hts hinX2 tyX2 tyX2_ok nmX2 hown hK hP (wL_D hI M1) hS (55 + 6 * p0) (wL_get (by omega) (gX_p0 hp0 _)) rfl 6 (by decide) (hts (.fieldLink RX2 37 "VisitVans$Plan" "vanCount" "I") (List.mem_of_getElem? (i := 4) rfl)) (fun _ h => h) rfl rfl rfl rfl (Nat.le_of_ble_eq_true rfl) dX2_make_13 (fun H locs hP hD hS => ?_)
  have hP : va_P D vwCl (wX ca ad M2) H := by rw [← eM2]; exact hPset (gX_p0_s6 hp0) stM_o hP
  refine lv_aload_n hx hb dX2_make_16 rfl (lv_at hl 0 rfl) ?_
  refine lv_aload_n hx hb dX2_make_17 rfl (lv_at hl 1 rfl) ?_
  obtain ⟨M4, qM4, hf⟩ := bnd_some hf
  refine jc_v (va_runV (As := [.ref (ad (5 * r1))]) (rest := []) ⟨hx, hb, hml, hown, hts⟩ (kX2_sendVansHome l D ca v ad hI M2 hRM2 p0 hp0 r1 hr1 M4 qM4) (cwV 1 hts gX2_make_X2_sendVansHome rfl rfl rfl (by decide +kernel) ⟨Nat.le_of_ble_eq_true rfl, Nat.le_of_ble_eq_true rfl⟩) (pvX hK hE hP hS [.ref (ad (5 * r1))] (by omega) (gX_p0 hp0 _) rfl) rfl rfl hl.1 rfl (lv_room (Nat.le_of_ble_eq_true rfl)) dX2_make_18 ⟨Nat.zero_le _, Nat.zero_le _⟩) hS (fun H locs t ht hφ hO hS => ?_)
  have hRM4 := hφ
  have hP : va_P D vwCl (wX ca ad M4) H := by rw [← ht]; exact hO
  refine lv_aload_n hx hb dX2_make_21 rfl (lv_at hl 0 rfl) ?_
  refine lv_aload_n hx hb dX2_make_22 rfl (lv_at hl 1 rfl) ?_
  obtain ⟨M6, qM6, hf⟩ := bnd_some hf
  refine jc_v (va_runV (As := [.ref (ad (5 * r1))]) (rest := []) ⟨hx, hb, hml, hown, hts⟩ (kX2_orderByEnds l D ca v ad hI M4 hRM4 p0 hp0 r1 hr1 M6 qM6) (cwV 1 hts gX2_make_X2_orderByEnds rfl rfl rfl (by decide +kernel) ⟨Nat.le_of_ble_eq_true rfl, Nat.le_of_ble_eq_true rfl⟩) (pvX hK hE hP hS [.ref (ad (5 * r1))] (by omega) (gX_p0 hp0 _) rfl) rfl rfl hl.1 rfl (lv_room (Nat.le_of_ble_eq_true rfl)) dX2_make_23 ⟨Nat.zero_le _, Nat.zero_le _⟩) hS (fun H locs t ht hφ hO hS => ?_)
  have hRM6 := hφ
  have hP : va_P D vwCl (wX ca ad M6) H := by rw [← ht]; exact hO
  refine lv_iconst (v := J 0) hx hb dX2_make_26 rfl ?_
  refine lv_istore_n (lv' := [(2, .int (J 0)), (0, .ref (ad (55 + 6 * p0))), (1, .ref (ad (5 * r1)))]) hx hb dX2_make_27 rfl hl (by decide) rfl (fun ls hl => ?_)
  obtain ⟨N_7, h7, hf⟩ := bnd_some hf
  have K7 : ∀ (H : Heap) (locs : List Loc) (ls : Array Slot), RR N_7 → va_P D vwCl (wX ca ad N_7) H → va_S (aS 75 ad) s.heap H locs → lv_has ls 3 [(0, .ref (ad (55 + 6 * p0))), (1, .ref (ad (5 * r1)))] → W p l e (headSpec wsX2_make (RmC 4 104)).room s m ([.ref (ad (55 + 6 * p0)), .ref (ad (5 * r1))] : List Value).toArray below meth c H locs 0 0 (MQ below (va_Qv (fun (_ : Unit) => (RR M')) (fun _ => (OX D ca ad M')) (aS 75 ad)) ([.ref (ad (55 + 6 * p0)), .ref (ad (5 * r1))] : List Value).toArray s 0 0 (aS 75 ad)) (F0 m 54 ls []) := by
    intro H locs ls hRN_7 hP hS hl
    refine lv_iconst (v := J 0) hx hb dX2_make_54 rfl ?_
    refine lv_istore_n (lv' := [(2, .int (J 0)), (0, .ref (ad (55 + 6 * p0))), (1, .ref (ad (5 * r1)))]) hx hb dX2_make_55 rfl hl (by decide) rfl (fun ls hl => ?_)
    obtain ⟨N_13, h13, hf⟩ := bnd_some hf
    have K13 : ∀ (H : Heap) (locs : List Loc) (ls : Array Slot), RR N_13 → va_P D vwCl (wX ca ad N_13) H → va_S (aS 75 ad) s.heap H locs → lv_has ls 3 [] → W p l e (headSpec wsX2_make (RmC 4 104)).room s m ([.ref (ad (55 + 6 * p0)), .ref (ad (5 * r1))] : List Value).toArray below meth c H locs 0 0 (MQ below (va_Qv (fun (_ : Unit) => (RR M')) (fun _ => (OX D ca ad M')) (aS 75 ad)) ([.ref (ad (55 + 6 * p0)), .ref (ad (5 * r1))] : List Value).toArray s 0 0 (aS 75 ad)) (F0 m 97 ls []) := by
      intro H locs ls hRN_13 hP hS hl
      have e2 := Option.some.inj hf
      exact jend_v hx hb hr hS (by rw [← e2]; exact hRN_13) (oX e2 hP) dX2_make_97 hlocks
    have hL13 : ∀ (n : Nat) (x2_13 : Int) (M_13 : MM) (H : Heap) (locs : List Loc) (ls : Array Slot), inR x2_13 → RR M_13 → va_P D vwCl (wX ca ad M_13) H → va_S (aS 75 ad) s.heap H locs → lv_has ls 3 [(0, .ref (ad (55 + 6 * p0))), (1, .ref (ad (5 * r1))), (2, .int (J x2_13))] → fX2_make_L56 n p0 r1 x2_13 M_13 = some N_13 → W p l e (headSpec wsX2_make (RmC 4 104)).room s m ([.ref (ad (55 + 6 * p0)), .ref (ad (5 * r1))] : List Value).toArray below meth c H locs 0 0 (MQ below (va_Qv (fun (_ : Unit) => (RR M')) (fun _ => (OX D ca ad M')) (aS 75 ad)) ([.ref (ad (55 + 6 * p0)), .ref (ad (5 * r1))] : List Value).toArray s 0 0 (aS 75 ad)) (F0 m 56 ls []) := by
      intro n
      induction n with
      | zero =>
        intro x2_13 M_13 H locs ls rx2_13 hRM_13 hP hS hl hf
        rw [fX2_make_L56] at hf
        cases hf
      | succ n ih =>
        intro x2_13 M_13 H locs ls rx2_13 hRM_13 hP hS hl hf
        rw [fX2_make_L56] at hf
        refine lv_iload_n hx hb dX2_make_56 rfl (lv_at hl 2 rfl) ?_
        refine lv_aload_n hx hb dX2_make_57 rfl (lv_at hl 0 rfl) ?_
        refine va_get (D := D) (ci := 2) (v := .int (J (M_13 (55 + 6 * p0) 5))) (C := RX2) (T := TX2) (N := 7) hx hb hts hinX2 hown hK hP (55 + 6 * p0) (wL_get (by omega) (gX_p0 hp0 _)) rfl 5 (by decide) (hts (.fieldLink RX2 33 "VisitVans$Plan" "visitCount" "I") (List.mem_of_getElem? (i := 2) rfl)) (fun _ h => h) rfl dX2_make_58 ?_
        refine jv_icmp_ge (tgt := 97) hx hb dX2_make_61 (by decide) rx2_13 (hRM_13 (55 + 6 * p0) 5) (fun c14 => ?_) (fun c14 => ?_)
        · have hf := itep hf c14
          cases hf
          exact K13 _ _ _ hRM_13 hP hS (lv_sub hl [] rfl)
        · have hf := iten hf c14
          refine lv_aload_n hx hb dX2_make_64 rfl (lv_at hl 0 rfl) ?_
          refine lv_aload_n hx hb dX2_make_65 rfl (lv_at hl 0 rfl) ?_
          refine va_get (D := D) (ci := 2) (v := .ref (ad (55 + 6 * p0 + 1))) (C := RX2) (T := TX2) (N := 7) hx hb hts hinX2 hown hK hP (55 + 6 * p0) (wL_get (by omega) (gX_p0 hp0 _)) rfl 0 (by decide) (hts (.fieldLink RX2 9 "VisitVans$Plan" "order" "[I") (List.mem_of_getElem? (i := 5) rfl)) (fun _ h => h) rfl dX2_make_66 ?_
          refine lv_iload_n hx hb dX2_make_69 rfl (lv_at hl 2 rfl) ?_
          obtain ⟨v15, qv15, hf⟩ := bnd_some hf
          obtain ⟨bv15, ev15⟩ := rd_some qv15
          have rv15 : inR v15 := by rw [ev15]; exact hRM_13 _ _
          refine jx_iald hx hb hK hP (55 + 6 * p0 + 1) 0 (by omega) (gX_p1 hp0) rfl (by decide) bv15 ev15 dX2_make_70 ?_
          refine lv_iconst (v := J 0) hx hb dX2_make_71 rfl ?_
          obtain ⟨v16, qv16, hf⟩ := bnd_some hf
          refine jc_i (va_runV (As := [.int (J v15), .int (J 0)]) (rest := []) ⟨hx, hb, hml, hown, hts⟩ (kX2_outcome l D ca v ad hI M_13 hRM_13 p0 hp0 v15 0 rv15 (by decide : inR 0) v16 qv16) (cwV 2 hts gX2_make_X2_outcome rfl rfl rfl (by decide +kernel) ⟨Nat.le_of_ble_eq_true rfl, Nat.le_of_ble_eq_true rfl⟩) (pvX hK hE hP hS [.int (J v15), .int (J 0)] (by omega) (gX_p0 hp0 _) rfl) rfl rfl hl.1 rfl (lv_room (Nat.le_of_ble_eq_true rfl)) dX2_make_72 ⟨Nat.zero_le _, Nat.zero_le _⟩) hS (fun H locs t ht hφ hO hS => ?_)
          have rv16 := hφ
          have hP : va_P D vwCl (wX ca ad M_13) H := by rw [← ht]; exact hO
          refine lv_iconst (v := J 4) hx hb dX2_make_75 rfl ?_
          obtain ⟨M_19, h19, hf⟩ := bnd_some hf
          have K19 : ∀ (H : Heap) (locs : List Loc) (ls : Array Slot), RR M_19 → va_P D vwCl (wX ca ad M_19) H → va_S (aS 75 ad) s.heap H locs → lv_has ls 3 [(0, .ref (ad (55 + 6 * p0))), (1, .ref (ad (5 * r1))), (2, .int (J x2_13))] → W p l e (headSpec wsX2_make (RmC 4 104)).room s m ([.ref (ad (55 + 6 * p0)), .ref (ad (5 * r1))] : List Value).toArray below meth c H locs 0 0 (MQ below (va_Qv (fun (_ : Unit) => (RR M')) (fun _ => (OX D ca ad M')) (aS 75 ad)) ([.ref (ad (55 + 6 * p0)), .ref (ad (5 * r1))] : List Value).toArray s 0 0 (aS 75 ad)) (F0 m 91 ls []) := by
            intro H locs ls hRM_19  hP hS hl
            refine lv_iinc (v := J (x2_13 + 1)) (lv' := [(2, .int (J (x2_13 + 1))), (0, .ref (ad (55 + 6 * p0))), (1, .ref (ad (5 * r1)))]) hx hb dX2_make_91 hl (k := 2) rfl (J_add _ _) (by decide) rfl (fun ls hl => ?_)
            refine lv_goto (tgt := 56) hx hb dX2_make_94 (by decide) ?_
            obtain ⟨g23, hf⟩ := gd_some hf
            exact ih _ _ _ _ _ g23 hRM_19 hP hS (lv_sub hl [1, 2, 0] rfl) hf
          have hf := h19
          clear h19
          refine jv_icmp_ne (tgt := 91) hx hb dX2_make_76 (by decide) rv16 (by decide : inR 4) (fun c18 => ?_) (fun c18 => ?_)
          · have hf := iten hf c18
            cases hf
            exact K19 _ _ _ hRM_13 hP hS (lv_sub hl [0, 1, 2] rfl)
          · have hf := itep hf c18
            refine lv_aload_n hx hb dX2_make_79 rfl (lv_at hl 0 rfl) ?_
            refine lv_aload_n hx hb dX2_make_80 rfl (lv_at hl 1 rfl) ?_
            refine lv_aload_n hx hb dX2_make_81 rfl (lv_at hl 0 rfl) ?_
            refine va_get (D := D) (ci := 2) (v := .ref (ad (55 + 6 * p0 + 1))) (C := RX2) (T := TX2) (N := 7) hx hb hts hinX2 hown hK hP (55 + 6 * p0) (wL_get (by omega) (gX_p0 hp0 _)) rfl 0 (by decide) (hts (.fieldLink RX2 9 "VisitVans$Plan" "order" "[I") (List.mem_of_getElem? (i := 5) rfl)) (fun _ h => h) rfl dX2_make_82 ?_
            refine lv_iload_n hx hb dX2_make_85 rfl (lv_at hl 2 rfl) ?_
            obtain ⟨v20, qv20, hf⟩ := bnd_some hf
            obtain ⟨bv20, ev20⟩ := rd_some qv20
            have rv20 : inR v20 := by rw [ev20]; exact hRM_13 _ _
            refine jx_iald hx hb hK hP (55 + 6 * p0 + 1) 0 (by omega) (gX_p1 hp0) rfl (by decide) bv20 ev20 dX2_make_86 ?_
            refine lv_iconst (v := J 1) hx hb dX2_make_87 rfl ?_
            obtain ⟨M22, qM22, hf⟩ := bnd_some hf
            refine jc_v (va_runV (As := [.ref (ad (5 * r1)), .int (J v20), .int (J 1)]) (rest := []) ⟨hx, hb, hml, hown, hts⟩ (kX2_look l D ca v ad hI M_13 hRM_13 p0 hp0 r1 hr1 v20 1 rv20 (by decide : inR 1) M22 qM22) (cwV 3 hts gX2_make_X2_look rfl rfl rfl (by decide +kernel) ⟨Nat.le_of_ble_eq_true rfl, Nat.le_of_ble_eq_true rfl⟩) (pvX hK hE hP hS [.ref (ad (5 * r1)), .int (J v20), .int (J 1)] (by omega) (gX_p0 hp0 _) rfl) rfl rfl hl.1 rfl (lv_room (Nat.le_of_ble_eq_true rfl)) dX2_make_88 ⟨Nat.zero_le _, Nat.zero_le _⟩) hS (fun H locs t ht hφ hO hS => ?_)
            have hRM22 := hφ
            have hP : va_P D vwCl (wX ca ad M22) H := by rw [← ht]; exact hO
            cases hf
            exact K19 _ _ _ hRM22 hP hS (lv_sub hl [0, 1, 2] rfl)
    exact hL13 4000 _ _ _ _ _ (by decide : inR 0) hRN_7 hP hS (lv_sub hl [1, 2, 0] rfl) h13
  have hL7 : ∀ (n : Nat) (x2_7 : Int) (M_7 : MM) (H : Heap) (locs : List Loc) (ls : Array Slot), inR x2_7 → RR M_7 → va_P D vwCl (wX ca ad M_7) H → va_S (aS 75 ad) s.heap H locs → lv_has ls 3 [(0, .ref (ad (55 + 6 * p0))), (1, .ref (ad (5 * r1))), (2, .int (J x2_7))] → fX2_make_L28 n p0 r1 x2_7 M_7 = some N_7 → W p l e (headSpec wsX2_make (RmC 4 104)).room s m ([.ref (ad (55 + 6 * p0)), .ref (ad (5 * r1))] : List Value).toArray below meth c H locs 0 0 (MQ below (va_Qv (fun (_ : Unit) => (RR M')) (fun _ => (OX D ca ad M')) (aS 75 ad)) ([.ref (ad (55 + 6 * p0)), .ref (ad (5 * r1))] : List Value).toArray s 0 0 (aS 75 ad)) (F0 m 28 ls []) := by
    intro n
    induction n with
    | zero =>
      intro x2_7 M_7 H locs ls rx2_7 hRM_7 hP hS hl hf
      rw [fX2_make_L28] at hf
      cases hf
    | succ n ih =>
      intro x2_7 M_7 H locs ls rx2_7 hRM_7 hP hS hl hf
      rw [fX2_make_L28] at hf
      refine lv_iload_n hx hb dX2_make_28 rfl (lv_at hl 2 rfl) ?_
      refine lv_aload_n hx hb dX2_make_29 rfl (lv_at hl 0 rfl) ?_
      refine va_get (D := D) (ci := 2) (v := .int (J (M_7 (55 + 6 * p0) 5))) (C := RX2) (T := TX2) (N := 7) hx hb hts hinX2 hown hK hP (55 + 6 * p0) (wL_get (by omega) (gX_p0 hp0 _)) rfl 5 (by decide) (hts (.fieldLink RX2 33 "VisitVans$Plan" "visitCount" "I") (List.mem_of_getElem? (i := 2) rfl)) (fun _ h => h) rfl dX2_make_30 ?_
      refine jv_icmp_ge (tgt := 54) hx hb dX2_make_33 (by decide) rx2_7 (hRM_7 (55 + 6 * p0) 5) (fun c8 => ?_) (fun c8 => ?_)
      · have hf := itep hf c8
        cases hf
        exact K7 _ _ _ hRM_7 hP hS (lv_sub hl [0, 1] rfl)
      · have hf := iten hf c8
        refine lv_aload_n hx hb dX2_make_36 rfl (lv_at hl 0 rfl) ?_
        refine lv_aload_n hx hb dX2_make_37 rfl (lv_at hl 1 rfl) ?_
        refine lv_aload_n hx hb dX2_make_38 rfl (lv_at hl 0 rfl) ?_
        refine va_get (D := D) (ci := 2) (v := .ref (ad (55 + 6 * p0 + 1))) (C := RX2) (T := TX2) (N := 7) hx hb hts hinX2 hown hK hP (55 + 6 * p0) (wL_get (by omega) (gX_p0 hp0 _)) rfl 0 (by decide) (hts (.fieldLink RX2 9 "VisitVans$Plan" "order" "[I") (List.mem_of_getElem? (i := 5) rfl)) (fun _ h => h) rfl dX2_make_39 ?_
        refine lv_iload_n hx hb dX2_make_42 rfl (lv_at hl 2 rfl) ?_
        obtain ⟨v9, qv9, hf⟩ := bnd_some hf
        obtain ⟨bv9, ev9⟩ := rd_some qv9
        have rv9 : inR v9 := by rw [ev9]; exact hRM_7 _ _
        refine jx_iald hx hb hK hP (55 + 6 * p0 + 1) 0 (by omega) (gX_p1 hp0) rfl (by decide) bv9 ev9 dX2_make_43 ?_
        refine lv_iconst (v := J 0) hx hb dX2_make_44 rfl ?_
        obtain ⟨M11, qM11, hf⟩ := bnd_some hf
        refine jc_v (va_runV (As := [.ref (ad (5 * r1)), .int (J v9), .int (J 0)]) (rest := []) ⟨hx, hb, hml, hown, hts⟩ (kX2_look l D ca v ad hI M_7 hRM_7 p0 hp0 r1 hr1 v9 0 rv9 (by decide : inR 0) M11 qM11) (cwV 3 hts gX2_make_X2_look rfl rfl rfl (by decide +kernel) ⟨Nat.le_of_ble_eq_true rfl, Nat.le_of_ble_eq_true rfl⟩) (pvX hK hE hP hS [.ref (ad (5 * r1)), .int (J v9), .int (J 0)] (by omega) (gX_p0 hp0 _) rfl) rfl rfl hl.1 rfl (lv_room (Nat.le_of_ble_eq_true rfl)) dX2_make_45 ⟨Nat.zero_le _, Nat.zero_le _⟩) hS (fun H locs t ht hφ hO hS => ?_)
        have hRM11 := hφ
        have hP : va_P D vwCl (wX ca ad M11) H := by rw [← ht]; exact hO
        refine lv_iinc (v := J (x2_7 + 1)) (lv' := [(2, .int (J (x2_7 + 1))), (0, .ref (ad (55 + 6 * p0))), (1, .ref (ad (5 * r1)))]) hx hb dX2_make_48 hl (k := 2) rfl (J_add _ _) (by decide) rfl (fun ls hl => ?_)
        refine lv_goto (tgt := 28) hx hb dX2_make_51 (by decide) ?_
        obtain ⟨g12, hf⟩ := gd_some hf
        exact ih _ _ _ _ _ g12 hRM11 hP hS (lv_sub hl [1, 2, 0] rfl) hf
  exact hL7 4000 _ _ _ _ _ (by decide : inR 0) hRM6 hP hS (lv_sub hl [1, 2, 0] rfl) h7
def fX2_eventFact (p0 : Nat) (a1 : Int) (a2 : Int) (a3 : Int) (M : MM) : Option (Int) := bnd (rd M (55 + 6 * p0 + 5) 1008 ((((a1 * 63) + a2) * 4) + a3)) (fun v1 => some v1)
set_option maxHeartbeats 4000000 in
set_option maxRecDepth 100000 in
theorem kX2_eventFact (l : Launch) (D : va_G) (ca : Nat → ClassId) (v : EV) (ad : Nat → Nat) (hI : aInj 75 ad) (M : MM) (hR : RR M) (p0 : Nat) (hp0 : p0 < 2) (a1 : Int) (a2 : Int) (a3 : Int) (i1 : inR a1) (i2 : inR a2) (i3 : inR a3) (res : Int) (hf : fX2_eventFact p0 a1 a2 a3 M = some res) : CI l yX2_eventFact wsX2_eventFact 0 0 [.ref (ad (55 + 6 * p0)), .int (J a1), .int (J a2), .int (J a3)] (PX D ca v ad M) res (inR res) (OX D ca ad M) (aS 75 ad) := by
  refine Met.ofW (cc := cX2_eventFact) (maxL := 4) (ret := (some .int)) (by decide) rfl ?_
  intro p e s m args below meth c s₁ B hml hv
  obtain ⟨rfl, hP, hK, hE⟩ := hv
  have hx := B.exec
  have hb := B.bytes
  have hr := B.returns
  have hts := atoms_spec (ws := wsX2_eventFact) B.pre
  have hown : s.vm.findClass RX2 = some m.cls := findClass_of_methodNamed B.named
  have hlocks := B.notSynchronized
  have hS : va_S (aS 75 ad) s.heap s.heap [] := va_S.rf
  have hinX2 : ∀ w ∈ wsX20, w ∈ wsX2_eventFact := by decide +kernel
  have hl := lv_entry ([.ref (ad (55 + 6 * p0)), .int (J a1), .int (J a2), .int (J a3)]) (n := 4) (Nat.le_of_ble_eq_true rfl)
  rw [lg_entry_eq]
  generalize (lg_sl ([.ref (ad (55 + 6 * p0)), .int (J a1), .int (J a2), .int (J a3)]) ++ List.replicate (4 - (lg_sl ([.ref (ad (55 + 6 * p0)), .int (J a1), .int (J a2), .int (J a3)])).length) Slot.unset).toArray = ls at hl ⊢
  have hl : lv_has ls 4 [(0, .ref (ad (55 + 6 * p0))), (1, .int (J a1)), (2, .int (J a2)), (3, .int (J a3))] := hl
  unfold fX2_eventFact at hf
  refine lv_aload_n hx hb dX2_eventFact_0 rfl (lv_at hl 0 rfl) ?_
  refine va_get (D := D) (ci := 2) (v := .ref (ad (55 + 6 * p0 + 5))) (C := RX2) (T := TX2) (N := 7) hx hb hts hinX2 hown hK hP (55 + 6 * p0) (wL_get (by omega) (gX_p0 hp0 _)) rfl 4 (by decide) (hts (.fieldLink RX2 24 "VisitVans$Plan" "events" "[I") (List.mem_of_getElem? (i := 1) rfl)) (fun _ h => h) rfl dX2_eventFact_1 ?_
  refine lv_iload_n hx hb dX2_eventFact_4 rfl (lv_at hl 1 rfl) ?_
  refine lv_bipush (v := J 63) hx hb dX2_eventFact_5 (by decide +kernel) ?_
  refine jv_imul hx hb dX2_eventFact_7 ?_
  refine lv_iload_n hx hb dX2_eventFact_8 rfl (lv_at hl 2 rfl) ?_
  refine jv_iadd hx hb dX2_eventFact_9 ?_
  refine lv_iconst (v := J 4) hx hb dX2_eventFact_10 rfl ?_
  refine jv_imul hx hb dX2_eventFact_11 ?_
  refine lv_iload_n hx hb dX2_eventFact_12 rfl (lv_at hl 3 rfl) ?_
  refine jv_iadd hx hb dX2_eventFact_13 ?_
  obtain ⟨v1, qv1, hf⟩ := bnd_some hf
  obtain ⟨bv1, ev1⟩ := rd_some qv1
  have rv1 : inR v1 := by rw [ev1]; exact hR _ _
  refine jx_iald hx hb hK hP (55 + 6 * p0 + 5) 0 (by omega) (gX_p5 hp0) rfl (by decide) bv1 ev1 dX2_eventFact_14 ?_
  have e1 := Option.some.inj hf
  exact jend_i hx hb hr rfl hS e1 (by rw [← e1]; exact rv1) (oX rfl hP) dX2_eventFact_15 hlocks
def fX2_promisesThatAre_L4 : Nat → Nat → Int → Int → Int → MM → Option (Int)
  | 0, _, _, _, _, _ => none
  | n + 1, p0, x1_1, x2_1, x3_1, M_1 => if (M_1 (55 + 6 * p0) 5) ≤ x3_1 then some x2_1 else bnd (fX2_outcome p0 x3_1 0 M_1) (fun v3 => bnd (if v3 = x1_1 then gd (inR (x2_1 + 1)) (some ((x2_1 + 1))) else some (x2_1)) (fun y6_0 => gd (inR (x3_1 + 1)) (fX2_promisesThatAre_L4 n p0 x1_1 y6_0 (x3_1 + 1) M_1)))
def fX2_promisesThatAre (p0 : Nat) (a1 : Int) (M : MM) : Option (Int) := bnd (fX2_promisesThatAre_L4 4000 p0 a1 0 0 M) (fun y1_0 => some y1_0)
set_option maxHeartbeats 4000000 in
set_option maxRecDepth 100000 in
theorem kX2_promisesThatAre (l : Launch) (D : va_G) (ca : Nat → ClassId) (v : EV) (ad : Nat → Nat) (hI : aInj 75 ad) (M : MM) (hR : RR M) (p0 : Nat) (hp0 : p0 < 2) (a1 : Int) (i1 : inR a1) (res : Int) (hf : fX2_promisesThatAre p0 a1 M = some res) : CI l yX2_promisesThatAre wsX2_promisesThatAre 1 22 [.ref (ad (55 + 6 * p0)), .int (J a1)] (PX D ca v ad M) res (inR res) (OX D ca ad M) (aS 75 ad) := by
  refine Met.ofW (cc := cX2_promisesThatAre) (maxL := 4) (ret := (some .int)) (by decide) rfl ?_
  intro p e s m args below meth c s₁ B hml hv
  obtain ⟨rfl, hP, hK, hE⟩ := hv
  have hx := B.exec
  have hb := B.bytes
  have hr := B.returns
  have hts := atoms_spec (ws := wsX2_promisesThatAre) B.pre
  have hown : s.vm.findClass RX2 = some m.cls := findClass_of_methodNamed B.named
  have hlocks := B.notSynchronized
  have hS : va_S (aS 75 ad) s.heap s.heap [] := va_S.rf
  have hinX2 : ∀ w ∈ wsX20, w ∈ wsX2_promisesThatAre := by decide +kernel
  have hl := lv_entry ([.ref (ad (55 + 6 * p0)), .int (J a1)]) (n := 4) (Nat.le_of_ble_eq_true rfl)
  rw [lg_entry_eq]
  generalize (lg_sl ([.ref (ad (55 + 6 * p0)), .int (J a1)]) ++ List.replicate (4 - (lg_sl ([.ref (ad (55 + 6 * p0)), .int (J a1)])).length) Slot.unset).toArray = ls at hl ⊢
  have hl : lv_has ls 4 [(0, .ref (ad (55 + 6 * p0))), (1, .int (J a1))] := hl
  unfold fX2_promisesThatAre at hf
  refine lv_iconst (v := J 0) hx hb dX2_promisesThatAre_0 rfl ?_
  refine lv_istore_n (lv' := [(2, .int (J 0)), (0, .ref (ad (55 + 6 * p0))), (1, .int (J a1))]) hx hb dX2_promisesThatAre_1 rfl hl (by decide) rfl (fun ls hl => ?_)
  refine lv_iconst (v := J 0) hx hb dX2_promisesThatAre_2 rfl ?_
  refine lv_istore_n (lv' := [(3, .int (J 0)), (2, .int (J 0)), (0, .ref (ad (55 + 6 * p0))), (1, .int (J a1))]) hx hb dX2_promisesThatAre_3 rfl hl (by decide) rfl (fun ls hl => ?_)
  obtain ⟨y1_0, h1, hf⟩ := bnd_some hf
  have K1 : ∀ (H : Heap) (locs : List Loc) (ls : Array Slot), inR y1_0 → va_P D vwCl (wX ca ad M) H → va_S (aS 75 ad) s.heap H locs → lv_has ls 4 [(2, .int (J y1_0))] → W p l e (headSpec wsX2_promisesThatAre (RmC 1 22)).room s m ([.ref (ad (55 + 6 * p0)), .int (J a1)] : List Value).toArray below meth c H locs 0 0 (MQ below (va_Qi (fun x (_ : Unit) => x = J res ∧ (inR res)) (fun _ => (OX D ca ad M)) (aS 75 ad)) ([.ref (ad (55 + 6 * p0)), .int (J a1)] : List Value).toArray s 0 0 (aS 75 ad)) (F0 m 31 ls []) := by
    intro H locs ls ry1_0 hP hS hl
    refine lv_iload_n hx hb dX2_promisesThatAre_31 rfl (lv_at hl 0 rfl) ?_
    have e1 := Option.some.inj hf
    exact jend_i hx hb hr rfl hS e1 (by rw [← e1]; exact ry1_0) (oX rfl hP) dX2_promisesThatAre_32 hlocks
  have hL1 : ∀ (n : Nat) (x1_1 : Int) (x2_1 : Int) (x3_1 : Int) (M_1 : MM) (H : Heap) (locs : List Loc) (ls : Array Slot), inR x1_1 → inR x2_1 → inR x3_1 → RR M_1 → x1_1 = a1 → M_1 = M → va_P D vwCl (wX ca ad M_1) H → va_S (aS 75 ad) s.heap H locs → lv_has ls 4 [(0, .ref (ad (55 + 6 * p0))), (1, .int (J x1_1)), (2, .int (J x2_1)), (3, .int (J x3_1))] → fX2_promisesThatAre_L4 n p0 x1_1 x2_1 x3_1 M_1 = some y1_0 → W p l e (headSpec wsX2_promisesThatAre (RmC 1 22)).room s m ([.ref (ad (55 + 6 * p0)), .int (J a1)] : List Value).toArray below meth c H locs 0 0 (MQ below (va_Qi (fun x (_ : Unit) => x = J res ∧ (inR res)) (fun _ => (OX D ca ad M)) (aS 75 ad)) ([.ref (ad (55 + 6 * p0)), .int (J a1)] : List Value).toArray s 0 0 (aS 75 ad)) (F0 m 4 ls []) := by
    intro n
    induction n with
    | zero =>
      intro x1_1 x2_1 x3_1 M_1 H locs ls rx1_1 rx2_1 rx3_1 hRM_1 e_x1_1 e_M_1 hP hS hl hf
      rw [fX2_promisesThatAre_L4] at hf
      cases hf
    | succ n ih =>
      intro x1_1 x2_1 x3_1 M_1 H locs ls rx1_1 rx2_1 rx3_1 hRM_1 e_x1_1 e_M_1 hP hS hl hf
      rw [fX2_promisesThatAre_L4] at hf
      refine lv_iload_n hx hb dX2_promisesThatAre_4 rfl (lv_at hl 3 rfl) ?_
      refine lv_aload_n hx hb dX2_promisesThatAre_5 rfl (lv_at hl 0 rfl) ?_
      refine va_get (D := D) (ci := 2) (v := .int (J (M_1 (55 + 6 * p0) 5))) (C := RX2) (T := TX2) (N := 7) hx hb hts hinX2 hown hK hP (55 + 6 * p0) (wL_get (by omega) (gX_p0 hp0 _)) rfl 5 (by decide) (hts (.fieldLink RX2 33 "VisitVans$Plan" "visitCount" "I") (List.mem_of_getElem? (i := 1) rfl)) (fun _ h => h) rfl dX2_promisesThatAre_6 ?_
      refine jv_icmp_ge (tgt := 31) hx hb dX2_promisesThatAre_9 (by decide) rx3_1 (hRM_1 (55 + 6 * p0) 5) (fun c2 => ?_) (fun c2 => ?_)
      · have hf := itep hf c2
        cases hf
        exact K1 _ _ _ rx2_1  (e_M_1 ▸ hP) hS (lv_sub hl [2] (by subst e_x1_1; rfl))
      · have hf := iten hf c2
        refine lv_aload_n hx hb dX2_promisesThatAre_12 rfl (lv_at hl 0 rfl) ?_
        refine lv_iload_n hx hb dX2_promisesThatAre_13 rfl (lv_at hl 3 rfl) ?_
        refine lv_iconst (v := J 0) hx hb dX2_promisesThatAre_14 rfl ?_
        obtain ⟨v3, qv3, hf⟩ := bnd_some hf
        refine jc_i (va_runV (As := [.int (J x3_1), .int (J 0)]) (rest := []) ⟨hx, hb, hml, hown, hts⟩ (kX2_outcome l D ca v ad hI M_1 hRM_1 p0 hp0 x3_1 0 rx3_1 (by decide : inR 0) v3 qv3) (cwV 2 hts gX2_promisesThatAre_X2_outcome rfl rfl rfl (by decide +kernel) ⟨Nat.le_of_ble_eq_true rfl, Nat.le_of_ble_eq_true rfl⟩) (pvX hK hE hP hS [.int (J x3_1), .int (J 0)] (by omega) (gX_p0 hp0 _) rfl) rfl rfl hl.1 rfl (lv_room (Nat.le_of_ble_eq_true rfl)) dX2_promisesThatAre_15 ⟨Nat.zero_le _, Nat.zero_le _⟩) hS (fun H locs t ht hφ hO hS => ?_)
        have rv3 := hφ
        have hP : va_P D vwCl (wX ca ad M_1) H := by rw [← ht]; exact hO
        refine lv_iload_n hx hb dX2_promisesThatAre_18 rfl (lv_at hl 1 rfl) ?_
        obtain ⟨y6_0, h6, hf⟩ := bnd_some hf
        have K6 : ∀ (H : Heap) (locs : List Loc) (ls : Array Slot), inR y6_0 → va_P D vwCl (wX ca ad M_1) H → va_S (aS 75 ad) s.heap H locs → lv_has ls 4 [(0, .ref (ad (55 + 6 * p0))), (1, .int (J x1_1)), (2, .int (J y6_0)), (3, .int (J x3_1))] → W p l e (headSpec wsX2_promisesThatAre (RmC 1 22)).room s m ([.ref (ad (55 + 6 * p0)), .int (J a1)] : List Value).toArray below meth c H locs 0 0 (MQ below (va_Qi (fun x (_ : Unit) => x = J res ∧ (inR res)) (fun _ => (OX D ca ad M)) (aS 75 ad)) ([.ref (ad (55 + 6 * p0)), .int (J a1)] : List Value).toArray s 0 0 (aS 75 ad)) (F0 m 25 ls []) := by
          intro H locs ls ry6_0  hP hS hl
          refine lv_iinc (v := J (x3_1 + 1)) (lv' := [(3, .int (J (x3_1 + 1))), (0, .ref (ad (55 + 6 * p0))), (1, .int (J x1_1)), (2, .int (J y6_0))]) hx hb dX2_promisesThatAre_25 hl (k := 3) rfl (J_add _ _) (by decide) rfl (fun ls hl => ?_)
          refine lv_goto (tgt := 4) hx hb dX2_promisesThatAre_28 (by decide) ?_
          obtain ⟨g8, hf⟩ := gd_some hf
          exact ih _ _ _ _ _ _ _ rx1_1 ry6_0 g8 hRM_1 e_x1_1 e_M_1 hP hS (lv_sub hl [1, 2, 3, 0] rfl) hf
        have hf := h6
        clear h6
        refine jv_icmp_ne (tgt := 25) hx hb dX2_promisesThatAre_19 (by decide) rv3 rx1_1 (fun c5 => ?_) (fun c5 => ?_)
        · have hf := iten hf c5
          cases hf
          exact K6 _ _ _ rx2_1  hP hS (lv_sub hl [0, 1, 2, 3] rfl)
        · have hf := itep hf c5
          refine lv_iinc (v := J (x2_1 + 1)) (lv' := [(2, .int (J (x2_1 + 1))), (0, .ref (ad (55 + 6 * p0))), (1, .int (J x1_1)), (3, .int (J x3_1))]) hx hb dX2_promisesThatAre_22 hl (k := 2) rfl (J_add _ _) (by decide) rfl (fun ls hl => ?_)
          obtain ⟨g7, hf⟩ := gd_some hf
          cases hf
          exact K6 _ _ _ g7  hP hS (lv_sub hl [1, 2, 0, 3] rfl)
  exact hL1 4000 _ _ _ _ _ _ _ i1 (by decide : inR 0) (by decide : inR 0) hR rfl rfl hP hS (lv_sub hl [2, 3, 1, 0] rfl) h1
def fX2_visitsMade (p0 : Nat) (M : MM) : Option (Int) := bnd (fX2_promisesThatAre p0 0 M) (fun v1 => bnd (fX2_promisesThatAre p0 1 M) (fun v3 => gd (inR (v1 + v3)) (some (v1 + v3))))
set_option maxHeartbeats 4000000 in
set_option maxRecDepth 100000 in
theorem kX2_visitsMade (l : Launch) (D : va_G) (ca : Nat → ClassId) (v : EV) (ad : Nat → Nat) (hI : aInj 75 ad) (M : MM) (hR : RR M) (p0 : Nat) (hp0 : p0 < 2) (res : Int) (hf : fX2_visitsMade p0 M = some res) : CI l yX2_visitsMade wsX2_visitsMade 2 45 [.ref (ad (55 + 6 * p0))] (PX D ca v ad M) res (inR res) (OX D ca ad M) (aS 75 ad) := by
  refine Met.ofW (cc := cX2_visitsMade) (maxL := 1) (ret := (some .int)) (by decide) rfl ?_
  intro p e s m args below meth c s₁ B hml hv
  obtain ⟨rfl, hP, hK, hE⟩ := hv
  have hx := B.exec
  have hb := B.bytes
  have hr := B.returns
  have hts := atoms_spec (ws := wsX2_visitsMade) B.pre
  have hown : s.vm.findClass RX2 = some m.cls := findClass_of_methodNamed B.named
  have hlocks := B.notSynchronized
  have hS : va_S (aS 75 ad) s.heap s.heap [] := va_S.rf
  have hl := lv_entry ([.ref (ad (55 + 6 * p0))]) (n := 1) (Nat.le_of_ble_eq_true rfl)
  rw [lg_entry_eq]
  generalize (lg_sl ([.ref (ad (55 + 6 * p0))]) ++ List.replicate (1 - (lg_sl ([.ref (ad (55 + 6 * p0))])).length) Slot.unset).toArray = ls at hl ⊢
  have hl : lv_has ls 1 [(0, .ref (ad (55 + 6 * p0)))] := hl
  unfold fX2_visitsMade at hf
  refine lv_aload_n hx hb dX2_visitsMade_0 rfl (lv_at hl 0 rfl) ?_
  refine lv_iconst (v := J 0) hx hb dX2_visitsMade_1 rfl ?_
  obtain ⟨v1, qv1, hf⟩ := bnd_some hf
  refine jc_i (va_runV (As := [.int (J 0)]) (rest := []) ⟨hx, hb, hml, hown, hts⟩ (kX2_promisesThatAre l D ca v ad hI M hR p0 hp0 0 (by decide : inR 0) v1 qv1) (cwV 1 hts gX2_visitsMade_X2_promisesThatAre rfl rfl rfl (by decide +kernel) ⟨Nat.le_of_ble_eq_true rfl, Nat.le_of_ble_eq_true rfl⟩) (pvX hK hE hP hS [.int (J 0)] (by omega) (gX_p0 hp0 _) rfl) rfl rfl hl.1 rfl (lv_room (Nat.le_of_ble_eq_true rfl)) dX2_visitsMade_2 ⟨Nat.zero_le _, Nat.zero_le _⟩) hS (fun H locs t ht hφ hO hS => ?_)
  have rv1 := hφ
  have hP : va_P D vwCl (wX ca ad M) H := by rw [← ht]; exact hO
  refine lv_aload_n hx hb dX2_visitsMade_5 rfl (lv_at hl 0 rfl) ?_
  refine lv_iconst (v := J 1) hx hb dX2_visitsMade_6 rfl ?_
  obtain ⟨v3, qv3, hf⟩ := bnd_some hf
  refine jc_i (va_runV (As := [.int (J 1)]) (rest := [.int (J v1)]) ⟨hx, hb, hml, hown, hts⟩ (kX2_promisesThatAre l D ca v ad hI M hR p0 hp0 1 (by decide : inR 1) v3 qv3) (cwV 1 hts gX2_visitsMade_X2_promisesThatAre rfl rfl rfl (by decide +kernel) ⟨Nat.le_of_ble_eq_true rfl, Nat.le_of_ble_eq_true rfl⟩) (pvX hK hE hP hS [.int (J 1)] (by omega) (gX_p0 hp0 _) rfl) rfl rfl hl.1 rfl (lv_room (Nat.le_of_ble_eq_true rfl)) dX2_visitsMade_7 ⟨Nat.zero_le _, Nat.zero_le _⟩) hS (fun H locs t ht hφ hO hS => ?_)
  have rv3 := hφ
  have hP : va_P D vwCl (wX ca ad M) H := by rw [← ht]; exact hO
  refine jv_iadd hx hb dX2_visitsMade_10 ?_
  obtain ⟨g5, hf⟩ := gd_some hf
  have e1 := Option.some.inj hf
  exact jend_i hx hb hr rfl hS e1 (by rw [← e1]; exact g5) (oX rfl hP) dX2_visitsMade_11 hlocks
def fX2_sumOverVans_L4 : Nat → Nat → Int → Int → Int → MM → Option (Int)
  | 0, _, _, _, _, _ => none
  | n + 1, p0, x1_1, x2_1, x3_1, M_1 => if (M_1 (55 + 6 * p0) 6) ≤ x3_1 then some x2_1 else bnd (fX2_driveFact p0 x3_1 x1_1 M_1) (fun v3 => gd (inR (x2_1 + v3)) (gd (inR (x3_1 + 1)) (fX2_sumOverVans_L4 n p0 x1_1 (x2_1 + v3) (x3_1 + 1) M_1)))
def fX2_sumOverVans (p0 : Nat) (a1 : Int) (M : MM) : Option (Int) := bnd (fX2_sumOverVans_L4 4000 p0 a1 0 0 M) (fun y1_0 => some y1_0)
set_option maxHeartbeats 4000000 in
set_option maxRecDepth 100000 in
theorem kX2_sumOverVans (l : Launch) (D : va_G) (ca : Nat → ClassId) (v : EV) (ad : Nat → Nat) (hI : aInj 75 ad) (M : MM) (hR : RR M) (p0 : Nat) (hp0 : p0 < 2) (a1 : Int) (i1 : inR a1) (res : Int) (hf : fX2_sumOverVans p0 a1 M = some res) : CI l yX2_sumOverVans wsX2_sumOverVans 1 22 [.ref (ad (55 + 6 * p0)), .int (J a1)] (PX D ca v ad M) res (inR res) (OX D ca ad M) (aS 75 ad) := by
  refine Met.ofW (cc := cX2_sumOverVans) (maxL := 4) (ret := (some .int)) (by decide) rfl ?_
  intro p e s m args below meth c s₁ B hml hv
  obtain ⟨rfl, hP, hK, hE⟩ := hv
  have hx := B.exec
  have hb := B.bytes
  have hr := B.returns
  have hts := atoms_spec (ws := wsX2_sumOverVans) B.pre
  have hown : s.vm.findClass RX2 = some m.cls := findClass_of_methodNamed B.named
  have hlocks := B.notSynchronized
  have hS : va_S (aS 75 ad) s.heap s.heap [] := va_S.rf
  have hinX2 : ∀ w ∈ wsX20, w ∈ wsX2_sumOverVans := by decide +kernel
  have hl := lv_entry ([.ref (ad (55 + 6 * p0)), .int (J a1)]) (n := 4) (Nat.le_of_ble_eq_true rfl)
  rw [lg_entry_eq]
  generalize (lg_sl ([.ref (ad (55 + 6 * p0)), .int (J a1)]) ++ List.replicate (4 - (lg_sl ([.ref (ad (55 + 6 * p0)), .int (J a1)])).length) Slot.unset).toArray = ls at hl ⊢
  have hl : lv_has ls 4 [(0, .ref (ad (55 + 6 * p0))), (1, .int (J a1))] := hl
  unfold fX2_sumOverVans at hf
  refine lv_iconst (v := J 0) hx hb dX2_sumOverVans_0 rfl ?_
  refine lv_istore_n (lv' := [(2, .int (J 0)), (0, .ref (ad (55 + 6 * p0))), (1, .int (J a1))]) hx hb dX2_sumOverVans_1 rfl hl (by decide) rfl (fun ls hl => ?_)
  refine lv_iconst (v := J 0) hx hb dX2_sumOverVans_2 rfl ?_
  refine lv_istore_n (lv' := [(3, .int (J 0)), (2, .int (J 0)), (0, .ref (ad (55 + 6 * p0))), (1, .int (J a1))]) hx hb dX2_sumOverVans_3 rfl hl (by decide) rfl (fun ls hl => ?_)
  obtain ⟨y1_0, h1, hf⟩ := bnd_some hf
  have K1 : ∀ (H : Heap) (locs : List Loc) (ls : Array Slot), inR y1_0 → va_P D vwCl (wX ca ad M) H → va_S (aS 75 ad) s.heap H locs → lv_has ls 4 [(2, .int (J y1_0))] → W p l e (headSpec wsX2_sumOverVans (RmC 1 22)).room s m ([.ref (ad (55 + 6 * p0)), .int (J a1)] : List Value).toArray below meth c H locs 0 0 (MQ below (va_Qi (fun x (_ : Unit) => x = J res ∧ (inR res)) (fun _ => (OX D ca ad M)) (aS 75 ad)) ([.ref (ad (55 + 6 * p0)), .int (J a1)] : List Value).toArray s 0 0 (aS 75 ad)) (F0 m 27 ls []) := by
    intro H locs ls ry1_0 hP hS hl
    refine lv_iload_n hx hb dX2_sumOverVans_27 rfl (lv_at hl 0 rfl) ?_
    have e1 := Option.some.inj hf
    exact jend_i hx hb hr rfl hS e1 (by rw [← e1]; exact ry1_0) (oX rfl hP) dX2_sumOverVans_28 hlocks
  have hL1 : ∀ (n : Nat) (x1_1 : Int) (x2_1 : Int) (x3_1 : Int) (M_1 : MM) (H : Heap) (locs : List Loc) (ls : Array Slot), inR x1_1 → inR x2_1 → inR x3_1 → RR M_1 → x1_1 = a1 → M_1 = M → va_P D vwCl (wX ca ad M_1) H → va_S (aS 75 ad) s.heap H locs → lv_has ls 4 [(0, .ref (ad (55 + 6 * p0))), (1, .int (J x1_1)), (2, .int (J x2_1)), (3, .int (J x3_1))] → fX2_sumOverVans_L4 n p0 x1_1 x2_1 x3_1 M_1 = some y1_0 → W p l e (headSpec wsX2_sumOverVans (RmC 1 22)).room s m ([.ref (ad (55 + 6 * p0)), .int (J a1)] : List Value).toArray below meth c H locs 0 0 (MQ below (va_Qi (fun x (_ : Unit) => x = J res ∧ (inR res)) (fun _ => (OX D ca ad M)) (aS 75 ad)) ([.ref (ad (55 + 6 * p0)), .int (J a1)] : List Value).toArray s 0 0 (aS 75 ad)) (F0 m 4 ls []) := by
    intro n
    induction n with
    | zero =>
      intro x1_1 x2_1 x3_1 M_1 H locs ls rx1_1 rx2_1 rx3_1 hRM_1 e_x1_1 e_M_1 hP hS hl hf
      rw [fX2_sumOverVans_L4] at hf
      cases hf
    | succ n ih =>
      intro x1_1 x2_1 x3_1 M_1 H locs ls rx1_1 rx2_1 rx3_1 hRM_1 e_x1_1 e_M_1 hP hS hl hf
      rw [fX2_sumOverVans_L4] at hf
      refine lv_iload_n hx hb dX2_sumOverVans_4 rfl (lv_at hl 3 rfl) ?_
      refine lv_aload_n hx hb dX2_sumOverVans_5 rfl (lv_at hl 0 rfl) ?_
      refine va_get (D := D) (ci := 2) (v := .int (J (M_1 (55 + 6 * p0) 6))) (C := RX2) (T := TX2) (N := 7) hx hb hts hinX2 hown hK hP (55 + 6 * p0) (wL_get (by omega) (gX_p0 hp0 _)) rfl 6 (by decide) (hts (.fieldLink RX2 37 "VisitVans$Plan" "vanCount" "I") (List.mem_of_getElem? (i := 1) rfl)) (fun _ h => h) rfl dX2_sumOverVans_6 ?_
      refine jv_icmp_ge (tgt := 27) hx hb dX2_sumOverVans_9 (by decide) rx3_1 (hRM_1 (55 + 6 * p0) 6) (fun c2 => ?_) (fun c2 => ?_)
      · have hf := itep hf c2
        cases hf
        exact K1 _ _ _ rx2_1  (e_M_1 ▸ hP) hS (lv_sub hl [2] (by subst e_x1_1; rfl))
      · have hf := iten hf c2
        refine lv_iload_n hx hb dX2_sumOverVans_12 rfl (lv_at hl 2 rfl) ?_
        refine lv_aload_n hx hb dX2_sumOverVans_13 rfl (lv_at hl 0 rfl) ?_
        refine lv_iload_n hx hb dX2_sumOverVans_14 rfl (lv_at hl 3 rfl) ?_
        refine lv_iload_n hx hb dX2_sumOverVans_15 rfl (lv_at hl 1 rfl) ?_
        obtain ⟨v3, qv3, hf⟩ := bnd_some hf
        refine jc_i (va_runV (As := [.int (J x3_1), .int (J x1_1)]) (rest := [.int (J x2_1)]) ⟨hx, hb, hml, hown, hts⟩ (kX2_driveFact l D ca v ad hI M_1 hRM_1 p0 hp0 x3_1 x1_1 rx3_1 rx1_1 v3 qv3) (cwV 2 hts gX2_sumOverVans_X2_driveFact rfl rfl rfl (by decide +kernel) ⟨Nat.le_of_ble_eq_true rfl, Nat.le_of_ble_eq_true rfl⟩) (pvX hK hE hP hS [.int (J x3_1), .int (J x1_1)] (by omega) (gX_p0 hp0 _) rfl) rfl rfl hl.1 rfl (lv_room (Nat.le_of_ble_eq_true rfl)) dX2_sumOverVans_16 ⟨Nat.zero_le _, Nat.zero_le _⟩) hS (fun H locs t ht hφ hO hS => ?_)
        have rv3 := hφ
        have hP : va_P D vwCl (wX ca ad M_1) H := by rw [← ht]; exact hO
        refine jv_iadd hx hb dX2_sumOverVans_19 ?_
        refine lv_istore_n (lv' := [(2, .int (J (x2_1 + v3))), (0, .ref (ad (55 + 6 * p0))), (1, .int (J x1_1)), (3, .int (J x3_1))]) hx hb dX2_sumOverVans_20 rfl hl (by decide) rfl (fun ls hl => ?_)
        refine lv_iinc (v := J (x3_1 + 1)) (lv' := [(3, .int (J (x3_1 + 1))), (2, .int (J (x2_1 + v3))), (0, .ref (ad (55 + 6 * p0))), (1, .int (J x1_1))]) hx hb dX2_sumOverVans_21 hl (k := 3) rfl (J_add _ _) (by decide) rfl (fun ls hl => ?_)
        refine lv_goto (tgt := 4) hx hb dX2_sumOverVans_24 (by decide) ?_
        obtain ⟨g5, hf⟩ := gd_some hf
        obtain ⟨g6, hf⟩ := gd_some hf
        exact ih _ _ _ _ _ _ _ rx1_1 g5 g6 hRM_1 e_x1_1 e_M_1 hP hS (lv_sub hl [2, 3, 1, 0] rfl) hf
  exact hL1 4000 _ _ _ _ _ _ _ i1 (by decide : inR 0) (by decide : inR 0) hR rfl rfl hP hS (lv_sub hl [2, 3, 1, 0] rfl) h1
def fX2_lastFree_L4 : Nat → Nat → Int → Int → MM → Option (Int)
  | 0, _, _, _, _ => none
  | n + 1, p0, x1_1, x2_1, M_1 => if (M_1 (55 + 6 * p0) 6) ≤ x2_1 then some x1_1 else bnd (fX2_driveFact p0 x2_1 3 M_1) (fun v3 => gd (inR (x2_1 + 1)) (fX2_lastFree_L4 n p0 (imax x1_1 v3) (x2_1 + 1) M_1))
def fX2_lastFree (p0 : Nat) (M : MM) : Option (Int) := bnd (fX2_lastFree_L4 4000 p0 0 0 M) (fun y1_0 => some y1_0)
set_option maxHeartbeats 4000000 in
set_option maxRecDepth 100000 in
theorem kX2_lastFree (l : Launch) (D : va_G) (ca : Nat → ClassId) (v : EV) (ad : Nat → Nat) (hI : aInj 75 ad) (M : MM) (hR : RR M) (p0 : Nat) (hp0 : p0 < 2) (res : Int) (hf : fX2_lastFree p0 M = some res) : CI l yX2_lastFree wsX2_lastFree 1 22 [.ref (ad (55 + 6 * p0))] (PX D ca v ad M) res (inR res) (OX D ca ad M) (aS 75 ad) := by
  refine Met.ofW (cc := cX2_lastFree) (maxL := 3) (ret := (some .int)) (by decide) rfl ?_
  intro p e s m args below meth c s₁ B hml hv
  obtain ⟨rfl, hP, hK, hE⟩ := hv
  have hx := B.exec
  have hb := B.bytes
  have hr := B.returns
  have hts := atoms_spec (ws := wsX2_lastFree) B.pre
  have hown : s.vm.findClass RX2 = some m.cls := findClass_of_methodNamed B.named
  have hlocks := B.notSynchronized
  have hS : va_S (aS 75 ad) s.heap s.heap [] := va_S.rf
  have hinX2 : ∀ w ∈ wsX20, w ∈ wsX2_lastFree := by decide +kernel
  have hl := lv_entry ([.ref (ad (55 + 6 * p0))]) (n := 3) (Nat.le_of_ble_eq_true rfl)
  rw [lg_entry_eq]
  generalize (lg_sl ([.ref (ad (55 + 6 * p0))]) ++ List.replicate (3 - (lg_sl ([.ref (ad (55 + 6 * p0))])).length) Slot.unset).toArray = ls at hl ⊢
  have hl : lv_has ls 3 [(0, .ref (ad (55 + 6 * p0)))] := hl
  unfold fX2_lastFree at hf
  refine lv_iconst (v := J 0) hx hb dX2_lastFree_0 rfl ?_
  refine lv_istore_n (lv' := [(1, .int (J 0)), (0, .ref (ad (55 + 6 * p0)))]) hx hb dX2_lastFree_1 rfl hl (by decide) rfl (fun ls hl => ?_)
  refine lv_iconst (v := J 0) hx hb dX2_lastFree_2 rfl ?_
  refine lv_istore_n (lv' := [(2, .int (J 0)), (1, .int (J 0)), (0, .ref (ad (55 + 6 * p0)))]) hx hb dX2_lastFree_3 rfl hl (by decide) rfl (fun ls hl => ?_)
  obtain ⟨y1_0, h1, hf⟩ := bnd_some hf
  have K1 : ∀ (H : Heap) (locs : List Loc) (ls : Array Slot), inR y1_0 → va_P D vwCl (wX ca ad M) H → va_S (aS 75 ad) s.heap H locs → lv_has ls 3 [(1, .int (J y1_0))] → W p l e (headSpec wsX2_lastFree (RmC 1 22)).room s m ([.ref (ad (55 + 6 * p0))] : List Value).toArray below meth c H locs 0 0 (MQ below (va_Qi (fun x (_ : Unit) => x = J res ∧ (inR res)) (fun _ => (OX D ca ad M)) (aS 75 ad)) ([.ref (ad (55 + 6 * p0))] : List Value).toArray s 0 0 (aS 75 ad)) (F0 m 29 ls []) := by
    intro H locs ls ry1_0 hP hS hl
    refine lv_iload_n hx hb dX2_lastFree_29 rfl (lv_at hl 0 rfl) ?_
    have e1 := Option.some.inj hf
    exact jend_i hx hb hr rfl hS e1 (by rw [← e1]; exact ry1_0) (oX rfl hP) dX2_lastFree_30 hlocks
  have hL1 : ∀ (n : Nat) (x1_1 : Int) (x2_1 : Int) (M_1 : MM) (H : Heap) (locs : List Loc) (ls : Array Slot), inR x1_1 → inR x2_1 → RR M_1 → M_1 = M → va_P D vwCl (wX ca ad M_1) H → va_S (aS 75 ad) s.heap H locs → lv_has ls 3 [(0, .ref (ad (55 + 6 * p0))), (1, .int (J x1_1)), (2, .int (J x2_1))] → fX2_lastFree_L4 n p0 x1_1 x2_1 M_1 = some y1_0 → W p l e (headSpec wsX2_lastFree (RmC 1 22)).room s m ([.ref (ad (55 + 6 * p0))] : List Value).toArray below meth c H locs 0 0 (MQ below (va_Qi (fun x (_ : Unit) => x = J res ∧ (inR res)) (fun _ => (OX D ca ad M)) (aS 75 ad)) ([.ref (ad (55 + 6 * p0))] : List Value).toArray s 0 0 (aS 75 ad)) (F0 m 4 ls []) := by
    intro n
    induction n with
    | zero =>
      intro x1_1 x2_1 M_1 H locs ls rx1_1 rx2_1 hRM_1 e_M_1 hP hS hl hf
      rw [fX2_lastFree_L4] at hf
      cases hf
    | succ n ih =>
      intro x1_1 x2_1 M_1 H locs ls rx1_1 rx2_1 hRM_1 e_M_1 hP hS hl hf
      rw [fX2_lastFree_L4] at hf
      refine lv_iload_n hx hb dX2_lastFree_4 rfl (lv_at hl 2 rfl) ?_
      refine lv_aload_n hx hb dX2_lastFree_5 rfl (lv_at hl 0 rfl) ?_
      refine va_get (D := D) (ci := 2) (v := .int (J (M_1 (55 + 6 * p0) 6))) (C := RX2) (T := TX2) (N := 7) hx hb hts hinX2 hown hK hP (55 + 6 * p0) (wL_get (by omega) (gX_p0 hp0 _)) rfl 6 (by decide) (hts (.fieldLink RX2 37 "VisitVans$Plan" "vanCount" "I") (List.mem_of_getElem? (i := 1) rfl)) (fun _ h => h) rfl dX2_lastFree_6 ?_
      refine jv_icmp_ge (tgt := 29) hx hb dX2_lastFree_9 (by decide) rx2_1 (hRM_1 (55 + 6 * p0) 6) (fun c2 => ?_) (fun c2 => ?_)
      · have hf := itep hf c2
        cases hf
        exact K1 _ _ _ rx1_1  (e_M_1 ▸ hP) hS (lv_sub hl [1] rfl)
      · have hf := iten hf c2
        refine lv_iload_n hx hb dX2_lastFree_12 rfl (lv_at hl 1 rfl) ?_
        refine lv_aload_n hx hb dX2_lastFree_13 rfl (lv_at hl 0 rfl) ?_
        refine lv_iload_n hx hb dX2_lastFree_14 rfl (lv_at hl 2 rfl) ?_
        refine lv_iconst (v := J 3) hx hb dX2_lastFree_15 rfl ?_
        obtain ⟨v3, qv3, hf⟩ := bnd_some hf
        refine jc_i (va_runV (As := [.int (J x2_1), .int (J 3)]) (rest := [.int (J x1_1)]) ⟨hx, hb, hml, hown, hts⟩ (kX2_driveFact l D ca v ad hI M_1 hRM_1 p0 hp0 x2_1 3 rx2_1 (by decide : inR 3) v3 qv3) (cwV 2 hts gX2_lastFree_X2_driveFact rfl rfl rfl (by decide +kernel) ⟨Nat.le_of_ble_eq_true rfl, Nat.le_of_ble_eq_true rfl⟩) (pvX hK hE hP hS [.int (J x2_1), .int (J 3)] (by omega) (gX_p0 hp0 _) rfl) rfl rfl hl.1 rfl (lv_room (Nat.le_of_ble_eq_true rfl)) dX2_lastFree_16 ⟨Nat.zero_le _, Nat.zero_le _⟩) hS (fun H locs t ht hφ hO hS => ?_)
        have rv3 := hφ
        have hP : va_P D vwCl (wX ca ad M_1) H := by rw [← ht]; exact hO
        refine va_mmax hx hb (by rw [hml]; exact hl.1.symm) hown (hts (.methodLink RX2 60 Lib.Math.max.name) (List.mem_of_getElem? (i := 2) rfl)) (hts (.static Lib.Math.max.name) (List.mem_of_getElem? (i := 3) rfl)) (hts (.initialized "java/lang/Math") (List.mem_of_getElem? (i := 4) rfl)) (hts (.code Lib.Math.max.name Lib.Math.max.code 2 (some .int)) (List.mem_of_getElem? (i := 5) rfl)) (Nat.le_of_ble_eq_true rfl) (Nat.le_of_ble_eq_true rfl) (Nat.zero_le _) (Nat.zero_le _) dX2_lastFree_19 ?_
        rw [J_max _ _ rx1_1 rv3]
        refine lv_istore_n (lv' := [(1, .int (J (imax x1_1 v3))), (0, .ref (ad (55 + 6 * p0))), (2, .int (J x2_1))]) hx hb dX2_lastFree_22 rfl hl (by decide) rfl (fun ls hl => ?_)
        refine lv_iinc (v := J (x2_1 + 1)) (lv' := [(2, .int (J (x2_1 + 1))), (1, .int (J (imax x1_1 v3))), (0, .ref (ad (55 + 6 * p0)))]) hx hb dX2_lastFree_23 hl (k := 2) rfl (J_add _ _) (by decide) rfl (fun ls hl => ?_)
        refine lv_goto (tgt := 4) hx hb dX2_lastFree_26 (by decide) ?_
        obtain ⟨g5, hf⟩ := gd_some hf
        exact ih _ _ _ _ _ _ (imax_R rx1_1 rv3) g5 hRM_1 e_M_1 hP hS (lv_sub hl [2, 1, 0] rfl) hf
  exact hL1 4000 _ _ _ _ _ _ (by decide : inR 0) (by decide : inR 0) hR rfl hP hS (lv_sub hl [2, 1, 0] rfl) h1
