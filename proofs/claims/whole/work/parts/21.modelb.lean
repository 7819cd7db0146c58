/-! METHODS: pure functions and the walks of their bytecode, laid by program (wip/whole): X5_ofVisit X5_visitsOf X5_eventsOf X5_ofVan X5_stock X5_nextVisit X5_tells X5_event X5_overVans X5_count X5_wanted Jxf58ca_isNaN_12338 Jxf58ca_floatToIntBits_5c35a X5_share Jxe99ae_isNaN_b9ae7 Jxe99ae_doubleToLongBits_ccdee X5_meanWay X5_would X5_withVan X5_brokenAt X5_slowest X5_put X5_wipe X5_sign X5_wants X5_digit X5_number X5_readsVisit X5_readsVan X5_readsOrder X5_reads X5_fault X5_refusesOrder X5_does X5_carryOut X5_undo X5_save X5_restore -/
def fX5_ofVisit (a1 : Int) (a2 : Int) (M : MM) : Option (Int × MM) := bnd (some (stM M 0 0 0)) (fun M1 => bnd (fX5_isVisit a1 M1) (fun v2 => if v2 = 0 then some ((-1), M1) else bnd (fX5_plans M1) (fun M6 => if a2 = 6 then bnd (rd M6 7 21 a1) (fun v8 => some (v8, M6)) else if a2 = 7 then bnd (rd M6 8 21 a1) (fun v9 => some (v9, M6)) else if a2 = 8 then bnd (rd M6 9 21 a1) (fun v10 => some (v10, M6)) else if a2 = 9 then bnd (rd M6 9 21 a1) (fun v11 => bnd (if v11 = (-6) then some (((-6) : Int)) else bnd (rd M6 9 21 a1) (fun v14 => bnd (rd M6 1 160 1) (fun v15 => gd (inR (v14 + v15)) (some ((v14 + v15)))))) (fun y13_0 => some (y13_0, M6))) else bnd (fX5_in a2 0 5) (fun v17 => bnd (if v17 = 0 then some (((-2) : Int)) else bnd (fX5_visit0 a1 a2 M6) (fun v21 => some (v21))) (fun y20_0 => some (y20_0, M6))))))
set_option maxHeartbeats 4000000 in
set_option maxRecDepth 100000 in
theorem kX5_ofVisit (l : Launch) (D : va_G) (ca : Nat → ClassId) (ad : Nat → Nat) (hI : aInj 18 ad) (M : MM) (hR : RR M) (a1 : Int) (a2 : Int) (i1 : inR a1) (i2 : inR a2) (res : Int) (M' : MM) (hf : fX5_ofVisit a1 a2 M = some (res, M')) : CI l yX5_ofVisit wsX5_ofVisit 6 141 [.ref (ad 0), .int (J a1), .int (J a2)] (PY D ca ad M) res (inR res ∧ RR M') (OY D ca ad M') (aS 18 ad) := by
  refine Met.ofW (cc := cX5_ofVisit) (maxL := 3) (ret := (some .int)) (by decide) rfl ?_
  intro p e s m args below meth c s₁ B hml hv
  obtain ⟨rfl, hP, hK⟩ := hv
  have hx := B.exec
  have hb := B.bytes
  have hr := B.returns
  have hts := atoms_spec (ws := wsX5_ofVisit) B.pre
  have hown : s.vm.findClass RX5 = some m.cls := findClass_of_methodNamed B.named
  have hlocks := B.notSynchronized
  have hS : va_S (aS 18 ad) s.heap s.heap [] := va_S.rf
  have hinX5 : ∀ w ∈ wsX50, w ∈ wsX5_ofVisit := by decide +kernel
  have hl := lv_entry ([.ref (ad 0), .int (J a1), .int (J a2)]) (n := 3) (Nat.le_of_ble_eq_true rfl)
  rw [lg_entry_eq]
  generalize (lg_sl ([.ref (ad 0), .int (J a1), .int (J a2)]) ++ List.replicate (3 - (lg_sl ([.ref (ad 0), .int (J a1), .int (J a2)])).length) Slot.unset).toArray = ls at hl ⊢
  have hl : lv_has ls 3 [(0, .ref (ad 0)), (1, .int (J a1)), (2, .int (J a2))] := hl
  unfold fX5_ofVisit at hf
  refine lv_aload_n hx hb dX5_ofVisit_0 rfl (lv_at hl 0 rfl) ?_
  refine lv_iconst (v := J 0) hx hb dX5_ofVisit_1 rfl ?_
  obtain ⟨M1, eM1, hf⟩ := bnd_some hf
  have eM1 := Option.some.inj eM1
  have hRM1 : RR M1 := by rw [← eM1]; exact RR_st hR 0 0 (by decide : inR 0)
  refine va_put (D := D) (ci := 5) (v := .int (J 0)) (ty := .int) (C := RX5) (T := TX5) (N := 23) hx hb hts hinX5 tyX5 tyX5_ok nmX5 hown hK hP (wL_D hI M) hS 0 (wL_get (by decide) (gY_0 _)) rfl 0 (by decide) (hts (.fieldLink RX5 62 "VisitVansModel" "thrown" "I") (List.mem_of_getElem? (i := 1) rfl)) (fun _ h => h) rfl rfl rfl rfl (Nat.le_of_ble_eq_true rfl) dX5_ofVisit_2 (fun H locs hP hD hS => ?_)
  have hP : va_P D vwCl (wY ca ad M1) H := by rw [← eM1]; exact hPset (gY_0_s0) stM_o hP
  refine lv_aload_n hx hb dX5_ofVisit_5 rfl (lv_at hl 0 rfl) ?_
  refine lv_iload_n hx hb dX5_ofVisit_6 rfl (lv_at hl 1 rfl) ?_
  obtain ⟨v2, qv2, hf⟩ := bnd_some hf
  refine jc_i (va_runV (As := [.int (J a1)]) (rest := []) ⟨hx, hb, hml, hown, hts⟩ (kX5_isVisit l D ca ad hI M1 hRM1 a1 i1 v2 qv2) (cwV 1 hts gX5_ofVisit_X5_isVisit rfl rfl rfl (by decide +kernel) ⟨Nat.le_of_ble_eq_true rfl, Nat.le_of_ble_eq_true rfl⟩) (pvY hK hP [.int (J a1)]) rfl rfl hl.1 rfl (lv_room (Nat.le_of_ble_eq_true rfl)) dX5_ofVisit_7 ⟨Nat.zero_le _, Nat.zero_le _⟩) hS (fun H locs t ht hφ hO hS => ?_)
  have rv2 := hφ
  have hP : va_P D vwCl (wY ca ad M1) H := by rw [← ht]; exact hO
  refine jv_if_ne (tgt := 15) hx hb dX5_ofVisit_10 (by decide) rv2 (fun c4 => ?_) (fun c4 => ?_)
  · have hf := iten hf c4
    refine lv_aload_n hx hb dX5_ofVisit_15 rfl (lv_at hl 0 rfl) ?_
    obtain ⟨M6, qM6, hf⟩ := bnd_some hf
    refine jc_v (va_runV (As := []) (rest := []) ⟨hx, hb, hml, hown, hts⟩ (kX5_plans l D ca ad hI M1 hRM1 M6 qM6) (cwV 0 hts gX5_ofVisit_X5_plans rfl rfl rfl (by decide +kernel) ⟨Nat.le_of_ble_eq_true rfl, Nat.le_of_ble_eq_true rfl⟩) (pvY hK hP []) rfl rfl hl.1 rfl (lv_room (Nat.le_of_ble_eq_true rfl)) dX5_ofVisit_16 ⟨Nat.zero_le _, Nat.zero_le _⟩) hS (fun H locs t ht hφ hO hS => ?_)
    have hRM6 := hφ
    have hP : va_P D vwCl (wY ca ad M6) H := by rw [← ht]; exact hO
    refine lv_iload_n hx hb dX5_ofVisit_19 rfl (lv_at hl 2 rfl) ?_
    by_cases c7_0 : a2 = 6
    · have hf := itep hf c7_0
      refine jv_tIn (k := 6) (tgt := 52) hx hb dX5_ofVisit_20 i2 c7_0 (by decide) (by decide) rfl (by decide) ?_
      refine lv_aload_n hx hb dX5_ofVisit_52 rfl (lv_at hl 0 rfl) ?_
      refine va_get (D := D) (ci := 5) (v := .ref (ad 7)) (C := RX5) (T := TX5) (N := 23) hx hb hts hinX5 hown hK hP 0 (wL_get (by decide) (gY_0 _)) rfl 9 (by decide) (hts (.fieldLink RX5 29 "VisitVansModel" "promise" "[I") (List.mem_of_getElem? (i := 2) rfl)) (fun _ h => h) rfl dX5_ofVisit_53 ?_
      refine lv_iload_n hx hb dX5_ofVisit_56 rfl (lv_at hl 1 rfl) ?_
      obtain ⟨v8, qv8, hf⟩ := bnd_some hf
      obtain ⟨bv8, ev8⟩ := rd_some qv8
      have rv8 : inR v8 := by rw [ev8]; exact hRM6 _ _
      refine jx_iald hx hb hK hP 7 0 (by decide) gY_7 rfl (by decide) bv8 ev8 dX5_ofVisit_57 ?_
      obtain ⟨e1, e2⟩ := Prod.mk.inj (Option.some.inj hf)
      exact jend_i hx hb hr rfl hS e1 ⟨by rw [← e1]; exact rv8, by rw [← e2]; exact hRM6⟩ (oY e2 hP) dX5_ofVisit_58 hlocks
    · have hf := iten hf c7_0
      by_cases c7_1 : a2 = 7
      · have hf := itep hf c7_1
        refine jv_tIn (k := 7) (tgt := 59) hx hb dX5_ofVisit_20 i2 c7_1 (by decide) (by decide) rfl (by decide) ?_
        refine lv_aload_n hx hb dX5_ofVisit_59 rfl (lv_at hl 0 rfl) ?_
        refine va_get (D := D) (ci := 5) (v := .ref (ad 8)) (C := RX5) (T := TX5) (N := 23) hx hb hts hinX5 hown hK hP 0 (wL_get (by decide) (gY_0 _)) rfl 10 (by decide) (hts (.fieldLink RX5 32 "VisitVansModel" "vanOf" "[I") (List.mem_of_getElem? (i := 3) rfl)) (fun _ h => h) rfl dX5_ofVisit_60 ?_
        refine lv_iload_n hx hb dX5_ofVisit_63 rfl (lv_at hl 1 rfl) ?_
        obtain ⟨v9, qv9, hf⟩ := bnd_some hf
        obtain ⟨bv9, ev9⟩ := rd_some qv9
        have rv9 : inR v9 := by rw [ev9]; exact hRM6 _ _
        refine jx_iald hx hb hK hP 8 0 (by decide) gY_8 rfl (by decide) bv9 ev9 dX5_ofVisit_64 ?_
        obtain ⟨e1, e2⟩ := Prod.mk.inj (Option.some.inj hf)
        exact jend_i hx hb hr rfl hS e1 ⟨by rw [← e1]; exact rv9, by rw [← e2]; exact hRM6⟩ (oY e2 hP) dX5_ofVisit_65 hlocks
      · have hf := iten hf c7_1
        by_cases c7_2 : a2 = 8
        · have hf := itep hf c7_2
          refine jv_tIn (k := 8) (tgt := 66) hx hb dX5_ofVisit_20 i2 c7_2 (by decide) (by decide) rfl (by decide) ?_
          refine lv_aload_n hx hb dX5_ofVisit_66 rfl (lv_at hl 0 rfl) ?_
          refine va_get (D := D) (ci := 5) (v := .ref (ad 9)) (C := RX5) (T := TX5) (N := 23) hx hb hts hinX5 hown hK hP 0 (wL_get (by decide) (gY_0 _)) rfl 11 (by decide) (hts (.fieldLink RX5 35 "VisitVansModel" "begins" "[I") (List.mem_of_getElem? (i := 4) rfl)) (fun _ h => h) rfl dX5_ofVisit_67 ?_
          refine lv_iload_n hx hb dX5_ofVisit_70 rfl (lv_at hl 1 rfl) ?_
          obtain ⟨v10, qv10, hf⟩ := bnd_some hf
          obtain ⟨bv10, ev10⟩ := rd_some qv10
          have rv10 : inR v10 := by rw [ev10]; exact hRM6 _ _
          refine jx_iald hx hb hK hP 9 0 (by decide) gY_9 rfl (by decide) bv10 ev10 dX5_ofVisit_71 ?_
          obtain ⟨e1, e2⟩ := Prod.mk.inj (Option.some.inj hf)
          exact jend_i hx hb hr rfl hS e1 ⟨by rw [← e1]; exact rv10, by rw [← e2]; exact hRM6⟩ (oY e2 hP) dX5_ofVisit_72 hlocks
        · have hf := iten hf c7_2
          by_cases c7_3 : a2 = 9
          · have hf := itep hf c7_3
            refine jv_tIn (k := 9) (tgt := 73) hx hb dX5_ofVisit_20 i2 c7_3 (by decide) (by decide) rfl (by decide) ?_
            refine lv_aload_n hx hb dX5_ofVisit_73 rfl (lv_at hl 0 rfl) ?_
            refine va_get (D := D) (ci := 5) (v := .ref (ad 9)) (C := RX5) (T := TX5) (N := 23) hx hb hts hinX5 hown hK hP 0 (wL_get (by decide) (gY_0 _)) rfl 11 (by decide) (hts (.fieldLink RX5 35 "VisitVansModel" "begins" "[I") (List.mem_of_getElem? (i := 4) rfl)) (fun _ h => h) rfl dX5_ofVisit_74 ?_
            refine lv_iload_n hx hb dX5_ofVisit_77 rfl (lv_at hl 1 rfl) ?_
            obtain ⟨v11, qv11, hf⟩ := bnd_some hf
            obtain ⟨bv11, ev11⟩ := rd_some qv11
            have rv11 : inR v11 := by rw [ev11]; exact hRM6 _ _
            refine jx_iald hx hb hK hP 9 0 (by decide) gY_9 rfl (by decide) bv11 ev11 dX5_ofVisit_78 ?_
            refine lv_bipush (v := J (-6)) hx hb dX5_ofVisit_79 (by decide +kernel) ?_
            obtain ⟨y13_0, h13, hf⟩ := bnd_some hf
            have K13 : ∀ (H : Heap) (locs : List Loc) (ls : Array Slot), inR y13_0 → va_P D vwCl (wY ca ad M6) H → va_S (aS 18 ad) s.heap H locs → lv_has ls 3 [] → W p l e (headSpec wsX5_ofVisit (RmC 6 141)).room s m ([.ref (ad 0), .int (J a1), .int (J a2)] : List Value).toArray below meth c H locs 0 0 (MQ below (va_Qi (fun x (_ : Unit) => x = J res ∧ (inR res ∧ RR M')) (fun _ => (OY D ca ad M')) (aS 18 ad)) ([.ref (ad 0), .int (J a1), .int (J a2)] : List Value).toArray s 0 0 (aS 18 ad)) (F0 m 102 ls [.int (J y13_0)]) := by
              intro H locs ls ry13_0  hP hS hl
              obtain ⟨e1, e2⟩ := Prod.mk.inj (Option.some.inj hf)
              exact jend_i hx hb hr rfl hS e1 ⟨by rw [← e1]; exact ry13_0, by rw [← e2]; exact hRM6⟩ (oY e2 hP) dX5_ofVisit_102 hlocks
            have hf := h13
            clear h13
            refine jv_icmp_ne (tgt := 89) hx hb dX5_ofVisit_81 (by decide) rv11 (by decide : inR (-6)) (fun c12 => ?_) (fun c12 => ?_)
            · have hf := iten hf c12
              refine lv_aload_n hx hb dX5_ofVisit_89 rfl (lv_at hl 0 rfl) ?_
              refine va_get (D := D) (ci := 5) (v := .ref (ad 9)) (C := RX5) (T := TX5) (N := 23) hx hb hts hinX5 hown hK hP 0 (wL_get (by decide) (gY_0 _)) rfl 11 (by decide) (hts (.fieldLink RX5 35 "VisitVansModel" "begins" "[I") (List.mem_of_getElem? (i := 4) rfl)) (fun _ h => h) rfl dX5_ofVisit_90 ?_
              refine lv_iload_n hx hb dX5_ofVisit_93 rfl (lv_at hl 1 rfl) ?_
              obtain ⟨v14, qv14, hf⟩ := bnd_some hf
              obtain ⟨bv14, ev14⟩ := rd_some qv14
              have rv14 : inR v14 := by rw [ev14]; exact hRM6 _ _
              refine jx_iald hx hb hK hP 9 0 (by decide) gY_9 rfl (by decide) bv14 ev14 dX5_ofVisit_94 ?_
              refine lv_aload_n hx hb dX5_ofVisit_95 rfl (lv_at hl 0 rfl) ?_
              refine va_get (D := D) (ci := 5) (v := .ref (ad 1)) (C := RX5) (T := TX5) (N := 23) hx hb hts hinX5 hown hK hP 0 (wL_get (by decide) (gY_0 _)) rfl 1 (by decide) (hts (.fieldLink RX5 7 "VisitVansModel" "s" "[I") (List.mem_of_getElem? (i := 5) rfl)) (fun _ h => h) rfl dX5_ofVisit_96 ?_
              refine lv_iconst (v := J 1) hx hb dX5_ofVisit_99 rfl ?_
              obtain ⟨v15, qv15, hf⟩ := bnd_some hf
              obtain ⟨bv15, ev15⟩ := rd_some qv15
              have rv15 : inR v15 := by rw [ev15]; exact hRM6 _ _
              refine jx_iald hx hb hK hP 1 0 (by decide) gY_1 rfl (by decide) bv15 ev15 dX5_ofVisit_100 ?_
              refine jv_iadd hx hb dX5_ofVisit_101 ?_
              obtain ⟨g16, hf⟩ := gd_some hf
              cases hf
              exact K13 _ _ _ g16  hP hS (lv_sub hl [] rfl)
            · have hf := itep hf c12
              refine lv_bipush (v := J (-6)) hx hb dX5_ofVisit_84 (by decide +kernel) ?_
              refine lv_goto (tgt := 102) hx hb dX5_ofVisit_86 (by decide) ?_
              cases hf
              exact K13 _ _ _ (by decide : inR (-6))  hP hS (lv_sub hl [] rfl)
          · have hf := iten hf c7_3
            refine jv_tOut (tgt := 103) hx hb dX5_ofVisit_20 i2 (by omega) (by decide) ?_
            refine lv_iload_n hx hb dX5_ofVisit_103 rfl (lv_at hl 2 rfl) ?_
            refine lv_iconst (v := J 0) hx hb dX5_ofVisit_104 rfl ?_
            refine lv_iconst (v := J 5) hx hb dX5_ofVisit_105 rfl ?_
            obtain ⟨v17, qv17, hf⟩ := bnd_some hf
            refine jc_i (va_runS (As := [.int (J a2), .int (J 0), .int (J 5)]) (rest := []) ⟨hx, hb, hml, hown, hts⟩ (kX5_in l D ca ad hI M6 hRM6 a2 0 5 i2 (by decide : inR 0) (by decide : inR 5) v17 qv17) (va_cwS 3 hts gX5_ofVisit_X5_in rfl rfl rfl (by decide +kernel) ⟨Nat.le_of_ble_eq_true rfl, Nat.le_of_ble_eq_true rfl⟩) (psY hK hP [.int (J a2), .int (J 0), .int (J 5)]) rfl rfl hl.1 rfl (lv_room (Nat.le_of_ble_eq_true rfl)) dX5_ofVisit_106 ⟨Nat.zero_le _, Nat.zero_le _⟩) hS (fun H locs t ht hφ hO hS => ?_)
            have rv17 := hφ
            have hP : va_P D vwCl (wY ca ad M6) H := by rw [← ht]; exact hO
            obtain ⟨y20_0, h20, hf⟩ := bnd_some hf
            have K20 : ∀ (H : Heap) (locs : List Loc) (ls : Array Slot), inR y20_0 → va_P D vwCl (wY ca ad M6) H → va_S (aS 18 ad) s.heap H locs → lv_has ls 3 [] → W p l e (headSpec wsX5_ofVisit (RmC 6 141)).room s m ([.ref (ad 0), .int (J a1), .int (J a2)] : List Value).toArray below meth c H locs 0 0 (MQ below (va_Qi (fun x (_ : Unit) => x = J res ∧ (inR res ∧ RR M')) (fun _ => (OY D ca ad M')) (aS 18 ad)) ([.ref (ad 0), .int (J a1), .int (J a2)] : List Value).toArray s 0 0 (aS 18 ad)) (F0 m 123 ls [.int (J y20_0)]) := by
              intro H locs ls ry20_0  hP hS hl
              obtain ⟨e1, e2⟩ := Prod.mk.inj (Option.some.inj hf)
              exact jend_i hx hb hr rfl hS e1 ⟨by rw [← e1]; exact ry20_0, by rw [← e2]; exact hRM6⟩ (oY e2 hP) dX5_ofVisit_123 hlocks
            have hf := h20
            clear h20
            refine jv_if_eq (tgt := 121) hx hb dX5_ofVisit_109 (by decide) rv17 (fun c19 => ?_) (fun c19 => ?_)
            · have hf := itep hf c19
              refine lv_bipush (v := J (-2)) hx hb dX5_ofVisit_121 (by decide +kernel) ?_
              cases hf
              exact K20 _ _ _ (by decide : inR (-2))  hP hS (lv_sub hl [] rfl)
            · have hf := iten hf c19
              refine lv_aload_n hx hb dX5_ofVisit_112 rfl (lv_at hl 0 rfl) ?_
              refine lv_iload_n hx hb dX5_ofVisit_113 rfl (lv_at hl 1 rfl) ?_
              refine lv_iload_n hx hb dX5_ofVisit_114 rfl (lv_at hl 2 rfl) ?_
              obtain ⟨v21, qv21, hf⟩ := bnd_some hf
              refine jc_i (va_runV (As := [.int (J a1), .int (J a2)]) (rest := []) ⟨hx, hb, hml, hown, hts⟩ (kX5_visit0 l D ca ad hI M6 hRM6 a1 a2 i1 i2 v21 qv21) (cwV 2 hts gX5_ofVisit_X5_visit0 rfl rfl rfl (by decide +kernel) ⟨Nat.le_of_ble_eq_true rfl, Nat.le_of_ble_eq_true rfl⟩) (pvY hK hP [.int (J a1), .int (J a2)]) rfl rfl hl.1 rfl (lv_room (Nat.le_of_ble_eq_true rfl)) dX5_ofVisit_115 ⟨Nat.zero_le _, Nat.zero_le _⟩) hS (fun H locs t ht hφ hO hS => ?_)
              have rv21 := hφ
              have hP : va_P D vwCl (wY ca ad M6) H := by rw [← ht]; exact hO
              refine lv_goto (tgt := 123) hx hb dX5_ofVisit_118 (by decide) ?_
              cases hf
              exact K20 _ _ _ rv21  hP hS (lv_sub hl [] rfl)
  · have hf := itep hf c4
    refine lv_iconst (v := J (-1)) hx hb dX5_ofVisit_13 rfl ?_
    obtain ⟨e1, e2⟩ := Prod.mk.inj (Option.some.inj hf)
    exact jend_i hx hb hr rfl hS e1 ⟨by rw [← e1]; exact (by decide : inR (-1)), by rw [← e2]; exact hRM1⟩ (oY e2 hP) dX5_ofVisit_14 hlocks
def fX5_visitsOf_L4 : Nat → Int → Int → Int → MM → Option (Int)
  | 0, _, _, _, _ => none
  | n + 1, x1_1, x2_1, x3_1, M_1 => bnd (rd M_1 1 160 3) (fun v2 => if v2 ≤ x3_1 then some x2_1 else bnd (rd M_1 8 21 x3_1) (fun v4 => bnd (if v4 = x1_1 then some ((ishl 1 x3_1)) else some ((0 : Int))) (fun y6_0 => gd (inR (x3_1 + 1)) (fX5_visitsOf_L4 n x1_1 (ior x2_1 y6_0) (x3_1 + 1) M_1))))
def fX5_visitsOf (a1 : Int) (M : MM) : Option (Int) := bnd (fX5_visitsOf_L4 4000 a1 0 0 M) (fun y1_0 => some y1_0)
set_option maxHeartbeats 4000000 in
set_option maxRecDepth 100000 in
theorem kX5_visitsOf (l : Launch) (D : va_G) (ca : Nat → ClassId) (ad : Nat → Nat) (hI : aInj 18 ad) (M : MM) (hR : RR M) (a1 : Int) (i1 : inR a1) (res : Int) (hf : fX5_visitsOf a1 M = some res) : CI l yX5_visitsOf wsX5_visitsOf 0 0 [.ref (ad 0), .int (J a1)] (PY D ca ad M) res (inR res) (OY D ca ad M) (aS 18 ad) := by
  refine Met.ofW (cc := cX5_visitsOf) (maxL := 4) (ret := (some .int)) (by decide) rfl ?_
  intro p e s m args below meth c s₁ B hml hv
  obtain ⟨rfl, hP, hK⟩ := hv
  have hx := B.exec
  have hb := B.bytes
  have hr := B.returns
  have hts := atoms_spec (ws := wsX5_visitsOf) B.pre
  have hown : s.vm.findClass RX5 = some m.cls := findClass_of_methodNamed B.named
  have hlocks := B.notSynchronized
  have hS : va_S (aS 18 ad) s.heap s.heap [] := va_S.rf
  have hinX5 : ∀ w ∈ wsX50, w ∈ wsX5_visitsOf := by decide +kernel
  have hl := lv_entry ([.ref (ad 0), .int (J a1)]) (n := 4) (Nat.le_of_ble_eq_true rfl)
  rw [lg_entry_eq]
  generalize (lg_sl ([.ref (ad 0), .int (J a1)]) ++ List.replicate (4 - (lg_sl ([.ref (ad 0), .int (J a1)])).length) Slot.unset).toArray = ls at hl ⊢
  have hl : lv_has ls 4 [(0, .ref (ad 0)), (1, .int (J a1))] := hl
  unfold fX5_visitsOf at hf
  refine lv_iconst (v := J 0) hx hb dX5_visitsOf_0 rfl ?_
  refine lv_istore_n (lv' := [(2, .int (J 0)), (0, .ref (ad 0)), (1, .int (J a1))]) hx hb dX5_visitsOf_1 rfl hl (by decide) rfl (fun ls hl => ?_)
  refine lv_iconst (v := J 0) hx hb dX5_visitsOf_2 rfl ?_
  refine lv_istore_n (lv' := [(3, .int (J 0)), (2, .int (J 0)), (0, .ref (ad 0)), (1, .int (J a1))]) hx hb dX5_visitsOf_3 rfl hl (by decide) rfl (fun ls hl => ?_)
  obtain ⟨y1_0, h1, hf⟩ := bnd_some hf
  have K1 : ∀ (H : Heap) (locs : List Loc) (ls : Array Slot), inR y1_0 → va_P D vwCl (wY ca ad M) H → va_S (aS 18 ad) s.heap H locs → lv_has ls 4 [(2, .int (J y1_0))] → W p l e (headSpec wsX5_visitsOf (RmC 0 0)).room s m ([.ref (ad 0), .int (J a1)] : List Value).toArray below meth c H locs 0 0 (MQ below (va_Qi (fun x (_ : Unit) => x = J res ∧ (inR res)) (fun _ => (OY D ca ad M)) (aS 18 ad)) ([.ref (ad 0), .int (J a1)] : List Value).toArray s 0 0 (aS 18 ad)) (F0 m 40 ls []) := by
    intro H locs ls ry1_0 hP hS hl
    refine lv_iload_n hx hb dX5_visitsOf_40 rfl (lv_at hl 0 rfl) ?_
    have e1 := Option.some.inj hf
    exact jend_i hx hb hr rfl hS e1 (by rw [← e1]; exact ry1_0) (oY rfl hP) dX5_visitsOf_41 hlocks
  have hL1 : ∀ (n : Nat) (x1_1 : Int) (x2_1 : Int) (x3_1 : Int) (M_1 : MM) (H : Heap) (locs : List Loc) (ls : Array Slot), inR x1_1 → inR x2_1 → inR x3_1 → RR M_1 → x1_1 = a1 → M_1 = M → va_P D vwCl (wY ca ad M_1) H → va_S (aS 18 ad) s.heap H locs → lv_has ls 4 [(0, .ref (ad 0)), (1, .int (J x1_1)), (2, .int (J x2_1)), (3, .int (J x3_1))] → fX5_visitsOf_L4 n x1_1 x2_1 x3_1 M_1 = some y1_0 → W p l e (headSpec wsX5_visitsOf (RmC 0 0)).room s m ([.ref (ad 0), .int (J a1)] : List Value).toArray below meth c H locs 0 0 (MQ below (va_Qi (fun x (_ : Unit) => x = J res ∧ (inR res)) (fun _ => (OY D ca ad M)) (aS 18 ad)) ([.ref (ad 0), .int (J a1)] : List Value).toArray s 0 0 (aS 18 ad)) (F0 m 4 ls []) := by
    intro n
    induction n with
    | zero =>
      intro x1_1 x2_1 x3_1 M_1 H locs ls rx1_1 rx2_1 rx3_1 hRM_1 e_x1_1 e_M_1 hP hS hl hf
      rw [fX5_visitsOf_L4] at hf
      cases hf
    | succ n ih =>
      intro x1_1 x2_1 x3_1 M_1 H locs ls rx1_1 rx2_1 rx3_1 hRM_1 e_x1_1 e_M_1 hP hS hl hf
      rw [fX5_visitsOf_L4] at hf
      refine lv_iload_n hx hb dX5_visitsOf_4 rfl (lv_at hl 3 rfl) ?_
      refine lv_aload_n hx hb dX5_visitsOf_5 rfl (lv_at hl 0 rfl) ?_
      refine va_get (D := D) (ci := 5) (v := .ref (ad 1)) (C := RX5) (T := TX5) (N := 23) hx hb hts hinX5 hown hK hP 0 (wL_get (by decide) (gY_0 _)) rfl 1 (by decide) (hts (.fieldLink RX5 7 "VisitVansModel" "s" "[I") (List.mem_of_getElem? (i := 1) rfl)) (fun _ h => h) rfl dX5_visitsOf_6 ?_
      refine lv_iconst (v := J 3) hx hb dX5_visitsOf_9 rfl ?_
      obtain ⟨v2, qv2, hf⟩ := bnd_some hf
      obtain ⟨bv2, ev2⟩ := rd_some qv2
      have rv2 : inR v2 := by rw [ev2]; exact hRM_1 _ _
      refine jx_iald hx hb hK hP 1 0 (by decide) gY_1 rfl (by decide) bv2 ev2 dX5_visitsOf_10 ?_
      refine jv_icmp_ge (tgt := 40) hx hb dX5_visitsOf_11 (by decide) rx3_1 rv2 (fun c3 => ?_) (fun c3 => ?_)
      · have hf := itep hf c3
        cases hf
        exact K1 _ _ _ rx2_1  (e_M_1 ▸ hP) hS (lv_sub hl [2] (by subst e_x1_1; rfl))
      · have hf := iten hf c3
        refine lv_iload_n hx hb dX5_visitsOf_14 rfl (lv_at hl 2 rfl) ?_
        refine lv_aload_n hx hb dX5_visitsOf_15 rfl (lv_at hl 0 rfl) ?_
        refine va_get (D := D) (ci := 5) (v := .ref (ad 8)) (C := RX5) (T := TX5) (N := 23) hx hb hts hinX5 hown hK hP 0 (wL_get (by decide) (gY_0 _)) rfl 10 (by decide) (hts (.fieldLink RX5 32 "VisitVansModel" "vanOf" "[I") (List.mem_of_getElem? (i := 2) rfl)) (fun _ h => h) rfl dX5_visitsOf_16 ?_
        refine lv_iload_n hx hb dX5_visitsOf_19 rfl (lv_at hl 3 rfl) ?_
        obtain ⟨v4, qv4, hf⟩ := bnd_some hf
        obtain ⟨bv4, ev4⟩ := rd_some qv4
        have rv4 : inR v4 := by rw [ev4]; exact hRM_1 _ _
        refine jx_iald hx hb hK hP 8 0 (by decide) gY_8 rfl (by decide) bv4 ev4 dX5_visitsOf_20 ?_
        refine lv_iload_n hx hb dX5_visitsOf_21 rfl (lv_at hl 1 rfl) ?_
        obtain ⟨y6_0, h6, hf⟩ := bnd_some hf
        have K6 : ∀ (H : Heap) (locs : List Loc) (ls : Array Slot), inR y6_0 → va_P D vwCl (wY ca ad M_1) H → va_S (aS 18 ad) s.heap H locs → lv_has ls 4 [(0, .ref (ad 0)), (1, .int (J x1_1)), (3, .int (J x3_1))] → W p l e (headSpec wsX5_visitsOf (RmC 0 0)).room s m ([.ref (ad 0), .int (J a1)] : List Value).toArray below meth c H locs 0 0 (MQ below (va_Qi (fun x (_ : Unit) => x = J res ∧ (inR res)) (fun _ => (OY D ca ad M)) (aS 18 ad)) ([.ref (ad 0), .int (J a1)] : List Value).toArray s 0 0 (aS 18 ad)) (F0 m 32 ls [.int (J y6_0), .int (J x2_1)]) := by
          intro H locs ls ry6_0  hP hS hl
          refine jv_ior hx hb dX5_visitsOf_32 ?_
          refine lv_istore_n (lv' := [(2, .int (J (ior x2_1 y6_0))), (0, .ref (ad 0)), (1, .int (J x1_1)), (3, .int (J x3_1))]) hx hb dX5_visitsOf_33 rfl hl (by decide) rfl (fun ls hl => ?_)
          refine lv_iinc (v := J (x3_1 + 1)) (lv' := [(3, .int (J (x3_1 + 1))), (2, .int (J (ior x2_1 y6_0))), (0, .ref (ad 0)), (1, .int (J x1_1))]) hx hb dX5_visitsOf_34 hl (k := 3) rfl (J_add _ _) (by decide) rfl (fun ls hl => ?_)
          refine lv_goto (tgt := 4) hx hb dX5_visitsOf_37 (by decide) ?_
          obtain ⟨g7, hf⟩ := gd_some hf
          exact ih _ _ _ _ _ _ _ rx1_1 (J_inR _) g7 hRM_1 e_x1_1 e_M_1 hP hS (lv_sub hl [2, 3, 1, 0] rfl) hf
        have hf := h6
        clear h6
        refine jv_icmp_ne (tgt := 31) hx hb dX5_visitsOf_22 (by decide) rv4 rx1_1 (fun c5 => ?_) (fun c5 => ?_)
        · have hf := iten hf c5
          refine lv_iconst (v := J 0) hx hb dX5_visitsOf_31 rfl ?_
          cases hf
          exact K6 _ _ _ (by decide : inR 0)  hP hS (lv_sub hl [0, 1, 3] rfl)
        · have hf := itep hf c5
          refine lv_iconst (v := J 1) hx hb dX5_visitsOf_25 rfl ?_
          refine lv_iload_n hx hb dX5_visitsOf_26 rfl (lv_at hl 3 rfl) ?_
          refine jv_ishl hx hb dX5_visitsOf_27 ?_
          refine lv_goto (tgt := 32) hx hb dX5_visitsOf_28 (by decide) ?_
          cases hf
          exact K6 _ _ _ (J_inR _)  hP hS (lv_sub hl [0, 1, 3] rfl)
  exact hL1 4000 _ _ _ _ _ _ _ i1 (by decide : inR 0) (by decide : inR 0) hR rfl rfl hP hS (lv_sub hl [2, 3, 1, 0] rfl) h1
def fX5_eventsOf_L4 : Nat → Int → Int → Int → MM → Option (Int)
  | 0, _, _, _, _ => none
  | n + 1, x1_1, x2_1, x3_1, M_1 => bnd (rd M_1 1 160 3) (fun v2 => if v2 ≤ x3_1 then some x2_1 else bnd (rd M_1 10 21 x3_1) (fun v4 => bnd (rd M_1 11 21 x3_1) (fun v5 => bnd (if v4 ≤ v5 then some ((0 : Int)) else some ((1 : Int))) (fun y7_0 => bnd (rd M_1 9 21 x3_1) (fun v8 => bnd (rd M_1 10 21 x3_1) (fun v9 => bnd (if v8 ≤ v9 then some ((0 : Int)) else some ((1 : Int))) (fun y11_0 => bnd (rd M_1 8 21 x3_1) (fun v12 => bnd (if v12 = x1_1 then gd (inR ((1 + y7_0) + y11_0)) (some (((1 + y7_0) + y11_0))) else some ((0 : Int))) (fun y14_0 => gd (inR (x2_1 + y14_0)) (gd (inR (x3_1 + 1)) (fX5_eventsOf_L4 n x1_1 (x2_1 + y14_0) (x3_1 + 1) M_1)))))))))))
def fX5_eventsOf (a1 : Int) (M : MM) : Option (Int) := bnd (fX5_eventsOf_L4 4000 a1 0 0 M) (fun y1_0 => some y1_0)
set_option maxHeartbeats 4000000 in
set_option maxRecDepth 100000 in
theorem kX5_eventsOf (l : Launch) (D : va_G) (ca : Nat → ClassId) (ad : Nat → Nat) (hI : aInj 18 ad) (M : MM) (hR : RR M) (a1 : Int) (i1 : inR a1) (res : Int) (hf : fX5_eventsOf a1 M = some res) : CI l yX5_eventsOf wsX5_eventsOf 0 0 [.ref (ad 0), .int (J a1)] (PY D ca ad M) res (inR res) (OY D ca ad M) (aS 18 ad) := by
  refine Met.ofW (cc := cX5_eventsOf) (maxL := 5) (ret := (some .int)) (by decide) rfl ?_
  intro p e s m args below meth c s₁ B hml hv
  obtain ⟨rfl, hP, hK⟩ := hv
  have hx := B.exec
  have hb := B.bytes
  have hr := B.returns
  have hts := atoms_spec (ws := wsX5_eventsOf) B.pre
  have hown : s.vm.findClass RX5 = some m.cls := findClass_of_methodNamed B.named
  have hlocks := B.notSynchronized
  have hS : va_S (aS 18 ad) s.heap s.heap [] := va_S.rf
  have hinX5 : ∀ w ∈ wsX50, w ∈ wsX5_eventsOf := by decide +kernel
  have hl := lv_entry ([.ref (ad 0), .int (J a1)]) (n := 5) (Nat.le_of_ble_eq_true rfl)
  rw [lg_entry_eq]
  generalize (lg_sl ([.ref (ad 0), .int (J a1)]) ++ List.replicate (5 - (lg_sl ([.ref (ad 0), .int (J a1)])).length) Slot.unset).toArray = ls at hl ⊢
  have hl : lv_has ls 5 [(0, .ref (ad 0)), (1, .int (J a1))] := hl
  unfold fX5_eventsOf at hf
  refine lv_iconst (v := J 0) hx hb dX5_eventsOf_0 rfl ?_
  refine lv_istore_n (lv' := [(2, .int (J 0)), (0, .ref (ad 0)), (1, .int (J a1))]) hx hb dX5_eventsOf_1 rfl hl (by decide) rfl (fun ls hl => ?_)
  refine lv_iconst (v := J 0) hx hb dX5_eventsOf_2 rfl ?_
  refine lv_istore_n (lv' := [(3, .int (J 0)), (2, .int (J 0)), (0, .ref (ad 0)), (1, .int (J a1))]) hx hb dX5_eventsOf_3 rfl hl (by decide) rfl (fun ls hl => ?_)
  obtain ⟨y1_0, h1, hf⟩ := bnd_some hf
  have K1 : ∀ (H : Heap) (locs : List Loc) (ls : Array Slot), inR y1_0 → va_P D vwCl (wY ca ad M) H → va_S (aS 18 ad) s.heap H locs → lv_has ls 5 [(2, .int (J y1_0))] → W p l e (headSpec wsX5_eventsOf (RmC 0 0)).room s m ([.ref (ad 0), .int (J a1)] : List Value).toArray below meth c H locs 0 0 (MQ below (va_Qi (fun x (_ : Unit) => x = J res ∧ (inR res)) (fun _ => (OY D ca ad M)) (aS 18 ad)) ([.ref (ad 0), .int (J a1)] : List Value).toArray s 0 0 (aS 18 ad)) (F0 m 84 ls []) := by
    intro H locs ls ry1_0 hP hS hl
    refine lv_iload_n hx hb dX5_eventsOf_84 rfl (lv_at hl 0 rfl) ?_
    have e1 := Option.some.inj hf
    exact jend_i hx hb hr rfl hS e1 (by rw [← e1]; exact ry1_0) (oY rfl hP) dX5_eventsOf_85 hlocks
  have hL1 : ∀ (n : Nat) (x1_1 : Int) (x2_1 : Int) (x3_1 : Int) (M_1 : MM) (H : Heap) (locs : List Loc) (ls : Array Slot), inR x1_1 → inR x2_1 → inR x3_1 → RR M_1 → x1_1 = a1 → M_1 = M → va_P D vwCl (wY ca ad M_1) H → va_S (aS 18 ad) s.heap H locs → lv_has ls 5 [(0, .ref (ad 0)), (1, .int (J x1_1)), (2, .int (J x2_1)), (3, .int (J x3_1))] → fX5_eventsOf_L4 n x1_1 x2_1 x3_1 M_1 = some y1_0 → W p l e (headSpec wsX5_eventsOf (RmC 0 0)).room s m ([.ref (ad 0), .int (J a1)] : List Value).toArray below meth c H locs 0 0 (MQ below (va_Qi (fun x (_ : Unit) => x = J res ∧ (inR res)) (fun _ => (OY D ca ad M)) (aS 18 ad)) ([.ref (ad 0), .int (J a1)] : List Value).toArray s 0 0 (aS 18 ad)) (F0 m 4 ls []) := by
    intro n
    induction n with
    | zero =>
      intro x1_1 x2_1 x3_1 M_1 H locs ls rx1_1 rx2_1 rx3_1 hRM_1 e_x1_1 e_M_1 hP hS hl hf
      rw [fX5_eventsOf_L4] at hf
      cases hf
    | succ n ih =>
      intro x1_1 x2_1 x3_1 M_1 H locs ls rx1_1 rx2_1 rx3_1 hRM_1 e_x1_1 e_M_1 hP hS hl hf
      rw [fX5_eventsOf_L4] at hf
      refine lv_iload_n hx hb dX5_eventsOf_4 rfl (lv_at hl 3 rfl) ?_
      refine lv_aload_n hx hb dX5_eventsOf_5 rfl (lv_at hl 0 rfl) ?_
      refine va_get (D := D) (ci := 5) (v := .ref (ad 1)) (C := RX5) (T := TX5) (N := 23) hx hb hts hinX5 hown hK hP 0 (wL_get (by decide) (gY_0 _)) rfl 1 (by decide) (hts (.fieldLink RX5 7 "VisitVansModel" "s" "[I") (List.mem_of_getElem? (i := 1) rfl)) (fun _ h => h) rfl dX5_eventsOf_6 ?_
      refine lv_iconst (v := J 3) hx hb dX5_eventsOf_9 rfl ?_
      obtain ⟨v2, qv2, hf⟩ := bnd_some hf
      obtain ⟨bv2, ev2⟩ := rd_some qv2
      have rv2 : inR v2 := by rw [ev2]; exact hRM_1 _ _
      refine jx_iald hx hb hK hP 1 0 (by decide) gY_1 rfl (by decide) bv2 ev2 dX5_eventsOf_10 ?_
      refine jv_icmp_ge (tgt := 84) hx hb dX5_eventsOf_11 (by decide) rx3_1 rv2 (fun c3 => ?_) (fun c3 => ?_)
      · have hf := itep hf c3
        cases hf
        exact K1 _ _ _ rx2_1  (e_M_1 ▸ hP) hS (lv_sub hl [2] (by subst e_x1_1; rfl))
      · have hf := iten hf c3
        refine lv_iconst (v := J 1) hx hb dX5_eventsOf_14 rfl ?_
        refine lv_aload_n hx hb dX5_eventsOf_15 rfl (lv_at hl 0 rfl) ?_
        refine va_get (D := D) (ci := 5) (v := .ref (ad 10)) (C := RX5) (T := TX5) (N := 23) hx hb hts hinX5 hown hK hP 0 (wL_get (by decide) (gY_0 _)) rfl 12 (by decide) (hts (.fieldLink RX5 38 "VisitVansModel" "comes" "[I") (List.mem_of_getElem? (i := 2) rfl)) (fun _ h => h) rfl dX5_eventsOf_16 ?_
        refine lv_iload_n hx hb dX5_eventsOf_19 rfl (lv_at hl 3 rfl) ?_
        obtain ⟨v4, qv4, hf⟩ := bnd_some hf
        obtain ⟨bv4, ev4⟩ := rd_some qv4
        have rv4 : inR v4 := by rw [ev4]; exact hRM_1 _ _
        refine jx_iald hx hb hK hP 10 0 (by decide) gY_10 rfl (by decide) bv4 ev4 dX5_eventsOf_20 ?_
        refine lv_aload_n hx hb dX5_eventsOf_21 rfl (lv_at hl 0 rfl) ?_
        refine va_get (D := D) (ci := 5) (v := .ref (ad 11)) (C := RX5) (T := TX5) (N := 23) hx hb hts hinX5 hown hK hP 0 (wL_get (by decide) (gY_0 _)) rfl 13 (by decide) (hts (.fieldLink RX5 41 "VisitVansModel" "leaves" "[I") (List.mem_of_getElem? (i := 3) rfl)) (fun _ h => h) rfl dX5_eventsOf_22 ?_
        refine lv_iload_n hx hb dX5_eventsOf_25 rfl (lv_at hl 3 rfl) ?_
        obtain ⟨v5, qv5, hf⟩ := bnd_some hf
        obtain ⟨bv5, ev5⟩ := rd_some qv5
        have rv5 : inR v5 := by rw [ev5]; exact hRM_1 _ _
        refine jx_iald hx hb hK hP 11 0 (by decide) gY_11 rfl (by decide) bv5 ev5 dX5_eventsOf_26 ?_
        obtain ⟨y7_0, h7, hf⟩ := bnd_some hf
        have K7 : ∀ (H : Heap) (locs : List Loc) (ls : Array Slot), inR y7_0 → va_P D vwCl (wY ca ad M_1) H → va_S (aS 18 ad) s.heap H locs → lv_has ls 5 [(0, .ref (ad 0)), (1, .int (J x1_1)), (2, .int (J x2_1)), (3, .int (J x3_1))] → W p l e (headSpec wsX5_eventsOf (RmC 0 0)).room s m ([.ref (ad 0), .int (J a1)] : List Value).toArray below meth c H locs 0 0 (MQ below (va_Qi (fun x (_ : Unit) => x = J res ∧ (inR res)) (fun _ => (OY D ca ad M)) (aS 18 ad)) ([.ref (ad 0), .int (J a1)] : List Value).toArray s 0 0 (aS 18 ad)) (F0 m 35 ls [.int (J y7_0), .int (J 1)]) := by
          intro H locs ls ry7_0  hP hS hl
          refine jv_iadd hx hb dX5_eventsOf_35 ?_
          refine lv_aload_n hx hb dX5_eventsOf_36 rfl (lv_at hl 0 rfl) ?_
          refine va_get (D := D) (ci := 5) (v := .ref (ad 9)) (C := RX5) (T := TX5) (N := 23) hx hb hts hinX5 hown hK hP 0 (wL_get (by decide) (gY_0 _)) rfl 11 (by decide) (hts (.fieldLink RX5 35 "VisitVansModel" "begins" "[I") (List.mem_of_getElem? (i := 4) rfl)) (fun _ h => h) rfl dX5_eventsOf_37 ?_
          refine lv_iload_n hx hb dX5_eventsOf_40 rfl (lv_at hl 3 rfl) ?_
          obtain ⟨v8, qv8, hf⟩ := bnd_some hf
          obtain ⟨bv8, ev8⟩ := rd_some qv8
          have rv8 : inR v8 := by rw [ev8]; exact hRM_1 _ _
          refine jx_iald hx hb hK hP 9 0 (by decide) gY_9 rfl (by decide) bv8 ev8 dX5_eventsOf_41 ?_
          refine lv_aload_n hx hb dX5_eventsOf_42 rfl (lv_at hl 0 rfl) ?_
          refine va_get (D := D) (ci := 5) (v := .ref (ad 10)) (C := RX5) (T := TX5) (N := 23) hx hb hts hinX5 hown hK hP 0 (wL_get (by decide) (gY_0 _)) rfl 12 (by decide) (hts (.fieldLink RX5 38 "VisitVansModel" "comes" "[I") (List.mem_of_getElem? (i := 2) rfl)) (fun _ h => h) rfl dX5_eventsOf_43 ?_
          refine lv_iload_n hx hb dX5_eventsOf_46 rfl (lv_at hl 3 rfl) ?_
          obtain ⟨v9, qv9, hf⟩ := bnd_some hf
          obtain ⟨bv9, ev9⟩ := rd_some qv9
          have rv9 : inR v9 := by rw [ev9]; exact hRM_1 _ _
          refine jx_iald hx hb hK hP 10 0 (by decide) gY_10 rfl (by decide) bv9 ev9 dX5_eventsOf_47 ?_
          obtain ⟨y11_0, h11, hf⟩ := bnd_some hf
          have K11 : ∀ (H : Heap) (locs : List Loc) (ls : Array Slot), inR y11_0 → va_P D vwCl (wY ca ad M_1) H → va_S (aS 18 ad) s.heap H locs → lv_has ls 5 [(0, .ref (ad 0)), (1, .int (J x1_1)), (2, .int (J x2_1)), (3, .int (J x3_1))] → W p l e (headSpec wsX5_eventsOf (RmC 0 0)).room s m ([.ref (ad 0), .int (J a1)] : List Value).toArray below meth c H locs 0 0 (MQ below (va_Qi (fun x (_ : Unit) => x = J res ∧ (inR res)) (fun _ => (OY D ca ad M)) (aS 18 ad)) ([.ref (ad 0), .int (J a1)] : List Value).toArray s 0 0 (aS 18 ad)) (F0 m 56 ls [.int (J y11_0), .int (J (1 + y7_0))]) := by
            intro H locs ls ry11_0  hP hS hl
            refine jv_iadd hx hb dX5_eventsOf_56 ?_
            refine lv_istore (lv' := [(4, .int (J ((1 + y7_0) + y11_0))), (0, .ref (ad 0)), (1, .int (J x1_1)), (2, .int (J x2_1)), (3, .int (J x3_1))]) hx hb dX5_eventsOf_57 hl (by decide) rfl (fun ls hl => ?_)
            refine lv_iload_n hx hb dX5_eventsOf_59 rfl (lv_at hl 3 rfl) ?_
            refine lv_aload_n hx hb dX5_eventsOf_60 rfl (lv_at hl 1 rfl) ?_
            refine va_get (D := D) (ci := 5) (v := .ref (ad 8)) (C := RX5) (T := TX5) (N := 23) hx hb hts hinX5 hown hK hP 0 (wL_get (by decide) (gY_0 _)) rfl 10 (by decide) (hts (.fieldLink RX5 32 "VisitVansModel" "vanOf" "[I") (List.mem_of_getElem? (i := 5) rfl)) (fun _ h => h) rfl dX5_eventsOf_61 ?_
            refine lv_iload_n hx hb dX5_eventsOf_64 rfl (lv_at hl 4 rfl) ?_
            obtain ⟨v12, qv12, hf⟩ := bnd_some hf
            obtain ⟨bv12, ev12⟩ := rd_some qv12
            have rv12 : inR v12 := by rw [ev12]; exact hRM_1 _ _
            refine jx_iald hx hb hK hP 8 0 (by decide) gY_8 rfl (by decide) bv12 ev12 dX5_eventsOf_65 ?_
            refine lv_iload_n hx hb dX5_eventsOf_66 rfl (lv_at hl 2 rfl) ?_
            obtain ⟨y14_0, h14, hf⟩ := bnd_some hf
            have K14 : ∀ (H : Heap) (locs : List Loc) (ls : Array Slot), inR y14_0 → va_P D vwCl (wY ca ad M_1) H → va_S (aS 18 ad) s.heap H locs → lv_has ls 5 [(0, .ref (ad 0)), (1, .int (J x1_1)), (3, .int (J x3_1))] → W p l e (headSpec wsX5_eventsOf (RmC 0 0)).room s m ([.ref (ad 0), .int (J a1)] : List Value).toArray below meth c H locs 0 0 (MQ below (va_Qi (fun x (_ : Unit) => x = J res ∧ (inR res)) (fun _ => (OY D ca ad M)) (aS 18 ad)) ([.ref (ad 0), .int (J a1)] : List Value).toArray s 0 0 (aS 18 ad)) (F0 m 76 ls [.int (J y14_0), .int (J x2_1)]) := by
              intro H locs ls ry14_0  hP hS hl
              refine jv_iadd hx hb dX5_eventsOf_76 ?_
              refine lv_istore_n (lv' := [(2, .int (J (x2_1 + y14_0))), (0, .ref (ad 0)), (1, .int (J x1_1)), (3, .int (J x3_1))]) hx hb dX5_eventsOf_77 rfl hl (by decide) rfl (fun ls hl => ?_)
              refine lv_iinc (v := J (x3_1 + 1)) (lv' := [(3, .int (J (x3_1 + 1))), (2, .int (J (x2_1 + y14_0))), (0, .ref (ad 0)), (1, .int (J x1_1))]) hx hb dX5_eventsOf_78 hl (k := 3) rfl (J_add _ _) (by decide) rfl (fun ls hl => ?_)
              refine lv_goto (tgt := 4) hx hb dX5_eventsOf_81 (by decide) ?_
              obtain ⟨g16, hf⟩ := gd_some hf
              obtain ⟨g17, hf⟩ := gd_some hf
              exact ih _ _ _ _ _ _ _ rx1_1 g16 g17 hRM_1 e_x1_1 e_M_1 hP hS (lv_sub hl [2, 3, 1, 0] rfl) hf
            have hf := h14
            clear h14
            refine jv_icmp_ne (tgt := 75) hx hb dX5_eventsOf_67 (by decide) rv12 rx1_1 (fun c13 => ?_) (fun c13 => ?_)
            · have hf := iten hf c13
              refine lv_iconst (v := J 0) hx hb dX5_eventsOf_75 rfl ?_
              cases hf
              exact K14 _ _ _ (by decide : inR 0)  hP hS (lv_sub hl [1, 2, 4] rfl)
            · have hf := itep hf c13
              refine lv_iload hx hb dX5_eventsOf_70 (lv_at hl 0 rfl) ?_
              refine lv_goto (tgt := 76) hx hb dX5_eventsOf_72 (by decide) ?_
              obtain ⟨g15, hf⟩ := gd_some hf
              cases hf
              exact K14 _ _ _ g15  hP hS (lv_sub hl [1, 2, 4] rfl)
          have hf := h11
          clear h11
          refine jv_icmp_le (tgt := 55) hx hb dX5_eventsOf_48 (by decide) rv8 rv9 (fun c10 => ?_) (fun c10 => ?_)
          · have hf := itep hf c10
            refine lv_iconst (v := J 0) hx hb dX5_eventsOf_55 rfl ?_
            cases hf
            exact K11 _ _ _ (by decide : inR 0)  hP hS (lv_sub hl [0, 1, 2, 3] rfl)
          · have hf := iten hf c10
            refine lv_iconst (v := J 1) hx hb dX5_eventsOf_51 rfl ?_
            refine lv_goto (tgt := 56) hx hb dX5_eventsOf_52 (by decide) ?_
            cases hf
            exact K11 _ _ _ (by decide : inR 1)  hP hS (lv_sub hl [0, 1, 2, 3] rfl)
        have hf := h7
        clear h7
        refine jv_icmp_le (tgt := 34) hx hb dX5_eventsOf_27 (by decide) rv4 rv5 (fun c6 => ?_) (fun c6 => ?_)
        · have hf := itep hf c6
          refine lv_iconst (v := J 0) hx hb dX5_eventsOf_34 rfl ?_
          cases hf
          exact K7 _ _ _ (by decide : inR 0)  hP hS (lv_sub hl [0, 1, 2, 3] rfl)
        · have hf := iten hf c6
          refine lv_iconst (v := J 1) hx hb dX5_eventsOf_30 rfl ?_
          refine lv_goto (tgt := 35) hx hb dX5_eventsOf_31 (by decide) ?_
          cases hf
          exact K7 _ _ _ (by decide : inR 1)  hP hS (lv_sub hl [0, 1, 2, 3] rfl)
  exact hL1 4000 _ _ _ _ _ _ _ i1 (by decide : inR 0) (by decide : inR 0) hR rfl rfl hP hS (lv_sub hl [2, 3, 1, 0] rfl) h1
def fX5_ofVan (a1 : Int) (a2 : Int) (M : MM) : Option (Int × MM) := bnd (some (stM M 0 0 0)) (fun M1 => bnd (fX5_isVan a1 M1) (fun v2 => if v2 = 0 then some ((-1), M1) else bnd (fX5_plans M1) (fun M6 => if a2 = 0 then bnd (fX5_van0 a1 a2 M6) (fun v8 => some (v8, M6)) else if a2 = 1 then bnd (fX5_van0 a1 a2 M6) (fun v10 => some (v10, M6)) else if a2 = 2 then bnd (fX5_visitsOf a1 M6) (fun v12 => some (v12, M6)) else if a2 = 3 then bnd (rd M6 15 4 a1) (fun v14 => some (v14, M6)) else if a2 = 4 then bnd (rd M6 16 4 a1) (fun v15 => some (v15, M6)) else if a2 = 5 then bnd (rd M6 13 4 a1) (fun v16 => some (v16, M6)) else if a2 = 6 then bnd (rd M6 12 4 a1) (fun v17 => some (v17, M6)) else if a2 = 7 then bnd (fX5_eventsOf a1 M6) (fun v18 => some (v18, M6)) else some ((-2), M6))))
set_option maxHeartbeats 4000000 in
set_option maxRecDepth 100000 in
theorem kX5_ofVan (l : Launch) (D : va_G) (ca : Nat → ClassId) (ad : Nat → Nat) (hI : aInj 18 ad) (M : MM) (hR : RR M) (a1 : Int) (a2 : Int) (i1 : inR a1) (i2 : inR a2) (res : Int) (M' : MM) (hf : fX5_ofVan a1 a2 M = some (res, M')) : CI l yX5_ofVan wsX5_ofVan 6 141 [.ref (ad 0), .int (J a1), .int (J a2)] (PY D ca ad M) res (inR res ∧ RR M') (OY D ca ad M') (aS 18 ad) := by
  refine Met.ofW (cc := cX5_ofVan) (maxL := 3) (ret := (some .int)) (by decide) rfl ?_
  intro p e s m args below meth c s₁ B hml hv
  obtain ⟨rfl, hP, hK⟩ := hv
  have hx := B.exec
  have hb := B.bytes
  have hr := B.returns
  have hts := atoms_spec (ws := wsX5_ofVan) B.pre
  have hown : s.vm.findClass RX5 = some m.cls := findClass_of_methodNamed B.named
  have hlocks := B.notSynchronized
  have hS : va_S (aS 18 ad) s.heap s.heap [] := va_S.rf
  have hinX5 : ∀ w ∈ wsX50, w ∈ wsX5_ofVan := by decide +kernel
  have hl := lv_entry ([.ref (ad 0), .int (J a1), .int (J a2)]) (n := 3) (Nat.le_of_ble_eq_true rfl)
  rw [lg_entry_eq]
  generalize (lg_sl ([.ref (ad 0), .int (J a1), .int (J a2)]) ++ List.replicate (3 - (lg_sl ([.ref (ad 0), .int (J a1), .int (J a2)])).length) Slot.unset).toArray = ls at hl ⊢
  have hl : lv_has ls 3 [(0, .ref (ad 0)), (1, .int (J a1)), (2, .int (J a2))] := hl
  unfold fX5_ofVan at hf
  refine lv_aload_n hx hb dX5_ofVan_0 rfl (lv_at hl 0 rfl) ?_
  refine lv_iconst (v := J 0) hx hb dX5_ofVan_1 rfl ?_
  obtain ⟨M1, eM1, hf⟩ := bnd_some hf
  have eM1 := Option.some.inj eM1
  have hRM1 : RR M1 := by rw [← eM1]; exact RR_st hR 0 0 (by decide : inR 0)
  refine va_put (D := D) (ci := 5) (v := .int (J 0)) (ty := .int) (C := RX5) (T := TX5) (N := 23) hx hb hts hinX5 tyX5 tyX5_ok nmX5 hown hK hP (wL_D hI M) hS 0 (wL_get (by decide) (gY_0 _)) rfl 0 (by decide) (hts (.fieldLink RX5 62 "VisitVansModel" "thrown" "I") (List.mem_of_getElem? (i := 1) rfl)) (fun _ h => h) rfl rfl rfl rfl (Nat.le_of_ble_eq_true rfl) dX5_ofVan_2 (fun H locs hP hD hS => ?_)
  have hP : va_P D vwCl (wY ca ad M1) H := by rw [← eM1]; exact hPset (gY_0_s0) stM_o hP
  refine lv_aload_n hx hb dX5_ofVan_5 rfl (lv_at hl 0 rfl) ?_
  refine lv_iload_n hx hb dX5_ofVan_6 rfl (lv_at hl 1 rfl) ?_
  obtain ⟨v2, qv2, hf⟩ := bnd_some hf
  refine jc_i (va_runV (As := [.int (J a1)]) (rest := []) ⟨hx, hb, hml, hown, hts⟩ (kX5_isVan l D ca ad hI M1 hRM1 a1 i1 v2 qv2) (cwV 1 hts gX5_ofVan_X5_isVan rfl rfl rfl (by decide +kernel) ⟨Nat.le_of_ble_eq_true rfl, Nat.le_of_ble_eq_true rfl⟩) (pvY hK hP [.int (J a1)]) rfl rfl hl.1 rfl (lv_room (Nat.le_of_ble_eq_true rfl)) dX5_ofVan_7 ⟨Nat.zero_le _, Nat.zero_le _⟩) hS (fun H locs t ht hφ hO hS => ?_)
  have rv2 := hφ
  have hP : va_P D vwCl (wY ca ad M1) H := by rw [← ht]; exact hO
  refine jv_if_ne (tgt := 15) hx hb dX5_ofVan_10 (by decide) rv2 (fun c4 => ?_) (fun c4 => ?_)
  · have hf := iten hf c4
    refine lv_aload_n hx hb dX5_ofVan_15 rfl (lv_at hl 0 rfl) ?_
    obtain ⟨M6, qM6, hf⟩ := bnd_some hf
    refine jc_v (va_runV (As := []) (rest := []) ⟨hx, hb, hml, hown, hts⟩ (kX5_plans l D ca ad hI M1 hRM1 M6 qM6) (cwV 0 hts gX5_ofVan_X5_plans rfl rfl rfl (by decide +kernel) ⟨Nat.le_of_ble_eq_true rfl, Nat.le_of_ble_eq_true rfl⟩) (pvY hK hP []) rfl rfl hl.1 rfl (lv_room (Nat.le_of_ble_eq_true rfl)) dX5_ofVan_16 ⟨Nat.zero_le _, Nat.zero_le _⟩) hS (fun H locs t ht hφ hO hS => ?_)
    have hRM6 := hφ
    have hP : va_P D vwCl (wY ca ad M6) H := by rw [← ht]; exact hO
    refine lv_iload_n hx hb dX5_ofVan_19 rfl (lv_at hl 2 rfl) ?_
    by_cases c7_0 : a2 = 0
    · have hf := itep hf c7_0
      refine jv_tIn (k := 0) (tgt := 68) hx hb dX5_ofVan_20 i2 c7_0 (by decide) (by decide) rfl (by decide) ?_
      refine lv_aload_n hx hb dX5_ofVan_68 rfl (lv_at hl 0 rfl) ?_
      refine lv_iload_n hx hb dX5_ofVan_69 rfl (lv_at hl 1 rfl) ?_
      refine lv_iload_n hx hb dX5_ofVan_70 rfl (lv_at hl 2 rfl) ?_
      obtain ⟨v8, qv8, hf⟩ := bnd_some hf
      refine jc_i (va_runV (As := [.int (J a1), .int (J a2)]) (rest := []) ⟨hx, hb, hml, hown, hts⟩ (kX5_van0 l D ca ad hI M6 hRM6 a1 a2 i1 i2 v8 qv8) (cwV 2 hts gX5_ofVan_X5_van0 rfl rfl rfl (by decide +kernel) ⟨Nat.le_of_ble_eq_true rfl, Nat.le_of_ble_eq_true rfl⟩) (pvY hK hP [.int (J a1), .int (J a2)]) rfl rfl hl.1 rfl (lv_room (Nat.le_of_ble_eq_true rfl)) dX5_ofVan_71 ⟨Nat.zero_le _, Nat.zero_le _⟩) hS (fun H locs t ht hφ hO hS => ?_)
      have rv8 := hφ
      have hP : va_P D vwCl (wY ca ad M6) H := by rw [← ht]; exact hO
      obtain ⟨e1, e2⟩ := Prod.mk.inj (Option.some.inj hf)
      exact jend_i hx hb hr rfl hS e1 ⟨by rw [← e1]; exact rv8, by rw [← e2]; exact hRM6⟩ (oY e2 hP) dX5_ofVan_74 hlocks
    · have hf := iten hf c7_0
      by_cases c7_1 : a2 = 1
      · have hf := itep hf c7_1
        refine jv_tIn (k := 1) (tgt := 68) hx hb dX5_ofVan_20 i2 c7_1 (by decide) (by decide) rfl (by decide) ?_
        refine lv_aload_n hx hb dX5_ofVan_68 rfl (lv_at hl 0 rfl) ?_
        refine lv_iload_n hx hb dX5_ofVan_69 rfl (lv_at hl 1 rfl) ?_
        refine lv_iload_n hx hb dX5_ofVan_70 rfl (lv_at hl 2 rfl) ?_
        obtain ⟨v10, qv10, hf⟩ := bnd_some hf
        refine jc_i (va_runV (As := [.int (J a1), .int (J a2)]) (rest := []) ⟨hx, hb, hml, hown, hts⟩ (kX5_van0 l D ca ad hI M6 hRM6 a1 a2 i1 i2 v10 qv10) (cwV 2 hts gX5_ofVan_X5_van0 rfl rfl rfl (by decide +kernel) ⟨Nat.le_of_ble_eq_true rfl, Nat.le_of_ble_eq_true rfl⟩) (pvY hK hP [.int (J a1), .int (J a2)]) rfl rfl hl.1 rfl (lv_room (Nat.le_of_ble_eq_true rfl)) dX5_ofVan_71 ⟨Nat.zero_le _, Nat.zero_le _⟩) hS (fun H locs t ht hφ hO hS => ?_)
        have rv10 := hφ
        have hP : va_P D vwCl (wY ca ad M6) H := by rw [← ht]; exact hO
        obtain ⟨e1, e2⟩ := Prod.mk.inj (Option.some.inj hf)
        exact jend_i hx hb hr rfl hS e1 ⟨by rw [← e1]; exact rv10, by rw [← e2]; exact hRM6⟩ (oY e2 hP) dX5_ofVan_74 hlocks
      · have hf := iten hf c7_1
        by_cases c7_2 : a2 = 2
        · have hf := itep hf c7_2
          refine jv_tIn (k := 2) (tgt := 75) hx hb dX5_ofVan_20 i2 c7_2 (by decide) (by decide) rfl (by decide) ?_
          refine lv_aload_n hx hb dX5_ofVan_75 rfl (lv_at hl 0 rfl) ?_
          refine lv_iload_n hx hb dX5_ofVan_76 rfl (lv_at hl 1 rfl) ?_
          obtain ⟨v12, qv12, hf⟩ := bnd_some hf
          refine jc_i (va_runV (As := [.int (J a1)]) (rest := []) ⟨hx, hb, hml, hown, hts⟩ (kX5_visitsOf l D ca ad hI M6 hRM6 a1 i1 v12 qv12) (cwV 1 hts gX5_ofVan_X5_visitsOf rfl rfl rfl (by decide +kernel) ⟨Nat.le_of_ble_eq_true rfl, Nat.le_of_ble_eq_true rfl⟩) (pvY hK hP [.int (J a1)]) rfl rfl hl.1 rfl (lv_room (Nat.le_of_ble_eq_true rfl)) dX5_ofVan_77 ⟨Nat.zero_le _, Nat.zero_le _⟩) hS (fun H locs t ht hφ hO hS => ?_)
          have rv12 := hφ
          have hP : va_P D vwCl (wY ca ad M6) H := by rw [← ht]; exact hO
          obtain ⟨e1, e2⟩ := Prod.mk.inj (Option.some.inj hf)
          exact jend_i hx hb hr rfl hS e1 ⟨by rw [← e1]; exact rv12, by rw [← e2]; exact hRM6⟩ (oY e2 hP) dX5_ofVan_80 hlocks
        · have hf := iten hf c7_2
          by_cases c7_3 : a2 = 3
          · have hf := itep hf c7_3
            refine jv_tIn (k := 3) (tgt := 81) hx hb dX5_ofVan_20 i2 c7_3 (by decide) (by decide) rfl (by decide) ?_
            refine lv_aload_n hx hb dX5_ofVan_81 rfl (lv_at hl 0 rfl) ?_
            refine va_get (D := D) (ci := 5) (v := .ref (ad 15)) (C := RX5) (T := TX5) (N := 23) hx hb hts hinX5 hown hK hP 0 (wL_get (by decide) (gY_0 _)) rfl 17 (by decide) (hts (.fieldLink RX5 53 "VisitVansModel" "ways" "[I") (List.mem_of_getElem? (i := 2) rfl)) (fun _ h => h) rfl dX5_ofVan_82 ?_
            refine lv_iload_n hx hb dX5_ofVan_85 rfl (lv_at hl 1 rfl) ?_
            obtain ⟨v14, qv14, hf⟩ := bnd_some hf
            obtain ⟨bv14, ev14⟩ := rd_some qv14
            have rv14 : inR v14 := by rw [ev14]; exact hRM6 _ _
            refine jx_iald hx hb hK hP 15 0 (by decide) gY_15 rfl (by decide) bv14 ev14 dX5_ofVan_86 ?_
            obtain ⟨e1, e2⟩ := Prod.mk.inj (Option.some.inj hf)
            exact jend_i hx hb hr rfl hS e1 ⟨by rw [← e1]; exact rv14, by rw [← e2]; exact hRM6⟩ (oY e2 hP) dX5_ofVan_87 hlocks
          · have hf := iten hf c7_3
            by_cases c7_4 : a2 = 4
            · have hf := itep hf c7_4
              refine jv_tIn (k := 4) (tgt := 88) hx hb dX5_ofVan_20 i2 c7_4 (by decide) (by decide) rfl (by decide) ?_
              refine lv_aload_n hx hb dX5_ofVan_88 rfl (lv_at hl 0 rfl) ?_
              refine va_get (D := D) (ci := 5) (v := .ref (ad 16)) (C := RX5) (T := TX5) (N := 23) hx hb hts hinX5 hown hK hP 0 (wL_get (by decide) (gY_0 _)) rfl 18 (by decide) (hts (.fieldLink RX5 56 "VisitVansModel" "waits" "[I") (List.mem_of_getElem? (i := 3) rfl)) (fun _ h => h) rfl dX5_ofVan_89 ?_
              refine lv_iload_n hx hb dX5_ofVan_92 rfl (lv_at hl 1 rfl) ?_
              obtain ⟨v15, qv15, hf⟩ := bnd_some hf
              obtain ⟨bv15, ev15⟩ := rd_some qv15
              have rv15 : inR v15 := by rw [ev15]; exact hRM6 _ _
              refine jx_iald hx hb hK hP 16 0 (by decide) gY_16 rfl (by decide) bv15 ev15 dX5_ofVan_93 ?_
              obtain ⟨e1, e2⟩ := Prod.mk.inj (Option.some.inj hf)
              exact jend_i hx hb hr rfl hS e1 ⟨by rw [← e1]; exact rv15, by rw [← e2]; exact hRM6⟩ (oY e2 hP) dX5_ofVan_94 hlocks
            · have hf := iten hf c7_4
              by_cases c7_5 : a2 = 5
              · have hf := itep hf c7_5
                refine jv_tIn (k := 5) (tgt := 95) hx hb dX5_ofVan_20 i2 c7_5 (by decide) (by decide) rfl (by decide) ?_
                refine lv_aload_n hx hb dX5_ofVan_95 rfl (lv_at hl 0 rfl) ?_
                refine va_get (D := D) (ci := 5) (v := .ref (ad 13)) (C := RX5) (T := TX5) (N := 23) hx hb hts hinX5 hown hK hP 0 (wL_get (by decide) (gY_0 _)) rfl 15 (by decide) (hts (.fieldLink RX5 47 "VisitVansModel" "freeAt" "[I") (List.mem_of_getElem? (i := 4) rfl)) (fun _ h => h) rfl dX5_ofVan_96 ?_
                refine lv_iload_n hx hb dX5_ofVan_99 rfl (lv_at hl 1 rfl) ?_
                obtain ⟨v16, qv16, hf⟩ := bnd_some hf
                obtain ⟨bv16, ev16⟩ := rd_some qv16
                have rv16 : inR v16 := by rw [ev16]; exact hRM6 _ _
                refine jx_iald hx hb hK hP 13 0 (by decide) gY_13 rfl (by decide) bv16 ev16 dX5_ofVan_100 ?_
                obtain ⟨e1, e2⟩ := Prod.mk.inj (Option.some.inj hf)
                exact jend_i hx hb hr rfl hS e1 ⟨by rw [← e1]; exact rv16, by rw [← e2]; exact hRM6⟩ (oY e2 hP) dX5_ofVan_101 hlocks
              · have hf := iten hf c7_5
                by_cases c7_6 : a2 = 6
                · have hf := itep hf c7_6
                  refine jv_tIn (k := 6) (tgt := 102) hx hb dX5_ofVan_20 i2 c7_6 (by decide) (by decide) rfl (by decide) ?_
                  refine lv_aload_n hx hb dX5_ofVan_102 rfl (lv_at hl 0 rfl) ?_
                  refine va_get (D := D) (ci := 5) (v := .ref (ad 12)) (C := RX5) (T := TX5) (N := 23) hx hb hts hinX5 hown hK hP 0 (wL_get (by decide) (gY_0 _)) rfl 14 (by decide) (hts (.fieldLink RX5 44 "VisitVansModel" "placeOf" "[I") (List.mem_of_getElem? (i := 5) rfl)) (fun _ h => h) rfl dX5_ofVan_103 ?_
                  refine lv_iload_n hx hb dX5_ofVan_106 rfl (lv_at hl 1 rfl) ?_
                  obtain ⟨v17, qv17, hf⟩ := bnd_some hf
                  obtain ⟨bv17, ev17⟩ := rd_some qv17
                  have rv17 : inR v17 := by rw [ev17]; exact hRM6 _ _
                  refine jx_iald hx hb hK hP 12 0 (by decide) gY_12 rfl (by decide) bv17 ev17 dX5_ofVan_107 ?_
                  obtain ⟨e1, e2⟩ := Prod.mk.inj (Option.some.inj hf)
                  exact jend_i hx hb hr rfl hS e1 ⟨by rw [← e1]; exact rv17, by rw [← e2]; exact hRM6⟩ (oY e2 hP) dX5_ofVan_108 hlocks
                · have hf := iten hf c7_6
                  by_cases c7_7 : a2 = 7
                  · have hf := itep hf c7_7
                    refine jv_tIn (k := 7) (tgt := 109) hx hb dX5_ofVan_20 i2 c7_7 (by decide) (by decide) rfl (by decide) ?_
                    refine lv_aload_n hx hb dX5_ofVan_109 rfl (lv_at hl 0 rfl) ?_
                    refine lv_iload_n hx hb dX5_ofVan_110 rfl (lv_at hl 1 rfl) ?_
                    obtain ⟨v18, qv18, hf⟩ := bnd_some hf
                    refine jc_i (va_runV (As := [.int (J a1)]) (rest := []) ⟨hx, hb, hml, hown, hts⟩ (kX5_eventsOf l D ca ad hI M6 hRM6 a1 i1 v18 qv18) (cwV 1 hts gX5_ofVan_X5_eventsOf rfl rfl rfl (by decide +kernel) ⟨Nat.le_of_ble_eq_true rfl, Nat.le_of_ble_eq_true rfl⟩) (pvY hK hP [.int (J a1)]) rfl rfl hl.1 rfl (lv_room (Nat.le_of_ble_eq_true rfl)) dX5_ofVan_111 ⟨Nat.zero_le _, Nat.zero_le _⟩) hS (fun H locs t ht hφ hO hS => ?_)
                    have rv18 := hφ
                    have hP : va_P D vwCl (wY ca ad M6) H := by rw [← ht]; exact hO
                    obtain ⟨e1, e2⟩ := Prod.mk.inj (Option.some.inj hf)
                    exact jend_i hx hb hr rfl hS e1 ⟨by rw [← e1]; exact rv18, by rw [← e2]; exact hRM6⟩ (oY e2 hP) dX5_ofVan_114 hlocks
                  · have hf := iten hf c7_7
                    refine jv_tOut (tgt := 115) hx hb dX5_ofVan_20 i2 (by omega) (by decide) ?_
                    refine lv_bipush (v := J (-2)) hx hb dX5_ofVan_115 (by decide +kernel) ?_
                    obtain ⟨e1, e2⟩ := Prod.mk.inj (Option.some.inj hf)
                    exact jend_i hx hb hr rfl hS e1 ⟨by rw [← e1]; exact (by decide : inR (-2)), by rw [← e2]; exact hRM6⟩ (oY e2 hP) dX5_ofVan_117 hlocks
  · have hf := itep hf c4
    refine lv_iconst (v := J (-1)) hx hb dX5_ofVan_13 rfl ?_
    obtain ⟨e1, e2⟩ := Prod.mk.inj (Option.some.inj hf)
    exact jend_i hx hb hr rfl hS e1 ⟨by rw [← e1]; exact (by decide : inR (-1)), by rw [← e2]; exact hRM1⟩ (oY e2 hP) dX5_ofVan_14 hlocks
def fX5_stock (a1 : Int) (a2 : Int) (a3 : Int) (M : MM) : Option (Int × MM) := bnd (some (stM M 0 0 0)) (fun M1 => bnd (fX5_isVan a1 M1) (fun v2 => if v2 = 0 then some ((-1), M1) else bnd (fX5_in a2 0 4) (fun v5 => if v5 = 0 then some ((-1), M1) else bnd (fX5_plans M1) (fun M9 => gd (inR (2 + a2)) (bnd (fX5_van0 a1 (2 + a2) M9) (fun v11 => bnd (rd M9 14 20 ((5 * a1) + a2)) (fun v13 => bnd (if a3 = 0 then some (v11) else if a3 = 1 then gd (inR (v11 - v13)) (some ((v11 - v13))) else if a3 = 2 then some (v13) else some (((-2) : Int))) (fun y15_0 => some (y15_0, M9)))))))))
set_option maxHeartbeats 4000000 in
set_option maxRecDepth 100000 in
theorem kX5_stock (l : Launch) (D : va_G) (ca : Nat → ClassId) (ad : Nat → Nat) (hI : aInj 18 ad) (M : MM) (hR : RR M) (a1 : Int) (a2 : Int) (a3 : Int) (i1 : inR a1) (i2 : inR a2) (i3 : inR a3) (res : Int) (M' : MM) (hf : fX5_stock a1 a2 a3 M = some (res, M')) : CI l yX5_stock wsX5_stock 6 141 [.ref (ad 0), .int (J a1), .int (J a2), .int (J a3)] (PY D ca ad M) res (inR res ∧ RR M') (OY D ca ad M') (aS 18 ad) := by
  refine Met.ofW (cc := cX5_stock) (maxL := 6) (ret := (some .int)) (by decide) rfl ?_
  intro p e s m args below meth c s₁ B hml hv
  obtain ⟨rfl, hP, hK⟩ := hv
  have hx := B.exec
  have hb := B.bytes
  have hr := B.returns
  have hts := atoms_spec (ws := wsX5_stock) B.pre
  have hown : s.vm.findClass RX5 = some m.cls := findClass_of_methodNamed B.named
  have hlocks := B.notSynchronized
  have hS : va_S (aS 18 ad) s.heap s.heap [] := va_S.rf
  have hinX5 : ∀ w ∈ wsX50, w ∈ wsX5_stock := by decide +kernel
  have hl := lv_entry ([.ref (ad 0), .int (J a1), .int (J a2), .int (J a3)]) (n := 6) (Nat.le_of_ble_eq_true rfl)
  rw [lg_entry_eq]
  generalize (lg_sl ([.ref (ad 0), .int (J a1), .int (J a2), .int (J a3)]) ++ List.replicate (6 - (lg_sl ([.ref (ad 0), .int (J a1), .int (J a2), .int (J a3)])).length) Slot.unset).toArray = ls at hl ⊢
  have hl : lv_has ls 6 [(0, .ref (ad 0)), (1, .int (J a1)), (2, .int (J a2)), (3, .int (J a3))] := hl
  unfold fX5_stock at hf
  refine lv_aload_n hx hb dX5_stock_0 rfl (lv_at hl 0 rfl) ?_
  refine lv_iconst (v := J 0) hx hb dX5_stock_1 rfl ?_
  obtain ⟨M1, eM1, hf⟩ := bnd_some hf
  have eM1 := Option.some.inj eM1
  have hRM1 : RR M1 := by rw [← eM1]; exact RR_st hR 0 0 (by decide : inR 0)
  refine va_put (D := D) (ci := 5) (v := .int (J 0)) (ty := .int) (C := RX5) (T := TX5) (N := 23) hx hb hts hinX5 tyX5 tyX5_ok nmX5 hown hK hP (wL_D hI M) hS 0 (wL_get (by decide) (gY_0 _)) rfl 0 (by decide) (hts (.fieldLink RX5 62 "VisitVansModel" "thrown" "I") (List.mem_of_getElem? (i := 1) rfl)) (fun _ h => h) rfl rfl rfl rfl (Nat.le_of_ble_eq_true rfl) dX5_stock_2 (fun H locs hP hD hS => ?_)
  have hP : va_P D vwCl (wY ca ad M1) H := by rw [← eM1]; exact hPset (gY_0_s0) stM_o hP
  refine lv_aload_n hx hb dX5_stock_5 rfl (lv_at hl 0 rfl) ?_
  refine lv_iload_n hx hb dX5_stock_6 rfl (lv_at hl 1 rfl) ?_
  obtain ⟨v2, qv2, hf⟩ := bnd_some hf
  refine jc_i (va_runV (As := [.int (J a1)]) (rest := []) ⟨hx, hb, hml, hown, hts⟩ (kX5_isVan l D ca ad hI M1 hRM1 a1 i1 v2 qv2) (cwV 1 hts gX5_stock_X5_isVan rfl rfl rfl (by decide +kernel) ⟨Nat.le_of_ble_eq_true rfl, Nat.le_of_ble_eq_true rfl⟩) (pvY hK hP [.int (J a1)]) rfl rfl hl.1 rfl (lv_room (Nat.le_of_ble_eq_true rfl)) dX5_stock_7 ⟨Nat.zero_le _, Nat.zero_le _⟩) hS (fun H locs t ht hφ hO hS => ?_)
  have rv2 := hφ
  have hP : va_P D vwCl (wY ca ad M1) H := by rw [← ht]; exact hO
  refine jv_if_eq (tgt := 22) hx hb dX5_stock_10 (by decide) rv2 (fun c4 => ?_) (fun c4 => ?_)
  · have hf := itep hf c4
    refine lv_iconst (v := J (-1)) hx hb dX5_stock_22 rfl ?_
    obtain ⟨e1, e2⟩ := Prod.mk.inj (Option.some.inj hf)
    exact jend_i hx hb hr rfl hS e1 ⟨by rw [← e1]; exact (by decide : inR (-1)), by rw [← e2]; exact hRM1⟩ (oY e2 hP) dX5_stock_23 hlocks
  · have hf := iten hf c4
    refine lv_iload_n hx hb dX5_stock_13 rfl (lv_at hl 2 rfl) ?_
    refine lv_iconst (v := J 0) hx hb dX5_stock_14 rfl ?_
    refine lv_iconst (v := J 4) hx hb dX5_stock_15 rfl ?_
    obtain ⟨v5, qv5, hf⟩ := bnd_some hf
    refine jc_i (va_runS (As := [.int (J a2), .int (J 0), .int (J 4)]) (rest := []) ⟨hx, hb, hml, hown, hts⟩ (kX5_in l D ca ad hI M1 hRM1 a2 0 4 i2 (by decide : inR 0) (by decide : inR 4) v5 qv5) (va_cwS 3 hts gX5_stock_X5_in rfl rfl rfl (by decide +kernel) ⟨Nat.le_of_ble_eq_true rfl, Nat.le_of_ble_eq_true rfl⟩) (psY hK hP [.int (J a2), .int (J 0), .int (J 4)]) rfl rfl hl.1 rfl (lv_room (Nat.le_of_ble_eq_true rfl)) dX5_stock_16 ⟨Nat.zero_le _, Nat.zero_le _⟩) hS (fun H locs t ht hφ hO hS => ?_)
    have rv5 := hφ
    have hP : va_P D vwCl (wY ca ad M1) H := by rw [← ht]; exact hO
    refine jv_if_ne (tgt := 24) hx hb dX5_stock_19 (by decide) rv5 (fun c7 => ?_) (fun c7 => ?_)
    · have hf := iten hf c7
      refine lv_aload_n hx hb dX5_stock_24 rfl (lv_at hl 0 rfl) ?_
      obtain ⟨M9, qM9, hf⟩ := bnd_some hf
      refine jc_v (va_runV (As := []) (rest := []) ⟨hx, hb, hml, hown, hts⟩ (kX5_plans l D ca ad hI M1 hRM1 M9 qM9) (cwV 0 hts gX5_stock_X5_plans rfl rfl rfl (by decide +kernel) ⟨Nat.le_of_ble_eq_true rfl, Nat.le_of_ble_eq_true rfl⟩) (pvY hK hP []) rfl rfl hl.1 rfl (lv_room (Nat.le_of_ble_eq_true rfl)) dX5_stock_25 ⟨Nat.zero_le _, Nat.zero_le _⟩) hS (fun H locs t ht hφ hO hS => ?_)
      have hRM9 := hφ
      have hP : va_P D vwCl (wY ca ad M9) H := by rw [← ht]; exact hO
      refine lv_aload_n hx hb dX5_stock_28 rfl (lv_at hl 0 rfl) ?_
      refine lv_iload_n hx hb dX5_stock_29 rfl (lv_at hl 1 rfl) ?_
      refine lv_iconst (v := J 2) hx hb dX5_stock_30 rfl ?_
      refine lv_iload_n hx hb dX5_stock_31 rfl (lv_at hl 2 rfl) ?_
      refine jv_iadd hx hb dX5_stock_32 ?_
      obtain ⟨g10, hf⟩ := gd_some hf
      obtain ⟨v11, qv11, hf⟩ := bnd_some hf
      refine jc_i (va_runV (As := [.int (J a1), .int (J (2 + a2))]) (rest := []) ⟨hx, hb, hml, hown, hts⟩ (kX5_van0 l D ca ad hI M9 hRM9 a1 (2 + a2) i1 g10 v11 qv11) (cwV 2 hts gX5_stock_X5_van0 rfl rfl rfl (by decide +kernel) ⟨Nat.le_of_ble_eq_true rfl, Nat.le_of_ble_eq_true rfl⟩) (pvY hK hP [.int (J a1), .int (J (2 + a2))]) rfl rfl hl.1 rfl (lv_room (Nat.le_of_ble_eq_true rfl)) dX5_stock_33 ⟨Nat.zero_le _, Nat.zero_le _⟩) hS (fun H locs t ht hφ hO hS => ?_)
      have rv11 := hφ
      have hP : va_P D vwCl (wY ca ad M9) H := by rw [← ht]; exact hO
      refine lv_istore (lv' := [(4, .int (J v11)), (0, .ref (ad 0)), (1, .int (J a1)), (2, .int (J a2)), (3, .int (J a3))]) hx hb dX5_stock_36 hl (by decide) rfl (fun ls hl => ?_)
      refine lv_aload_n hx hb dX5_stock_38 rfl (lv_at hl 1 rfl) ?_
      refine va_get (D := D) (ci := 5) (v := .ref (ad 14)) (C := RX5) (T := TX5) (N := 23) hx hb hts hinX5 hown hK hP 0 (wL_get (by decide) (gY_0 _)) rfl 16 (by decide) (hts (.fieldLink RX5 50 "VisitVansModel" "left" "[I") (List.mem_of_getElem? (i := 2) rfl)) (fun _ h => h) rfl dX5_stock_39 ?_
      refine lv_iconst (v := J 5) hx hb dX5_stock_42 rfl ?_
      refine lv_iload_n hx hb dX5_stock_43 rfl (lv_at hl 2 rfl) ?_
      refine jv_imul hx hb dX5_stock_44 ?_
      refine lv_iload_n hx hb dX5_stock_45 rfl (lv_at hl 3 rfl) ?_
      refine jv_iadd hx hb dX5_stock_46 ?_
      obtain ⟨v13, qv13, hf⟩ := bnd_some hf
      obtain ⟨bv13, ev13⟩ := rd_some qv13
      have rv13 : inR v13 := by rw [ev13]; exact hRM9 _ _
      refine jx_iald hx hb hK hP 14 0 (by decide) gY_14 rfl (by decide) bv13 ev13 dX5_stock_47 ?_
      refine lv_istore (lv' := [(5, .int (J v13)), (4, .int (J v11)), (0, .ref (ad 0)), (1, .int (J a1)), (2, .int (J a2)), (3, .int (J a3))]) hx hb dX5_stock_48 hl (by decide) rfl (fun ls hl => ?_)
      refine lv_iload_n hx hb dX5_stock_50 rfl (lv_at hl 5 rfl) ?_
      obtain ⟨y15_0, h15, hf⟩ := bnd_some hf
      have K15 : ∀ (H : Heap) (locs : List Loc) (ls : Array Slot), inR y15_0 → va_P D vwCl (wY ca ad M9) H → va_S (aS 18 ad) s.heap H locs → lv_has ls 6 [] → W p l e (headSpec wsX5_stock (RmC 6 141)).room s m ([.ref (ad 0), .int (J a1), .int (J a2), .int (J a3)] : List Value).toArray below meth c H locs 0 0 (MQ below (va_Qi (fun x (_ : Unit) => x = J res ∧ (inR res ∧ RR M')) (fun _ => (OY D ca ad M')) (aS 18 ad)) ([.ref (ad 0), .int (J a1), .int (J a2), .int (J a3)] : List Value).toArray s 0 0 (aS 18 ad)) (F0 m 84 ls [.int (J y15_0)]) := by
        intro H locs ls ry15_0  hP hS hl
        obtain ⟨e1, e2⟩ := Prod.mk.inj (Option.some.inj hf)
        exact jend_i hx hb hr rfl hS e1 ⟨by rw [← e1]; exact ry15_0, by rw [← e2]; exact hRM9⟩ (oY e2 hP) dX5_stock_84 hlocks
      have hf := h15
      clear h15
      refine jv_if_ne (tgt := 59) hx hb dX5_stock_51 (by decide) i3 (fun c14 => ?_) (fun c14 => ?_)
      · have hf := iten hf c14
        refine lv_iload_n hx hb dX5_stock_59 rfl (lv_at hl 5 rfl) ?_
        refine lv_iconst (v := J 1) hx hb dX5_stock_60 rfl ?_
        refine jv_icmp_ne (tgt := 72) hx hb dX5_stock_61 (by decide) i3 (by decide : inR 1) (fun c16 => ?_) (fun c16 => ?_)
        · have hf := iten hf c16
          refine lv_iload_n hx hb dX5_stock_72 rfl (lv_at hl 5 rfl) ?_
          refine lv_iconst (v := J 2) hx hb dX5_stock_73 rfl ?_
          refine jv_icmp_ne (tgt := 82) hx hb dX5_stock_74 (by decide) i3 (by decide : inR 2) (fun c17 => ?_) (fun c17 => ?_)
          · have hf := iten hf c17
            refine lv_bipush (v := J (-2)) hx hb dX5_stock_82 (by decide +kernel) ?_
            cases hf
            exact K15 _ _ _ (by decide : inR (-2))  hP hS (lv_sub hl [] rfl)
          · have hf := itep hf c17
            refine lv_iload hx hb dX5_stock_77 (lv_at hl 0 rfl) ?_
            refine lv_goto (tgt := 84) hx hb dX5_stock_79 (by decide) ?_
            cases hf
            exact K15 _ _ _ rv13  hP hS (lv_sub hl [] rfl)
        · have hf := itep hf c16
          refine lv_iload hx hb dX5_stock_64 (lv_at hl 1 rfl) ?_
          refine lv_iload hx hb dX5_stock_66 (lv_at hl 0 rfl) ?_
          refine jv_isub hx hb dX5_stock_68 ?_
          refine lv_goto (tgt := 84) hx hb dX5_stock_69 (by decide) ?_
          obtain ⟨g18, hf⟩ := gd_some hf
          cases hf
          exact K15 _ _ _ g18  hP hS (lv_sub hl [] rfl)
      · have hf := itep hf c14
        refine lv_iload hx hb dX5_stock_54 (lv_at hl 1 rfl) ?_
        refine lv_goto (tgt := 84) hx hb dX5_stock_56 (by decide) ?_
        cases hf
        exact K15 _ _ _ rv11  hP hS (lv_sub hl [] rfl)
    · have hf := itep hf c7
      refine lv_iconst (v := J (-1)) hx hb dX5_stock_22 rfl ?_
      obtain ⟨e1, e2⟩ := Prod.mk.inj (Option.some.inj hf)
      exact jend_i hx hb hr rfl hS e1 ⟨by rw [← e1]; exact (by decide : inR (-1)), by rw [← e2]; exact hRM1⟩ (oY e2 hP) dX5_stock_23 hlocks
def fX5_nextVisit_L6 : Nat → Int → Int → Int → Int → MM → Option (Int)
  | 0, _, _, _, _, _ => none
  | n + 1, x1_1, x2_1, x3_1, x4_1, M_1 => bnd (rd M_1 1 160 3) (fun v2 => if v2 ≤ x4_1 then some x3_1 else bnd (rd M_1 8 21 x4_1) (fun v4 => bnd (if v4 = x1_1 then bnd (rd M_1 9 21 x4_1) (fun v7 => if v7 ≤ x2_1 then some ((0 : Int)) else if x3_1 = (-6) then some ((1 : Int)) else bnd (rd M_1 9 21 x4_1) (fun v10 => bnd (rd M_1 9 21 x3_1) (fun v11 => if v11 ≤ v10 then some ((0 : Int)) else some ((1 : Int))))) else some ((0 : Int))) (fun y6_0 => bnd (if y6_0 = 0 then some (x3_1) else some (x4_1)) (fun y14_0 => gd (inR (x4_1 + 1)) (fX5_nextVisit_L6 n x1_1 x2_1 y14_0 (x4_1 + 1) M_1)))))
def fX5_nextVisit (a1 : Int) (a2 : Int) (M : MM) : Option (Int) := bnd (fX5_nextVisit_L6 4000 a1 a2 (-6) 0 M) (fun y1_0 => some y1_0)
set_option maxHeartbeats 4000000 in
set_option maxRecDepth 100000 in
theorem kX5_nextVisit (l : Launch) (D : va_G) (ca : Nat → ClassId) (ad : Nat → Nat) (hI : aInj 18 ad) (M : MM) (hR : RR M) (a1 : Int) (a2 : Int) (i1 : inR a1) (i2 : inR a2) (res : Int) (hf : fX5_nextVisit a1 a2 M = some res) : CI l yX5_nextVisit wsX5_nextVisit 0 0 [.ref (ad 0), .int (J a1), .int (J a2)] (PY D ca ad M) res (inR res) (OY D ca ad M) (aS 18 ad) := by
  refine Met.ofW (cc := cX5_nextVisit) (maxL := 6) (ret := (some .int)) (by decide) rfl ?_
  intro p e s m args below meth c s₁ B hml hv
  obtain ⟨rfl, hP, hK⟩ := hv
  have hx := B.exec
  have hb := B.bytes
  have hr := B.returns
  have hts := atoms_spec (ws := wsX5_nextVisit) B.pre
  have hown : s.vm.findClass RX5 = some m.cls := findClass_of_methodNamed B.named
  have hlocks := B.notSynchronized
  have hS : va_S (aS 18 ad) s.heap s.heap [] := va_S.rf
  have hinX5 : ∀ w ∈ wsX50, w ∈ wsX5_nextVisit := by decide +kernel
  have hl := lv_entry ([.ref (ad 0), .int (J a1), .int (J a2)]) (n := 6) (Nat.le_of_ble_eq_true rfl)
  rw [lg_entry_eq]
  generalize (lg_sl ([.ref (ad 0), .int (J a1), .int (J a2)]) ++ List.replicate (6 - (lg_sl ([.ref (ad 0), .int (J a1), .int (J a2)])).length) Slot.unset).toArray = ls at hl ⊢
  have hl : lv_has ls 6 [(0, .ref (ad 0)), (1, .int (J a1)), (2, .int (J a2))] := hl
  unfold fX5_nextVisit at hf
  refine lv_bipush (v := J (-6)) hx hb dX5_nextVisit_0 (by decide +kernel) ?_
  refine lv_istore_n (lv' := [(3, .int (J (-6))), (0, .ref (ad 0)), (1, .int (J a1)), (2, .int (J a2))]) hx hb dX5_nextVisit_2 rfl hl (by decide) rfl (fun ls hl => ?_)
  refine lv_iconst (v := J 0) hx hb dX5_nextVisit_3 rfl ?_
  refine lv_istore (lv' := [(4, .int (J 0)), (3, .int (J (-6))), (0, .ref (ad 0)), (1, .int (J a1)), (2, .int (J a2))]) hx hb dX5_nextVisit_4 hl (by decide) rfl (fun ls hl => ?_)
  obtain ⟨y1_0, h1, hf⟩ := bnd_some hf
  have K1 : ∀ (H : Heap) (locs : List Loc) (ls : Array Slot), inR y1_0 → va_P D vwCl (wY ca ad M) H → va_S (aS 18 ad) s.heap H locs → lv_has ls 6 [(3, .int (J y1_0))] → W p l e (headSpec wsX5_nextVisit (RmC 0 0)).room s m ([.ref (ad 0), .int (J a1), .int (J a2)] : List Value).toArray below meth c H locs 0 0 (MQ below (va_Qi (fun x (_ : Unit) => x = J res ∧ (inR res)) (fun _ => (OY D ca ad M)) (aS 18 ad)) ([.ref (ad 0), .int (J a1), .int (J a2)] : List Value).toArray s 0 0 (aS 18 ad)) (F0 m 86 ls []) := by
    intro H locs ls ry1_0 hP hS hl
    refine lv_iload_n hx hb dX5_nextVisit_86 rfl (lv_at hl 0 rfl) ?_
    have e1 := Option.some.inj hf
    exact jend_i hx hb hr rfl hS e1 (by rw [← e1]; exact ry1_0) (oY rfl hP) dX5_nextVisit_87 hlocks
  have hL1 : ∀ (n : Nat) (x1_1 : Int) (x2_1 : Int) (x3_1 : Int) (x4_1 : Int) (M_1 : MM) (H : Heap) (locs : List Loc) (ls : Array Slot), inR x1_1 → inR x2_1 → inR x3_1 → inR x4_1 → RR M_1 → x1_1 = a1 → x2_1 = a2 → M_1 = M → va_P D vwCl (wY ca ad M_1) H → va_S (aS 18 ad) s.heap H locs → lv_has ls 6 [(0, .ref (ad 0)), (1, .int (J x1_1)), (2, .int (J x2_1)), (3, .int (J x3_1)), (4, .int (J x4_1))] → fX5_nextVisit_L6 n x1_1 x2_1 x3_1 x4_1 M_1 = some y1_0 → W p l e (headSpec wsX5_nextVisit (RmC 0 0)).room s m ([.ref (ad 0), .int (J a1), .int (J a2)] : List Value).toArray below meth c H locs 0 0 (MQ below (va_Qi (fun x (_ : Unit) => x = J res ∧ (inR res)) (fun _ => (OY D ca ad M)) (aS 18 ad)) ([.ref (ad 0), .int (J a1), .int (J a2)] : List Value).toArray s 0 0 (aS 18 ad)) (F0 m 6 ls []) := by
    intro n
    induction n with
    | zero =>
      intro x1_1 x2_1 x3_1 x4_1 M_1 H locs ls rx1_1 rx2_1 rx3_1 rx4_1 hRM_1 e_x1_1 e_x2_1 e_M_1 hP hS hl hf
      rw [fX5_nextVisit_L6] at hf
      cases hf
    | succ n ih =>
      intro x1_1 x2_1 x3_1 x4_1 M_1 H locs ls rx1_1 rx2_1 rx3_1 rx4_1 hRM_1 e_x1_1 e_x2_1 e_M_1 hP hS hl hf
      rw [fX5_nextVisit_L6] at hf
      refine lv_iload hx hb dX5_nextVisit_6 (lv_at hl 4 rfl) ?_
      refine lv_aload_n hx hb dX5_nextVisit_8 rfl (lv_at hl 0 rfl) ?_
      refine va_get (D := D) (ci := 5) (v := .ref (ad 1)) (C := RX5) (T := TX5) (N := 23) hx hb hts hinX5 hown hK hP 0 (wL_get (by decide) (gY_0 _)) rfl 1 (by decide) (hts (.fieldLink RX5 7 "VisitVansModel" "s" "[I") (List.mem_of_getElem? (i := 1) rfl)) (fun _ h => h) rfl dX5_nextVisit_9 ?_
      refine lv_iconst (v := J 3) hx hb dX5_nextVisit_12 rfl ?_
      obtain ⟨v2, qv2, hf⟩ := bnd_some hf
      obtain ⟨bv2, ev2⟩ := rd_some qv2
      have rv2 : inR v2 := by rw [ev2]; exact hRM_1 _ _
      refine jx_iald hx hb hK hP 1 0 (by decide) gY_1 rfl (by decide) bv2 ev2 dX5_nextVisit_13 ?_
      refine jv_icmp_ge (tgt := 86) hx hb dX5_nextVisit_14 (by decide) rx4_1 rv2 (fun c3 => ?_) (fun c3 => ?_)
      · have hf := itep hf c3
        cases hf
        exact K1 _ _ _ rx3_1  (e_M_1 ▸ hP) hS (lv_sub hl [3] (by subst e_x1_1; subst e_x2_1; rfl))
      · have hf := iten hf c3
        refine lv_aload_n hx hb dX5_nextVisit_17 rfl (lv_at hl 0 rfl) ?_
        refine va_get (D := D) (ci := 5) (v := .ref (ad 8)) (C := RX5) (T := TX5) (N := 23) hx hb hts hinX5 hown hK hP 0 (wL_get (by decide) (gY_0 _)) rfl 10 (by decide) (hts (.fieldLink RX5 32 "VisitVansModel" "vanOf" "[I") (List.mem_of_getElem? (i := 2) rfl)) (fun _ h => h) rfl dX5_nextVisit_18 ?_
        refine lv_iload hx hb dX5_nextVisit_21 (lv_at hl 4 rfl) ?_
        obtain ⟨v4, qv4, hf⟩ := bnd_some hf
        obtain ⟨bv4, ev4⟩ := rd_some qv4
        have rv4 : inR v4 := by rw [ev4]; exact hRM_1 _ _
        refine jx_iald hx hb hK hP 8 0 (by decide) gY_8 rfl (by decide) bv4 ev4 dX5_nextVisit_23 ?_
        refine lv_iload_n hx hb dX5_nextVisit_24 rfl (lv_at hl 1 rfl) ?_
        obtain ⟨y6_0, h6, hf⟩ := bnd_some hf
        have K6 : ∀ (H : Heap) (locs : List Loc) (ls : Array Slot), inR y6_0 → va_P D vwCl (wY ca ad M_1) H → va_S (aS 18 ad) s.heap H locs → lv_has ls 6 [(0, .ref (ad 0)), (1, .int (J x1_1)), (2, .int (J x2_1)), (3, .int (J x3_1)), (4, .int (J x4_1))] → W p l e (headSpec wsX5_nextVisit (RmC 0 0)).room s m ([.ref (ad 0), .int (J a1), .int (J a2)] : List Value).toArray below meth c H locs 0 0 (MQ below (va_Qi (fun x (_ : Unit) => x = J res ∧ (inR res)) (fun _ => (OY D ca ad M)) (aS 18 ad)) ([.ref (ad 0), .int (J a1), .int (J a2)] : List Value).toArray s 0 0 (aS 18 ad)) (F0 m 66 ls [.int (J y6_0)]) := by
          intro H locs ls ry6_0  hP hS hl
          refine lv_istore (lv' := [(5, .int (J y6_0)), (0, .ref (ad 0)), (1, .int (J x1_1)), (2, .int (J x2_1)), (3, .int (J x3_1)), (4, .int (J x4_1))]) hx hb dX5_nextVisit_66 hl (by decide) rfl (fun ls hl => ?_)
          refine lv_iload hx hb dX5_nextVisit_68 (lv_at hl 0 rfl) ?_
          obtain ⟨y14_0, h14, hf⟩ := bnd_some hf
          have K14 : ∀ (H : Heap) (locs : List Loc) (ls : Array Slot), inR y14_0 → va_P D vwCl (wY ca ad M_1) H → va_S (aS 18 ad) s.heap H locs → lv_has ls 6 [(0, .ref (ad 0)), (1, .int (J x1_1)), (2, .int (J x2_1)), (4, .int (J x4_1))] → W p l e (headSpec wsX5_nextVisit (RmC 0 0)).room s m ([.ref (ad 0), .int (J a1), .int (J a2)] : List Value).toArray below meth c H locs 0 0 (MQ below (va_Qi (fun x (_ : Unit) => x = J res ∧ (inR res)) (fun _ => (OY D ca ad M)) (aS 18 ad)) ([.ref (ad 0), .int (J a1), .int (J a2)] : List Value).toArray s 0 0 (aS 18 ad)) (F0 m 79 ls [.int (J y14_0)]) := by
            intro H locs ls ry14_0  hP hS hl
            refine lv_istore_n (lv' := [(3, .int (J y14_0)), (0, .ref (ad 0)), (1, .int (J x1_1)), (2, .int (J x2_1)), (4, .int (J x4_1))]) hx hb dX5_nextVisit_79 rfl hl (by decide) rfl (fun ls hl => ?_)
            refine lv_iinc (v := J (x4_1 + 1)) (lv' := [(4, .int (J (x4_1 + 1))), (3, .int (J y14_0)), (0, .ref (ad 0)), (1, .int (J x1_1)), (2, .int (J x2_1))]) hx hb dX5_nextVisit_80 hl (k := 4) rfl (J_add _ _) (by decide) rfl (fun ls hl => ?_)
            refine lv_goto (tgt := 6) hx hb dX5_nextVisit_83 (by decide) ?_
            obtain ⟨g15, hf⟩ := gd_some hf
            exact ih _ _ _ _ _ _ _ _ rx1_1 rx2_1 ry14_0 g15 hRM_1 e_x1_1 e_x2_1 e_M_1 hP hS (lv_sub hl [2, 3, 4, 1, 0] rfl) hf
          have hf := h14
          clear h14
          refine jv_if_eq (tgt := 78) hx hb dX5_nextVisit_70 (by decide) ry6_0 (fun c13 => ?_) (fun c13 => ?_)
          · have hf := itep hf c13
            refine lv_iload_n hx hb dX5_nextVisit_78 rfl (lv_at hl 4 rfl) ?_
            cases hf
            exact K14 _ _ _ rx3_1  hP hS (lv_sub hl [1, 2, 3, 5] rfl)
          · have hf := iten hf c13
            refine lv_iload hx hb dX5_nextVisit_73 (lv_at hl 5 rfl) ?_
            refine lv_goto (tgt := 79) hx hb dX5_nextVisit_75 (by decide) ?_
            cases hf
            exact K14 _ _ _ rx4_1  hP hS (lv_sub hl [1, 2, 3, 5] rfl)
        have hf := h6
        clear h6
        refine jv_icmp_ne (tgt := 65) hx hb dX5_nextVisit_25 (by decide) rv4 rx1_1 (fun c5 => ?_) (fun c5 => ?_)
        · have hf := iten hf c5
          refine lv_iconst (v := J 0) hx hb dX5_nextVisit_65 rfl ?_
          cases hf
          exact K6 _ _ _ (by decide : inR 0)  hP hS (lv_sub hl [0, 1, 2, 3, 4] rfl)
        · have hf := itep hf c5
          refine lv_aload_n hx hb dX5_nextVisit_28 rfl (lv_at hl 0 rfl) ?_
          refine va_get (D := D) (ci := 5) (v := .ref (ad 9)) (C := RX5) (T := TX5) (N := 23) hx hb hts hinX5 hown hK hP 0 (wL_get (by decide) (gY_0 _)) rfl 11 (by decide) (hts (.fieldLink RX5 35 "VisitVansModel" "begins" "[I") (List.mem_of_getElem? (i := 3) rfl)) (fun _ h => h) rfl dX5_nextVisit_29 ?_
          refine lv_iload hx hb dX5_nextVisit_32 (lv_at hl 4 rfl) ?_
          obtain ⟨v7, qv7, hf⟩ := bnd_some hf
          obtain ⟨bv7, ev7⟩ := rd_some qv7
          have rv7 : inR v7 := by rw [ev7]; exact hRM_1 _ _
          refine jx_iald hx hb hK hP 9 0 (by decide) gY_9 rfl (by decide) bv7 ev7 dX5_nextVisit_34 ?_
          refine lv_iload_n hx hb dX5_nextVisit_35 rfl (lv_at hl 2 rfl) ?_
          refine jv_icmp_le (tgt := 65) hx hb dX5_nextVisit_36 (by decide) rv7 rx2_1 (fun c8 => ?_) (fun c8 => ?_)
          · have hf := itep hf c8
            refine lv_iconst (v := J 0) hx hb dX5_nextVisit_65 rfl ?_
            cases hf
            exact K6 _ _ _ (by decide : inR 0)  hP hS (lv_sub hl [0, 1, 2, 3, 4] rfl)
          · have hf := iten hf c8
            refine lv_iload_n hx hb dX5_nextVisit_39 rfl (lv_at hl 3 rfl) ?_
            refine lv_bipush (v := J (-6)) hx hb dX5_nextVisit_40 (by decide +kernel) ?_
            refine jv_icmp_eq (tgt := 61) hx hb dX5_nextVisit_42 (by decide) rx3_1 (by decide : inR (-6)) (fun c9 => ?_) (fun c9 => ?_)
            · have hf := itep hf c9
              refine lv_iconst (v := J 1) hx hb dX5_nextVisit_61 rfl ?_
              refine lv_goto (tgt := 66) hx hb dX5_nextVisit_62 (by decide) ?_
              cases hf
              exact K6 _ _ _ (by decide : inR 1)  hP hS (lv_sub hl [0, 1, 2, 3, 4] rfl)
            · have hf := iten hf c9
              refine lv_aload_n hx hb dX5_nextVisit_45 rfl (lv_at hl 0 rfl) ?_
              refine va_get (D := D) (ci := 5) (v := .ref (ad 9)) (C := RX5) (T := TX5) (N := 23) hx hb hts hinX5 hown hK hP 0 (wL_get (by decide) (gY_0 _)) rfl 11 (by decide) (hts (.fieldLink RX5 35 "VisitVansModel" "begins" "[I") (List.mem_of_getElem? (i := 3) rfl)) (fun _ h => h) rfl dX5_nextVisit_46 ?_
              refine lv_iload hx hb dX5_nextVisit_49 (lv_at hl 4 rfl) ?_
              obtain ⟨v10, qv10, hf⟩ := bnd_some hf
              obtain ⟨bv10, ev10⟩ := rd_some qv10
              have rv10 : inR v10 := by rw [ev10]; exact hRM_1 _ _
              refine jx_iald hx hb hK hP 9 0 (by decide) gY_9 rfl (by decide) bv10 ev10 dX5_nextVisit_51 ?_
              refine lv_aload_n hx hb dX5_nextVisit_52 rfl (lv_at hl 0 rfl) ?_
              refine va_get (D := D) (ci := 5) (v := .ref (ad 9)) (C := RX5) (T := TX5) (N := 23) hx hb hts hinX5 hown hK hP 0 (wL_get (by decide) (gY_0 _)) rfl 11 (by decide) (hts (.fieldLink RX5 35 "VisitVansModel" "begins" "[I") (List.mem_of_getElem? (i := 3) rfl)) (fun _ h => h) rfl dX5_nextVisit_53 ?_
              refine lv_iload_n hx hb dX5_nextVisit_56 rfl (lv_at hl 3 rfl) ?_
              obtain ⟨v11, qv11, hf⟩ := bnd_some hf
              obtain ⟨bv11, ev11⟩ := rd_some qv11
              have rv11 : inR v11 := by rw [ev11]; exact hRM_1 _ _
              refine jx_iald hx hb hK hP 9 0 (by decide) gY_9 rfl (by decide) bv11 ev11 dX5_nextVisit_57 ?_
              refine jv_icmp_ge (tgt := 65) hx hb dX5_nextVisit_58 (by decide) rv10 rv11 (fun c12 => ?_) (fun c12 => ?_)
              · have hf := itep hf c12
                refine lv_iconst (v := J 0) hx hb dX5_nextVisit_65 rfl ?_
                cases hf
                exact K6 _ _ _ (by decide : inR 0)  hP hS (lv_sub hl [0, 1, 2, 3, 4] rfl)
              · have hf := iten hf c12
                refine lv_iconst (v := J 1) hx hb dX5_nextVisit_61 rfl ?_
                refine lv_goto (tgt := 66) hx hb dX5_nextVisit_62 (by decide) ?_
                cases hf
                exact K6 _ _ _ (by decide : inR 1)  hP hS (lv_sub hl [0, 1, 2, 3, 4] rfl)
  exact hL1 4000 _ _ _ _ _ _ _ _ i1 i2 (by decide : inR (-6)) (by decide : inR 0) hR rfl rfl rfl hP hS (lv_sub hl [2, 3, 4, 1, 0] rfl) h1
def fX5_tells (a1 : Int) (a2 : Int) (a3 : Int) (a4 : Int) (a5 : Int) : Option (Int) := bnd (if a5 = 0 then some (a1) else if a5 = 1 then some (a2) else if a5 = 2 then some (a3) else if a5 = 3 then some (a4) else some (((-2) : Int))) (fun y2_0 => some y2_0)
set_option maxHeartbeats 4000000 in
set_option maxRecDepth 100000 in
theorem kX5_tells (l : Launch) (D : va_G) (ca : Nat → ClassId) (ad : Nat → Nat) (hI : aInj 18 ad) (M : MM) (hR : RR M) (a1 : Int) (a2 : Int) (a3 : Int) (a4 : Int) (a5 : Int) (i1 : inR a1) (i2 : inR a2) (i3 : inR a3) (i4 : inR a4) (i5 : inR a5) (res : Int) (hf : fX5_tells a1 a2 a3 a4 a5 = some res) : CI l yX5_tells wsX5_tells 0 0 [.ref (ad 0), .int (J a1), .int (J a2), .int (J a3), .int (J a4), .int (J a5)] (PY D ca ad M) res (inR res) (OY D ca ad M) (aS 18 ad) := by
  refine Met.ofW (cc := cX5_tells) (maxL := 6) (ret := (some .int)) (by decide) rfl ?_
  intro p e s m args below meth c s₁ B hml hv
  obtain ⟨rfl, hP, hK⟩ := hv
  have hx := B.exec
  have hb := B.bytes
  have hr := B.returns
  have hts := atoms_spec (ws := wsX5_tells) B.pre
  have hown : s.vm.findClass RX5 = some m.cls := findClass_of_methodNamed B.named
  have hlocks := B.notSynchronized
  have hS : va_S (aS 18 ad) s.heap s.heap [] := va_S.rf
  have hl := lv_entry ([.ref (ad 0), .int (J a1), .int (J a2), .int (J a3), .int (J a4), .int (J a5)]) (n := 6) (Nat.le_of_ble_eq_true rfl)
  rw [lg_entry_eq]
  generalize (lg_sl ([.ref (ad 0), .int (J a1), .int (J a2), .int (J a3), .int (J a4), .int (J a5)]) ++ List.replicate (6 - (lg_sl ([.ref (ad 0), .int (J a1), .int (J a2), .int (J a3), .int (J a4), .int (J a5)])).length) Slot.unset).toArray = ls at hl ⊢
  have hl : lv_has ls 6 [(0, .ref (ad 0)), (1, .int (J a1)), (2, .int (J a2)), (3, .int (J a3)), (4, .int (J a4)), (5, .int (J a5))] := hl
  unfold fX5_tells at hf
  refine lv_iload hx hb dX5_tells_0 (lv_at hl 5 rfl) ?_
  obtain ⟨y2_0, h2, hf⟩ := bnd_some hf
  have K2 : ∀ (H : Heap) (locs : List Loc) (ls : Array Slot), inR y2_0 → va_P D vwCl (wY ca ad M) H → va_S (aS 18 ad) s.heap H locs → lv_has ls 6 [] → W p l e (headSpec wsX5_tells (RmC 0 0)).room s m ([.ref (ad 0), .int (J a1), .int (J a2), .int (J a3), .int (J a4), .int (J a5)] : List Value).toArray below meth c H locs 0 0 (MQ below (va_Qi (fun x (_ : Unit) => x = J res ∧ (inR res)) (fun _ => (OY D ca ad M)) (aS 18 ad)) ([.ref (ad 0), .int (J a1), .int (J a2), .int (J a3), .int (J a4), .int (J a5)] : List Value).toArray s 0 0 (aS 18 ad)) (F0 m 42 ls [.int (J y2_0)]) := by
    intro H locs ls ry2_0  hP hS hl
    have e1 := Option.some.inj hf
    exact jend_i hx hb hr rfl hS e1 (by rw [← e1]; exact ry2_0) (oY rfl hP) dX5_tells_42 hlocks
  have hf := h2
  clear h2
  refine jv_if_ne (tgt := 9) hx hb dX5_tells_2 (by decide) i5 (fun c1 => ?_) (fun c1 => ?_)
  · have hf := iten hf c1
    refine lv_iload hx hb dX5_tells_9 (lv_at hl 5 rfl) ?_
    refine lv_iconst (v := J 1) hx hb dX5_tells_11 rfl ?_
    refine jv_icmp_ne (tgt := 19) hx hb dX5_tells_12 (by decide) i5 (by decide : inR 1) (fun c3 => ?_) (fun c3 => ?_)
    · have hf := iten hf c3
      refine lv_iload hx hb dX5_tells_19 (lv_at hl 5 rfl) ?_
      refine lv_iconst (v := J 2) hx hb dX5_tells_21 rfl ?_
      refine jv_icmp_ne (tgt := 29) hx hb dX5_tells_22 (by decide) i5 (by decide : inR 2) (fun c4 => ?_) (fun c4 => ?_)
      · have hf := iten hf c4
        refine lv_iload hx hb dX5_tells_29 (lv_at hl 5 rfl) ?_
        refine lv_iconst (v := J 3) hx hb dX5_tells_31 rfl ?_
        refine jv_icmp_ne (tgt := 40) hx hb dX5_tells_32 (by decide) i5 (by decide : inR 3) (fun c5 => ?_) (fun c5 => ?_)
        · have hf := iten hf c5
          refine lv_bipush (v := J (-2)) hx hb dX5_tells_40 (by decide +kernel) ?_
          cases hf
          exact K2 _ _ _ (by decide : inR (-2))  hP hS (lv_sub hl [] rfl)
        · have hf := itep hf c5
          refine lv_iload hx hb dX5_tells_35 (lv_at hl 4 rfl) ?_
          refine lv_goto (tgt := 42) hx hb dX5_tells_37 (by decide) ?_
          cases hf
          exact K2 _ _ _ i4  hP hS (lv_sub hl [] rfl)
      · have hf := itep hf c4
        refine lv_iload_n hx hb dX5_tells_25 rfl (lv_at hl 3 rfl) ?_
        refine lv_goto (tgt := 42) hx hb dX5_tells_26 (by decide) ?_
        cases hf
        exact K2 _ _ _ i3  hP hS (lv_sub hl [] rfl)
    · have hf := itep hf c3
      refine lv_iload_n hx hb dX5_tells_15 rfl (lv_at hl 2 rfl) ?_
      refine lv_goto (tgt := 42) hx hb dX5_tells_16 (by decide) ?_
      cases hf
      exact K2 _ _ _ i2  hP hS (lv_sub hl [] rfl)
  · have hf := itep hf c1
    refine lv_iload_n hx hb dX5_tells_5 rfl (lv_at hl 1 rfl) ?_
    refine lv_goto (tgt := 42) hx hb dX5_tells_6 (by decide) ?_
    cases hf
    exact K2 _ _ _ i1  hP hS (lv_sub hl [] rfl)
def fX5_event_L47 : Nat → Int → Int → Int → Int → MM → Option (Int × MM)
  | 0, _, _, _, _, _ => none
  | n + 1, x1_15, x3_15, x4_15, x5_15, M_15 => bnd (rd M_15 10 21 x5_15) (fun v16 => bnd (rd M_15 11 21 x5_15) (fun v17 => if v16 ≤ v17 then bnd (rd M_15 9 21 x5_15) (fun v19 => bnd (rd M_15 10 21 x5_15) (fun v20 => if v19 ≤ v20 then if x4_15 = 0 then bnd (rd M_15 9 21 x5_15) (fun v27 => bnd (rd M_15 9 21 x5_15) (fun v28 => bnd (rd M_15 1 160 1) (fun v29 => gd (inR (v28 + v29)) (bnd (fX5_tells 2 v27 (v28 + v29) x5_15 x3_15) (fun v31 => some (v31, M_15)))))) else bnd (rd M_15 9 21 x5_15) (fun v23 => bnd (fX5_nextVisit x1_15 v23 M_15) (fun v24 => gd (inR (x4_15 + (-1))) (fX5_event_L47 n x1_15 x3_15 (x4_15 + (-1)) v24 M_15))) else if x4_15 = 0 then bnd (rd M_15 10 21 x5_15) (fun v46 => bnd (rd M_15 9 21 x5_15) (fun v47 => bnd (fX5_tells 1 v46 v47 x5_15 x3_15) (fun v48 => some (v48, M_15)))) else gd (inR (x4_15 + (-1))) (if (x4_15 + (-1)) = 0 then bnd (rd M_15 9 21 x5_15) (fun v40 => bnd (rd M_15 9 21 x5_15) (fun v41 => bnd (rd M_15 1 160 1) (fun v42 => gd (inR (v41 + v42)) (bnd (fX5_tells 2 v40 (v41 + v42) x5_15 x3_15) (fun v44 => some (v44, M_15)))))) else bnd (rd M_15 9 21 x5_15) (fun v36 => bnd (fX5_nextVisit x1_15 v36 M_15) (fun v37 => gd (inR ((x4_15 + (-1)) + (-1))) (fX5_event_L47 n x1_15 x3_15 ((x4_15 + (-1)) + (-1)) v37 M_15)))))) else if x4_15 = 0 then bnd (rd M_15 11 21 x5_15) (fun v84 => bnd (rd M_15 10 21 x5_15) (fun v85 => bnd (fX5_tells 0 v84 v85 x5_15 x3_15) (fun v86 => some (v86, M_15)))) else bnd (rd M_15 9 21 x5_15) (fun v51 => bnd (rd M_15 10 21 x5_15) (fun v52 => if v51 ≤ v52 then gd (inR (x4_15 + (-1))) (if (x4_15 + (-1)) = 0 then bnd (rd M_15 9 21 x5_15) (fun v60 => bnd (rd M_15 9 21 x5_15) (fun v61 => bnd (rd M_15 1 160 1) (fun v62 => gd (inR (v61 + v62)) (bnd (fX5_tells 2 v60 (v61 + v62) x5_15 x3_15) (fun v64 => some (v64, M_15)))))) else bnd (rd M_15 9 21 x5_15) (fun v56 => bnd (fX5_nextVisit x1_15 v56 M_15) (fun v57 => gd (inR ((x4_15 + (-1)) + (-1))) (fX5_event_L47 n x1_15 x3_15 ((x4_15 + (-1)) + (-1)) v57 M_15)))) else gd (inR (x4_15 + (-1))) (if (x4_15 + (-1)) = 0 then bnd (rd M_15 10 21 x5_15) (fun v80 => bnd (rd M_15 9 21 x5_15) (fun v81 => bnd (fX5_tells 1 v80 v81 x5_15 x3_15) (fun v82 => some (v82, M_15)))) else gd (inR ((x4_15 + (-1)) + (-1))) (if ((x4_15 + (-1)) + (-1)) = 0 then bnd (rd M_15 9 21 x5_15) (fun v74 => bnd (rd M_15 9 21 x5_15) (fun v75 => bnd (rd M_15 1 160 1) (fun v76 => gd (inR (v75 + v76)) (bnd (fX5_tells 2 v74 (v75 + v76) x5_15 x3_15) (fun v78 => some (v78, M_15)))))) else bnd (rd M_15 9 21 x5_15) (fun v70 => bnd (fX5_nextVisit x1_15 v70 M_15) (fun v71 => gd (inR (((x4_15 + (-1)) + (-1)) + (-1))) (fX5_event_L47 n x1_15 x3_15 (((x4_15 + (-1)) + (-1)) + (-1)) v71 M_15)))))))))
def fX5_event (a1 : Int) (a2 : Int) (a3 : Int) (M : MM) : Option (Int × MM) := bnd (some (stM M 0 0 0)) (fun M1 => bnd (fX5_isVan a1 M1) (fun v2 => if v2 = 0 then some ((-1), M1) else bnd (fX5_plans M1) (fun M6 => bnd (fX5_eventsOf a1 M6) (fun v7 => gd (inR (v7 - 1)) (bnd (fX5_in a2 0 (v7 - 1)) (fun v10 => if v10 = 0 then some ((-1), M6) else bnd (fX5_nextVisit a1 (-1) M6) (fun v13 => fX5_event_L47 4000 a1 a3 a2 v13 M6)))))))
set_option maxHeartbeats 4000000 in
set_option maxRecDepth 100000 in
theorem kX5_event (l : Launch) (D : va_G) (ca : Nat → ClassId) (ad : Nat → Nat) (hI : aInj 18 ad) (M : MM) (hR : RR M) (a1 : Int) (a2 : Int) (a3 : Int) (i1 : inR a1) (i2 : inR a2) (i3 : inR a3) (res : Int) (M' : MM) (hf : fX5_event a1 a2 a3 M = some (res, M')) : CI l yX5_event wsX5_event 6 141 [.ref (ad 0), .int (J a1), .int (J a2), .int (J a3)] (PY D ca ad M) res (inR res ∧ RR M') (OY D ca ad M') (aS 18 ad) := by
  refine Met.ofW (cc := cX5_event) (maxL := 6) (ret := (some .int)) (by decide) rfl ?_
  intro p e s m args below meth c s₁ B hml hv
  obtain ⟨rfl, hP, hK⟩ := hv
  have hx := B.exec
  have hb := B.bytes
  have hr := B.returns
  have hts := atoms_spec (ws := wsX5_event) B.pre
  have hown : s.vm.findClass RX5 = some m.cls := findClass_of_methodNamed B.named
  have hlocks := B.notSynchronized
  have hS : va_S (aS 18 ad) s.heap s.heap [] := va_S.rf
  have hinX5 : ∀ w ∈ wsX50, w ∈ wsX5_event := by decide +kernel
  have hl := lv_entry ([.ref (ad 0), .int (J a1), .int (J a2), .int (J a3)]) (n := 6) (Nat.le_of_ble_eq_true rfl)
  rw [lg_entry_eq]
  generalize (lg_sl ([.ref (ad 0), .int (J a1), .int (J a2), .int (J a3)]) ++ List.replicate (6 - (lg_sl ([.ref (ad 0), .int (J a1), .int (J a2), .int (J a3)])).length) Slot.unset).toArray = ls at hl ⊢
  have hl : lv_has ls 6 [(0, .ref (ad 0)), (1, .int (J a1)), (2, .int (J a2)), (3, .int (J a3))] := hl
  unfold fX5_event at hf
  refine lv_aload_n hx hb dX5_event_0 rfl (lv_at hl 0 rfl) ?_
  refine lv_iconst (v := J 0) hx hb dX5_event_1 rfl ?_
  obtain ⟨M1, eM1, hf⟩ := bnd_some hf
  have eM1 := Option.some.inj eM1
  have hRM1 : RR M1 := by rw [← eM1]; exact RR_st hR 0 0 (by decide : inR 0)
  refine va_put (D := D) (ci := 5) (v := .int (J 0)) (ty := .int) (C := RX5) (T := TX5) (N := 23) hx hb hts hinX5 tyX5 tyX5_ok nmX5 hown hK hP (wL_D hI M) hS 0 (wL_get (by decide) (gY_0 _)) rfl 0 (by decide) (hts (.fieldLink RX5 62 "VisitVansModel" "thrown" "I") (List.mem_of_getElem? (i := 1) rfl)) (fun _ h => h) rfl rfl rfl rfl (Nat.le_of_ble_eq_true rfl) dX5_event_2 (fun H locs hP hD hS => ?_)
  have hP : va_P D vwCl (wY ca ad M1) H := by rw [← eM1]; exact hPset (gY_0_s0) stM_o hP
  refine lv_aload_n hx hb dX5_event_5 rfl (lv_at hl 0 rfl) ?_
  refine lv_iload_n hx hb dX5_event_6 rfl (lv_at hl 1 rfl) ?_
  obtain ⟨v2, qv2, hf⟩ := bnd_some hf
  refine jc_i (va_runV (As := [.int (J a1)]) (rest := []) ⟨hx, hb, hml, hown, hts⟩ (kX5_isVan l D ca ad hI M1 hRM1 a1 i1 v2 qv2) (cwV 1 hts gX5_event_X5_isVan rfl rfl rfl (by decide +kernel) ⟨Nat.le_of_ble_eq_true rfl, Nat.le_of_ble_eq_true rfl⟩) (pvY hK hP [.int (J a1)]) rfl rfl hl.1 rfl (lv_room (Nat.le_of_ble_eq_true rfl)) dX5_event_7 ⟨Nat.zero_le _, Nat.zero_le _⟩) hS (fun H locs t ht hφ hO hS => ?_)
  have rv2 := hφ
  have hP : va_P D vwCl (wY ca ad M1) H := by rw [← ht]; exact hO
  refine jv_if_ne (tgt := 15) hx hb dX5_event_10 (by decide) rv2 (fun c4 => ?_) (fun c4 => ?_)
  · have hf := iten hf c4
    refine lv_aload_n hx hb dX5_event_15 rfl (lv_at hl 0 rfl) ?_
    obtain ⟨M6, qM6, hf⟩ := bnd_some hf
    refine jc_v (va_runV (As := []) (rest := []) ⟨hx, hb, hml, hown, hts⟩ (kX5_plans l D ca ad hI M1 hRM1 M6 qM6) (cwV 0 hts gX5_event_X5_plans rfl rfl rfl (by decide +kernel) ⟨Nat.le_of_ble_eq_true rfl, Nat.le_of_ble_eq_true rfl⟩) (pvY hK hP []) rfl rfl hl.1 rfl (lv_room (Nat.le_of_ble_eq_true rfl)) dX5_event_16 ⟨Nat.zero_le _, Nat.zero_le _⟩) hS (fun H locs t ht hφ hO hS => ?_)
    have hRM6 := hφ
    have hP : va_P D vwCl (wY ca ad M6) H := by rw [← ht]; exact hO
    refine lv_iload_n hx hb dX5_event_19 rfl (lv_at hl 2 rfl) ?_
    refine lv_iconst (v := J 0) hx hb dX5_event_20 rfl ?_
    refine lv_aload_n hx hb dX5_event_21 rfl (lv_at hl 0 rfl) ?_
    refine lv_iload_n hx hb dX5_event_22 rfl (lv_at hl 1 rfl) ?_
    obtain ⟨v7, qv7, hf⟩ := bnd_some hf
    refine jc_i (va_runV (As := [.int (J a1)]) (rest := [.int (J 0), .int (J a2)]) ⟨hx, hb, hml, hown, hts⟩ (kX5_eventsOf l D ca ad hI M6 hRM6 a1 i1 v7 qv7) (cwV 1 hts gX5_event_X5_eventsOf rfl rfl rfl (by decide +kernel) ⟨Nat.le_of_ble_eq_true rfl, Nat.le_of_ble_eq_true rfl⟩) (pvY hK hP [.int (J a1)]) rfl rfl hl.1 rfl (lv_room (Nat.le_of_ble_eq_true rfl)) dX5_event_23 ⟨Nat.zero_le _, Nat.zero_le _⟩) hS (fun H locs t ht hφ hO hS => ?_)
    have rv7 := hφ
    have hP : va_P D vwCl (wY ca ad M6) H := by rw [← ht]; exact hO
    refine lv_iconst (v := J 1) hx hb dX5_event_26 rfl ?_
    refine jv_isub hx hb dX5_event_27 ?_
    obtain ⟨g9, hf⟩ := gd_some hf
    obtain ⟨v10, qv10, hf⟩ := bnd_some hf
    refine jc_i (va_runS (As := [.int (J a2), .int (J 0), .int (J (v7 - 1))]) (rest := []) ⟨hx, hb, hml, hown, hts⟩ (kX5_in l D ca ad hI M6 hRM6 a2 0 (v7 - 1) i2 (by decide : inR 0) g9 v10 qv10) (va_cwS 3 hts gX5_event_X5_in rfl rfl rfl (by decide +kernel) ⟨Nat.le_of_ble_eq_true rfl, Nat.le_of_ble_eq_true rfl⟩) (psY hK hP [.int (J a2), .int (J 0), .int (J (v7 - 1))]) rfl rfl hl.1 rfl (lv_room (Nat.le_of_ble_eq_true rfl)) dX5_event_28 ⟨Nat.zero_le _, Nat.zero_le _⟩) hS (fun H locs t ht hφ hO hS => ?_)
    have rv10 := hφ
    have hP : va_P D vwCl (wY ca ad M6) H := by rw [← ht]; exact hO
    refine jv_if_ne (tgt := 36) hx hb dX5_event_31 (by decide) rv10 (fun c12 => ?_) (fun c12 => ?_)
    · have hf := iten hf c12
      refine lv_iload_n hx hb dX5_event_36 rfl (lv_at hl 2 rfl) ?_
      refine lv_istore (lv' := [(4, .int (J a2)), (0, .ref (ad 0)), (1, .int (J a1)), (2, .int (J a2)), (3, .int (J a3))]) hx hb dX5_event_37 hl (by decide) rfl (fun ls hl => ?_)
      refine lv_aload_n hx hb dX5_event_39 rfl (lv_at hl 1 rfl) ?_
      refine lv_iload_n hx hb dX5_event_40 rfl (lv_at hl 2 rfl) ?_
      refine lv_iconst (v := J (-1)) hx hb dX5_event_41 rfl ?_
      obtain ⟨v13, qv13, hf⟩ := bnd_some hf
      refine jc_i (va_runV (As := [.int (J a1), .int (J (-1))]) (rest := []) ⟨hx, hb, hml, hown, hts⟩ (kX5_nextVisit l D ca ad hI M6 hRM6 a1 (-1) i1 (by decide : inR (-1)) v13 qv13) (cwV 2 hts gX5_event_X5_nextVisit rfl rfl rfl (by decide +kernel) ⟨Nat.le_of_ble_eq_true rfl, Nat.le_of_ble_eq_true rfl⟩) (pvY hK hP [.int (J a1), .int (J (-1))]) rfl rfl hl.1 rfl (lv_room (Nat.le_of_ble_eq_true rfl)) dX5_event_42 ⟨Nat.zero_le _, Nat.zero_le _⟩) hS (fun H locs t ht hφ hO hS => ?_)
      have rv13 := hφ
      have hP : va_P D vwCl (wY ca ad M6) H := by rw [← ht]; exact hO
      refine lv_istore (lv' := [(5, .int (J v13)), (4, .int (J a2)), (0, .ref (ad 0)), (1, .int (J a1)), (2, .int (J a2)), (3, .int (J a3))]) hx hb dX5_event_45 hl (by decide) rfl (fun ls hl => ?_)
      have hL15 : ∀ (n : Nat) (x1_15 : Int) (x3_15 : Int) (x4_15 : Int) (x5_15 : Int) (M_15 : MM) (H : Heap) (locs : List Loc) (ls : Array Slot), inR x1_15 → inR x3_15 → inR x4_15 → inR x5_15 → RR M_15 → x1_15 = a1 → x3_15 = a3 → M_15 = M6 → va_P D vwCl (wY ca ad M_15) H → va_S (aS 18 ad) s.heap H locs → lv_has ls 6 [(0, .ref (ad 0)), (1, .int (J x1_15)), (3, .int (J x3_15)), (4, .int (J x4_15)), (5, .int (J x5_15))] → fX5_event_L47 n x1_15 x3_15 x4_15 x5_15 M_15 = some (res, M') → W p l e (headSpec wsX5_event (RmC 6 141)).room s m ([.ref (ad 0), .int (J a1), .int (J a2), .int (J a3)] : List Value).toArray below meth c H locs 0 0 (MQ below (va_Qi (fun x (_ : Unit) => x = J res ∧ (inR res ∧ RR M')) (fun _ => (OY D ca ad M')) (aS 18 ad)) ([.ref (ad 0), .int (J a1), .int (J a2), .int (J a3)] : List Value).toArray s 0 0 (aS 18 ad)) (F0 m 47 ls []) := by
        intro n
        induction n with
        | zero =>
          intro x1_15 x3_15 x4_15 x5_15 M_15 H locs ls rx1_15 rx3_15 rx4_15 rx5_15 hRM_15 e_x1_15 e_x3_15 e_M_15 hP hS hl hf
          rw [fX5_event_L47] at hf
          cases hf
        | succ n ih =>
          intro x1_15 x3_15 x4_15 x5_15 M_15 H locs ls rx1_15 rx3_15 rx4_15 rx5_15 hRM_15 e_x1_15 e_x3_15 e_M_15 hP hS hl hf
          rw [fX5_event_L47] at hf
          refine lv_aload_n hx hb dX5_event_47 rfl (lv_at hl 0 rfl) ?_
          refine va_get (D := D) (ci := 5) (v := .ref (ad 10)) (C := RX5) (T := TX5) (N := 23) hx hb hts hinX5 hown hK hP 0 (wL_get (by decide) (gY_0 _)) rfl 12 (by decide) (hts (.fieldLink RX5 38 "VisitVansModel" "comes" "[I") (List.mem_of_getElem? (i := 2) rfl)) (fun _ h => h) rfl dX5_event_48 ?_
          refine lv_iload hx hb dX5_event_51 (lv_at hl 4 rfl) ?_
          obtain ⟨v16, qv16, hf⟩ := bnd_some hf
          obtain ⟨bv16, ev16⟩ := rd_some qv16
          have rv16 : inR v16 := by rw [ev16]; exact hRM_15 _ _
          refine jx_iald hx hb hK hP 10 0 (by decide) gY_10 rfl (by decide) bv16 ev16 dX5_event_53 ?_
          refine lv_aload_n hx hb dX5_event_54 rfl (lv_at hl 0 rfl) ?_
          refine va_get (D := D) (ci := 5) (v := .ref (ad 11)) (C := RX5) (T := TX5) (N := 23) hx hb hts hinX5 hown hK hP 0 (wL_get (by decide) (gY_0 _)) rfl 13 (by decide) (hts (.fieldLink RX5 41 "VisitVansModel" "leaves" "[I") (List.mem_of_getElem? (i := 3) rfl)) (fun _ h => h) rfl dX5_event_55 ?_
          refine lv_iload hx hb dX5_event_58 (lv_at hl 4 rfl) ?_
          obtain ⟨v17, qv17, hf⟩ := bnd_some hf
          obtain ⟨bv17, ev17⟩ := rd_some qv17
          have rv17 : inR v17 := by rw [ev17]; exact hRM_15 _ _
          refine jx_iald hx hb hK hP 11 0 (by decide) gY_11 rfl (by decide) bv17 ev17 dX5_event_60 ?_
          refine jv_icmp_le (tgt := 95) hx hb dX5_event_61 (by decide) rv16 rv17 (fun c18 => ?_) (fun c18 => ?_)
          · have hf := itep hf c18
            refine lv_aload_n hx hb dX5_event_95 rfl (lv_at hl 0 rfl) ?_
            refine va_get (D := D) (ci := 5) (v := .ref (ad 9)) (C := RX5) (T := TX5) (N := 23) hx hb hts hinX5 hown hK hP 0 (wL_get (by decide) (gY_0 _)) rfl 11 (by decide) (hts (.fieldLink RX5 35 "VisitVansModel" "begins" "[I") (List.mem_of_getElem? (i := 4) rfl)) (fun _ h => h) rfl dX5_event_96 ?_
            refine lv_iload hx hb dX5_event_99 (lv_at hl 4 rfl) ?_
            obtain ⟨v19, qv19, hf⟩ := bnd_some hf
            obtain ⟨bv19, ev19⟩ := rd_some qv19
            have rv19 : inR v19 := by rw [ev19]; exact hRM_15 _ _
            refine jx_iald hx hb hK hP 9 0 (by decide) gY_9 rfl (by decide) bv19 ev19 dX5_event_101 ?_
            refine lv_aload_n hx hb dX5_event_102 rfl (lv_at hl 0 rfl) ?_
            refine va_get (D := D) (ci := 5) (v := .ref (ad 10)) (C := RX5) (T := TX5) (N := 23) hx hb hts hinX5 hown hK hP 0 (wL_get (by decide) (gY_0 _)) rfl 12 (by decide) (hts (.fieldLink RX5 38 "VisitVansModel" "comes" "[I") (List.mem_of_getElem? (i := 2) rfl)) (fun _ h => h) rfl dX5_event_103 ?_
            refine lv_iload hx hb dX5_event_106 (lv_at hl 4 rfl) ?_
            obtain ⟨v20, qv20, hf⟩ := bnd_some hf
            obtain ⟨bv20, ev20⟩ := rd_some qv20
            have rv20 : inR v20 := by rw [ev20]; exact hRM_15 _ _
            refine jx_iald hx hb hK hP 10 0 (by decide) gY_10 rfl (by decide) bv20 ev20 dX5_event_108 ?_
            refine jv_icmp_le (tgt := 143) hx hb dX5_event_109 (by decide) rv19 rv20 (fun c21 => ?_) (fun c21 => ?_)
            · have hf := itep hf c21
              refine lv_iload hx hb dX5_event_143 (lv_at hl 3 rfl) ?_
              refine jv_if_ne (tgt := 178) hx hb dX5_event_145 (by decide) rx4_15 (fun c22 => ?_) (fun c22 => ?_)
              · have hf := iten hf c22
                refine lv_iinc (v := J (x4_15 + (-1))) (lv' := [(4, .int (J (x4_15 + (-1)))), (0, .ref (ad 0)), (1, .int (J x1_15)), (3, .int (J x3_15)), (5, .int (J x5_15))]) hx hb dX5_event_178 hl (k := 3) rfl (J_add _ _) (by decide) rfl (fun ls hl => ?_)
                refine lv_aload_n hx hb dX5_event_181 rfl (lv_at hl 1 rfl) ?_
                refine lv_iload_n hx hb dX5_event_182 rfl (lv_at hl 2 rfl) ?_
                refine lv_aload_n hx hb dX5_event_183 rfl (lv_at hl 1 rfl) ?_
                refine va_get (D := D) (ci := 5) (v := .ref (ad 9)) (C := RX5) (T := TX5) (N := 23) hx hb hts hinX5 hown hK hP 0 (wL_get (by decide) (gY_0 _)) rfl 11 (by decide) (hts (.fieldLink RX5 35 "VisitVansModel" "begins" "[I") (List.mem_of_getElem? (i := 4) rfl)) (fun _ h => h) rfl dX5_event_184 ?_
                refine lv_iload hx hb dX5_event_187 (lv_at hl 4 rfl) ?_
                obtain ⟨v23, qv23, hf⟩ := bnd_some hf
                obtain ⟨bv23, ev23⟩ := rd_some qv23
                have rv23 : inR v23 := by rw [ev23]; exact hRM_15 _ _
                refine jx_iald hx hb hK hP 9 0 (by decide) gY_9 rfl (by decide) bv23 ev23 dX5_event_189 ?_
                obtain ⟨v24, qv24, hf⟩ := bnd_some hf
                refine jc_i (va_runV (As := [.int (J x1_15), .int (J v23)]) (rest := []) ⟨hx, hb, hml, hown, hts⟩ (kX5_nextVisit l D ca ad hI M_15 hRM_15 x1_15 v23 rx1_15 rv23 v24 qv24) (cwV 2 hts gX5_event_X5_nextVisit rfl rfl rfl (by decide +kernel) ⟨Nat.le_of_ble_eq_true rfl, Nat.le_of_ble_eq_true rfl⟩) (pvY hK hP [.int (J x1_15), .int (J v23)]) rfl rfl hl.1 rfl (lv_room (Nat.le_of_ble_eq_true rfl)) dX5_event_190 ⟨Nat.zero_le _, Nat.zero_le _⟩) hS (fun H locs t ht hφ hO hS => ?_)
                have rv24 := hφ
                have hP : va_P D vwCl (wY ca ad M_15) H := by rw [← ht]; exact hO
                refine lv_istore (lv' := [(5, .int (J v24)), (4, .int (J (x4_15 + (-1)))), (0, .ref (ad 0)), (1, .int (J x1_15)), (3, .int (J x3_15))]) hx hb dX5_event_193 hl (by decide) rfl (fun ls hl => ?_)
                refine lv_goto (tgt := 47) hx hb dX5_event_195 (by decide) ?_
                obtain ⟨g26, hf⟩ := gd_some hf
                exact ih _ _ _ _ _ _ _ _ rx1_15 rx3_15 g26 rv24 hRM_15 e_x1_15 e_x3_15 e_M_15 hP hS (lv_sub hl [2, 3, 4, 1, 0] rfl) hf
              · have hf := itep hf c22
                refine lv_aload_n hx hb dX5_event_148 rfl (lv_at hl 0 rfl) ?_
                refine lv_iconst (v := J 2) hx hb dX5_event_149 rfl ?_
                refine lv_aload_n hx hb dX5_event_150 rfl (lv_at hl 0 rfl) ?_
                refine va_get (D := D) (ci := 5) (v := .ref (ad 9)) (C := RX5) (T := TX5) (N := 23) hx hb hts hinX5 hown hK hP 0 (wL_get (by decide) (gY_0 _)) rfl 11 (by decide) (hts (.fieldLink RX5 35 "VisitVansModel" "begins" "[I") (List.mem_of_getElem? (i := 4) rfl)) (fun _ h => h) rfl dX5_event_151 ?_
                refine lv_iload hx hb dX5_event_154 (lv_at hl 4 rfl) ?_
                obtain ⟨v27, qv27, hf⟩ := bnd_some hf
                obtain ⟨bv27, ev27⟩ := rd_some qv27
                have rv27 : inR v27 := by rw [ev27]; exact hRM_15 _ _
                refine jx_iald hx hb hK hP 9 0 (by decide) gY_9 rfl (by decide) bv27 ev27 dX5_event_156 ?_
                refine lv_aload_n hx hb dX5_event_157 rfl (lv_at hl 0 rfl) ?_
                refine va_get (D := D) (ci := 5) (v := .ref (ad 9)) (C := RX5) (T := TX5) (N := 23) hx hb hts hinX5 hown hK hP 0 (wL_get (by decide) (gY_0 _)) rfl 11 (by decide) (hts (.fieldLink RX5 35 "VisitVansModel" "begins" "[I") (List.mem_of_getElem? (i := 4) rfl)) (fun _ h => h) rfl dX5_event_158 ?_
                refine lv_iload hx hb dX5_event_161 (lv_at hl 4 rfl) ?_
                obtain ⟨v28, qv28, hf⟩ := bnd_some hf
                obtain ⟨bv28, ev28⟩ := rd_some qv28
                have rv28 : inR v28 := by rw [ev28]; exact hRM_15 _ _
                refine jx_iald hx hb hK hP 9 0 (by decide) gY_9 rfl (by decide) bv28 ev28 dX5_event_163 ?_
                refine lv_aload_n hx hb dX5_event_164 rfl (lv_at hl 0 rfl) ?_
                refine va_get (D := D) (ci := 5) (v := .ref (ad 1)) (C := RX5) (T := TX5) (N := 23) hx hb hts hinX5 hown hK hP 0 (wL_get (by decide) (gY_0 _)) rfl 1 (by decide) (hts (.fieldLink RX5 7 "VisitVansModel" "s" "[I") (List.mem_of_getElem? (i := 5) rfl)) (fun _ h => h) rfl dX5_event_165 ?_
                refine lv_iconst (v := J 1) hx hb dX5_event_168 rfl ?_
                obtain ⟨v29, qv29, hf⟩ := bnd_some hf
                obtain ⟨bv29, ev29⟩ := rd_some qv29
                have rv29 : inR v29 := by rw [ev29]; exact hRM_15 _ _
                refine jx_iald hx hb hK hP 1 0 (by decide) gY_1 rfl (by decide) bv29 ev29 dX5_event_169 ?_
                refine jv_iadd hx hb dX5_event_170 ?_
                refine lv_iload hx hb dX5_event_171 (lv_at hl 4 rfl) ?_
                refine lv_iload_n hx hb dX5_event_173 rfl (lv_at hl 2 rfl) ?_
                obtain ⟨g30, hf⟩ := gd_some hf
                obtain ⟨v31, qv31, hf⟩ := bnd_some hf
                refine jc_i (va_runV (As := [.int (J 2), .int (J v27), .int (J (v28 + v29)), .int (J x5_15), .int (J x3_15)]) (rest := []) ⟨hx, hb, hml, hown, hts⟩ (kX5_tells l D ca ad hI M_15 hRM_15 2 v27 (v28 + v29) x5_15 x3_15 (by decide : inR 2) rv27 g30 rx5_15 rx3_15 v31 qv31) (cwV 5 hts gX5_event_X5_tells rfl rfl rfl (by decide +kernel) ⟨Nat.le_of_ble_eq_true rfl, Nat.le_of_ble_eq_true rfl⟩) (pvY hK hP [.int (J 2), .int (J v27), .int (J (v28 + v29)), .int (J x5_15), .int (J x3_15)]) rfl rfl hl.1 rfl (lv_room (Nat.le_of_ble_eq_true rfl)) dX5_event_174 ⟨Nat.zero_le _, Nat.zero_le _⟩) hS (fun H locs t ht hφ hO hS => ?_)
                have rv31 := hφ
                have hP : va_P D vwCl (wY ca ad M_15) H := by rw [← ht]; exact hO
                obtain ⟨e1, e2⟩ := Prod.mk.inj (Option.some.inj hf)
                exact jend_i hx hb hr rfl hS e1 ⟨by rw [← e1]; exact rv31, by rw [← e2]; exact hRM_15⟩ (oY e2 hP) dX5_event_177 hlocks
            · have hf := iten hf c21
              refine lv_iload hx hb dX5_event_112 (lv_at hl 3 rfl) ?_
              refine jv_if_ne (tgt := 140) hx hb dX5_event_114 (by decide) rx4_15 (fun c33 => ?_) (fun c33 => ?_)
              · have hf := iten hf c33
                refine lv_iinc (v := J (x4_15 + (-1))) (lv' := [(4, .int (J (x4_15 + (-1)))), (0, .ref (ad 0)), (1, .int (J x1_15)), (3, .int (J x3_15)), (5, .int (J x5_15))]) hx hb dX5_event_140 hl (k := 3) rfl (J_add _ _) (by decide) rfl (fun ls hl => ?_)
                refine lv_iload hx hb dX5_event_143 (lv_at hl 0 rfl) ?_
                obtain ⟨g34, hf⟩ := gd_some hf
                refine jv_if_ne (tgt := 178) hx hb dX5_event_145 (by decide) g34 (fun c35 => ?_) (fun c35 => ?_)
                · have hf := iten hf c35
                  refine lv_iinc (v := J ((x4_15 + (-1)) + (-1))) (lv' := [(4, .int (J ((x4_15 + (-1)) + (-1)))), (0, .ref (ad 0)), (1, .int (J x1_15)), (3, .int (J x3_15)), (5, .int (J x5_15))]) hx hb dX5_event_178 hl (k := 0) rfl (J_add _ _) (by decide) rfl (fun ls hl => ?_)
                  refine lv_aload_n hx hb dX5_event_181 rfl (lv_at hl 1 rfl) ?_
                  refine lv_iload_n hx hb dX5_event_182 rfl (lv_at hl 2 rfl) ?_
                  refine lv_aload_n hx hb dX5_event_183 rfl (lv_at hl 1 rfl) ?_
                  refine va_get (D := D) (ci := 5) (v := .ref (ad 9)) (C := RX5) (T := TX5) (N := 23) hx hb hts hinX5 hown hK hP 0 (wL_get (by decide) (gY_0 _)) rfl 11 (by decide) (hts (.fieldLink RX5 35 "VisitVansModel" "begins" "[I") (List.mem_of_getElem? (i := 4) rfl)) (fun _ h => h) rfl dX5_event_184 ?_
                  refine lv_iload hx hb dX5_event_187 (lv_at hl 4 rfl) ?_
                  obtain ⟨v36, qv36, hf⟩ := bnd_some hf
                  obtain ⟨bv36, ev36⟩ := rd_some qv36
                  have rv36 : inR v36 := by rw [ev36]; exact hRM_15 _ _
                  refine jx_iald hx hb hK hP 9 0 (by decide) gY_9 rfl (by decide) bv36 ev36 dX5_event_189 ?_
                  obtain ⟨v37, qv37, hf⟩ := bnd_some hf
                  refine jc_i (va_runV (As := [.int (J x1_15), .int (J v36)]) (rest := []) ⟨hx, hb, hml, hown, hts⟩ (kX5_nextVisit l D ca ad hI M_15 hRM_15 x1_15 v36 rx1_15 rv36 v37 qv37) (cwV 2 hts gX5_event_X5_nextVisit rfl rfl rfl (by decide +kernel) ⟨Nat.le_of_ble_eq_true rfl, Nat.le_of_ble_eq_true rfl⟩) (pvY hK hP [.int (J x1_15), .int (J v36)]) rfl rfl hl.1 rfl (lv_room (Nat.le_of_ble_eq_true rfl)) dX5_event_190 ⟨Nat.zero_le _, Nat.zero_le _⟩) hS (fun H locs t ht hφ hO hS => ?_)
                  have rv37 := hφ
                  have hP : va_P D vwCl (wY ca ad M_15) H := by rw [← ht]; exact hO
                  refine lv_istore (lv' := [(5, .int (J v37)), (4, .int (J ((x4_15 + (-1)) + (-1)))), (0, .ref (ad 0)), (1, .int (J x1_15)), (3, .int (J x3_15))]) hx hb dX5_event_193 hl (by decide) rfl (fun ls hl => ?_)
                  refine lv_goto (tgt := 47) hx hb dX5_event_195 (by decide) ?_
                  obtain ⟨g39, hf⟩ := gd_some hf
                  exact ih _ _ _ _ _ _ _ _ rx1_15 rx3_15 g39 rv37 hRM_15 e_x1_15 e_x3_15 e_M_15 hP hS (lv_sub hl [2, 3, 4, 1, 0] rfl) hf
                · have hf := itep hf c35
                  refine lv_aload_n hx hb dX5_event_148 rfl (lv_at hl 1 rfl) ?_
                  refine lv_iconst (v := J 2) hx hb dX5_event_149 rfl ?_
                  refine lv_aload_n hx hb dX5_event_150 rfl (lv_at hl 1 rfl) ?_
                  refine va_get (D := D) (ci := 5) (v := .ref (ad 9)) (C := RX5) (T := TX5) (N := 23) hx hb hts hinX5 hown hK hP 0 (wL_get (by decide) (gY_0 _)) rfl 11 (by decide) (hts (.fieldLink RX5 35 "VisitVansModel" "begins" "[I") (List.mem_of_getElem? (i := 4) rfl)) (fun _ h => h) rfl dX5_event_151 ?_
                  refine lv_iload hx hb dX5_event_154 (lv_at hl 4 rfl) ?_
                  obtain ⟨v40, qv40, hf⟩ := bnd_some hf
                  obtain ⟨bv40, ev40⟩ := rd_some qv40
                  have rv40 : inR v40 := by rw [ev40]; exact hRM_15 _ _
                  refine jx_iald hx hb hK hP 9 0 (by decide) gY_9 rfl (by decide) bv40 ev40 dX5_event_156 ?_
                  refine lv_aload_n hx hb dX5_event_157 rfl (lv_at hl 1 rfl) ?_
                  refine va_get (D := D) (ci := 5) (v := .ref (ad 9)) (C := RX5) (T := TX5) (N := 23) hx hb hts hinX5 hown hK hP 0 (wL_get (by decide) (gY_0 _)) rfl 11 (by decide) (hts (.fieldLink RX5 35 "VisitVansModel" "begins" "[I") (List.mem_of_getElem? (i := 4) rfl)) (fun _ h => h) rfl dX5_event_158 ?_
                  refine lv_iload hx hb dX5_event_161 (lv_at hl 4 rfl) ?_
                  obtain ⟨v41, qv41, hf⟩ := bnd_some hf
                  obtain ⟨bv41, ev41⟩ := rd_some qv41
                  have rv41 : inR v41 := by rw [ev41]; exact hRM_15 _ _
                  refine jx_iald hx hb hK hP 9 0 (by decide) gY_9 rfl (by decide) bv41 ev41 dX5_event_163 ?_
                  refine lv_aload_n hx hb dX5_event_164 rfl (lv_at hl 1 rfl) ?_
                  refine va_get (D := D) (ci := 5) (v := .ref (ad 1)) (C := RX5) (T := TX5) (N := 23) hx hb hts hinX5 hown hK hP 0 (wL_get (by decide) (gY_0 _)) rfl 1 (by decide) (hts (.fieldLink RX5 7 "VisitVansModel" "s" "[I") (List.mem_of_getElem? (i := 5) rfl)) (fun _ h => h) rfl dX5_event_165 ?_
                  refine lv_iconst (v := J 1) hx hb dX5_event_168 rfl ?_
                  obtain ⟨v42, qv42, hf⟩ := bnd_some hf
                  obtain ⟨bv42, ev42⟩ := rd_some qv42
                  have rv42 : inR v42 := by rw [ev42]; exact hRM_15 _ _
                  refine jx_iald hx hb hK hP 1 0 (by decide) gY_1 rfl (by decide) bv42 ev42 dX5_event_169 ?_
                  refine jv_iadd hx hb dX5_event_170 ?_
                  refine lv_iload hx hb dX5_event_171 (lv_at hl 4 rfl) ?_
                  refine lv_iload_n hx hb dX5_event_173 rfl (lv_at hl 3 rfl) ?_
                  obtain ⟨g43, hf⟩ := gd_some hf
                  obtain ⟨v44, qv44, hf⟩ := bnd_some hf
                  refine jc_i (va_runV (As := [.int (J 2), .int (J v40), .int (J (v41 + v42)), .int (J x5_15), .int (J x3_15)]) (rest := []) ⟨hx, hb, hml, hown, hts⟩ (kX5_tells l D ca ad hI M_15 hRM_15 2 v40 (v41 + v42) x5_15 x3_15 (by decide : inR 2) rv40 g43 rx5_15 rx3_15 v44 qv44) (cwV 5 hts gX5_event_X5_tells rfl rfl rfl (by decide +kernel) ⟨Nat.le_of_ble_eq_true rfl, Nat.le_of_ble_eq_true rfl⟩) (pvY hK hP [.int (J 2), .int (J v40), .int (J (v41 + v42)), .int (J x5_15), .int (J x3_15)]) rfl rfl hl.1 rfl (lv_room (Nat.le_of_ble_eq_true rfl)) dX5_event_174 ⟨Nat.zero_le _, Nat.zero_le _⟩) hS (fun H locs t ht hφ hO hS => ?_)
                  have rv44 := hφ
                  have hP : va_P D vwCl (wY ca ad M_15) H := by rw [← ht]; exact hO
                  obtain ⟨e1, e2⟩ := Prod.mk.inj (Option.some.inj hf)
                  exact jend_i hx hb hr rfl hS e1 ⟨by rw [← e1]; exact rv44, by rw [← e2]; exact hRM_15⟩ (oY e2 hP) dX5_event_177 hlocks
              · have hf := itep hf c33
                refine lv_aload_n hx hb dX5_event_117 rfl (lv_at hl 0 rfl) ?_
                refine lv_iconst (v := J 1) hx hb dX5_event_118 rfl ?_
                refine lv_aload_n hx hb dX5_event_119 rfl (lv_at hl 0 rfl) ?_
                refine va_get (D := D) (ci := 5) (v := .ref (ad 10)) (C := RX5) (T := TX5) (N := 23) hx hb hts hinX5 hown hK hP 0 (wL_get (by decide) (gY_0 _)) rfl 12 (by decide) (hts (.fieldLink RX5 38 "VisitVansModel" "comes" "[I") (List.mem_of_getElem? (i := 2) rfl)) (fun _ h => h) rfl dX5_event_120 ?_
                refine lv_iload hx hb dX5_event_123 (lv_at hl 4 rfl) ?_
                obtain ⟨v46, qv46, hf⟩ := bnd_some hf
                obtain ⟨bv46, ev46⟩ := rd_some qv46
                have rv46 : inR v46 := by rw [ev46]; exact hRM_15 _ _
                refine jx_iald hx hb hK hP 10 0 (by decide) gY_10 rfl (by decide) bv46 ev46 dX5_event_125 ?_
                refine lv_aload_n hx hb dX5_event_126 rfl (lv_at hl 0 rfl) ?_
                refine va_get (D := D) (ci := 5) (v := .ref (ad 9)) (C := RX5) (T := TX5) (N := 23) hx hb hts hinX5 hown hK hP 0 (wL_get (by decide) (gY_0 _)) rfl 11 (by decide) (hts (.fieldLink RX5 35 "VisitVansModel" "begins" "[I") (List.mem_of_getElem? (i := 4) rfl)) (fun _ h => h) rfl dX5_event_127 ?_
                refine lv_iload hx hb dX5_event_130 (lv_at hl 4 rfl) ?_
                obtain ⟨v47, qv47, hf⟩ := bnd_some hf
                obtain ⟨bv47, ev47⟩ := rd_some qv47
                have rv47 : inR v47 := by rw [ev47]; exact hRM_15 _ _
                refine jx_iald hx hb hK hP 9 0 (by decide) gY_9 rfl (by decide) bv47 ev47 dX5_event_132 ?_
                refine lv_iload hx hb dX5_event_133 (lv_at hl 4 rfl) ?_
                refine lv_iload_n hx hb dX5_event_135 rfl (lv_at hl 2 rfl) ?_
                obtain ⟨v48, qv48, hf⟩ := bnd_some hf
                refine jc_i (va_runV (As := [.int (J 1), .int (J v46), .int (J v47), .int (J x5_15), .int (J x3_15)]) (rest := []) ⟨hx, hb, hml, hown, hts⟩ (kX5_tells l D ca ad hI M_15 hRM_15 1 v46 v47 x5_15 x3_15 (by decide : inR 1) rv46 rv47 rx5_15 rx3_15 v48 qv48) (cwV 5 hts gX5_event_X5_tells rfl rfl rfl (by decide +kernel) ⟨Nat.le_of_ble_eq_true rfl, Nat.le_of_ble_eq_true rfl⟩) (pvY hK hP [.int (J 1), .int (J v46), .int (J v47), .int (J x5_15), .int (J x3_15)]) rfl rfl hl.1 rfl (lv_room (Nat.le_of_ble_eq_true rfl)) dX5_event_136 ⟨Nat.zero_le _, Nat.zero_le _⟩) hS (fun H locs t ht hφ hO hS => ?_)
                have rv48 := hφ
                have hP : va_P D vwCl (wY ca ad M_15) H := by rw [← ht]; exact hO
                obtain ⟨e1, e2⟩ := Prod.mk.inj (Option.some.inj hf)
                exact jend_i hx hb hr rfl hS e1 ⟨by rw [← e1]; exact rv48, by rw [← e2]; exact hRM_15⟩ (oY e2 hP) dX5_event_139 hlocks
          · have hf := iten hf c18
            refine lv_iload hx hb dX5_event_64 (lv_at hl 3 rfl) ?_
            refine jv_if_ne (tgt := 92) hx hb dX5_event_66 (by decide) rx4_15 (fun c50 => ?_) (fun c50 => ?_)
            · have hf := iten hf c50
              refine lv_iinc (v := J (x4_15 + (-1))) (lv' := [(4, .int (J (x4_15 + (-1)))), (0, .ref (ad 0)), (1, .int (J x1_15)), (3, .int (J x3_15)), (5, .int (J x5_15))]) hx hb dX5_event_92 hl (k := 3) rfl (J_add _ _) (by decide) rfl (fun ls hl => ?_)
              refine lv_aload_n hx hb dX5_event_95 rfl (lv_at hl 1 rfl) ?_
              refine va_get (D := D) (ci := 5) (v := .ref (ad 9)) (C := RX5) (T := TX5) (N := 23) hx hb hts hinX5 hown hK hP 0 (wL_get (by decide) (gY_0 _)) rfl 11 (by decide) (hts (.fieldLink RX5 35 "VisitVansModel" "begins" "[I") (List.mem_of_getElem? (i := 4) rfl)) (fun _ h => h) rfl dX5_event_96 ?_
              refine lv_iload hx hb dX5_event_99 (lv_at hl 4 rfl) ?_
              obtain ⟨v51, qv51, hf⟩ := bnd_some hf
              obtain ⟨bv51, ev51⟩ := rd_some qv51
              have rv51 : inR v51 := by rw [ev51]; exact hRM_15 _ _
              refine jx_iald hx hb hK hP 9 0 (by decide) gY_9 rfl (by decide) bv51 ev51 dX5_event_101 ?_
              refine lv_aload_n hx hb dX5_event_102 rfl (lv_at hl 1 rfl) ?_
              refine va_get (D := D) (ci := 5) (v := .ref (ad 10)) (C := RX5) (T := TX5) (N := 23) hx hb hts hinX5 hown hK hP 0 (wL_get (by decide) (gY_0 _)) rfl 12 (by decide) (hts (.fieldLink RX5 38 "VisitVansModel" "comes" "[I") (List.mem_of_getElem? (i := 2) rfl)) (fun _ h => h) rfl dX5_event_103 ?_
              refine lv_iload hx hb dX5_event_106 (lv_at hl 4 rfl) ?_
              obtain ⟨v52, qv52, hf⟩ := bnd_some hf
              obtain ⟨bv52, ev52⟩ := rd_some qv52
              have rv52 : inR v52 := by rw [ev52]; exact hRM_15 _ _
              refine jx_iald hx hb hK hP 10 0 (by decide) gY_10 rfl (by decide) bv52 ev52 dX5_event_108 ?_
              refine jv_icmp_le (tgt := 143) hx hb dX5_event_109 (by decide) rv51 rv52 (fun c53 => ?_) (fun c53 => ?_)
              · have hf := itep hf c53
                refine lv_iload hx hb dX5_event_143 (lv_at hl 0 rfl) ?_
                obtain ⟨g54, hf⟩ := gd_some hf
                refine jv_if_ne (tgt := 178) hx hb dX5_event_145 (by decide) g54 (fun c55 => ?_) (fun c55 => ?_)
                · have hf := iten hf c55
                  refine lv_iinc (v := J ((x4_15 + (-1)) + (-1))) (lv' := [(4, .int (J ((x4_15 + (-1)) + (-1)))), (0, .ref (ad 0)), (1, .int (J x1_15)), (3, .int (J x3_15)), (5, .int (J x5_15))]) hx hb dX5_event_178 hl (k := 0) rfl (J_add _ _) (by decide) rfl (fun ls hl => ?_)
                  refine lv_aload_n hx hb dX5_event_181 rfl (lv_at hl 1 rfl) ?_
                  refine lv_iload_n hx hb dX5_event_182 rfl (lv_at hl 2 rfl) ?_
                  refine lv_aload_n hx hb dX5_event_183 rfl (lv_at hl 1 rfl) ?_
                  refine va_get (D := D) (ci := 5) (v := .ref (ad 9)) (C := RX5) (T := TX5) (N := 23) hx hb hts hinX5 hown hK hP 0 (wL_get (by decide) (gY_0 _)) rfl 11 (by decide) (hts (.fieldLink RX5 35 "VisitVansModel" "begins" "[I") (List.mem_of_getElem? (i := 4) rfl)) (fun _ h => h) rfl dX5_event_184 ?_
                  refine lv_iload hx hb dX5_event_187 (lv_at hl 4 rfl) ?_
                  obtain ⟨v56, qv56, hf⟩ := bnd_some hf
                  obtain ⟨bv56, ev56⟩ := rd_some qv56
                  have rv56 : inR v56 := by rw [ev56]; exact hRM_15 _ _
                  refine jx_iald hx hb hK hP 9 0 (by decide) gY_9 rfl (by decide) bv56 ev56 dX5_event_189 ?_
                  obtain ⟨v57, qv57, hf⟩ := bnd_some hf
                  refine jc_i (va_runV (As := [.int (J x1_15), .int (J v56)]) (rest := []) ⟨hx, hb, hml, hown, hts⟩ (kX5_nextVisit l D ca ad hI M_15 hRM_15 x1_15 v56 rx1_15 rv56 v57 qv57) (cwV 2 hts gX5_event_X5_nextVisit rfl rfl rfl (by decide +kernel) ⟨Nat.le_of_ble_eq_true rfl, Nat.le_of_ble_eq_true rfl⟩) (pvY hK hP [.int (J x1_15), .int (J v56)]) rfl rfl hl.1 rfl (lv_room (Nat.le_of_ble_eq_true rfl)) dX5_event_190 ⟨Nat.zero_le _, Nat.zero_le _⟩) hS (fun H locs t ht hφ hO hS => ?_)
                  have rv57 := hφ
                  have hP : va_P D vwCl (wY ca ad M_15) H := by rw [← ht]; exact hO
                  refine lv_istore (lv' := [(5, .int (J v57)), (4, .int (J ((x4_15 + (-1)) + (-1)))), (0, .ref (ad 0)), (1, .int (J x1_15)), (3, .int (J x3_15))]) hx hb dX5_event_193 hl (by decide) rfl (fun ls hl => ?_)
                  refine lv_goto (tgt := 47) hx hb dX5_event_195 (by decide) ?_
                  obtain ⟨g59, hf⟩ := gd_some hf
                  exact ih _ _ _ _ _ _ _ _ rx1_15 rx3_15 g59 rv57 hRM_15 e_x1_15 e_x3_15 e_M_15 hP hS (lv_sub hl [2, 3, 4, 1, 0] rfl) hf
                · have hf := itep hf c55
                  refine lv_aload_n hx hb dX5_event_148 rfl (lv_at hl 1 rfl) ?_
                  refine lv_iconst (v := J 2) hx hb dX5_event_149 rfl ?_
                  refine lv_aload_n hx hb dX5_event_150 rfl (lv_at hl 1 rfl) ?_
                  refine va_get (D := D) (ci := 5) (v := .ref (ad 9)) (C := RX5) (T := TX5) (N := 23) hx hb hts hinX5 hown hK hP 0 (wL_get (by decide) (gY_0 _)) rfl 11 (by decide) (hts (.fieldLink RX5 35 "VisitVansModel" "begins" "[I") (List.mem_of_getElem? (i := 4) rfl)) (fun _ h => h) rfl dX5_event_151 ?_
                  refine lv_iload hx hb dX5_event_154 (lv_at hl 4 rfl) ?_
                  obtain ⟨v60, qv60, hf⟩ := bnd_some hf
                  obtain ⟨bv60, ev60⟩ := rd_some qv60
                  have rv60 : inR v60 := by rw [ev60]; exact hRM_15 _ _
                  refine jx_iald hx hb hK hP 9 0 (by decide) gY_9 rfl (by decide) bv60 ev60 dX5_event_156 ?_
                  refine lv_aload_n hx hb dX5_event_157 rfl (lv_at hl 1 rfl) ?_
                  refine va_get (D := D) (ci := 5) (v := .ref (ad 9)) (C := RX5) (T := TX5) (N := 23) hx hb hts hinX5 hown hK hP 0 (wL_get (by decide) (gY_0 _)) rfl 11 (by decide) (hts (.fieldLink RX5 35 "VisitVansModel" "begins" "[I") (List.mem_of_getElem? (i := 4) rfl)) (fun _ h => h) rfl dX5_event_158 ?_
                  refine lv_iload hx hb dX5_event_161 (lv_at hl 4 rfl) ?_
                  obtain ⟨v61, qv61, hf⟩ := bnd_some hf
                  obtain ⟨bv61, ev61⟩ := rd_some qv61
                  have rv61 : inR v61 := by rw [ev61]; exact hRM_15 _ _
                  refine jx_iald hx hb hK hP 9 0 (by decide) gY_9 rfl (by decide) bv61 ev61 dX5_event_163 ?_
                  refine lv_aload_n hx hb dX5_event_164 rfl (lv_at hl 1 rfl) ?_
                  refine va_get (D := D) (ci := 5) (v := .ref (ad 1)) (C := RX5) (T := TX5) (N := 23) hx hb hts hinX5 hown hK hP 0 (wL_get (by decide) (gY_0 _)) rfl 1 (by decide) (hts (.fieldLink RX5 7 "VisitVansModel" "s" "[I") (List.mem_of_getElem? (i := 5) rfl)) (fun _ h => h) rfl dX5_event_165 ?_
                  refine lv_iconst (v := J 1) hx hb dX5_event_168 rfl ?_
                  obtain ⟨v62, qv62, hf⟩ := bnd_some hf
                  obtain ⟨bv62, ev62⟩ := rd_some qv62
                  have rv62 : inR v62 := by rw [ev62]; exact hRM_15 _ _
                  refine jx_iald hx hb hK hP 1 0 (by decide) gY_1 rfl (by decide) bv62 ev62 dX5_event_169 ?_
                  refine jv_iadd hx hb dX5_event_170 ?_
                  refine lv_iload hx hb dX5_event_171 (lv_at hl 4 rfl) ?_
                  refine lv_iload_n hx hb dX5_event_173 rfl (lv_at hl 3 rfl) ?_
                  obtain ⟨g63, hf⟩ := gd_some hf
                  obtain ⟨v64, qv64, hf⟩ := bnd_some hf
                  refine jc_i (va_runV (As := [.int (J 2), .int (J v60), .int (J (v61 + v62)), .int (J x5_15), .int (J x3_15)]) (rest := []) ⟨hx, hb, hml, hown, hts⟩ (kX5_tells l D ca ad hI M_15 hRM_15 2 v60 (v61 + v62) x5_15 x3_15 (by decide : inR 2) rv60 g63 rx5_15 rx3_15 v64 qv64) (cwV 5 hts gX5_event_X5_tells rfl rfl rfl (by decide +kernel) ⟨Nat.le_of_ble_eq_true rfl, Nat.le_of_ble_eq_true rfl⟩) (pvY hK hP [.int (J 2), .int (J v60), .int (J (v61 + v62)), .int (J x5_15), .int (J x3_15)]) rfl rfl hl.1 rfl (lv_room (Nat.le_of_ble_eq_true rfl)) dX5_event_174 ⟨Nat.zero_le _, Nat.zero_le _⟩) hS (fun H locs t ht hφ hO hS => ?_)
                  have rv64 := hφ
                  have hP : va_P D vwCl (wY ca ad M_15) H := by rw [← ht]; exact hO
                  obtain ⟨e1, e2⟩ := Prod.mk.inj (Option.some.inj hf)
                  exact jend_i hx hb hr rfl hS e1 ⟨by rw [← e1]; exact rv64, by rw [← e2]; exact hRM_15⟩ (oY e2 hP) dX5_event_177 hlocks
              · have hf := iten hf c53
                refine lv_iload hx hb dX5_event_112 (lv_at hl 0 rfl) ?_
                obtain ⟨g66, hf⟩ := gd_some hf
                refine jv_if_ne (tgt := 140) hx hb dX5_event_114 (by decide) g66 (fun c67 => ?_) (fun c67 => ?_)
                · have hf := iten hf c67
                  refine lv_iinc (v := J ((x4_15 + (-1)) + (-1))) (lv' := [(4, .int (J ((x4_15 + (-1)) + (-1)))), (0, .ref (ad 0)), (1, .int (J x1_15)), (3, .int (J x3_15)), (5, .int (J x5_15))]) hx hb dX5_event_140 hl (k := 0) rfl (J_add _ _) (by decide) rfl (fun ls hl => ?_)
                  refine lv_iload hx hb dX5_event_143 (lv_at hl 0 rfl) ?_
                  obtain ⟨g68, hf⟩ := gd_some hf
                  refine jv_if_ne (tgt := 178) hx hb dX5_event_145 (by decide) g68 (fun c69 => ?_) (fun c69 => ?_)
                  · have hf := iten hf c69
                    refine lv_iinc (v := J (((x4_15 + (-1)) + (-1)) + (-1))) (lv' := [(4, .int (J (((x4_15 + (-1)) + (-1)) + (-1)))), (0, .ref (ad 0)), (1, .int (J x1_15)), (3, .int (J x3_15)), (5, .int (J x5_15))]) hx hb dX5_event_178 hl (k := 0) rfl (J_add _ _) (by decide) rfl (fun ls hl => ?_)
                    refine lv_aload_n hx hb dX5_event_181 rfl (lv_at hl 1 rfl) ?_
                    refine lv_iload_n hx hb dX5_event_182 rfl (lv_at hl 2 rfl) ?_
                    refine lv_aload_n hx hb dX5_event_183 rfl (lv_at hl 1 rfl) ?_
                    refine va_get (D := D) (ci := 5) (v := .ref (ad 9)) (C := RX5) (T := TX5) (N := 23) hx hb hts hinX5 hown hK hP 0 (wL_get (by decide) (gY_0 _)) rfl 11 (by decide) (hts (.fieldLink RX5 35 "VisitVansModel" "begins" "[I") (List.mem_of_getElem? (i := 4) rfl)) (fun _ h => h) rfl dX5_event_184 ?_
                    refine lv_iload hx hb dX5_event_187 (lv_at hl 4 rfl) ?_
                    obtain ⟨v70, qv70, hf⟩ := bnd_some hf
                    obtain ⟨bv70, ev70⟩ := rd_some qv70
                    have rv70 : inR v70 := by rw [ev70]; exact hRM_15 _ _
                    refine jx_iald hx hb hK hP 9 0 (by decide) gY_9 rfl (by decide) bv70 ev70 dX5_event_189 ?_
                    obtain ⟨v71, qv71, hf⟩ := bnd_some hf
                    refine jc_i (va_runV (As := [.int (J x1_15), .int (J v70)]) (rest := []) ⟨hx, hb, hml, hown, hts⟩ (kX5_nextVisit l D ca ad hI M_15 hRM_15 x1_15 v70 rx1_15 rv70 v71 qv71) (cwV 2 hts gX5_event_X5_nextVisit rfl rfl rfl (by decide +kernel) ⟨Nat.le_of_ble_eq_true rfl, Nat.le_of_ble_eq_true rfl⟩) (pvY hK hP [.int (J x1_15), .int (J v70)]) rfl rfl hl.1 rfl (lv_room (Nat.le_of_ble_eq_true rfl)) dX5_event_190 ⟨Nat.zero_le _, Nat.zero_le _⟩) hS (fun H locs t ht hφ hO hS => ?_)
                    have rv71 := hφ
                    have hP : va_P D vwCl (wY ca ad M_15) H := by rw [← ht]; exact hO
                    refine lv_istore (lv' := [(5, .int (J v71)), (4, .int (J (((x4_15 + (-1)) + (-1)) + (-1)))), (0, .ref (ad 0)), (1, .int (J x1_15)), (3, .int (J x3_15))]) hx hb dX5_event_193 hl (by decide) rfl (fun ls hl => ?_)
                    refine lv_goto (tgt := 47) hx hb dX5_event_195 (by decide) ?_
                    obtain ⟨g73, hf⟩ := gd_some hf
                    exact ih _ _ _ _ _ _ _ _ rx1_15 rx3_15 g73 rv71 hRM_15 e_x1_15 e_x3_15 e_M_15 hP hS (lv_sub hl [2, 3, 4, 1, 0] rfl) hf
                  · have hf := itep hf c69
                    refine lv_aload_n hx hb dX5_event_148 rfl (lv_at hl 1 rfl) ?_
                    refine lv_iconst (v := J 2) hx hb dX5_event_149 rfl ?_
                    refine lv_aload_n hx hb dX5_event_150 rfl (lv_at hl 1 rfl) ?_
                    refine va_get (D := D) (ci := 5) (v := .ref (ad 9)) (C := RX5) (T := TX5) (N := 23) hx hb hts hinX5 hown hK hP 0 (wL_get (by decide) (gY_0 _)) rfl 11 (by decide) (hts (.fieldLink RX5 35 "VisitVansModel" "begins" "[I") (List.mem_of_getElem? (i := 4) rfl)) (fun _ h => h) rfl dX5_event_151 ?_
                    refine lv_iload hx hb dX5_event_154 (lv_at hl 4 rfl) ?_
                    obtain ⟨v74, qv74, hf⟩ := bnd_some hf
                    obtain ⟨bv74, ev74⟩ := rd_some qv74
                    have rv74 : inR v74 := by rw [ev74]; exact hRM_15 _ _
                    refine jx_iald hx hb hK hP 9 0 (by decide) gY_9 rfl (by decide) bv74 ev74 dX5_event_156 ?_
                    refine lv_aload_n hx hb dX5_event_157 rfl (lv_at hl 1 rfl) ?_
                    refine va_get (D := D) (ci := 5) (v := .ref (ad 9)) (C := RX5) (T := TX5) (N := 23) hx hb hts hinX5 hown hK hP 0 (wL_get (by decide) (gY_0 _)) rfl 11 (by decide) (hts (.fieldLink RX5 35 "VisitVansModel" "begins" "[I") (List.mem_of_getElem? (i := 4) rfl)) (fun _ h => h) rfl dX5_event_158 ?_
                    refine lv_iload hx hb dX5_event_161 (lv_at hl 4 rfl) ?_
                    obtain ⟨v75, qv75, hf⟩ := bnd_some hf
                    obtain ⟨bv75, ev75⟩ := rd_some qv75
                    have rv75 : inR v75 := by rw [ev75]; exact hRM_15 _ _
                    refine jx_iald hx hb hK hP 9 0 (by decide) gY_9 rfl (by decide) bv75 ev75 dX5_event_163 ?_
                    refine lv_aload_n hx hb dX5_event_164 rfl (lv_at hl 1 rfl) ?_
                    refine va_get (D := D) (ci := 5) (v := .ref (ad 1)) (C := RX5) (T := TX5) (N := 23) hx hb hts hinX5 hown hK hP 0 (wL_get (by decide) (gY_0 _)) rfl 1 (by decide) (hts (.fieldLink RX5 7 "VisitVansModel" "s" "[I") (List.mem_of_getElem? (i := 5) rfl)) (fun _ h => h) rfl dX5_event_165 ?_
                    refine lv_iconst (v := J 1) hx hb dX5_event_168 rfl ?_
                    obtain ⟨v76, qv76, hf⟩ := bnd_some hf
                    obtain ⟨bv76, ev76⟩ := rd_some qv76
                    have rv76 : inR v76 := by rw [ev76]; exact hRM_15 _ _
                    refine jx_iald hx hb hK hP 1 0 (by decide) gY_1 rfl (by decide) bv76 ev76 dX5_event_169 ?_
                    refine jv_iadd hx hb dX5_event_170 ?_
                    refine lv_iload hx hb dX5_event_171 (lv_at hl 4 rfl) ?_
                    refine lv_iload_n hx hb dX5_event_173 rfl (lv_at hl 3 rfl) ?_
                    obtain ⟨g77, hf⟩ := gd_some hf
                    obtain ⟨v78, qv78, hf⟩ := bnd_some hf
                    refine jc_i (va_runV (As := [.int (J 2), .int (J v74), .int (J (v75 + v76)), .int (J x5_15), .int (J x3_15)]) (rest := []) ⟨hx, hb, hml, hown, hts⟩ (kX5_tells l D ca ad hI M_15 hRM_15 2 v74 (v75 + v76) x5_15 x3_15 (by decide : inR 2) rv74 g77 rx5_15 rx3_15 v78 qv78) (cwV 5 hts gX5_event_X5_tells rfl rfl rfl (by decide +kernel) ⟨Nat.le_of_ble_eq_true rfl, Nat.le_of_ble_eq_true rfl⟩) (pvY hK hP [.int (J 2), .int (J v74), .int (J (v75 + v76)), .int (J x5_15), .int (J x3_15)]) rfl rfl hl.1 rfl (lv_room (Nat.le_of_ble_eq_true rfl)) dX5_event_174 ⟨Nat.zero_le _, Nat.zero_le _⟩) hS (fun H locs t ht hφ hO hS => ?_)
                    have rv78 := hφ
                    have hP : va_P D vwCl (wY ca ad M_15) H := by rw [← ht]; exact hO
                    obtain ⟨e1, e2⟩ := Prod.mk.inj (Option.some.inj hf)
                    exact jend_i hx hb hr rfl hS e1 ⟨by rw [← e1]; exact rv78, by rw [← e2]; exact hRM_15⟩ (oY e2 hP) dX5_event_177 hlocks
                · have hf := itep hf c67
                  refine lv_aload_n hx hb dX5_event_117 rfl (lv_at hl 1 rfl) ?_
                  refine lv_iconst (v := J 1) hx hb dX5_event_118 rfl ?_
                  refine lv_aload_n hx hb dX5_event_119 rfl (lv_at hl 1 rfl) ?_
                  refine va_get (D := D) (ci := 5) (v := .ref (ad 10)) (C := RX5) (T := TX5) (N := 23) hx hb hts hinX5 hown hK hP 0 (wL_get (by decide) (gY_0 _)) rfl 12 (by decide) (hts (.fieldLink RX5 38 "VisitVansModel" "comes" "[I") (List.mem_of_getElem? (i := 2) rfl)) (fun _ h => h) rfl dX5_event_120 ?_
                  refine lv_iload hx hb dX5_event_123 (lv_at hl 4 rfl) ?_
                  obtain ⟨v80, qv80, hf⟩ := bnd_some hf
                  obtain ⟨bv80, ev80⟩ := rd_some qv80
                  have rv80 : inR v80 := by rw [ev80]; exact hRM_15 _ _
                  refine jx_iald hx hb hK hP 10 0 (by decide) gY_10 rfl (by decide) bv80 ev80 dX5_event_125 ?_
                  refine lv_aload_n hx hb dX5_event_126 rfl (lv_at hl 1 rfl) ?_
                  refine va_get (D := D) (ci := 5) (v := .ref (ad 9)) (C := RX5) (T := TX5) (N := 23) hx hb hts hinX5 hown hK hP 0 (wL_get (by decide) (gY_0 _)) rfl 11 (by decide) (hts (.fieldLink RX5 35 "VisitVansModel" "begins" "[I") (List.mem_of_getElem? (i := 4) rfl)) (fun _ h => h) rfl dX5_event_127 ?_
                  refine lv_iload hx hb dX5_event_130 (lv_at hl 4 rfl) ?_
                  obtain ⟨v81, qv81, hf⟩ := bnd_some hf
                  obtain ⟨bv81, ev81⟩ := rd_some qv81
                  have rv81 : inR v81 := by rw [ev81]; exact hRM_15 _ _
                  refine jx_iald hx hb hK hP 9 0 (by decide) gY_9 rfl (by decide) bv81 ev81 dX5_event_132 ?_
                  refine lv_iload hx hb dX5_event_133 (lv_at hl 4 rfl) ?_
                  refine lv_iload_n hx hb dX5_event_135 rfl (lv_at hl 3 rfl) ?_
                  obtain ⟨v82, qv82, hf⟩ := bnd_some hf
                  refine jc_i (va_runV (As := [.int (J 1), .int (J v80), .int (J v81), .int (J x5_15), .int (J x3_15)]) (rest := []) ⟨hx, hb, hml, hown, hts⟩ (kX5_tells l D ca ad hI M_15 hRM_15 1 v80 v81 x5_15 x3_15 (by decide : inR 1) rv80 rv81 rx5_15 rx3_15 v82 qv82) (cwV 5 hts gX5_event_X5_tells rfl rfl rfl (by decide +kernel) ⟨Nat.le_of_ble_eq_true rfl, Nat.le_of_ble_eq_true rfl⟩) (pvY hK hP [.int (J 1), .int (J v80), .int (J v81), .int (J x5_15), .int (J x3_15)]) rfl rfl hl.1 rfl (lv_room (Nat.le_of_ble_eq_true rfl)) dX5_event_136 ⟨Nat.zero_le _, Nat.zero_le _⟩) hS (fun H locs t ht hφ hO hS => ?_)
                  have rv82 := hφ
                  have hP : va_P D vwCl (wY ca ad M_15) H := by rw [← ht]; exact hO
                  obtain ⟨e1, e2⟩ := Prod.mk.inj (Option.some.inj hf)
                  exact jend_i hx hb hr rfl hS e1 ⟨by rw [← e1]; exact rv82, by rw [← e2]; exact hRM_15⟩ (oY e2 hP) dX5_event_139 hlocks
            · have hf := itep hf c50
              refine lv_aload_n hx hb dX5_event_69 rfl (lv_at hl 0 rfl) ?_
              refine lv_iconst (v := J 0) hx hb dX5_event_70 rfl ?_
              refine lv_aload_n hx hb dX5_event_71 rfl (lv_at hl 0 rfl) ?_
              refine va_get (D := D) (ci := 5) (v := .ref (ad 11)) (C := RX5) (T := TX5) (N := 23) hx hb hts hinX5 hown hK hP 0 (wL_get (by decide) (gY_0 _)) rfl 13 (by decide) (hts (.fieldLink RX5 41 "VisitVansModel" "leaves" "[I") (List.mem_of_getElem? (i := 3) rfl)) (fun _ h => h) rfl dX5_event_72 ?_
              refine lv_iload hx hb dX5_event_75 (lv_at hl 4 rfl) ?_
              obtain ⟨v84, qv84, hf⟩ := bnd_some hf
              obtain ⟨bv84, ev84⟩ := rd_some qv84
              have rv84 : inR v84 := by rw [ev84]; exact hRM_15 _ _
              refine jx_iald hx hb hK hP 11 0 (by decide) gY_11 rfl (by decide) bv84 ev84 dX5_event_77 ?_
              refine lv_aload_n hx hb dX5_event_78 rfl (lv_at hl 0 rfl) ?_
              refine va_get (D := D) (ci := 5) (v := .ref (ad 10)) (C := RX5) (T := TX5) (N := 23) hx hb hts hinX5 hown hK hP 0 (wL_get (by decide) (gY_0 _)) rfl 12 (by decide) (hts (.fieldLink RX5 38 "VisitVansModel" "comes" "[I") (List.mem_of_getElem? (i := 2) rfl)) (fun _ h => h) rfl dX5_event_79 ?_
              refine lv_iload hx hb dX5_event_82 (lv_at hl 4 rfl) ?_
              obtain ⟨v85, qv85, hf⟩ := bnd_some hf
              obtain ⟨bv85, ev85⟩ := rd_some qv85
              have rv85 : inR v85 := by rw [ev85]; exact hRM_15 _ _
              refine jx_iald hx hb hK hP 10 0 (by decide) gY_10 rfl (by decide) bv85 ev85 dX5_event_84 ?_
              refine lv_iload hx hb dX5_event_85 (lv_at hl 4 rfl) ?_
              refine lv_iload_n hx hb dX5_event_87 rfl (lv_at hl 2 rfl) ?_
              obtain ⟨v86, qv86, hf⟩ := bnd_some hf
              refine jc_i (va_runV (As := [.int (J 0), .int (J v84), .int (J v85), .int (J x5_15), .int (J x3_15)]) (rest := []) ⟨hx, hb, hml, hown, hts⟩ (kX5_tells l D ca ad hI M_15 hRM_15 0 v84 v85 x5_15 x3_15 (by decide : inR 0) rv84 rv85 rx5_15 rx3_15 v86 qv86) (cwV 5 hts gX5_event_X5_tells rfl rfl rfl (by decide +kernel) ⟨Nat.le_of_ble_eq_true rfl, Nat.le_of_ble_eq_true rfl⟩) (pvY hK hP [.int (J 0), .int (J v84), .int (J v85), .int (J x5_15), .int (J x3_15)]) rfl rfl hl.1 rfl (lv_room (Nat.le_of_ble_eq_true rfl)) dX5_event_88 ⟨Nat.zero_le _, Nat.zero_le _⟩) hS (fun H locs t ht hφ hO hS => ?_)
              have rv86 := hφ
              have hP : va_P D vwCl (wY ca ad M_15) H := by rw [← ht]; exact hO
              obtain ⟨e1, e2⟩ := Prod.mk.inj (Option.some.inj hf)
              exact jend_i hx hb hr rfl hS e1 ⟨by rw [← e1]; exact rv86, by rw [← e2]; exact hRM_15⟩ (oY e2 hP) dX5_event_91 hlocks
      exact hL15 4000 _ _ _ _ _ _ _ _ i1 i3 i2 rv13 hRM6 rfl rfl rfl hP hS (lv_sub hl [2, 3, 5, 1, 0] rfl) hf
    · have hf := itep hf c12
      refine lv_iconst (v := J (-1)) hx hb dX5_event_34 rfl ?_
      obtain ⟨e1, e2⟩ := Prod.mk.inj (Option.some.inj hf)
      exact jend_i hx hb hr rfl hS e1 ⟨by rw [← e1]; exact (by decide : inR (-1)), by rw [← e2]; exact hRM6⟩ (oY e2 hP) dX5_event_35 hlocks
  · have hf := itep hf c4
    refine lv_iconst (v := J (-1)) hx hb dX5_event_13 rfl ?_
    obtain ⟨e1, e2⟩ := Prod.mk.inj (Option.some.inj hf)
    exact jend_i hx hb hr rfl hS e1 ⟨by rw [← e1]; exact (by decide : inR (-1)), by rw [← e2]; exact hRM1⟩ (oY e2 hP) dX5_event_14 hlocks
def fX5_overVans_L4 : Nat → Int → Int → Int → MM → Option (Int)
  | 0, _, _, _, _ => none
  | n + 1, x1_1, x2_1, x3_1, M_1 => bnd (rd M_1 1 160 4) (fun v2 => if v2 ≤ x3_1 then some x2_1 else bnd (if x1_1 = 10 then bnd (rd M_1 13 4 x3_1) (fun v11 => if v11 ≤ x2_1 then some (x2_1) else bnd (rd M_1 13 4 x3_1) (fun v13 => some (v13))) else bnd (if x1_1 = 8 then bnd (rd M_1 15 4 x3_1) (fun v9 => some (v9)) else bnd (rd M_1 16 4 x3_1) (fun v8 => some (v8))) (fun y7_0 => gd (inR (x2_1 + y7_0)) (some ((x2_1 + y7_0))))) (fun y5_0 => gd (inR (x3_1 + 1)) (fX5_overVans_L4 n x1_1 y5_0 (x3_1 + 1) M_1)))
def fX5_overVans (a1 : Int) (M : MM) : Option (Int) := bnd (fX5_overVans_L4 4000 a1 0 0 M) (fun y1_0 => some y1_0)
set_option maxHeartbeats 4000000 in
set_option maxRecDepth 100000 in
theorem kX5_overVans (l : Launch) (D : va_G) (ca : Nat → ClassId) (ad : Nat → Nat) (hI : aInj 18 ad) (M : MM) (hR : RR M) (a1 : Int) (i1 : inR a1) (res : Int) (hf : fX5_overVans a1 M = some res) : CI l yX5_overVans wsX5_overVans 0 0 [.ref (ad 0), .int (J a1)] (PY D ca ad M) res (inR res) (OY D ca ad M) (aS 18 ad) := by
  refine Met.ofW (cc := cX5_overVans) (maxL := 4) (ret := (some .int)) (by decide) rfl ?_
  intro p e s m args below meth c s₁ B hml hv
  obtain ⟨rfl, hP, hK⟩ := hv
  have hx := B.exec
  have hb := B.bytes
  have hr := B.returns
  have hts := atoms_spec (ws := wsX5_overVans) B.pre
  have hown : s.vm.findClass RX5 = some m.cls := findClass_of_methodNamed B.named
  have hlocks := B.notSynchronized
  have hS : va_S (aS 18 ad) s.heap s.heap [] := va_S.rf
  have hinX5 : ∀ w ∈ wsX50, w ∈ wsX5_overVans := by decide +kernel
  have hl := lv_entry ([.ref (ad 0), .int (J a1)]) (n := 4) (Nat.le_of_ble_eq_true rfl)
  rw [lg_entry_eq]
  generalize (lg_sl ([.ref (ad 0), .int (J a1)]) ++ List.replicate (4 - (lg_sl ([.ref (ad 0), .int (J a1)])).length) Slot.unset).toArray = ls at hl ⊢
  have hl : lv_has ls 4 [(0, .ref (ad 0)), (1, .int (J a1))] := hl
  unfold fX5_overVans at hf
  refine lv_iconst (v := J 0) hx hb dX5_overVans_0 rfl ?_
  refine lv_istore_n (lv' := [(2, .int (J 0)), (0, .ref (ad 0)), (1, .int (J a1))]) hx hb dX5_overVans_1 rfl hl (by decide) rfl (fun ls hl => ?_)
  refine lv_iconst (v := J 0) hx hb dX5_overVans_2 rfl ?_
  refine lv_istore_n (lv' := [(3, .int (J 0)), (2, .int (J 0)), (0, .ref (ad 0)), (1, .int (J a1))]) hx hb dX5_overVans_3 rfl hl (by decide) rfl (fun ls hl => ?_)
  obtain ⟨y1_0, h1, hf⟩ := bnd_some hf
  have K1 : ∀ (H : Heap) (locs : List Loc) (ls : Array Slot), inR y1_0 → va_P D vwCl (wY ca ad M) H → va_S (aS 18 ad) s.heap H locs → lv_has ls 4 [(2, .int (J y1_0))] → W p l e (headSpec wsX5_overVans (RmC 0 0)).room s m ([.ref (ad 0), .int (J a1)] : List Value).toArray below meth c H locs 0 0 (MQ below (va_Qi (fun x (_ : Unit) => x = J res ∧ (inR res)) (fun _ => (OY D ca ad M)) (aS 18 ad)) ([.ref (ad 0), .int (J a1)] : List Value).toArray s 0 0 (aS 18 ad)) (F0 m 73 ls []) := by
    intro H locs ls ry1_0 hP hS hl
    refine lv_iload_n hx hb dX5_overVans_73 rfl (lv_at hl 0 rfl) ?_
    have e1 := Option.some.inj hf
    exact jend_i hx hb hr rfl hS e1 (by rw [← e1]; exact ry1_0) (oY rfl hP) dX5_overVans_74 hlocks
  have hL1 : ∀ (n : Nat) (x1_1 : Int) (x2_1 : Int) (x3_1 : Int) (M_1 : MM) (H : Heap) (locs : List Loc) (ls : Array Slot), inR x1_1 → inR x2_1 → inR x3_1 → RR M_1 → x1_1 = a1 → M_1 = M → va_P D vwCl (wY ca ad M_1) H → va_S (aS 18 ad) s.heap H locs → lv_has ls 4 [(0, .ref (ad 0)), (1, .int (J x1_1)), (2, .int (J x2_1)), (3, .int (J x3_1))] → fX5_overVans_L4 n x1_1 x2_1 x3_1 M_1 = some y1_0 → W p l e (headSpec wsX5_overVans (RmC 0 0)).room s m ([.ref (ad 0), .int (J a1)] : List Value).toArray below meth c H locs 0 0 (MQ below (va_Qi (fun x (_ : Unit) => x = J res ∧ (inR res)) (fun _ => (OY D ca ad M)) (aS 18 ad)) ([.ref (ad 0), .int (J a1)] : List Value).toArray s 0 0 (aS 18 ad)) (F0 m 4 ls []) := by
    intro n
    induction n with
    | zero =>
      intro x1_1 x2_1 x3_1 M_1 H locs ls rx1_1 rx2_1 rx3_1 hRM_1 e_x1_1 e_M_1 hP hS hl hf
      rw [fX5_overVans_L4] at hf
      cases hf
    | succ n ih =>
      intro x1_1 x2_1 x3_1 M_1 H locs ls rx1_1 rx2_1 rx3_1 hRM_1 e_x1_1 e_M_1 hP hS hl hf
      rw [fX5_overVans_L4] at hf
      refine lv_iload_n hx hb dX5_overVans_4 rfl (lv_at hl 3 rfl) ?_
      refine lv_aload_n hx hb dX5_overVans_5 rfl (lv_at hl 0 rfl) ?_
      refine va_get (D := D) (ci := 5) (v := .ref (ad 1)) (C := RX5) (T := TX5) (N := 23) hx hb hts hinX5 hown hK hP 0 (wL_get (by decide) (gY_0 _)) rfl 1 (by decide) (hts (.fieldLink RX5 7 "VisitVansModel" "s" "[I") (List.mem_of_getElem? (i := 1) rfl)) (fun _ h => h) rfl dX5_overVans_6 ?_
      refine lv_iconst (v := J 4) hx hb dX5_overVans_9 rfl ?_
      obtain ⟨v2, qv2, hf⟩ := bnd_some hf
      obtain ⟨bv2, ev2⟩ := rd_some qv2
      have rv2 : inR v2 := by rw [ev2]; exact hRM_1 _ _
      refine jx_iald hx hb hK hP 1 0 (by decide) gY_1 rfl (by decide) bv2 ev2 dX5_overVans_10 ?_
      refine jv_icmp_ge (tgt := 73) hx hb dX5_overVans_11 (by decide) rx3_1 rv2 (fun c3 => ?_) (fun c3 => ?_)
      · have hf := itep hf c3
        cases hf
        exact K1 _ _ _ rx2_1  (e_M_1 ▸ hP) hS (lv_sub hl [2] (by subst e_x1_1; rfl))
      · have hf := iten hf c3
        refine lv_iload_n hx hb dX5_overVans_14 rfl (lv_at hl 1 rfl) ?_
        refine lv_bipush (v := J 10) hx hb dX5_overVans_15 (by decide +kernel) ?_
        obtain ⟨y5_0, h5, hf⟩ := bnd_some hf
        have K5 : ∀ (H : Heap) (locs : List Loc) (ls : Array Slot), inR y5_0 → va_P D vwCl (wY ca ad M_1) H → va_S (aS 18 ad) s.heap H locs → lv_has ls 4 [(0, .ref (ad 0)), (1, .int (J x1_1)), (3, .int (J x3_1))] → W p l e (headSpec wsX5_overVans (RmC 0 0)).room s m ([.ref (ad 0), .int (J a1)] : List Value).toArray below meth c H locs 0 0 (MQ below (va_Qi (fun x (_ : Unit) => x = J res ∧ (inR res)) (fun _ => (OY D ca ad M)) (aS 18 ad)) ([.ref (ad 0), .int (J a1)] : List Value).toArray s 0 0 (aS 18 ad)) (F0 m 66 ls [.int (J y5_0)]) := by
          intro H locs ls ry5_0  hP hS hl
          refine lv_istore_n (lv' := [(2, .int (J y5_0)), (0, .ref (ad 0)), (1, .int (J x1_1)), (3, .int (J x3_1))]) hx hb dX5_overVans_66 rfl hl (by decide) rfl (fun ls hl => ?_)
          refine lv_iinc (v := J (x3_1 + 1)) (lv' := [(3, .int (J (x3_1 + 1))), (2, .int (J y5_0)), (0, .ref (ad 0)), (1, .int (J x1_1))]) hx hb dX5_overVans_67 hl (k := 3) rfl (J_add _ _) (by decide) rfl (fun ls hl => ?_)
          refine lv_goto (tgt := 4) hx hb dX5_overVans_70 (by decide) ?_
          obtain ⟨g14, hf⟩ := gd_some hf
          exact ih _ _ _ _ _ _ _ rx1_1 ry5_0 g14 hRM_1 e_x1_1 e_M_1 hP hS (lv_sub hl [2, 3, 1, 0] rfl) hf
        have hf := h5
        clear h5
        refine jv_icmp_ne (tgt := 43) hx hb dX5_overVans_17 (by decide) rx1_1 (by decide : inR 10) (fun c4 => ?_) (fun c4 => ?_)
        · have hf := iten hf c4
          refine lv_iload_n hx hb dX5_overVans_43 rfl (lv_at hl 2 rfl) ?_
          refine lv_iload_n hx hb dX5_overVans_44 rfl (lv_at hl 1 rfl) ?_
          refine lv_bipush (v := J 8) hx hb dX5_overVans_45 (by decide +kernel) ?_
          obtain ⟨y7_0, h7, hf⟩ := bnd_some hf
          have K7 : ∀ (H : Heap) (locs : List Loc) (ls : Array Slot), inR y7_0 → va_P D vwCl (wY ca ad M_1) H → va_S (aS 18 ad) s.heap H locs → lv_has ls 4 [(0, .ref (ad 0)), (1, .int (J x1_1)), (3, .int (J x3_1))] → W p l e (headSpec wsX5_overVans (RmC 0 0)).room s m ([.ref (ad 0), .int (J a1)] : List Value).toArray below meth c H locs 0 0 (MQ below (va_Qi (fun x (_ : Unit) => x = J res ∧ (inR res)) (fun _ => (OY D ca ad M)) (aS 18 ad)) ([.ref (ad 0), .int (J a1)] : List Value).toArray s 0 0 (aS 18 ad)) (F0 m 65 ls [.int (J y7_0), .int (J x2_1)]) := by
            intro H locs ls ry7_0  hP hS hl
            refine jv_iadd hx hb dX5_overVans_65 ?_
            obtain ⟨g10, hf⟩ := gd_some hf
            cases hf
            exact K5 _ _ _ g10  hP hS (lv_sub hl [0, 1, 2] rfl)
          have hf := h7
          clear h7
          refine jv_icmp_ne (tgt := 59) hx hb dX5_overVans_47 (by decide) rx1_1 (by decide : inR 8) (fun c6 => ?_) (fun c6 => ?_)
          · have hf := iten hf c6
            refine lv_aload_n hx hb dX5_overVans_59 rfl (lv_at hl 0 rfl) ?_
            refine va_get (D := D) (ci := 5) (v := .ref (ad 16)) (C := RX5) (T := TX5) (N := 23) hx hb hts hinX5 hown hK hP 0 (wL_get (by decide) (gY_0 _)) rfl 18 (by decide) (hts (.fieldLink RX5 56 "VisitVansModel" "waits" "[I") (List.mem_of_getElem? (i := 4) rfl)) (fun _ h => h) rfl dX5_overVans_60 ?_
            refine lv_iload_n hx hb dX5_overVans_63 rfl (lv_at hl 3 rfl) ?_
            obtain ⟨v8, qv8, hf⟩ := bnd_some hf
            obtain ⟨bv8, ev8⟩ := rd_some qv8
            have rv8 : inR v8 := by rw [ev8]; exact hRM_1 _ _
            refine jx_iald hx hb hK hP 16 0 (by decide) gY_16 rfl (by decide) bv8 ev8 dX5_overVans_64 ?_
            cases hf
            exact K7 _ _ _ rv8  hP hS (lv_sub hl [0, 1, 3] rfl)
          · have hf := itep hf c6
            refine lv_aload_n hx hb dX5_overVans_50 rfl (lv_at hl 0 rfl) ?_
            refine va_get (D := D) (ci := 5) (v := .ref (ad 15)) (C := RX5) (T := TX5) (N := 23) hx hb hts hinX5 hown hK hP 0 (wL_get (by decide) (gY_0 _)) rfl 17 (by decide) (hts (.fieldLink RX5 53 "VisitVansModel" "ways" "[I") (List.mem_of_getElem? (i := 3) rfl)) (fun _ h => h) rfl dX5_overVans_51 ?_
            refine lv_iload_n hx hb dX5_overVans_54 rfl (lv_at hl 3 rfl) ?_
            obtain ⟨v9, qv9, hf⟩ := bnd_some hf
            obtain ⟨bv9, ev9⟩ := rd_some qv9
            have rv9 : inR v9 := by rw [ev9]; exact hRM_1 _ _
            refine jx_iald hx hb hK hP 15 0 (by decide) gY_15 rfl (by decide) bv9 ev9 dX5_overVans_55 ?_
            refine lv_goto (tgt := 65) hx hb dX5_overVans_56 (by decide) ?_
            cases hf
            exact K7 _ _ _ rv9  hP hS (lv_sub hl [0, 1, 3] rfl)
        · have hf := itep hf c4
          refine lv_aload_n hx hb dX5_overVans_20 rfl (lv_at hl 0 rfl) ?_
          refine va_get (D := D) (ci := 5) (v := .ref (ad 13)) (C := RX5) (T := TX5) (N := 23) hx hb hts hinX5 hown hK hP 0 (wL_get (by decide) (gY_0 _)) rfl 15 (by decide) (hts (.fieldLink RX5 47 "VisitVansModel" "freeAt" "[I") (List.mem_of_getElem? (i := 2) rfl)) (fun _ h => h) rfl dX5_overVans_21 ?_
          refine lv_iload_n hx hb dX5_overVans_24 rfl (lv_at hl 3 rfl) ?_
          obtain ⟨v11, qv11, hf⟩ := bnd_some hf
          obtain ⟨bv11, ev11⟩ := rd_some qv11
          have rv11 : inR v11 := by rw [ev11]; exact hRM_1 _ _
          refine jx_iald hx hb hK hP 13 0 (by decide) gY_13 rfl (by decide) bv11 ev11 dX5_overVans_25 ?_
          refine lv_iload_n hx hb dX5_overVans_26 rfl (lv_at hl 2 rfl) ?_
          refine jv_icmp_le (tgt := 39) hx hb dX5_overVans_27 (by decide) rv11 rx2_1 (fun c12 => ?_) (fun c12 => ?_)
          · have hf := itep hf c12
            refine lv_iload_n hx hb dX5_overVans_39 rfl (lv_at hl 2 rfl) ?_
            refine lv_goto (tgt := 66) hx hb dX5_overVans_40 (by decide) ?_
            cases hf
            exact K5 _ _ _ rx2_1  hP hS (lv_sub hl [0, 1, 3] rfl)
          · have hf := iten hf c12
            refine lv_aload_n hx hb dX5_overVans_30 rfl (lv_at hl 0 rfl) ?_
            refine va_get (D := D) (ci := 5) (v := .ref (ad 13)) (C := RX5) (T := TX5) (N := 23) hx hb hts hinX5 hown hK hP 0 (wL_get (by decide) (gY_0 _)) rfl 15 (by decide) (hts (.fieldLink RX5 47 "VisitVansModel" "freeAt" "[I") (List.mem_of_getElem? (i := 2) rfl)) (fun _ h => h) rfl dX5_overVans_31 ?_
            refine lv_iload_n hx hb dX5_overVans_34 rfl (lv_at hl 3 rfl) ?_
            obtain ⟨v13, qv13, hf⟩ := bnd_some hf
            obtain ⟨bv13, ev13⟩ := rd_some qv13
            have rv13 : inR v13 := by rw [ev13]; exact hRM_1 _ _
            refine jx_iald hx hb hK hP 13 0 (by decide) gY_13 rfl (by decide) bv13 ev13 dX5_overVans_35 ?_
            refine lv_goto (tgt := 66) hx hb dX5_overVans_36 (by decide) ?_
            cases hf
            exact K5 _ _ _ rv13  hP hS (lv_sub hl [0, 1, 3] rfl)
  exact hL1 4000 _ _ _ _ _ _ _ i1 (by decide : inR 0) (by decide : inR 0) hR rfl rfl hP hS (lv_sub hl [2, 3, 1, 0] rfl) h1
def fX5_count (a1 : Int) (M : MM) : Option (Int × MM) := bnd (some (stM M 0 0 0)) (fun M1 => bnd (fX5_plans M1) (fun M3 => if a1 = 0 then bnd (rd M3 1 160 3) (fun v5 => some (v5, M3)) else if a1 = 1 then bnd (rd M3 1 160 4) (fun v6 => some (v6, M3)) else if a1 = 2 then gd (inR (a1 - 2)) (bnd (fX5_withPromise (a1 - 2) (a1 - 2) M3) (fun v8 => some (v8, M3))) else if a1 = 3 then gd (inR (a1 - 2)) (bnd (fX5_withPromise (a1 - 2) (a1 - 2) M3) (fun v11 => some (v11, M3))) else if a1 = 4 then bnd (fX5_withPromise 2 4 M3) (fun v13 => some (v13, M3)) else if a1 = 5 then gd (inR (a1 - 3)) (bnd (fX5_withPromise (a1 - 3) (a1 - 3) M3) (fun v16 => some (v16, M3))) else if a1 = 6 then gd (inR (a1 - 3)) (bnd (fX5_withPromise (a1 - 3) (a1 - 3) M3) (fun v19 => some (v19, M3))) else if a1 = 7 then gd (inR (a1 - 3)) (bnd (fX5_withPromise (a1 - 3) (a1 - 3) M3) (fun v22 => some (v22, M3))) else if a1 = 8 then bnd (fX5_overVans a1 M3) (fun v24 => some (v24, M3)) else if a1 = 9 then bnd (fX5_overVans a1 M3) (fun v26 => some (v26, M3)) else if a1 = 10 then bnd (fX5_overVans a1 M3) (fun v28 => some (v28, M3)) else if a1 = 11 then bnd (fX5_in a1 11 13) (fun v30 => bnd (if v30 = 0 then some (((-2) : Int)) else bnd (rd M3 1 160 (a1 - 11)) (fun v34 => some (v34))) (fun y33_0 => some (y33_0, M3))) else if a1 = 12 then bnd (fX5_in a1 11 13) (fun v35 => bnd (if v35 = 0 then some (((-2) : Int)) else bnd (rd M3 1 160 (a1 - 11)) (fun v39 => some (v39))) (fun y38_0 => some (y38_0, M3))) else if a1 = 13 then bnd (fX5_in a1 11 13) (fun v40 => bnd (if v40 = 0 then some (((-2) : Int)) else bnd (rd M3 1 160 (a1 - 11)) (fun v44 => some (v44))) (fun y43_0 => some (y43_0, M3))) else if a1 = 14 then some ((M3 0 7), M3) else if a1 = 15 then some ((M3 0 3), M3) else bnd (fX5_in a1 11 13) (fun v45 => bnd (if v45 = 0 then some (((-2) : Int)) else bnd (rd M3 1 160 (a1 - 11)) (fun v49 => some (v49))) (fun y48_0 => some (y48_0, M3)))))
set_option maxHeartbeats 4000000 in
set_option maxRecDepth 100000 in
theorem kX5_count (l : Launch) (D : va_G) (ca : Nat → ClassId) (ad : Nat → Nat) (hI : aInj 18 ad) (M : MM) (hR : RR M) (a1 : Int) (i1 : inR a1) (res : Int) (M' : MM) (hf : fX5_count a1 M = some (res, M')) : CI l yX5_count wsX5_count 6 141 [.ref (ad 0), .int (J a1)] (PY D ca ad M) res (inR res ∧ RR M') (OY D ca ad M') (aS 18 ad) := by
  refine Met.ofW (cc := cX5_count) (maxL := 2) (ret := (some .int)) (by decide) rfl ?_
  intro p e s m args below meth c s₁ B hml hv
  obtain ⟨rfl, hP, hK⟩ := hv
  have hx := B.exec
  have hb := B.bytes
  have hr := B.returns
  have hts := atoms_spec (ws := wsX5_count) B.pre
  have hown : s.vm.findClass RX5 = some m.cls := findClass_of_methodNamed B.named
  have hlocks := B.notSynchronized
  have hS : va_S (aS 18 ad) s.heap s.heap [] := va_S.rf
  have hinX5 : ∀ w ∈ wsX50, w ∈ wsX5_count := by decide +kernel
  have hl := lv_entry ([.ref (ad 0), .int (J a1)]) (n := 2) (Nat.le_of_ble_eq_true rfl)
  rw [lg_entry_eq]
  generalize (lg_sl ([.ref (ad 0), .int (J a1)]) ++ List.replicate (2 - (lg_sl ([.ref (ad 0), .int (J a1)])).length) Slot.unset).toArray = ls at hl ⊢
  have hl : lv_has ls 2 [(0, .ref (ad 0)), (1, .int (J a1))] := hl
  unfold fX5_count at hf
  refine lv_aload_n hx hb dX5_count_0 rfl (lv_at hl 0 rfl) ?_
  refine lv_iconst (v := J 0) hx hb dX5_count_1 rfl ?_
  obtain ⟨M1, eM1, hf⟩ := bnd_some hf
  have eM1 := Option.some.inj eM1
  have hRM1 : RR M1 := by rw [← eM1]; exact RR_st hR 0 0 (by decide : inR 0)
  refine va_put (D := D) (ci := 5) (v := .int (J 0)) (ty := .int) (C := RX5) (T := TX5) (N := 23) hx hb hts hinX5 tyX5 tyX5_ok nmX5 hown hK hP (wL_D hI M) hS 0 (wL_get (by decide) (gY_0 _)) rfl 0 (by decide) (hts (.fieldLink RX5 62 "VisitVansModel" "thrown" "I") (List.mem_of_getElem? (i := 1) rfl)) (fun _ h => h) rfl rfl rfl rfl (Nat.le_of_ble_eq_true rfl) dX5_count_2 (fun H locs hP hD hS => ?_)
  have hP : va_P D vwCl (wY ca ad M1) H := by rw [← eM1]; exact hPset (gY_0_s0) stM_o hP
  refine lv_aload_n hx hb dX5_count_5 rfl (lv_at hl 0 rfl) ?_
  obtain ⟨M3, qM3, hf⟩ := bnd_some hf
  refine jc_v (va_runV (As := []) (rest := []) ⟨hx, hb, hml, hown, hts⟩ (kX5_plans l D ca ad hI M1 hRM1 M3 qM3) (cwV 0 hts gX5_count_X5_plans rfl rfl rfl (by decide +kernel) ⟨Nat.le_of_ble_eq_true rfl, Nat.le_of_ble_eq_true rfl⟩) (pvY hK hP []) rfl rfl hl.1 rfl (lv_room (Nat.le_of_ble_eq_true rfl)) dX5_count_6 ⟨Nat.zero_le _, Nat.zero_le _⟩) hS (fun H locs t ht hφ hO hS => ?_)
  have hRM3 := hφ
  have hP : va_P D vwCl (wY ca ad M3) H := by rw [← ht]; exact hO
  refine lv_iload_n hx hb dX5_count_9 rfl (lv_at hl 1 rfl) ?_
  by_cases c4_0 : a1 = 0
  · have hf := itep hf c4_0
    refine jv_tIn (k := 0) (tgt := 88) hx hb dX5_count_10 i1 c4_0 (by decide) (by decide) rfl (by decide) ?_
    refine lv_aload_n hx hb dX5_count_88 rfl (lv_at hl 0 rfl) ?_
    refine va_get (D := D) (ci := 5) (v := .ref (ad 1)) (C := RX5) (T := TX5) (N := 23) hx hb hts hinX5 hown hK hP 0 (wL_get (by decide) (gY_0 _)) rfl 1 (by decide) (hts (.fieldLink RX5 7 "VisitVansModel" "s" "[I") (List.mem_of_getElem? (i := 2) rfl)) (fun _ h => h) rfl dX5_count_89 ?_
    refine lv_iconst (v := J 3) hx hb dX5_count_92 rfl ?_
    obtain ⟨v5, qv5, hf⟩ := bnd_some hf
    obtain ⟨bv5, ev5⟩ := rd_some qv5
    have rv5 : inR v5 := by rw [ev5]; exact hRM3 _ _
    refine jx_iald hx hb hK hP 1 0 (by decide) gY_1 rfl (by decide) bv5 ev5 dX5_count_93 ?_
    obtain ⟨e1, e2⟩ := Prod.mk.inj (Option.some.inj hf)
    exact jend_i hx hb hr rfl hS e1 ⟨by rw [← e1]; exact rv5, by rw [← e2]; exact hRM3⟩ (oY e2 hP) dX5_count_94 hlocks
  · have hf := iten hf c4_0
    by_cases c4_1 : a1 = 1
    · have hf := itep hf c4_1
      refine jv_tIn (k := 1) (tgt := 95) hx hb dX5_count_10 i1 c4_1 (by decide) (by decide) rfl (by decide) ?_
      refine lv_aload_n hx hb dX5_count_95 rfl (lv_at hl 0 rfl) ?_
      refine va_get (D := D) (ci := 5) (v := .ref (ad 1)) (C := RX5) (T := TX5) (N := 23) hx hb hts hinX5 hown hK hP 0 (wL_get (by decide) (gY_0 _)) rfl 1 (by decide) (hts (.fieldLink RX5 7 "VisitVansModel" "s" "[I") (List.mem_of_getElem? (i := 2) rfl)) (fun _ h => h) rfl dX5_count_96 ?_
      refine lv_iconst (v := J 4) hx hb dX5_count_99 rfl ?_
      obtain ⟨v6, qv6, hf⟩ := bnd_some hf
      obtain ⟨bv6, ev6⟩ := rd_some qv6
      have rv6 : inR v6 := by rw [ev6]; exact hRM3 _ _
      refine jx_iald hx hb hK hP 1 0 (by decide) gY_1 rfl (by decide) bv6 ev6 dX5_count_100 ?_
      obtain ⟨e1, e2⟩ := Prod.mk.inj (Option.some.inj hf)
      exact jend_i hx hb hr rfl hS e1 ⟨by rw [← e1]; exact rv6, by rw [← e2]; exact hRM3⟩ (oY e2 hP) dX5_count_101 hlocks
    · have hf := iten hf c4_1
      by_cases c4_2 : a1 = 2
      · have hf := itep hf c4_2
        refine jv_tIn (k := 2) (tgt := 102) hx hb dX5_count_10 i1 c4_2 (by decide) (by decide) rfl (by decide) ?_
        refine lv_aload_n hx hb dX5_count_102 rfl (lv_at hl 0 rfl) ?_
        refine lv_iload_n hx hb dX5_count_103 rfl (lv_at hl 1 rfl) ?_
        refine lv_iconst (v := J 2) hx hb dX5_count_104 rfl ?_
        refine jv_isub hx hb dX5_count_105 ?_
        refine lv_iload_n hx hb dX5_count_106 rfl (lv_at hl 1 rfl) ?_
        refine lv_iconst (v := J 2) hx hb dX5_count_107 rfl ?_
        refine jv_isub hx hb dX5_count_108 ?_
        obtain ⟨g7, hf⟩ := gd_some hf
        obtain ⟨v8, qv8, hf⟩ := bnd_some hf
        refine jc_i (va_runV (As := [.int (J (a1 - 2)), .int (J (a1 - 2))]) (rest := []) ⟨hx, hb, hml, hown, hts⟩ (kX5_withPromise l D ca ad hI M3 hRM3 (a1 - 2) (a1 - 2) g7 g7 v8 qv8) (cwV 2 hts gX5_count_X5_withPromise rfl rfl rfl (by decide +kernel) ⟨Nat.le_of_ble_eq_true rfl, Nat.le_of_ble_eq_true rfl⟩) (pvY hK hP [.int (J (a1 - 2)), .int (J (a1 - 2))]) rfl rfl hl.1 rfl (lv_room (Nat.le_of_ble_eq_true rfl)) dX5_count_109 ⟨Nat.zero_le _, Nat.zero_le _⟩) hS (fun H locs t ht hφ hO hS => ?_)
        have rv8 := hφ
        have hP : va_P D vwCl (wY ca ad M3) H := by rw [← ht]; exact hO
        obtain ⟨e1, e2⟩ := Prod.mk.inj (Option.some.inj hf)
        exact jend_i hx hb hr rfl hS e1 ⟨by rw [← e1]; exact rv8, by rw [← e2]; exact hRM3⟩ (oY e2 hP) dX5_count_112 hlocks
      · have hf := iten hf c4_2
        by_cases c4_3 : a1 = 3
        · have hf := itep hf c4_3
          refine jv_tIn (k := 3) (tgt := 102) hx hb dX5_count_10 i1 c4_3 (by decide) (by decide) rfl (by decide) ?_
          refine lv_aload_n hx hb dX5_count_102 rfl (lv_at hl 0 rfl) ?_
          refine lv_iload_n hx hb dX5_count_103 rfl (lv_at hl 1 rfl) ?_
          refine lv_iconst (v := J 2) hx hb dX5_count_104 rfl ?_
          refine jv_isub hx hb dX5_count_105 ?_
          refine lv_iload_n hx hb dX5_count_106 rfl (lv_at hl 1 rfl) ?_
          refine lv_iconst (v := J 2) hx hb dX5_count_107 rfl ?_
          refine jv_isub hx hb dX5_count_108 ?_
          obtain ⟨g10, hf⟩ := gd_some hf
          obtain ⟨v11, qv11, hf⟩ := bnd_some hf
          refine jc_i (va_runV (As := [.int (J (a1 - 2)), .int (J (a1 - 2))]) (rest := []) ⟨hx, hb, hml, hown, hts⟩ (kX5_withPromise l D ca ad hI M3 hRM3 (a1 - 2) (a1 - 2) g10 g10 v11 qv11) (cwV 2 hts gX5_count_X5_withPromise rfl rfl rfl (by decide +kernel) ⟨Nat.le_of_ble_eq_true rfl, Nat.le_of_ble_eq_true rfl⟩) (pvY hK hP [.int (J (a1 - 2)), .int (J (a1 - 2))]) rfl rfl hl.1 rfl (lv_room (Nat.le_of_ble_eq_true rfl)) dX5_count_109 ⟨Nat.zero_le _, Nat.zero_le _⟩) hS (fun H locs t ht hφ hO hS => ?_)
          have rv11 := hφ
          have hP : va_P D vwCl (wY ca ad M3) H := by rw [← ht]; exact hO
          obtain ⟨e1, e2⟩ := Prod.mk.inj (Option.some.inj hf)
          exact jend_i hx hb hr rfl hS e1 ⟨by rw [← e1]; exact rv11, by rw [← e2]; exact hRM3⟩ (oY e2 hP) dX5_count_112 hlocks
        · have hf := iten hf c4_3
          by_cases c4_4 : a1 = 4
          · have hf := itep hf c4_4
            refine jv_tIn (k := 4) (tgt := 113) hx hb dX5_count_10 i1 c4_4 (by decide) (by decide) rfl (by decide) ?_
            refine lv_aload_n hx hb dX5_count_113 rfl (lv_at hl 0 rfl) ?_
            refine lv_iconst (v := J 2) hx hb dX5_count_114 rfl ?_
            refine lv_iconst (v := J 4) hx hb dX5_count_115 rfl ?_
            obtain ⟨v13, qv13, hf⟩ := bnd_some hf
            refine jc_i (va_runV (As := [.int (J 2), .int (J 4)]) (rest := []) ⟨hx, hb, hml, hown, hts⟩ (kX5_withPromise l D ca ad hI M3 hRM3 2 4 (by decide : inR 2) (by decide : inR 4) v13 qv13) (cwV 2 hts gX5_count_X5_withPromise rfl rfl rfl (by decide +kernel) ⟨Nat.le_of_ble_eq_true rfl, Nat.le_of_ble_eq_true rfl⟩) (pvY hK hP [.int (J 2), .int (J 4)]) rfl rfl hl.1 rfl (lv_room (Nat.le_of_ble_eq_true rfl)) dX5_count_116 ⟨Nat.zero_le _, Nat.zero_le _⟩) hS (fun H locs t ht hφ hO hS => ?_)
            have rv13 := hφ
            have hP : va_P D vwCl (wY ca ad M3) H := by rw [← ht]; exact hO
            obtain ⟨e1, e2⟩ := Prod.mk.inj (Option.some.inj hf)
            exact jend_i hx hb hr rfl hS e1 ⟨by rw [← e1]; exact rv13, by rw [← e2]; exact hRM3⟩ (oY e2 hP) dX5_count_119 hlocks
          · have hf := iten hf c4_4
            by_cases c4_5 : a1 = 5
            · have hf := itep hf c4_5
              refine jv_tIn (k := 5) (tgt := 120) hx hb dX5_count_10 i1 c4_5 (by decide) (by decide) rfl (by decide) ?_
              refine lv_aload_n hx hb dX5_count_120 rfl (lv_at hl 0 rfl) ?_
              refine lv_iload_n hx hb dX5_count_121 rfl (lv_at hl 1 rfl) ?_
              refine lv_iconst (v := J 3) hx hb dX5_count_122 rfl ?_
              refine jv_isub hx hb dX5_count_123 ?_
              refine lv_iload_n hx hb dX5_count_124 rfl (lv_at hl 1 rfl) ?_
              refine lv_iconst (v := J 3) hx hb dX5_count_125 rfl ?_
              refine jv_isub hx hb dX5_count_126 ?_
              obtain ⟨g15, hf⟩ := gd_some hf
              obtain ⟨v16, qv16, hf⟩ := bnd_some hf
              refine jc_i (va_runV (As := [.int (J (a1 - 3)), .int (J (a1 - 3))]) (rest := []) ⟨hx, hb, hml, hown, hts⟩ (kX5_withPromise l D ca ad hI M3 hRM3 (a1 - 3) (a1 - 3) g15 g15 v16 qv16) (cwV 2 hts gX5_count_X5_withPromise rfl rfl rfl (by decide +kernel) ⟨Nat.le_of_ble_eq_true rfl, Nat.le_of_ble_eq_true rfl⟩) (pvY hK hP [.int (J (a1 - 3)), .int (J (a1 - 3))]) rfl rfl hl.1 rfl (lv_room (Nat.le_of_ble_eq_true rfl)) dX5_count_127 ⟨Nat.zero_le _, Nat.zero_le _⟩) hS (fun H locs t ht hφ hO hS => ?_)
              have rv16 := hφ
              have hP : va_P D vwCl (wY ca ad M3) H := by rw [← ht]; exact hO
              obtain ⟨e1, e2⟩ := Prod.mk.inj (Option.some.inj hf)
              exact jend_i hx hb hr rfl hS e1 ⟨by rw [← e1]; exact rv16, by rw [← e2]; exact hRM3⟩ (oY e2 hP) dX5_count_130 hlocks
            · have hf := iten hf c4_5
              by_cases c4_6 : a1 = 6
              · have hf := itep hf c4_6
                refine jv_tIn (k := 6) (tgt := 120) hx hb dX5_count_10 i1 c4_6 (by decide) (by decide) rfl (by decide) ?_
                refine lv_aload_n hx hb dX5_count_120 rfl (lv_at hl 0 rfl) ?_
                refine lv_iload_n hx hb dX5_count_121 rfl (lv_at hl 1 rfl) ?_
                refine lv_iconst (v := J 3) hx hb dX5_count_122 rfl ?_
                refine jv_isub hx hb dX5_count_123 ?_
                refine lv_iload_n hx hb dX5_count_124 rfl (lv_at hl 1 rfl) ?_
                refine lv_iconst (v := J 3) hx hb dX5_count_125 rfl ?_
                refine jv_isub hx hb dX5_count_126 ?_
                obtain ⟨g18, hf⟩ := gd_some hf
                obtain ⟨v19, qv19, hf⟩ := bnd_some hf
                refine jc_i (va_runV (As := [.int (J (a1 - 3)), .int (J (a1 - 3))]) (rest := []) ⟨hx, hb, hml, hown, hts⟩ (kX5_withPromise l D ca ad hI M3 hRM3 (a1 - 3) (a1 - 3) g18 g18 v19 qv19) (cwV 2 hts gX5_count_X5_withPromise rfl rfl rfl (by decide +kernel) ⟨Nat.le_of_ble_eq_true rfl, Nat.le_of_ble_eq_true rfl⟩) (pvY hK hP [.int (J (a1 - 3)), .int (J (a1 - 3))]) rfl rfl hl.1 rfl (lv_room (Nat.le_of_ble_eq_true rfl)) dX5_count_127 ⟨Nat.zero_le _, Nat.zero_le _⟩) hS (fun H locs t ht hφ hO hS => ?_)
                have rv19 := hφ
                have hP : va_P D vwCl (wY ca ad M3) H := by rw [← ht]; exact hO
                obtain ⟨e1, e2⟩ := Prod.mk.inj (Option.some.inj hf)
                exact jend_i hx hb hr rfl hS e1 ⟨by rw [← e1]; exact rv19, by rw [← e2]; exact hRM3⟩ (oY e2 hP) dX5_count_130 hlocks
              · have hf := iten hf c4_6
                by_cases c4_7 : a1 = 7
                · have hf := itep hf c4_7
                  refine jv_tIn (k := 7) (tgt := 120) hx hb dX5_count_10 i1 c4_7 (by decide) (by decide) rfl (by decide) ?_
                  refine lv_aload_n hx hb dX5_count_120 rfl (lv_at hl 0 rfl) ?_
                  refine lv_iload_n hx hb dX5_count_121 rfl (lv_at hl 1 rfl) ?_
                  refine lv_iconst (v := J 3) hx hb dX5_count_122 rfl ?_
                  refine jv_isub hx hb dX5_count_123 ?_
                  refine lv_iload_n hx hb dX5_count_124 rfl (lv_at hl 1 rfl) ?_
                  refine lv_iconst (v := J 3) hx hb dX5_count_125 rfl ?_
                  refine jv_isub hx hb dX5_count_126 ?_
                  obtain ⟨g21, hf⟩ := gd_some hf
                  obtain ⟨v22, qv22, hf⟩ := bnd_some hf
                  refine jc_i (va_runV (As := [.int (J (a1 - 3)), .int (J (a1 - 3))]) (rest := []) ⟨hx, hb, hml, hown, hts⟩ (kX5_withPromise l D ca ad hI M3 hRM3 (a1 - 3) (a1 - 3) g21 g21 v22 qv22) (cwV 2 hts gX5_count_X5_withPromise rfl rfl rfl (by decide +kernel) ⟨Nat.le_of_ble_eq_true rfl, Nat.le_of_ble_eq_true rfl⟩) (pvY hK hP [.int (J (a1 - 3)), .int (J (a1 - 3))]) rfl rfl hl.1 rfl (lv_room (Nat.le_of_ble_eq_true rfl)) dX5_count_127 ⟨Nat.zero_le _, Nat.zero_le _⟩) hS (fun H locs t ht hφ hO hS => ?_)
                  have rv22 := hφ
                  have hP : va_P D vwCl (wY ca ad M3) H := by rw [← ht]; exact hO
                  obtain ⟨e1, e2⟩ := Prod.mk.inj (Option.some.inj hf)
                  exact jend_i hx hb hr rfl hS e1 ⟨by rw [← e1]; exact rv22, by rw [← e2]; exact hRM3⟩ (oY e2 hP) dX5_count_130 hlocks
                · have hf := iten hf c4_7
                  by_cases c4_8 : a1 = 8
                  · have hf := itep hf c4_8
                    refine jv_tIn (k := 8) (tgt := 131) hx hb dX5_count_10 i1 c4_8 (by decide) (by decide) rfl (by decide) ?_
                    refine lv_aload_n hx hb dX5_count_131 rfl (lv_at hl 0 rfl) ?_
                    refine lv_iload_n hx hb dX5_count_132 rfl (lv_at hl 1 rfl) ?_
                    obtain ⟨v24, qv24, hf⟩ := bnd_some hf
                    refine jc_i (va_runV (As := [.int (J a1)]) (rest := []) ⟨hx, hb, hml, hown, hts⟩ (kX5_overVans l D ca ad hI M3 hRM3 a1 i1 v24 qv24) (cwV 1 hts gX5_count_X5_overVans rfl rfl rfl (by decide +kernel) ⟨Nat.le_of_ble_eq_true rfl, Nat.le_of_ble_eq_true rfl⟩) (pvY hK hP [.int (J a1)]) rfl rfl hl.1 rfl (lv_room (Nat.le_of_ble_eq_true rfl)) dX5_count_133 ⟨Nat.zero_le _, Nat.zero_le _⟩) hS (fun H locs t ht hφ hO hS => ?_)
                    have rv24 := hφ
                    have hP : va_P D vwCl (wY ca ad M3) H := by rw [← ht]; exact hO
                    obtain ⟨e1, e2⟩ := Prod.mk.inj (Option.some.inj hf)
                    exact jend_i hx hb hr rfl hS e1 ⟨by rw [← e1]; exact rv24, by rw [← e2]; exact hRM3⟩ (oY e2 hP) dX5_count_136 hlocks
                  · have hf := iten hf c4_8
                    by_cases c4_9 : a1 = 9
                    · have hf := itep hf c4_9
                      refine jv_tIn (k := 9) (tgt := 131) hx hb dX5_count_10 i1 c4_9 (by decide) (by decide) rfl (by decide) ?_
                      refine lv_aload_n hx hb dX5_count_131 rfl (lv_at hl 0 rfl) ?_
                      refine lv_iload_n hx hb dX5_count_132 rfl (lv_at hl 1 rfl) ?_
                      obtain ⟨v26, qv26, hf⟩ := bnd_some hf
                      refine jc_i (va_runV (As := [.int (J a1)]) (rest := []) ⟨hx, hb, hml, hown, hts⟩ (kX5_overVans l D ca ad hI M3 hRM3 a1 i1 v26 qv26) (cwV 1 hts gX5_count_X5_overVans rfl rfl rfl (by decide +kernel) ⟨Nat.le_of_ble_eq_true rfl, Nat.le_of_ble_eq_true rfl⟩) (pvY hK hP [.int (J a1)]) rfl rfl hl.1 rfl (lv_room (Nat.le_of_ble_eq_true rfl)) dX5_count_133 ⟨Nat.zero_le _, Nat.zero_le _⟩) hS (fun H locs t ht hφ hO hS => ?_)
                      have rv26 := hφ
                      have hP : va_P D vwCl (wY ca ad M3) H := by rw [← ht]; exact hO
                      obtain ⟨e1, e2⟩ := Prod.mk.inj (Option.some.inj hf)
                      exact jend_i hx hb hr rfl hS e1 ⟨by rw [← e1]; exact rv26, by rw [← e2]; exact hRM3⟩ (oY e2 hP) dX5_count_136 hlocks
                    · have hf := iten hf c4_9
                      by_cases c4_10 : a1 = 10
                      · have hf := itep hf c4_10
                        refine jv_tIn (k := 10) (tgt := 131) hx hb dX5_count_10 i1 c4_10 (by decide) (by decide) rfl (by decide) ?_
                        refine lv_aload_n hx hb dX5_count_131 rfl (lv_at hl 0 rfl) ?_
                        refine lv_iload_n hx hb dX5_count_132 rfl (lv_at hl 1 rfl) ?_
                        obtain ⟨v28, qv28, hf⟩ := bnd_some hf
                        refine jc_i (va_runV (As := [.int (J a1)]) (rest := []) ⟨hx, hb, hml, hown, hts⟩ (kX5_overVans l D ca ad hI M3 hRM3 a1 i1 v28 qv28) (cwV 1 hts gX5_count_X5_overVans rfl rfl rfl (by decide +kernel) ⟨Nat.le_of_ble_eq_true rfl, Nat.le_of_ble_eq_true rfl⟩) (pvY hK hP [.int (J a1)]) rfl rfl hl.1 rfl (lv_room (Nat.le_of_ble_eq_true rfl)) dX5_count_133 ⟨Nat.zero_le _, Nat.zero_le _⟩) hS (fun H locs t ht hφ hO hS => ?_)
                        have rv28 := hφ
                        have hP : va_P D vwCl (wY ca ad M3) H := by rw [← ht]; exact hO
                        obtain ⟨e1, e2⟩ := Prod.mk.inj (Option.some.inj hf)
                        exact jend_i hx hb hr rfl hS e1 ⟨by rw [← e1]; exact rv28, by rw [← e2]; exact hRM3⟩ (oY e2 hP) dX5_count_136 hlocks
                      · have hf := iten hf c4_10
                        by_cases c4_11 : a1 = 11
                        · have hf := itep hf c4_11
                          refine jv_tIn (k := 11) (tgt := 147) hx hb dX5_count_10 i1 c4_11 (by decide) (by decide) rfl (by decide) ?_
                          refine lv_iload_n hx hb dX5_count_147 rfl (lv_at hl 1 rfl) ?_
                          refine lv_bipush (v := J 11) hx hb dX5_count_148 (by decide +kernel) ?_
                          refine lv_bipush (v := J 13) hx hb dX5_count_150 (by decide +kernel) ?_
                          obtain ⟨v30, qv30, hf⟩ := bnd_some hf
                          refine jc_i (va_runS (As := [.int (J a1), .int (J 11), .int (J 13)]) (rest := []) ⟨hx, hb, hml, hown, hts⟩ (kX5_in l D ca ad hI M3 hRM3 a1 11 13 i1 (by decide : inR 11) (by decide : inR 13) v30 qv30) (va_cwS 3 hts gX5_count_X5_in rfl rfl rfl (by decide +kernel) ⟨Nat.le_of_ble_eq_true rfl, Nat.le_of_ble_eq_true rfl⟩) (psY hK hP [.int (J a1), .int (J 11), .int (J 13)]) rfl rfl hl.1 rfl (lv_room (Nat.le_of_ble_eq_true rfl)) dX5_count_152 ⟨Nat.zero_le _, Nat.zero_le _⟩) hS (fun H locs t ht hφ hO hS => ?_)
                          have rv30 := hφ
                          have hP : va_P D vwCl (wY ca ad M3) H := by rw [← ht]; exact hO
                          obtain ⟨y33_0, h33, hf⟩ := bnd_some hf
                          have K33 : ∀ (H : Heap) (locs : List Loc) (ls : Array Slot), inR y33_0 → va_P D vwCl (wY ca ad M3) H → va_S (aS 18 ad) s.heap H locs → lv_has ls 2 [] → W p l e (headSpec wsX5_count (RmC 6 141)).room s m ([.ref (ad 0), .int (J a1)] : List Value).toArray below meth c H locs 0 0 (MQ below (va_Qi (fun x (_ : Unit) => x = J res ∧ (inR res ∧ RR M')) (fun _ => (OY D ca ad M')) (aS 18 ad)) ([.ref (ad 0), .int (J a1)] : List Value).toArray s 0 0 (aS 18 ad)) (F0 m 172 ls [.int (J y33_0)]) := by
                            intro H locs ls ry33_0  hP hS hl
                            obtain ⟨e1, e2⟩ := Prod.mk.inj (Option.some.inj hf)
                            exact jend_i hx hb hr rfl hS e1 ⟨by rw [← e1]; exact ry33_0, by rw [← e2]; exact hRM3⟩ (oY e2 hP) dX5_count_172 hlocks
                          have hf := h33
                          clear h33
                          refine jv_if_eq (tgt := 170) hx hb dX5_count_155 (by decide) rv30 (fun c32 => ?_) (fun c32 => ?_)
                          · have hf := itep hf c32
                            refine lv_bipush (v := J (-2)) hx hb dX5_count_170 (by decide +kernel) ?_
                            cases hf
                            exact K33 _ _ _ (by decide : inR (-2))  hP hS (lv_sub hl [] rfl)
                          · have hf := iten hf c32
                            refine lv_aload_n hx hb dX5_count_158 rfl (lv_at hl 0 rfl) ?_
                            refine va_get (D := D) (ci := 5) (v := .ref (ad 1)) (C := RX5) (T := TX5) (N := 23) hx hb hts hinX5 hown hK hP 0 (wL_get (by decide) (gY_0 _)) rfl 1 (by decide) (hts (.fieldLink RX5 7 "VisitVansModel" "s" "[I") (List.mem_of_getElem? (i := 2) rfl)) (fun _ h => h) rfl dX5_count_159 ?_
                            refine lv_iload_n hx hb dX5_count_162 rfl (lv_at hl 1 rfl) ?_
                            refine lv_bipush (v := J 11) hx hb dX5_count_163 (by decide +kernel) ?_
                            refine jv_isub hx hb dX5_count_165 ?_
                            obtain ⟨v34, qv34, hf⟩ := bnd_some hf
                            obtain ⟨bv34, ev34⟩ := rd_some qv34
                            have rv34 : inR v34 := by rw [ev34]; exact hRM3 _ _
                            refine jx_iald hx hb hK hP 1 0 (by decide) gY_1 rfl (by decide) bv34 ev34 dX5_count_166 ?_
                            refine lv_goto (tgt := 172) hx hb dX5_count_167 (by decide) ?_
                            cases hf
                            exact K33 _ _ _ rv34  hP hS (lv_sub hl [] rfl)
                        · have hf := iten hf c4_11
                          by_cases c4_12 : a1 = 12
                          · have hf := itep hf c4_12
                            refine jv_tIn (k := 12) (tgt := 147) hx hb dX5_count_10 i1 c4_12 (by decide) (by decide) rfl (by decide) ?_
                            refine lv_iload_n hx hb dX5_count_147 rfl (lv_at hl 1 rfl) ?_
                            refine lv_bipush (v := J 11) hx hb dX5_count_148 (by decide +kernel) ?_
                            refine lv_bipush (v := J 13) hx hb dX5_count_150 (by decide +kernel) ?_
                            obtain ⟨v35, qv35, hf⟩ := bnd_some hf
                            refine jc_i (va_runS (As := [.int (J a1), .int (J 11), .int (J 13)]) (rest := []) ⟨hx, hb, hml, hown, hts⟩ (kX5_in l D ca ad hI M3 hRM3 a1 11 13 i1 (by decide : inR 11) (by decide : inR 13) v35 qv35) (va_cwS 3 hts gX5_count_X5_in rfl rfl rfl (by decide +kernel) ⟨Nat.le_of_ble_eq_true rfl, Nat.le_of_ble_eq_true rfl⟩) (psY hK hP [.int (J a1), .int (J 11), .int (J 13)]) rfl rfl hl.1 rfl (lv_room (Nat.le_of_ble_eq_true rfl)) dX5_count_152 ⟨Nat.zero_le _, Nat.zero_le _⟩) hS (fun H locs t ht hφ hO hS => ?_)
                            have rv35 := hφ
                            have hP : va_P D vwCl (wY ca ad M3) H := by rw [← ht]; exact hO
                            obtain ⟨y38_0, h38, hf⟩ := bnd_some hf
                            have K38 : ∀ (H : Heap) (locs : List Loc) (ls : Array Slot), inR y38_0 → va_P D vwCl (wY ca ad M3) H → va_S (aS 18 ad) s.heap H locs → lv_has ls 2 [] → W p l e (headSpec wsX5_count (RmC 6 141)).room s m ([.ref (ad 0), .int (J a1)] : List Value).toArray below meth c H locs 0 0 (MQ below (va_Qi (fun x (_ : Unit) => x = J res ∧ (inR res ∧ RR M')) (fun _ => (OY D ca ad M')) (aS 18 ad)) ([.ref (ad 0), .int (J a1)] : List Value).toArray s 0 0 (aS 18 ad)) (F0 m 172 ls [.int (J y38_0)]) := by
                              intro H locs ls ry38_0  hP hS hl
                              obtain ⟨e1, e2⟩ := Prod.mk.inj (Option.some.inj hf)
                              exact jend_i hx hb hr rfl hS e1 ⟨by rw [← e1]; exact ry38_0, by rw [← e2]; exact hRM3⟩ (oY e2 hP) dX5_count_172 hlocks
                            have hf := h38
                            clear h38
                            refine jv_if_eq (tgt := 170) hx hb dX5_count_155 (by decide) rv35 (fun c37 => ?_) (fun c37 => ?_)
                            · have hf := itep hf c37
                              refine lv_bipush (v := J (-2)) hx hb dX5_count_170 (by decide +kernel) ?_
                              cases hf
                              exact K38 _ _ _ (by decide : inR (-2))  hP hS (lv_sub hl [] rfl)
                            · have hf := iten hf c37
                              refine lv_aload_n hx hb dX5_count_158 rfl (lv_at hl 0 rfl) ?_
                              refine va_get (D := D) (ci := 5) (v := .ref (ad 1)) (C := RX5) (T := TX5) (N := 23) hx hb hts hinX5 hown hK hP 0 (wL_get (by decide) (gY_0 _)) rfl 1 (by decide) (hts (.fieldLink RX5 7 "VisitVansModel" "s" "[I") (List.mem_of_getElem? (i := 2) rfl)) (fun _ h => h) rfl dX5_count_159 ?_
                              refine lv_iload_n hx hb dX5_count_162 rfl (lv_at hl 1 rfl) ?_
                              refine lv_bipush (v := J 11) hx hb dX5_count_163 (by decide +kernel) ?_
                              refine jv_isub hx hb dX5_count_165 ?_
                              obtain ⟨v39, qv39, hf⟩ := bnd_some hf
                              obtain ⟨bv39, ev39⟩ := rd_some qv39
                              have rv39 : inR v39 := by rw [ev39]; exact hRM3 _ _
                              refine jx_iald hx hb hK hP 1 0 (by decide) gY_1 rfl (by decide) bv39 ev39 dX5_count_166 ?_
                              refine lv_goto (tgt := 172) hx hb dX5_count_167 (by decide) ?_
                              cases hf
                              exact K38 _ _ _ rv39  hP hS (lv_sub hl [] rfl)
                          · have hf := iten hf c4_12
                            by_cases c4_13 : a1 = 13
                            · have hf := itep hf c4_13
                              refine jv_tIn (k := 13) (tgt := 147) hx hb dX5_count_10 i1 c4_13 (by decide) (by decide) rfl (by decide) ?_
                              refine lv_iload_n hx hb dX5_count_147 rfl (lv_at hl 1 rfl) ?_
                              refine lv_bipush (v := J 11) hx hb dX5_count_148 (by decide +kernel) ?_
                              refine lv_bipush (v := J 13) hx hb dX5_count_150 (by decide +kernel) ?_
                              obtain ⟨v40, qv40, hf⟩ := bnd_some hf
                              refine jc_i (va_runS (As := [.int (J a1), .int (J 11), .int (J 13)]) (rest := []) ⟨hx, hb, hml, hown, hts⟩ (kX5_in l D ca ad hI M3 hRM3 a1 11 13 i1 (by decide : inR 11) (by decide : inR 13) v40 qv40) (va_cwS 3 hts gX5_count_X5_in rfl rfl rfl (by decide +kernel) ⟨Nat.le_of_ble_eq_true rfl, Nat.le_of_ble_eq_true rfl⟩) (psY hK hP [.int (J a1), .int (J 11), .int (J 13)]) rfl rfl hl.1 rfl (lv_room (Nat.le_of_ble_eq_true rfl)) dX5_count_152 ⟨Nat.zero_le _, Nat.zero_le _⟩) hS (fun H locs t ht hφ hO hS => ?_)
                              have rv40 := hφ
                              have hP : va_P D vwCl (wY ca ad M3) H := by rw [← ht]; exact hO
                              obtain ⟨y43_0, h43, hf⟩ := bnd_some hf
                              have K43 : ∀ (H : Heap) (locs : List Loc) (ls : Array Slot), inR y43_0 → va_P D vwCl (wY ca ad M3) H → va_S (aS 18 ad) s.heap H locs → lv_has ls 2 [] → W p l e (headSpec wsX5_count (RmC 6 141)).room s m ([.ref (ad 0), .int (J a1)] : List Value).toArray below meth c H locs 0 0 (MQ below (va_Qi (fun x (_ : Unit) => x = J res ∧ (inR res ∧ RR M')) (fun _ => (OY D ca ad M')) (aS 18 ad)) ([.ref (ad 0), .int (J a1)] : List Value).toArray s 0 0 (aS 18 ad)) (F0 m 172 ls [.int (J y43_0)]) := by
                                intro H locs ls ry43_0  hP hS hl
                                obtain ⟨e1, e2⟩ := Prod.mk.inj (Option.some.inj hf)
                                exact jend_i hx hb hr rfl hS e1 ⟨by rw [← e1]; exact ry43_0, by rw [← e2]; exact hRM3⟩ (oY e2 hP) dX5_count_172 hlocks
                              have hf := h43
                              clear h43
                              refine jv_if_eq (tgt := 170) hx hb dX5_count_155 (by decide) rv40 (fun c42 => ?_) (fun c42 => ?_)
                              · have hf := itep hf c42
                                refine lv_bipush (v := J (-2)) hx hb dX5_count_170 (by decide +kernel) ?_
                                cases hf
                                exact K43 _ _ _ (by decide : inR (-2))  hP hS (lv_sub hl [] rfl)
                              · have hf := iten hf c42
                                refine lv_aload_n hx hb dX5_count_158 rfl (lv_at hl 0 rfl) ?_
                                refine va_get (D := D) (ci := 5) (v := .ref (ad 1)) (C := RX5) (T := TX5) (N := 23) hx hb hts hinX5 hown hK hP 0 (wL_get (by decide) (gY_0 _)) rfl 1 (by decide) (hts (.fieldLink RX5 7 "VisitVansModel" "s" "[I") (List.mem_of_getElem? (i := 2) rfl)) (fun _ h => h) rfl dX5_count_159 ?_
                                refine lv_iload_n hx hb dX5_count_162 rfl (lv_at hl 1 rfl) ?_
                                refine lv_bipush (v := J 11) hx hb dX5_count_163 (by decide +kernel) ?_
                                refine jv_isub hx hb dX5_count_165 ?_
                                obtain ⟨v44, qv44, hf⟩ := bnd_some hf
                                obtain ⟨bv44, ev44⟩ := rd_some qv44
                                have rv44 : inR v44 := by rw [ev44]; exact hRM3 _ _
                                refine jx_iald hx hb hK hP 1 0 (by decide) gY_1 rfl (by decide) bv44 ev44 dX5_count_166 ?_
                                refine lv_goto (tgt := 172) hx hb dX5_count_167 (by decide) ?_
                                cases hf
                                exact K43 _ _ _ rv44  hP hS (lv_sub hl [] rfl)
                            · have hf := iten hf c4_13
                              by_cases c4_14 : a1 = 14
                              · have hf := itep hf c4_14
                                refine jv_tIn (k := 14) (tgt := 137) hx hb dX5_count_10 i1 c4_14 (by decide) (by decide) rfl (by decide) ?_
                                refine lv_aload_n hx hb dX5_count_137 rfl (lv_at hl 0 rfl) ?_
                                refine va_get (D := D) (ci := 5) (v := .int (J (M3 0 7))) (C := RX5) (T := TX5) (N := 23) hx hb hts hinX5 hown hK hP 0 (wL_get (by decide) (gY_0 _)) rfl 7 (by decide) (hts (.fieldLink RX5 168 "VisitVansModel" "length" "I") (List.mem_of_getElem? (i := 3) rfl)) (fun _ h => h) rfl dX5_count_138 ?_
                                obtain ⟨e1, e2⟩ := Prod.mk.inj (Option.some.inj hf)
                                exact jend_i hx hb hr rfl hS e1 ⟨by rw [← e1]; exact (hRM3 0 7), by rw [← e2]; exact hRM3⟩ (oY e2 hP) dX5_count_141 hlocks
                              · have hf := iten hf c4_14
                                by_cases c4_15 : a1 = 15
                                · have hf := itep hf c4_15
                                  refine jv_tIn (k := 15) (tgt := 142) hx hb dX5_count_10 i1 c4_15 (by decide) (by decide) rfl (by decide) ?_
                                  refine lv_aload_n hx hb dX5_count_142 rfl (lv_at hl 0 rfl) ?_
                                  refine va_get (D := D) (ci := 5) (v := .int (J (M3 0 3))) (C := RX5) (T := TX5) (N := 23) hx hb hts hinX5 hown hK hP 0 (wL_get (by decide) (gY_0 _)) rfl 3 (by decide) (hts (.fieldLink RX5 66 "VisitVansModel" "undoMany" "I") (List.mem_of_getElem? (i := 4) rfl)) (fun _ h => h) rfl dX5_count_143 ?_
                                  obtain ⟨e1, e2⟩ := Prod.mk.inj (Option.some.inj hf)
                                  exact jend_i hx hb hr rfl hS e1 ⟨by rw [← e1]; exact (hRM3 0 3), by rw [← e2]; exact hRM3⟩ (oY e2 hP) dX5_count_146 hlocks
                                · have hf := iten hf c4_15
                                  refine jv_tOut (tgt := 147) hx hb dX5_count_10 i1 (by omega) (by decide) ?_
                                  refine lv_iload_n hx hb dX5_count_147 rfl (lv_at hl 1 rfl) ?_
                                  refine lv_bipush (v := J 11) hx hb dX5_count_148 (by decide +kernel) ?_
                                  refine lv_bipush (v := J 13) hx hb dX5_count_150 (by decide +kernel) ?_
                                  obtain ⟨v45, qv45, hf⟩ := bnd_some hf
                                  refine jc_i (va_runS (As := [.int (J a1), .int (J 11), .int (J 13)]) (rest := []) ⟨hx, hb, hml, hown, hts⟩ (kX5_in l D ca ad hI M3 hRM3 a1 11 13 i1 (by decide : inR 11) (by decide : inR 13) v45 qv45) (va_cwS 3 hts gX5_count_X5_in rfl rfl rfl (by decide +kernel) ⟨Nat.le_of_ble_eq_true rfl, Nat.le_of_ble_eq_true rfl⟩) (psY hK hP [.int (J a1), .int (J 11), .int (J 13)]) rfl rfl hl.1 rfl (lv_room (Nat.le_of_ble_eq_true rfl)) dX5_count_152 ⟨Nat.zero_le _, Nat.zero_le _⟩) hS (fun H locs t ht hφ hO hS => ?_)
                                  have rv45 := hφ
                                  have hP : va_P D vwCl (wY ca ad M3) H := by rw [← ht]; exact hO
                                  obtain ⟨y48_0, h48, hf⟩ := bnd_some hf
                                  have K48 : ∀ (H : Heap) (locs : List Loc) (ls : Array Slot), inR y48_0 → va_P D vwCl (wY ca ad M3) H → va_S (aS 18 ad) s.heap H locs → lv_has ls 2 [] → W p l e (headSpec wsX5_count (RmC 6 141)).room s m ([.ref (ad 0), .int (J a1)] : List Value).toArray below meth c H locs 0 0 (MQ below (va_Qi (fun x (_ : Unit) => x = J res ∧ (inR res ∧ RR M')) (fun _ => (OY D ca ad M')) (aS 18 ad)) ([.ref (ad 0), .int (J a1)] : List Value).toArray s 0 0 (aS 18 ad)) (F0 m 172 ls [.int (J y48_0)]) := by
                                    intro H locs ls ry48_0  hP hS hl
                                    obtain ⟨e1, e2⟩ := Prod.mk.inj (Option.some.inj hf)
                                    exact jend_i hx hb hr rfl hS e1 ⟨by rw [← e1]; exact ry48_0, by rw [← e2]; exact hRM3⟩ (oY e2 hP) dX5_count_172 hlocks
                                  have hf := h48
                                  clear h48
                                  refine jv_if_eq (tgt := 170) hx hb dX5_count_155 (by decide) rv45 (fun c47 => ?_) (fun c47 => ?_)
                                  · have hf := itep hf c47
                                    refine lv_bipush (v := J (-2)) hx hb dX5_count_170 (by decide +kernel) ?_
                                    cases hf
                                    exact K48 _ _ _ (by decide : inR (-2))  hP hS (lv_sub hl [] rfl)
                                  · have hf := iten hf c47
                                    refine lv_aload_n hx hb dX5_count_158 rfl (lv_at hl 0 rfl) ?_
                                    refine va_get (D := D) (ci := 5) (v := .ref (ad 1)) (C := RX5) (T := TX5) (N := 23) hx hb hts hinX5 hown hK hP 0 (wL_get (by decide) (gY_0 _)) rfl 1 (by decide) (hts (.fieldLink RX5 7 "VisitVansModel" "s" "[I") (List.mem_of_getElem? (i := 2) rfl)) (fun _ h => h) rfl dX5_count_159 ?_
                                    refine lv_iload_n hx hb dX5_count_162 rfl (lv_at hl 1 rfl) ?_
                                    refine lv_bipush (v := J 11) hx hb dX5_count_163 (by decide +kernel) ?_
                                    refine jv_isub hx hb dX5_count_165 ?_
                                    obtain ⟨v49, qv49, hf⟩ := bnd_some hf
                                    obtain ⟨bv49, ev49⟩ := rd_some qv49
                                    have rv49 : inR v49 := by rw [ev49]; exact hRM3 _ _
                                    refine jx_iald hx hb hK hP 1 0 (by decide) gY_1 rfl (by decide) bv49 ev49 dX5_count_166 ?_
                                    refine lv_goto (tgt := 172) hx hb dX5_count_167 (by decide) ?_
                                    cases hf
                                    exact K48 _ _ _ rv49  hP hS (lv_sub hl [] rfl)
def fX5_wanted_L24 : Nat → Int → Int → Int → MM → Option (Int)
  | 0, _, _, _, _ => none
  | n + 1, x1_7, x2_7, x3_7, M_7 => bnd (rd M_7 1 160 3) (fun v8 => if v8 ≤ x3_7 then some x2_7 else bnd (rd M_7 7 21 x3_7) (fun v10 => bnd (if v10 = 3 then bnd (fX5_visit0 x3_7 2 M_7) (fun v13 => if v13 = x1_7 then bnd (fX5_visit0 x3_7 3 M_7) (fun v16 => some (v16)) else some ((0 : Int))) else some ((0 : Int))) (fun y12_0 => gd (inR (x2_7 + y12_0)) (gd (inR (x3_7 + 1)) (fX5_wanted_L24 n x1_7 (x2_7 + y12_0) (x3_7 + 1) M_7)))))
def fX5_wanted (a1 : Int) (M : MM) : Option (Int × MM) := bnd (some (stM M 0 0 0)) (fun M1 => bnd (fX5_in a1 0 4) (fun v2 => if v2 = 0 then some ((-1), M1) else bnd (fX5_plans M1) (fun M6 => bnd (fX5_wanted_L24 4000 a1 0 0 M6) (fun y7_0 => some (y7_0, M6)))))
set_option maxHeartbeats 4000000 in
set_option maxRecDepth 100000 in
theorem kX5_wanted (l : Launch) (D : va_G) (ca : Nat → ClassId) (ad : Nat → Nat) (hI : aInj 18 ad) (M : MM) (hR : RR M) (a1 : Int) (i1 : inR a1) (res : Int) (M' : MM) (hf : fX5_wanted a1 M = some (res, M')) : CI l yX5_wanted wsX5_wanted 6 141 [.ref (ad 0), .int (J a1)] (PY D ca ad M) res (inR res ∧ RR M') (OY D ca ad M') (aS 18 ad) := by
  refine Met.ofW (cc := cX5_wanted) (maxL := 4) (ret := (some .int)) (by decide) rfl ?_
  intro p e s m args below meth c s₁ B hml hv
  obtain ⟨rfl, hP, hK⟩ := hv
  have hx := B.exec
  have hb := B.bytes
  have hr := B.returns
  have hts := atoms_spec (ws := wsX5_wanted) B.pre
  have hown : s.vm.findClass RX5 = some m.cls := findClass_of_methodNamed B.named
  have hlocks := B.notSynchronized
  have hS : va_S (aS 18 ad) s.heap s.heap [] := va_S.rf
  have hinX5 : ∀ w ∈ wsX50, w ∈ wsX5_wanted := by decide +kernel
  have hl := lv_entry ([.ref (ad 0), .int (J a1)]) (n := 4) (Nat.le_of_ble_eq_true rfl)
  rw [lg_entry_eq]
  generalize (lg_sl ([.ref (ad 0), .int (J a1)]) ++ List.replicate (4 - (lg_sl ([.ref (ad 0), .int (J a1)])).length) Slot.unset).toArray = ls at hl ⊢
  have hl : lv_has ls 4 [(0, .ref (ad 0)), (1, .int (J a1))] := hl
  unfold fX5_wanted at hf
  refine lv_aload_n hx hb dX5_wanted_0 rfl (lv_at hl 0 rfl) ?_
  refine lv_iconst (v := J 0) hx hb dX5_wanted_1 rfl ?_
  obtain ⟨M1, eM1, hf⟩ := bnd_some hf
  have eM1 := Option.some.inj eM1
  have hRM1 : RR M1 := by rw [← eM1]; exact RR_st hR 0 0 (by decide : inR 0)
  refine va_put (D := D) (ci := 5) (v := .int (J 0)) (ty := .int) (C := RX5) (T := TX5) (N := 23) hx hb hts hinX5 tyX5 tyX5_ok nmX5 hown hK hP (wL_D hI M) hS 0 (wL_get (by decide) (gY_0 _)) rfl 0 (by decide) (hts (.fieldLink RX5 62 "VisitVansModel" "thrown" "I") (List.mem_of_getElem? (i := 1) rfl)) (fun _ h => h) rfl rfl rfl rfl (Nat.le_of_ble_eq_true rfl) dX5_wanted_2 (fun H locs hP hD hS => ?_)
  have hP : va_P D vwCl (wY ca ad M1) H := by rw [← eM1]; exact hPset (gY_0_s0) stM_o hP
  refine lv_iload_n hx hb dX5_wanted_5 rfl (lv_at hl 1 rfl) ?_
  refine lv_iconst (v := J 0) hx hb dX5_wanted_6 rfl ?_
  refine lv_iconst (v := J 4) hx hb dX5_wanted_7 rfl ?_
  obtain ⟨v2, qv2, hf⟩ := bnd_some hf
  refine jc_i (va_runS (As := [.int (J a1), .int (J 0), .int (J 4)]) (rest := []) ⟨hx, hb, hml, hown, hts⟩ (kX5_in l D ca ad hI M1 hRM1 a1 0 4 i1 (by decide : inR 0) (by decide : inR 4) v2 qv2) (va_cwS 3 hts gX5_wanted_X5_in rfl rfl rfl (by decide +kernel) ⟨Nat.le_of_ble_eq_true rfl, Nat.le_of_ble_eq_true rfl⟩) (psY hK hP [.int (J a1), .int (J 0), .int (J 4)]) rfl rfl hl.1 rfl (lv_room (Nat.le_of_ble_eq_true rfl)) dX5_wanted_8 ⟨Nat.zero_le _, Nat.zero_le _⟩) hS (fun H locs t ht hφ hO hS => ?_)
  have rv2 := hφ
  have hP : va_P D vwCl (wY ca ad M1) H := by rw [← ht]; exact hO
  refine jv_if_ne (tgt := 16) hx hb dX5_wanted_11 (by decide) rv2 (fun c4 => ?_) (fun c4 => ?_)
  · have hf := iten hf c4
    refine lv_aload_n hx hb dX5_wanted_16 rfl (lv_at hl 0 rfl) ?_
    obtain ⟨M6, qM6, hf⟩ := bnd_some hf
    refine jc_v (va_runV (As := []) (rest := []) ⟨hx, hb, hml, hown, hts⟩ (kX5_plans l D ca ad hI M1 hRM1 M6 qM6) (cwV 0 hts gX5_wanted_X5_plans rfl rfl rfl (by decide +kernel) ⟨Nat.le_of_ble_eq_true rfl, Nat.le_of_ble_eq_true rfl⟩) (pvY hK hP []) rfl rfl hl.1 rfl (lv_room (Nat.le_of_ble_eq_true rfl)) dX5_wanted_17 ⟨Nat.zero_le _, Nat.zero_le _⟩) hS (fun H locs t ht hφ hO hS => ?_)
    have hRM6 := hφ
    have hP : va_P D vwCl (wY ca ad M6) H := by rw [← ht]; exact hO
    refine lv_iconst (v := J 0) hx hb dX5_wanted_20 rfl ?_
    refine lv_istore_n (lv' := [(2, .int (J 0)), (0, .ref (ad 0)), (1, .int (J a1))]) hx hb dX5_wanted_21 rfl hl (by decide) rfl (fun ls hl => ?_)
    refine lv_iconst (v := J 0) hx hb dX5_wanted_22 rfl ?_
    refine lv_istore_n (lv' := [(3, .int (J 0)), (2, .int (J 0)), (0, .ref (ad 0)), (1, .int (J a1))]) hx hb dX5_wanted_23 rfl hl (by decide) rfl (fun ls hl => ?_)
    obtain ⟨y7_0, h7, hf⟩ := bnd_some hf
    have K7 : ∀ (H : Heap) (locs : List Loc) (ls : Array Slot), inR y7_0 → va_P D vwCl (wY ca ad M6) H → va_S (aS 18 ad) s.heap H locs → lv_has ls 4 [(2, .int (J y7_0))] → W p l e (headSpec wsX5_wanted (RmC 6 141)).room s m ([.ref (ad 0), .int (J a1)] : List Value).toArray below meth c H locs 0 0 (MQ below (va_Qi (fun x (_ : Unit) => x = J res ∧ (inR res ∧ RR M')) (fun _ => (OY D ca ad M')) (aS 18 ad)) ([.ref (ad 0), .int (J a1)] : List Value).toArray s 0 0 (aS 18 ad)) (F0 m 73 ls []) := by
      intro H locs ls ry7_0 hP hS hl
      refine lv_iload_n hx hb dX5_wanted_73 rfl (lv_at hl 0 rfl) ?_
      obtain ⟨e1, e2⟩ := Prod.mk.inj (Option.some.inj hf)
      exact jend_i hx hb hr rfl hS e1 ⟨by rw [← e1]; exact ry7_0, by rw [← e2]; exact hRM6⟩ (oY e2 hP) dX5_wanted_74 hlocks
    have hL7 : ∀ (n : Nat) (x1_7 : Int) (x2_7 : Int) (x3_7 : Int) (M_7 : MM) (H : Heap) (locs : List Loc) (ls : Array Slot), inR x1_7 → inR x2_7 → inR x3_7 → RR M_7 → x1_7 = a1 → M_7 = M6 → va_P D vwCl (wY ca ad M_7) H → va_S (aS 18 ad) s.heap H locs → lv_has ls 4 [(0, .ref (ad 0)), (1, .int (J x1_7)), (2, .int (J x2_7)), (3, .int (J x3_7))] → fX5_wanted_L24 n x1_7 x2_7 x3_7 M_7 = some y7_0 → W p l e (headSpec wsX5_wanted (RmC 6 141)).room s m ([.ref (ad 0), .int (J a1)] : List Value).toArray below meth c H locs 0 0 (MQ below (va_Qi (fun x (_ : Unit) => x = J res ∧ (inR res ∧ RR M')) (fun _ => (OY D ca ad M')) (aS 18 ad)) ([.ref (ad 0), .int (J a1)] : List Value).toArray s 0 0 (aS 18 ad)) (F0 m 24 ls []) := by
      intro n
      induction n with
      | zero =>
        intro x1_7 x2_7 x3_7 M_7 H locs ls rx1_7 rx2_7 rx3_7 hRM_7 e_x1_7 e_M_7 hP hS hl hf
        rw [fX5_wanted_L24] at hf
        cases hf
      | succ n ih =>
        intro x1_7 x2_7 x3_7 M_7 H locs ls rx1_7 rx2_7 rx3_7 hRM_7 e_x1_7 e_M_7 hP hS hl hf
        rw [fX5_wanted_L24] at hf
        refine lv_iload_n hx hb dX5_wanted_24 rfl (lv_at hl 3 rfl) ?_
        refine lv_aload_n hx hb dX5_wanted_25 rfl (lv_at hl 0 rfl) ?_
        refine va_get (D := D) (ci := 5) (v := .ref (ad 1)) (C := RX5) (T := TX5) (N := 23) hx hb hts hinX5 hown hK hP 0 (wL_get (by decide) (gY_0 _)) rfl 1 (by decide) (hts (.fieldLink RX5 7 "VisitVansModel" "s" "[I") (List.mem_of_getElem? (i := 2) rfl)) (fun _ h => h) rfl dX5_wanted_26 ?_
        refine lv_iconst (v := J 3) hx hb dX5_wanted_29 rfl ?_
        obtain ⟨v8, qv8, hf⟩ := bnd_some hf
        obtain ⟨bv8, ev8⟩ := rd_some qv8
        have rv8 : inR v8 := by rw [ev8]; exact hRM_7 _ _
        refine jx_iald hx hb hK hP 1 0 (by decide) gY_1 rfl (by decide) bv8 ev8 dX5_wanted_30 ?_
        refine jv_icmp_ge (tgt := 73) hx hb dX5_wanted_31 (by decide) rx3_7 rv8 (fun c9 => ?_) (fun c9 => ?_)
        · have hf := itep hf c9
          cases hf
          exact K7 _ _ _ rx2_7  (e_M_7 ▸ hP) hS (lv_sub hl [2] (by subst e_x1_7; rfl))
        · have hf := iten hf c9
          refine lv_iload_n hx hb dX5_wanted_34 rfl (lv_at hl 2 rfl) ?_
          refine lv_aload_n hx hb dX5_wanted_35 rfl (lv_at hl 0 rfl) ?_
          refine va_get (D := D) (ci := 5) (v := .ref (ad 7)) (C := RX5) (T := TX5) (N := 23) hx hb hts hinX5 hown hK hP 0 (wL_get (by decide) (gY_0 _)) rfl 9 (by decide) (hts (.fieldLink RX5 29 "VisitVansModel" "promise" "[I") (List.mem_of_getElem? (i := 3) rfl)) (fun _ h => h) rfl dX5_wanted_36 ?_
          refine lv_iload_n hx hb dX5_wanted_39 rfl (lv_at hl 3 rfl) ?_
          obtain ⟨v10, qv10, hf⟩ := bnd_some hf
          obtain ⟨bv10, ev10⟩ := rd_some qv10
          have rv10 : inR v10 := by rw [ev10]; exact hRM_7 _ _
          refine jx_iald hx hb hK hP 7 0 (by decide) gY_7 rfl (by decide) bv10 ev10 dX5_wanted_40 ?_
          refine lv_iconst (v := J 3) hx hb dX5_wanted_41 rfl ?_
          obtain ⟨y12_0, h12, hf⟩ := bnd_some hf
          have K12 : ∀ (H : Heap) (locs : List Loc) (ls : Array Slot), inR y12_0 → va_P D vwCl (wY ca ad M_7) H → va_S (aS 18 ad) s.heap H locs → lv_has ls 4 [(0, .ref (ad 0)), (1, .int (J x1_7)), (3, .int (J x3_7))] → W p l e (headSpec wsX5_wanted (RmC 6 141)).room s m ([.ref (ad 0), .int (J a1)] : List Value).toArray below meth c H locs 0 0 (MQ below (va_Qi (fun x (_ : Unit) => x = J res ∧ (inR res ∧ RR M')) (fun _ => (OY D ca ad M')) (aS 18 ad)) ([.ref (ad 0), .int (J a1)] : List Value).toArray s 0 0 (aS 18 ad)) (F0 m 65 ls [.int (J y12_0), .int (J x2_7)]) := by
            intro H locs ls ry12_0  hP hS hl
            refine jv_iadd hx hb dX5_wanted_65 ?_
            refine lv_istore_n (lv' := [(2, .int (J (x2_7 + y12_0))), (0, .ref (ad 0)), (1, .int (J x1_7)), (3, .int (J x3_7))]) hx hb dX5_wanted_66 rfl hl (by decide) rfl (fun ls hl => ?_)
            refine lv_iinc (v := J (x3_7 + 1)) (lv' := [(3, .int (J (x3_7 + 1))), (2, .int (J (x2_7 + y12_0))), (0, .ref (ad 0)), (1, .int (J x1_7))]) hx hb dX5_wanted_67 hl (k := 3) rfl (J_add _ _) (by decide) rfl (fun ls hl => ?_)
            refine lv_goto (tgt := 24) hx hb dX5_wanted_70 (by decide) ?_
            obtain ⟨g18, hf⟩ := gd_some hf
            obtain ⟨g19, hf⟩ := gd_some hf
            exact ih _ _ _ _ _ _ _ rx1_7 g18 g19 hRM_7 e_x1_7 e_M_7 hP hS (lv_sub hl [2, 3, 1, 0] rfl) hf
          have hf := h12
          clear h12
          refine jv_icmp_ne (tgt := 64) hx hb dX5_wanted_42 (by decide) rv10 (by decide : inR 3) (fun c11 => ?_) (fun c11 => ?_)
          · have hf := iten hf c11
            refine lv_iconst (v := J 0) hx hb dX5_wanted_64 rfl ?_
            cases hf
            exact K12 _ _ _ (by decide : inR 0)  hP hS (lv_sub hl [0, 1, 3] rfl)
          · have hf := itep hf c11
            refine lv_aload_n hx hb dX5_wanted_45 rfl (lv_at hl 0 rfl) ?_
            refine lv_iload_n hx hb dX5_wanted_46 rfl (lv_at hl 3 rfl) ?_
            refine lv_iconst (v := J 2) hx hb dX5_wanted_47 rfl ?_
            obtain ⟨v13, qv13, hf⟩ := bnd_some hf
            refine jc_i (va_runV (As := [.int (J x3_7), .int (J 2)]) (rest := [.int (J x2_7)]) ⟨hx, hb, hml, hown, hts⟩ (kX5_visit0 l D ca ad hI M_7 hRM_7 x3_7 2 rx3_7 (by decide : inR 2) v13 qv13) (cwV 2 hts gX5_wanted_X5_visit0 rfl rfl rfl (by decide +kernel) ⟨Nat.le_of_ble_eq_true rfl, Nat.le_of_ble_eq_true rfl⟩) (pvY hK hP [.int (J x3_7), .int (J 2)]) rfl rfl hl.1 rfl (lv_room (Nat.le_of_ble_eq_true rfl)) dX5_wanted_48 ⟨Nat.zero_le _, Nat.zero_le _⟩) hS (fun H locs t ht hφ hO hS => ?_)
            have rv13 := hφ
            have hP : va_P D vwCl (wY ca ad M_7) H := by rw [← ht]; exact hO
            refine lv_iload_n hx hb dX5_wanted_51 rfl (lv_at hl 1 rfl) ?_
            refine jv_icmp_ne (tgt := 64) hx hb dX5_wanted_52 (by decide) rv13 rx1_7 (fun c15 => ?_) (fun c15 => ?_)
            · have hf := iten hf c15
              refine lv_iconst (v := J 0) hx hb dX5_wanted_64 rfl ?_
              cases hf
              exact K12 _ _ _ (by decide : inR 0)  hP hS (lv_sub hl [0, 1, 3] rfl)
            · have hf := itep hf c15
              refine lv_aload_n hx hb dX5_wanted_55 rfl (lv_at hl 0 rfl) ?_
              refine lv_iload_n hx hb dX5_wanted_56 rfl (lv_at hl 3 rfl) ?_
              refine lv_iconst (v := J 3) hx hb dX5_wanted_57 rfl ?_
              obtain ⟨v16, qv16, hf⟩ := bnd_some hf
              refine jc_i (va_runV (As := [.int (J x3_7), .int (J 3)]) (rest := [.int (J x2_7)]) ⟨hx, hb, hml, hown, hts⟩ (kX5_visit0 l D ca ad hI M_7 hRM_7 x3_7 3 rx3_7 (by decide : inR 3) v16 qv16) (cwV 2 hts gX5_wanted_X5_visit0 rfl rfl rfl (by decide +kernel) ⟨Nat.le_of_ble_eq_true rfl, Nat.le_of_ble_eq_true rfl⟩) (pvY hK hP [.int (J x3_7), .int (J 3)]) rfl rfl hl.1 rfl (lv_room (Nat.le_of_ble_eq_true rfl)) dX5_wanted_58 ⟨Nat.zero_le _, Nat.zero_le _⟩) hS (fun H locs t ht hφ hO hS => ?_)
              have rv16 := hφ
              have hP : va_P D vwCl (wY ca ad M_7) H := by rw [← ht]; exact hO
              refine lv_goto (tgt := 65) hx hb dX5_wanted_61 (by decide) ?_
              cases hf
              exact K12 _ _ _ rv16  hP hS (lv_sub hl [0, 1, 3] rfl)
    exact hL7 4000 _ _ _ _ _ _ _ i1 (by decide : inR 0) (by decide : inR 0) hRM6 rfl rfl hP hS (lv_sub hl [2, 3, 1, 0] rfl) h7
  · have hf := itep hf c4
    refine lv_iconst (v := J (-1)) hx hb dX5_wanted_14 rfl ?_
    obtain ⟨e1, e2⟩ := Prod.mk.inj (Option.some.inj hf)
    exact jend_i hx hb hr rfl hS e1 ⟨by rw [← e1]; exact (by decide : inR (-1)), by rw [← e2]; exact hRM1⟩ (oY e2 hP) dX5_wanted_15 hlocks
def fJxf58ca_isNaN_12338 (a1 : UInt32) : Option (Int) := bnd (if ((Op.cmpValue (FP.fcmp a1 a1) .l).toInt) = 0 then some ((0 : Int)) else some ((1 : Int))) (fun y2_0 => gd (y2_0 = 0 ∨ y2_0 = 1) (some y2_0))
set_option maxHeartbeats 4000000 in
set_option maxRecDepth 100000 in
theorem kJxf58ca_isNaN_12338 (l : Launch) (D : va_G) (ca : Nat → ClassId) (ad : Nat → Nat) (hI : aInj 18 ad) (M : MM) (hR : RR M) (a1 : UInt32) (res : Int) (hf : fJxf58ca_isNaN_12338 a1 = some res) : CI l yJxf58ca_isNaN_12338 wsJxf58ca_isNaN_12338 0 0 [.float a1] (PY D ca ad M) res (inR res) (OY D ca ad M) (aS 18 ad) := by
  refine j_ofWF (cc := cJxf58ca_isNaN_12338) (maxL := 1) (ret := (some .boolean)) (by decide +kernel) rfl ?_
  intro p e s m args below meth c s₁ B hml hv
  obtain ⟨rfl, hP, hK⟩ := hv
  have hx := B.exec
  have hb := B.bytes
  have hr := B.returns
  have hts := atoms_spec (ws := wsJxf58ca_isNaN_12338) B.pre
  have hown : s.vm.findClass RJxf58ca = some m.cls := findClass_of_methodNamed B.named
  have hlocks := B.notSynchronized
  have hS : va_S (aS 18 ad) s.heap s.heap [] := va_S.rf
  have hl := lv_entry ([.float a1]) (n := 1) (Nat.le_of_ble_eq_true rfl)
  rw [lg_entry_eq]
  generalize (lg_sl ([.float a1]) ++ List.replicate (1 - (lg_sl ([.float a1])).length) Slot.unset).toArray = ls at hl ⊢
  have hl : lv_has ls 1 [(0, .float a1)] := hl
  unfold fJxf58ca_isNaN_12338 at hf
  refine lv_fload_n hx hb dJxf58ca_isNaN_12338_0 rfl (lv_at hl 0 rfl) ?_
  refine lv_fload_n hx hb dJxf58ca_isNaN_12338_1 rfl (lv_at hl 0 rfl) ?_
  refine jv_fcmp hx hb dJxf58ca_isNaN_12338_2 ?_
  obtain ⟨y2_0, h2, hf⟩ := bnd_some hf
  have K2 : ∀ (H : Heap) (locs : List Loc) (ls : Array Slot), inR y2_0 → va_P D vwCl (wY ca ad M) H → va_S (aS 18 ad) s.heap H locs → lv_has ls 1 [] → W p l e (headSpec wsJxf58ca_isNaN_12338 (RmC 0 0)).room s m ([.float a1] : List Value).toArray below meth c H locs 0 0 (MQ below (va_Qi (fun x (_ : Unit) => x = J res ∧ (inR res)) (fun _ => (OY D ca ad M)) (aS 18 ad)) ([.float a1] : List Value).toArray s 0 0 (aS 18 ad)) (F0 m 11 ls [.int (J y2_0)]) := by
    intro H locs ls ry2_0  hP hS hl
    obtain ⟨g3, hf⟩ := gd_some hf
    have e1 := Option.some.inj hf
    exact jend_i hx hb hr (J_wZ g3).1 hS e1 (by rw [← e1]; exact ry2_0) (oY rfl hP) dJxf58ca_isNaN_12338_11 hlocks
  have hf := h2
  clear h2
  refine jv_if_eq (tgt := 10) hx hb dJxf58ca_isNaN_12338_3 (by decide) (J_inR _) (fun c1 => ?_) (fun c1 => ?_)
  · have hf := itep hf c1
    refine lv_iconst (v := J 0) hx hb dJxf58ca_isNaN_12338_10 rfl ?_
    cases hf
    exact K2 _ _ _ (by decide : inR 0)  hP hS (lv_sub hl [] rfl)
  · have hf := iten hf c1
    refine lv_iconst (v := J 1) hx hb dJxf58ca_isNaN_12338_6 rfl ?_
    refine lv_goto (tgt := 11) hx hb dJxf58ca_isNaN_12338_7 (by decide) ?_
    cases hf
    exact K2 _ _ _ (by decide : inR 1)  hP hS (lv_sub hl [] rfl)
def fJxf58ca_floatToIntBits_5c35a (a1 : UInt32) : Option (Int) := bnd (fJxf58ca_isNaN_12338 a1) (fun v1 => if v1 = 0 then some ((a1).toInt32.toInt) else none)
set_option maxHeartbeats 4000000 in
set_option maxRecDepth 100000 in
theorem kJxf58ca_floatToIntBits_5c35a (l : Launch) (D : va_G) (ca : Nat → ClassId) (ad : Nat → Nat) (hI : aInj 18 ad) (M : MM) (hR : RR M) (a1 : UInt32) (res : Int) (hf : fJxf58ca_floatToIntBits_5c35a a1 = some res) : CI l yJxf58ca_floatToIntBits_5c35a wsJxf58ca_floatToIntBits_5c35a 6 130 [.float a1] (PY D ca ad M) res (inR res) (OY D ca ad M) (aS 18 ad) := by
  refine j_ofWF (cc := cJxf58ca_floatToIntBits_5c35a) (maxL := 1) (ret := (some .int)) (by decide +kernel) rfl ?_
  intro p e s m args below meth c s₁ B hml hv
  obtain ⟨rfl, hP, hK⟩ := hv
  have hx := B.exec
  have hb := B.bytes
  have hr := B.returns
  have hts := atoms_spec (ws := wsJxf58ca_floatToIntBits_5c35a) B.pre
  have hown : s.vm.findClass RJxf58ca = some m.cls := findClass_of_methodNamed B.named
  have hlocks := B.notSynchronized
  have hS : va_S (aS 18 ad) s.heap s.heap [] := va_S.rf
  have hl := lv_entry ([.float a1]) (n := 1) (Nat.le_of_ble_eq_true rfl)
  rw [lg_entry_eq]
  generalize (lg_sl ([.float a1]) ++ List.replicate (1 - (lg_sl ([.float a1])).length) Slot.unset).toArray = ls at hl ⊢
  have hl : lv_has ls 1 [(0, .float a1)] := hl
  unfold fJxf58ca_floatToIntBits_5c35a at hf
  refine lv_fload_n hx hb dJxf58ca_floatToIntBits_5c35a_0 rfl (lv_at hl 0 rfl) ?_
  obtain ⟨v1, qv1, hf⟩ := bnd_some hf
  refine jc_i (va_runS (As := [.float a1]) (rest := []) ⟨hx, hb, hml, hown, hts⟩ (kJxf58ca_isNaN_12338 l D ca ad hI M hR a1 v1 qv1) (va_cwS 1 hts gJxf58ca_floatToIntBits_5c35a_Jxf58ca_isNaN_12338 rfl rfl rfl (by decide +kernel) ⟨Nat.le_of_ble_eq_true rfl, Nat.le_of_ble_eq_true rfl⟩) (psY hK hP [.float a1]) rfl rfl hl.1 rfl (lv_room (Nat.le_of_ble_eq_true rfl)) dJxf58ca_floatToIntBits_5c35a_1 ⟨Nat.zero_le _, Nat.zero_le _⟩) hS (fun H locs t ht hφ hO hS => ?_)
  have rv1 := hφ
  have hP : va_P D vwCl (wY ca ad M) H := by rw [← ht]; exact hO
  refine jv_if_ne (tgt := 12) hx hb dJxf58ca_floatToIntBits_5c35a_4 (by decide) rv1 (fun c3 => ?_) (fun c3 => ?_)
  · have hf := iten hf c3
    cases hf
  · have hf := itep hf c3
    refine lv_fload_n hx hb dJxf58ca_floatToIntBits_5c35a_7 rfl (lv_at hl 0 rfl) ?_
    refine vn_f2i hx hb (by rw [hml]; exact hl.1.symm) hown (hts (.methodLink RJxf58ca 74 ⟨"java/lang/Float", "floatToRawIntBits", "(F)I"⟩) (List.mem_of_getElem? (i := 1) rfl)) (hts (.native ⟨"java/lang/Float", "floatToRawIntBits", "(F)I"⟩) (List.mem_of_getElem? (i := 2) rfl)) (hts (.static ⟨"java/lang/Float", "floatToRawIntBits", "(F)I"⟩) (List.mem_of_getElem? (i := 3) rfl)) (hts (.initialized "java/lang/Float") (List.mem_of_getElem? (i := 4) rfl)) (Nat.le_of_ble_eq_true rfl) (Nat.le_of_ble_eq_true rfl) dJxf58ca_floatToIntBits_5c35a_8 ?_
    rw [show (a1).toInt32 = J (a1).toInt32.toInt from (J_of _).symm]
    have e1 := Option.some.inj hf
    exact jend_i hx hb hr rfl hS e1 (by rw [← e1]; exact (J_inR _)) (oY rfl hP) dJxf58ca_floatToIntBits_5c35a_11 hlocks
def fX5_share (M : MM) : Option (Int × MM) := bnd (some (stM M 0 0 0)) (fun M1 => bnd (fX5_plans M1) (fun M3 => bnd (rd M3 1 160 3) (fun v4 => bnd (if v4 = 0 then some (((-6) : Int)) else bnd (fX5_withPromise 0 1 M3) (fun v7 => bnd (rd M3 1 160 3) (fun v9 => gd ((FP.fdiv (FP.i2f (J v7)) (FP.i2f (J v9))) &&& 0x7fffffff ≤ 0x7f800000) (bnd (fJxf58ca_floatToIntBits_5c35a (FP.fdiv (FP.i2f (J v7)) (FP.i2f (J v9)))) (fun v11 => some (v11)))))) (fun y6_0 => some (y6_0, M3)))))
set_option maxHeartbeats 4000000 in
set_option maxRecDepth 100000 in
theorem kX5_share (l : Launch) (D : va_G) (ca : Nat → ClassId) (ad : Nat → Nat) (hI : aInj 18 ad) (M : MM) (hR : RR M) (res : Int) (M' : MM) (hf : fX5_share M = some (res, M')) : CI l yX5_share wsX5_share 7 150 [.ref (ad 0)] (PY D ca ad M) res (inR res ∧ RR M') (OY D ca ad M') (aS 18 ad) := by
  refine Met.ofW (cc := cX5_share) (maxL := 1) (ret := (some .int)) (by decide) rfl ?_
  intro p e s m args below meth c s₁ B hml hv
  obtain ⟨rfl, hP, hK⟩ := hv
  have hx := B.exec
  have hb := B.bytes
  have hr := B.returns
  have hts := atoms_spec (ws := wsX5_share) B.pre
  have hown : s.vm.findClass RX5 = some m.cls := findClass_of_methodNamed B.named
  have hlocks := B.notSynchronized
  have hS : va_S (aS 18 ad) s.heap s.heap [] := va_S.rf
  have hinX5 : ∀ w ∈ wsX50, w ∈ wsX5_share := by decide +kernel
  have hl := lv_entry ([.ref (ad 0)]) (n := 1) (Nat.le_of_ble_eq_true rfl)
  rw [lg_entry_eq]
  generalize (lg_sl ([.ref (ad 0)]) ++ List.replicate (1 - (lg_sl ([.ref (ad 0)])).length) Slot.unset).toArray = ls at hl ⊢
  have hl : lv_has ls 1 [(0, .ref (ad 0))] := hl
  unfold fX5_share at hf
  refine lv_aload_n hx hb dX5_share_0 rfl (lv_at hl 0 rfl) ?_
  refine lv_iconst (v := J 0) hx hb dX5_share_1 rfl ?_
  obtain ⟨M1, eM1, hf⟩ := bnd_some hf
  have eM1 := Option.some.inj eM1
  have hRM1 : RR M1 := by rw [← eM1]; exact RR_st hR 0 0 (by decide : inR 0)
  refine va_put (D := D) (ci := 5) (v := .int (J 0)) (ty := .int) (C := RX5) (T := TX5) (N := 23) hx hb hts hinX5 tyX5 tyX5_ok nmX5 hown hK hP (wL_D hI M) hS 0 (wL_get (by decide) (gY_0 _)) rfl 0 (by decide) (hts (.fieldLink RX5 62 "VisitVansModel" "thrown" "I") (List.mem_of_getElem? (i := 1) rfl)) (fun _ h => h) rfl rfl rfl rfl (Nat.le_of_ble_eq_true rfl) dX5_share_2 (fun H locs hP hD hS => ?_)
  have hP : va_P D vwCl (wY ca ad M1) H := by rw [← eM1]; exact hPset (gY_0_s0) stM_o hP
  refine lv_aload_n hx hb dX5_share_5 rfl (lv_at hl 0 rfl) ?_
  obtain ⟨M3, qM3, hf⟩ := bnd_some hf
  refine jc_v (va_runV (As := []) (rest := []) ⟨hx, hb, hml, hown, hts⟩ (kX5_plans l D ca ad hI M1 hRM1 M3 qM3) (cwV 0 hts gX5_share_X5_plans rfl rfl rfl (by decide +kernel) ⟨Nat.le_of_ble_eq_true rfl, Nat.le_of_ble_eq_true rfl⟩) (pvY hK hP []) rfl rfl hl.1 rfl (lv_room (Nat.le_of_ble_eq_true rfl)) dX5_share_6 ⟨Nat.zero_le _, Nat.zero_le _⟩) hS (fun H locs t ht hφ hO hS => ?_)
  have hRM3 := hφ
  have hP : va_P D vwCl (wY ca ad M3) H := by rw [← ht]; exact hO
  refine lv_aload_n hx hb dX5_share_9 rfl (lv_at hl 0 rfl) ?_
  refine va_get (D := D) (ci := 5) (v := .ref (ad 1)) (C := RX5) (T := TX5) (N := 23) hx hb hts hinX5 hown hK hP 0 (wL_get (by decide) (gY_0 _)) rfl 1 (by decide) (hts (.fieldLink RX5 7 "VisitVansModel" "s" "[I") (List.mem_of_getElem? (i := 2) rfl)) (fun _ h => h) rfl dX5_share_10 ?_
  refine lv_iconst (v := J 3) hx hb dX5_share_13 rfl ?_
  obtain ⟨v4, qv4, hf⟩ := bnd_some hf
  obtain ⟨bv4, ev4⟩ := rd_some qv4
  have rv4 : inR v4 := by rw [ev4]; exact hRM3 _ _
  refine jx_iald hx hb hK hP 1 0 (by decide) gY_1 rfl (by decide) bv4 ev4 dX5_share_14 ?_
  obtain ⟨y6_0, h6, hf⟩ := bnd_some hf
  have K6 : ∀ (H : Heap) (locs : List Loc) (ls : Array Slot), inR y6_0 → va_P D vwCl (wY ca ad M3) H → va_S (aS 18 ad) s.heap H locs → lv_has ls 1 [] → W p l e (headSpec wsX5_share (RmC 7 150)).room s m ([.ref (ad 0)] : List Value).toArray below meth c H locs 0 0 (MQ below (va_Qi (fun x (_ : Unit) => x = J res ∧ (inR res ∧ RR M')) (fun _ => (OY D ca ad M')) (aS 18 ad)) ([.ref (ad 0)] : List Value).toArray s 0 0 (aS 18 ad)) (F0 m 41 ls [.int (J y6_0)]) := by
    intro H locs ls ry6_0  hP hS hl
    obtain ⟨e1, e2⟩ := Prod.mk.inj (Option.some.inj hf)
    exact jend_i hx hb hr rfl hS e1 ⟨by rw [← e1]; exact ry6_0, by rw [← e2]; exact hRM3⟩ (oY e2 hP) dX5_share_41 hlocks
  have hf := h6
  clear h6
  refine jv_if_ne (tgt := 23) hx hb dX5_share_15 (by decide) rv4 (fun c5 => ?_) (fun c5 => ?_)
  · have hf := iten hf c5
    refine lv_aload_n hx hb dX5_share_23 rfl (lv_at hl 0 rfl) ?_
    refine lv_iconst (v := J 0) hx hb dX5_share_24 rfl ?_
    refine lv_iconst (v := J 1) hx hb dX5_share_25 rfl ?_
    obtain ⟨v7, qv7, hf⟩ := bnd_some hf
    refine jc_i (va_runV (As := [.int (J 0), .int (J 1)]) (rest := []) ⟨hx, hb, hml, hown, hts⟩ (kX5_withPromise l D ca ad hI M3 hRM3 0 1 (by decide : inR 0) (by decide : inR 1) v7 qv7) (cwV 2 hts gX5_share_X5_withPromise rfl rfl rfl (by decide +kernel) ⟨Nat.le_of_ble_eq_true rfl, Nat.le_of_ble_eq_true rfl⟩) (pvY hK hP [.int (J 0), .int (J 1)]) rfl rfl hl.1 rfl (lv_room (Nat.le_of_ble_eq_true rfl)) dX5_share_26 ⟨Nat.zero_le _, Nat.zero_le _⟩) hS (fun H locs t ht hφ hO hS => ?_)
    have rv7 := hφ
    have hP : va_P D vwCl (wY ca ad M3) H := by rw [← ht]; exact hO
    refine lv_i2f hx hb dX5_share_29 ?_
    refine lv_aload_n hx hb dX5_share_30 rfl (lv_at hl 0 rfl) ?_
    refine va_get (D := D) (ci := 5) (v := .ref (ad 1)) (C := RX5) (T := TX5) (N := 23) hx hb hts hinX5 hown hK hP 0 (wL_get (by decide) (gY_0 _)) rfl 1 (by decide) (hts (.fieldLink RX5 7 "VisitVansModel" "s" "[I") (List.mem_of_getElem? (i := 2) rfl)) (fun _ h => h) rfl dX5_share_31 ?_
    refine lv_iconst (v := J 3) hx hb dX5_share_34 rfl ?_
    obtain ⟨v9, qv9, hf⟩ := bnd_some hf
    obtain ⟨bv9, ev9⟩ := rd_some qv9
    have rv9 : inR v9 := by rw [ev9]; exact hRM3 _ _
    refine jx_iald hx hb hK hP 1 0 (by decide) gY_1 rfl (by decide) bv9 ev9 dX5_share_35 ?_
    refine lv_i2f hx hb dX5_share_36 ?_
    obtain ⟨g10, hf⟩ := gd_some hf
    refine lv_fdiv hx hb dX5_share_37 g10 ?_
    obtain ⟨v11, qv11, hf⟩ := bnd_some hf
    refine jc_i (va_runS (As := [.float (FP.fdiv (FP.i2f (J v7)) (FP.i2f (J v9)))]) (rest := []) ⟨hx, hb, hml, hown, hts⟩ (kJxf58ca_floatToIntBits_5c35a l D ca ad hI M3 hRM3 (FP.fdiv (FP.i2f (J v7)) (FP.i2f (J v9))) v11 qv11) (va_cwS 1 hts gX5_share_Jxf58ca_floatToIntBits_5c35a rfl rfl rfl (by decide +kernel) ⟨Nat.le_of_ble_eq_true rfl, Nat.le_of_ble_eq_true rfl⟩) (psY hK hP [.float (FP.fdiv (FP.i2f (J v7)) (FP.i2f (J v9)))]) rfl rfl hl.1 rfl (lv_room (Nat.le_of_ble_eq_true rfl)) dX5_share_38 ⟨Nat.zero_le _, Nat.zero_le _⟩) hS (fun H locs t ht hφ hO hS => ?_)
    have rv11 := hφ
    have hP : va_P D vwCl (wY ca ad M3) H := by rw [← ht]; exact hO
    cases hf
    exact K6 _ _ _ rv11  hP hS (lv_sub hl [] rfl)
  · have hf := itep hf c5
    refine lv_bipush (v := J (-6)) hx hb dX5_share_18 (by decide +kernel) ?_
    refine lv_goto (tgt := 41) hx hb dX5_share_20 (by decide) ?_
    cases hf
    exact K6 _ _ _ (by decide : inR (-6))  hP hS (lv_sub hl [] rfl)
def fJxe99ae_isNaN_b9ae7 (a1 : UInt64) : Option (Int) := bnd (if ((Op.cmpValue (FP.dcmp a1 a1) .l).toInt) = 0 then some ((0 : Int)) else some ((1 : Int))) (fun y2_0 => gd (y2_0 = 0 ∨ y2_0 = 1) (some y2_0))
set_option maxHeartbeats 4000000 in
set_option maxRecDepth 100000 in
theorem kJxe99ae_isNaN_b9ae7 (l : Launch) (D : va_G) (ca : Nat → ClassId) (ad : Nat → Nat) (hI : aInj 18 ad) (M : MM) (hR : RR M) (a1 : UInt64) (res : Int) (hf : fJxe99ae_isNaN_b9ae7 a1 = some res) : CI l yJxe99ae_isNaN_b9ae7 wsJxe99ae_isNaN_b9ae7 0 0 [.double a1] (PY D ca ad M) res (inR res) (OY D ca ad M) (aS 18 ad) := by
  refine Met.ofW (cc := cJxe99ae_isNaN_b9ae7) (maxL := 2) (ret := (some .boolean)) (by decide) rfl ?_
  intro p e s m args below meth c s₁ B hml hv
  obtain ⟨rfl, hP, hK⟩ := hv
  have hx := B.exec
  have hb := B.bytes
  have hr := B.returns
  have hts := atoms_spec (ws := wsJxe99ae_isNaN_b9ae7) B.pre
  have hown : s.vm.findClass RJxe99ae = some m.cls := findClass_of_methodNamed B.named
  have hlocks := B.notSynchronized
  have hS : va_S (aS 18 ad) s.heap s.heap [] := va_S.rf
  have hl := lv_entry ([.double a1]) (n := 2) (Nat.le_of_ble_eq_true rfl)
  rw [lg_entry_eq]
  generalize (lg_sl ([.double a1]) ++ List.replicate (2 - (lg_sl ([.double a1])).length) Slot.unset).toArray = ls at hl ⊢
  have hl : lv_has ls 2 [(0, .double a1)] := hl
  unfold fJxe99ae_isNaN_b9ae7 at hf
  refine lv_dload_n hx hb dJxe99ae_isNaN_b9ae7_0 rfl (lv_at hl 0 rfl) ?_
  refine lv_dload_n hx hb dJxe99ae_isNaN_b9ae7_1 rfl (lv_at hl 0 rfl) ?_
  refine jv_dcmp hx hb dJxe99ae_isNaN_b9ae7_2 ?_
  obtain ⟨y2_0, h2, hf⟩ := bnd_some hf
  have K2 : ∀ (H : Heap) (locs : List Loc) (ls : Array Slot), inR y2_0 → va_P D vwCl (wY ca ad M) H → va_S (aS 18 ad) s.heap H locs → lv_has ls 2 [] → W p l e (headSpec wsJxe99ae_isNaN_b9ae7 (RmC 0 0)).room s m ([.double a1] : List Value).toArray below meth c H locs 0 0 (MQ below (va_Qi (fun x (_ : Unit) => x = J res ∧ (inR res)) (fun _ => (OY D ca ad M)) (aS 18 ad)) ([.double a1] : List Value).toArray s 0 0 (aS 18 ad)) (F0 m 11 ls [.int (J y2_0)]) := by
    intro H locs ls ry2_0  hP hS hl
    obtain ⟨g3, hf⟩ := gd_some hf
    have e1 := Option.some.inj hf
    exact jend_i hx hb hr (J_wZ g3).1 hS e1 (by rw [← e1]; exact ry2_0) (oY rfl hP) dJxe99ae_isNaN_b9ae7_11 hlocks
  have hf := h2
  clear h2
  refine jv_if_eq (tgt := 10) hx hb dJxe99ae_isNaN_b9ae7_3 (by decide) (J_inR _) (fun c1 => ?_) (fun c1 => ?_)
  · have hf := itep hf c1
    refine lv_iconst (v := J 0) hx hb dJxe99ae_isNaN_b9ae7_10 rfl ?_
    cases hf
    exact K2 _ _ _ (by decide : inR 0)  hP hS (lv_sub hl [] rfl)
  · have hf := iten hf c1
    refine lv_iconst (v := J 1) hx hb dJxe99ae_isNaN_b9ae7_6 rfl ?_
    refine lv_goto (tgt := 11) hx hb dJxe99ae_isNaN_b9ae7_7 (by decide) ?_
    cases hf
    exact K2 _ _ _ (by decide : inR 1)  hP hS (lv_sub hl [] rfl)
def fJxe99ae_doubleToLongBits_ccdee (a1 : UInt64) : Option (Int64) := bnd (fJxe99ae_isNaN_b9ae7 a1) (fun v1 => if v1 = 0 then some ((a1).toInt64) else none)
set_option maxHeartbeats 4000000 in
set_option maxRecDepth 100000 in
theorem kJxe99ae_doubleToLongBits_ccdee (l : Launch) (D : va_G) (ca : Nat → ClassId) (ad : Nat → Nat) (hI : aInj 18 ad) (M : MM) (hR : RR M) (a1 : UInt64) (res : Int64) (hf : fJxe99ae_doubleToLongBits_ccdee a1 = some res) : CLg l yJxe99ae_doubleToLongBits_ccdee wsJxe99ae_doubleToLongBits_ccdee 6 130 [.double a1] (PY D ca ad M) res True (OY D ca ad M) (aS 18 ad) := by
  refine Met.ofW (cc := cJxe99ae_doubleToLongBits_ccdee) (maxL := 2) (ret := (some .long)) (by decide) rfl ?_
  intro p e s m args below meth c s₁ B hml hv
  obtain ⟨rfl, hP, hK⟩ := hv
  have hx := B.exec
  have hb := B.bytes
  have hr := B.returns
  have hts := atoms_spec (ws := wsJxe99ae_doubleToLongBits_ccdee) B.pre
  have hown : s.vm.findClass RJxe99ae = some m.cls := findClass_of_methodNamed B.named
  have hlocks := B.notSynchronized
  have hS : va_S (aS 18 ad) s.heap s.heap [] := va_S.rf
  have hl := lv_entry ([.double a1]) (n := 2) (Nat.le_of_ble_eq_true rfl)
  rw [lg_entry_eq]
  generalize (lg_sl ([.double a1]) ++ List.replicate (2 - (lg_sl ([.double a1])).length) Slot.unset).toArray = ls at hl ⊢
  have hl : lv_has ls 2 [(0, .double a1)] := hl
  unfold fJxe99ae_doubleToLongBits_ccdee at hf
  refine lv_dload_n hx hb dJxe99ae_doubleToLongBits_ccdee_0 rfl (lv_at hl 0 rfl) ?_
  obtain ⟨v1, qv1, hf⟩ := bnd_some hf
  refine jc_i (va_runS (As := [.double a1]) (rest := []) ⟨hx, hb, hml, hown, hts⟩ (kJxe99ae_isNaN_b9ae7 l D ca ad hI M hR a1 v1 qv1) (va_cwS 1 hts gJxe99ae_doubleToLongBits_ccdee_Jxe99ae_isNaN_b9ae7 rfl rfl rfl (by decide +kernel) ⟨Nat.le_of_ble_eq_true rfl, Nat.le_of_ble_eq_true rfl⟩) (psY hK hP [.double a1]) rfl rfl hl.1 rfl (lv_room (Nat.le_of_ble_eq_true rfl)) dJxe99ae_doubleToLongBits_ccdee_1 ⟨Nat.zero_le _, Nat.zero_le _⟩) hS (fun H locs t ht hφ hO hS => ?_)
  have rv1 := hφ
  have hP : va_P D vwCl (wY ca ad M) H := by rw [← ht]; exact hO
  refine jv_if_ne (tgt := 12) hx hb dJxe99ae_doubleToLongBits_ccdee_4 (by decide) rv1 (fun c3 => ?_) (fun c3 => ?_)
  · have hf := iten hf c3
    cases hf
  · have hf := itep hf c3
    refine lv_dload_n hx hb dJxe99ae_doubleToLongBits_ccdee_7 rfl (lv_at hl 0 rfl) ?_
    refine vn_d2l hx hb (by rw [hml]; exact hl.1.symm) hown (hts (.methodLink RJxe99ae 134 ⟨"java/lang/Double", "doubleToRawLongBits", "(D)J"⟩) (List.mem_of_getElem? (i := 1) rfl)) (hts (.native ⟨"java/lang/Double", "doubleToRawLongBits", "(D)J"⟩) (List.mem_of_getElem? (i := 2) rfl)) (hts (.static ⟨"java/lang/Double", "doubleToRawLongBits", "(D)J"⟩) (List.mem_of_getElem? (i := 3) rfl)) (hts (.initialized "java/lang/Double") (List.mem_of_getElem? (i := 4) rfl)) (Nat.le_of_ble_eq_true rfl) (Nat.le_of_ble_eq_true rfl) dJxe99ae_doubleToLongBits_ccdee_8 ?_
    have e1 := Option.some.inj hf
    exact jend_l hx hb hr hS e1 trivial (oY rfl hP) dJxe99ae_doubleToLongBits_ccdee_11 hlocks
def fX5_meanWay (a1 : Int) (M : MM) : Option (Int64 × MM) := bnd (some (stM M 0 0 0)) (fun M1 => bnd (fX5_in a1 0 1) (fun v2 => if v2 = 0 then some ((-2 : Int64), M1) else bnd (fX5_plans M1) (fun M6 => bnd (fX5_withPromise 0 1 M6) (fun v7 => if v7 = 0 then some ((0 : Int64), M6) else bnd (fX5_overVans 8 M6) (fun v10 => gd ((FP.ddiv (FP.i2d (J v10)) (FP.i2d (J v7))) &&& 0x7fffffffffffffff ≤ 0x7ff0000000000000) (bnd (if a1 = 0 then some ((FP.ddiv (FP.i2d (J v10)) (FP.i2d (J v7)))) else gd ((FP.drem (FP.ddiv (FP.i2d (J v10)) (FP.i2d (J v7))) FP.dconst1) &&& 0x7fffffffffffffff ≤ 0x7ff0000000000000) (some ((FP.drem (FP.ddiv (FP.i2d (J v10)) (FP.i2d (J v7))) FP.dconst1)))) (fun y14_0 => bnd (fJxe99ae_doubleToLongBits_ccdee y14_0) (fun v16 => some (v16, M6)))))))))
set_option maxHeartbeats 4000000 in
set_option maxRecDepth 100000 in
theorem kX5_meanWay (l : Launch) (D : va_G) (ca : Nat → ClassId) (ad : Nat → Nat) (hI : aInj 18 ad) (M : MM) (hR : RR M) (a1 : Int) (i1 : inR a1) (res : Int64) (M' : MM) (hf : fX5_meanWay a1 M = some (res, M')) : CLg l yX5_meanWay wsX5_meanWay 7 151 [.ref (ad 0), .int (J a1)] (PY D ca ad M) res (RR M') (OY D ca ad M') (aS 18 ad) := by
  refine Met.ofW (cc := cX5_meanWay) (maxL := 5) (ret := (some .long)) (by decide) rfl ?_
  intro p e s m args below meth c s₁ B hml hv
  obtain ⟨rfl, hP, hK⟩ := hv
  have hx := B.exec
  have hb := B.bytes
  have hr := B.returns
  have hts := atoms_spec (ws := wsX5_meanWay) B.pre
  have hown : s.vm.findClass RX5 = some m.cls := findClass_of_methodNamed B.named
  have hlocks := B.notSynchronized
  have hS : va_S (aS 18 ad) s.heap s.heap [] := va_S.rf
  have hinX5 : ∀ w ∈ wsX50, w ∈ wsX5_meanWay := by decide +kernel
  have hl := lv_entry ([.ref (ad 0), .int (J a1)]) (n := 5) (Nat.le_of_ble_eq_true rfl)
  rw [lg_entry_eq]
  generalize (lg_sl ([.ref (ad 0), .int (J a1)]) ++ List.replicate (5 - (lg_sl ([.ref (ad 0), .int (J a1)])).length) Slot.unset).toArray = ls at hl ⊢
  have hl : lv_has ls 5 [(0, .ref (ad 0)), (1, .int (J a1))] := hl
  unfold fX5_meanWay at hf
  refine lv_aload_n hx hb dX5_meanWay_0 rfl (lv_at hl 0 rfl) ?_
  refine lv_iconst (v := J 0) hx hb dX5_meanWay_1 rfl ?_
  obtain ⟨M1, eM1, hf⟩ := bnd_some hf
  have eM1 := Option.some.inj eM1
  have hRM1 : RR M1 := by rw [← eM1]; exact RR_st hR 0 0 (by decide : inR 0)
  refine va_put (D := D) (ci := 5) (v := .int (J 0)) (ty := .int) (C := RX5) (T := TX5) (N := 23) hx hb hts hinX5 tyX5 tyX5_ok nmX5 hown hK hP (wL_D hI M) hS 0 (wL_get (by decide) (gY_0 _)) rfl 0 (by decide) (hts (.fieldLink RX5 62 "VisitVansModel" "thrown" "I") (List.mem_of_getElem? (i := 1) rfl)) (fun _ h => h) rfl rfl rfl rfl (Nat.le_of_ble_eq_true rfl) dX5_meanWay_2 (fun H locs hP hD hS => ?_)
  have hP : va_P D vwCl (wY ca ad M1) H := by rw [← eM1]; exact hPset (gY_0_s0) stM_o hP
  refine lv_iload_n hx hb dX5_meanWay_5 rfl (lv_at hl 1 rfl) ?_
  refine lv_iconst (v := J 0) hx hb dX5_meanWay_6 rfl ?_
  refine lv_iconst (v := J 1) hx hb dX5_meanWay_7 rfl ?_
  obtain ⟨v2, qv2, hf⟩ := bnd_some hf
  refine jc_i (va_runS (As := [.int (J a1), .int (J 0), .int (J 1)]) (rest := []) ⟨hx, hb, hml, hown, hts⟩ (kX5_in l D ca ad hI M1 hRM1 a1 0 1 i1 (by decide : inR 0) (by decide : inR 1) v2 qv2) (va_cwS 3 hts gX5_meanWay_X5_in rfl rfl rfl (by decide +kernel) ⟨Nat.le_of_ble_eq_true rfl, Nat.le_of_ble_eq_true rfl⟩) (psY hK hP [.int (J a1), .int (J 0), .int (J 1)]) rfl rfl hl.1 rfl (lv_room (Nat.le_of_ble_eq_true rfl)) dX5_meanWay_8 ⟨Nat.zero_le _, Nat.zero_le _⟩) hS (fun H locs t ht hφ hO hS => ?_)
  have rv2 := hφ
  have hP : va_P D vwCl (wY ca ad M1) H := by rw [← ht]; exact hO
  refine jv_if_ne (tgt := 18) hx hb dX5_meanWay_11 (by decide) rv2 (fun c4 => ?_) (fun c4 => ?_)
  · have hf := iten hf c4
    refine lv_aload_n hx hb dX5_meanWay_18 rfl (lv_at hl 0 rfl) ?_
    obtain ⟨M6, qM6, hf⟩ := bnd_some hf
    refine jc_v (va_runV (As := []) (rest := []) ⟨hx, hb, hml, hown, hts⟩ (kX5_plans l D ca ad hI M1 hRM1 M6 qM6) (cwV 0 hts gX5_meanWay_X5_plans rfl rfl rfl (by decide +kernel) ⟨Nat.le_of_ble_eq_true rfl, Nat.le_of_ble_eq_true rfl⟩) (pvY hK hP []) rfl rfl hl.1 rfl (lv_room (Nat.le_of_ble_eq_true rfl)) dX5_meanWay_19 ⟨Nat.zero_le _, Nat.zero_le _⟩) hS (fun H locs t ht hφ hO hS => ?_)
    have hRM6 := hφ
    have hP : va_P D vwCl (wY ca ad M6) H := by rw [← ht]; exact hO
    refine lv_aload_n hx hb dX5_meanWay_22 rfl (lv_at hl 0 rfl) ?_
    refine lv_iconst (v := J 0) hx hb dX5_meanWay_23 rfl ?_
    refine lv_iconst (v := J 1) hx hb dX5_meanWay_24 rfl ?_
    obtain ⟨v7, qv7, hf⟩ := bnd_some hf
    refine jc_i (va_runV (As := [.int (J 0), .int (J 1)]) (rest := []) ⟨hx, hb, hml, hown, hts⟩ (kX5_withPromise l D ca ad hI M6 hRM6 0 1 (by decide : inR 0) (by decide : inR 1) v7 qv7) (cwV 2 hts gX5_meanWay_X5_withPromise rfl rfl rfl (by decide +kernel) ⟨Nat.le_of_ble_eq_true rfl, Nat.le_of_ble_eq_true rfl⟩) (pvY hK hP [.int (J 0), .int (J 1)]) rfl rfl hl.1 rfl (lv_room (Nat.le_of_ble_eq_true rfl)) dX5_meanWay_25 ⟨Nat.zero_le _, Nat.zero_le _⟩) hS (fun H locs t ht hφ hO hS => ?_)
    have rv7 := hφ
    have hP : va_P D vwCl (wY ca ad M6) H := by rw [← ht]; exact hO
    refine lv_istore_n (lv' := [(2, .int (J v7)), (0, .ref (ad 0)), (1, .int (J a1))]) hx hb dX5_meanWay_28 rfl hl (by decide) rfl (fun ls hl => ?_)
    refine lv_iload_n hx hb dX5_meanWay_29 rfl (lv_at hl 0 rfl) ?_
    refine jv_if_ne (tgt := 35) hx hb dX5_meanWay_30 (by decide) rv7 (fun c9 => ?_) (fun c9 => ?_)
    · have hf := iten hf c9
      refine lv_aload_n hx hb dX5_meanWay_35 rfl (lv_at hl 1 rfl) ?_
      refine lv_bipush (v := J 8) hx hb dX5_meanWay_36 (by decide +kernel) ?_
      obtain ⟨v10, qv10, hf⟩ := bnd_some hf
      refine jc_i (va_runV (As := [.int (J 8)]) (rest := []) ⟨hx, hb, hml, hown, hts⟩ (kX5_overVans l D ca ad hI M6 hRM6 8 (by decide : inR 8) v10 qv10) (cwV 1 hts gX5_meanWay_X5_overVans rfl rfl rfl (by decide +kernel) ⟨Nat.le_of_ble_eq_true rfl, Nat.le_of_ble_eq_true rfl⟩) (pvY hK hP [.int (J 8)]) rfl rfl hl.1 rfl (lv_room (Nat.le_of_ble_eq_true rfl)) dX5_meanWay_38 ⟨Nat.zero_le _, Nat.zero_le _⟩) hS (fun H locs t ht hφ hO hS => ?_)
      have rv10 := hφ
      have hP : va_P D vwCl (wY ca ad M6) H := by rw [← ht]; exact hO
      refine lv_i2d hx hb dX5_meanWay_41 ?_
      refine lv_iload_n hx hb dX5_meanWay_42 rfl (lv_at hl 0 rfl) ?_
      refine lv_i2d hx hb dX5_meanWay_43 ?_
      obtain ⟨g12, hf⟩ := gd_some hf
      refine lv_ddiv hx hb dX5_meanWay_44 g12 ?_
      refine lv_dstore_n (lv' := [(3, .double (FP.ddiv (FP.i2d (J v10)) (FP.i2d (J v7)))), (2, .int (J v7)), (0, .ref (ad 0)), (1, .int (J a1))]) hx hb dX5_meanWay_45 rfl hl (by decide) rfl (fun ls hl => ?_)
      refine lv_iload_n hx hb dX5_meanWay_46 rfl (lv_at hl 3 rfl) ?_
      obtain ⟨y14_0, h14, hf⟩ := bnd_some hf
      have K14 : ∀ (H : Heap) (locs : List Loc) (ls : Array Slot), va_P D vwCl (wY ca ad M6) H → va_S (aS 18 ad) s.heap H locs → lv_has ls 5 [] → W p l e (headSpec wsX5_meanWay (RmC 7 151)).room s m ([.ref (ad 0), .int (J a1)] : List Value).toArray below meth c H locs 0 0 (MQ below (va_Ql (fun x (_ : Unit) => x = res ∧ (RR M')) (fun _ => (OY D ca ad M')) (aS 18 ad)) ([.ref (ad 0), .int (J a1)] : List Value).toArray s 0 0 (aS 18 ad)) (F0 m 57 ls [.double y14_0]) := by
        intro H locs ls  hP hS hl
        obtain ⟨v16, qv16, hf⟩ := bnd_some hf
        refine jc_l (va_runS (As := [.double y14_0]) (rest := []) ⟨hx, hb, hml, hown, hts⟩ (kJxe99ae_doubleToLongBits_ccdee l D ca ad hI M6 hRM6 y14_0 v16 qv16) (va_cwS 1 hts gX5_meanWay_Jxe99ae_doubleToLongBits_ccdee rfl rfl rfl (by decide +kernel) ⟨Nat.le_of_ble_eq_true rfl, Nat.le_of_ble_eq_true rfl⟩) (psY hK hP [.double y14_0]) rfl rfl hl.1 rfl (lv_room (Nat.le_of_ble_eq_true rfl)) dX5_meanWay_57 ⟨Nat.zero_le _, Nat.zero_le _⟩) hS (fun H locs t ht hφ hO hS => ?_)
        have rv16 := hφ
        have hP : va_P D vwCl (wY ca ad M6) H := by rw [← ht]; exact hO
        obtain ⟨e1, e2⟩ := Prod.mk.inj (Option.some.inj hf)
        exact jend_l hx hb hr hS e1 (by rw [← e2]; exact hRM6) (oY e2 hP) dX5_meanWay_60 hlocks
      have hf := h14
      clear h14
      refine jv_if_ne (tgt := 54) hx hb dX5_meanWay_47 (by decide) i1 (fun c13 => ?_) (fun c13 => ?_)
      · have hf := iten hf c13
        refine lv_dload_n hx hb dX5_meanWay_54 rfl (lv_at hl 0 rfl) ?_
        refine lv_dconst1 hx hb dX5_meanWay_55 ?_
        obtain ⟨g15, hf⟩ := gd_some hf
        refine lv_drem hx hb dX5_meanWay_56 g15 ?_
        cases hf
        exact K14 _ _ _  hP hS (lv_sub hl [] rfl)
      · have hf := itep hf c13
        refine lv_dload_n hx hb dX5_meanWay_50 rfl (lv_at hl 0 rfl) ?_
        refine lv_goto (tgt := 57) hx hb dX5_meanWay_51 (by decide) ?_
        cases hf
        exact K14 _ _ _  hP hS (lv_sub hl [] rfl)
    · have hf := itep hf c9
      refine lv_lconst (v := 0) hx hb dX5_meanWay_33 rfl ?_
      obtain ⟨e1, e2⟩ := Prod.mk.inj (Option.some.inj hf)
      exact jend_l hx hb hr hS e1 (by rw [← e2]; exact hRM6) (oY e2 hP) dX5_meanWay_34 hlocks
  · have hf := itep hf c4
    refine lv_ldc2 (v := (-2 : Int64)) hx hb hown (hts (.constantLong RX5 177 (-2)) (List.mem_of_getElem? (i := 2) rfl)) dX5_meanWay_14 ?_
    obtain ⟨e1, e2⟩ := Prod.mk.inj (Option.some.inj hf)
    exact jend_l hx hb hr hS e1 (by rw [← e2]; exact hRM1) (oY e2 hP) dX5_meanWay_17 hlocks
def fX5_would (a1 : Int) (a2 : Int) (a3 : Int) (a4 : Int) (a5 : Int) (a6 : Int) (M : MM) : Option (Int × MM) := bnd (some (stM M 0 0 0)) (fun M1 => bnd (fX5_refuses a1 a2 a3 a4 a5 a6) (fun v2 => if v2 = 0 then bnd2 (fX5_laysVisit a1 a2 a3 a4 a5 a6 M1) (fun v5 M6 => bnd (fX5_plans M6) (fun M8 => bnd (rd M8 7 21 v5) (fun v9 => bnd2 (fX5_dropsVisit v5 M8) (fun v10 M11 => some (v9, M11))))) else some (v2, M1)))
set_option maxHeartbeats 4000000 in
set_option maxRecDepth 100000 in
theorem kX5_would (l : Launch) (D : va_G) (ca : Nat → ClassId) (ad : Nat → Nat) (hI : aInj 18 ad) (M : MM) (hR : RR M) (a1 : Int) (a2 : Int) (a3 : Int) (a4 : Int) (a5 : Int) (a6 : Int) (i1 : inR a1) (i2 : inR a2) (i3 : inR a3) (i4 : inR a4) (i5 : inR a5) (i6 : inR a6) (res : Int) (M' : MM) (hf : fX5_would a1 a2 a3 a4 a5 a6 M = some (res, M')) : CI l yX5_would wsX5_would 6 141 [.ref (ad 0), .int (J a1), .int (J a2), .int (J a3), .int (J a4), .int (J a5), .int (J a6)] (PY D ca ad M) res (inR res ∧ RR M') (OY D ca ad M') (aS 18 ad) := by
  refine Met.ofW (cc := cX5_would) (maxL := 10) (ret := (some .int)) (by decide) rfl ?_
  intro p e s m args below meth c s₁ B hml hv
  obtain ⟨rfl, hP, hK⟩ := hv
  have hx := B.exec
  have hb := B.bytes
  have hr := B.returns
  have hts := atoms_spec (ws := wsX5_would) B.pre
  have hown : s.vm.findClass RX5 = some m.cls := findClass_of_methodNamed B.named
  have hlocks := B.notSynchronized
  have hS : va_S (aS 18 ad) s.heap s.heap [] := va_S.rf
  have hinX5 : ∀ w ∈ wsX50, w ∈ wsX5_would := by decide +kernel
  have hl := lv_entry ([.ref (ad 0), .int (J a1), .int (J a2), .int (J a3), .int (J a4), .int (J a5), .int (J a6)]) (n := 10) (Nat.le_of_ble_eq_true rfl)
  rw [lg_entry_eq]
  generalize (lg_sl ([.ref (ad 0), .int (J a1), .int (J a2), .int (J a3), .int (J a4), .int (J a5), .int (J a6)]) ++ List.replicate (10 - (lg_sl ([.ref (ad 0), .int (J a1), .int (J a2), .int (J a3), .int (J a4), .int (J a5), .int (J a6)])).length) Slot.unset).toArray = ls at hl ⊢
  have hl : lv_has ls 10 [(0, .ref (ad 0)), (1, .int (J a1)), (2, .int (J a2)), (3, .int (J a3)), (4, .int (J a4)), (5, .int (J a5)), (6, .int (J a6))] := hl
  unfold fX5_would at hf
  refine lv_aload_n hx hb dX5_would_0 rfl (lv_at hl 0 rfl) ?_
  refine lv_iconst (v := J 0) hx hb dX5_would_1 rfl ?_
  obtain ⟨M1, eM1, hf⟩ := bnd_some hf
  have eM1 := Option.some.inj eM1
  have hRM1 : RR M1 := by rw [← eM1]; exact RR_st hR 0 0 (by decide : inR 0)
  refine va_put (D := D) (ci := 5) (v := .int (J 0)) (ty := .int) (C := RX5) (T := TX5) (N := 23) hx hb hts hinX5 tyX5 tyX5_ok nmX5 hown hK hP (wL_D hI M) hS 0 (wL_get (by decide) (gY_0 _)) rfl 0 (by decide) (hts (.fieldLink RX5 62 "VisitVansModel" "thrown" "I") (List.mem_of_getElem? (i := 1) rfl)) (fun _ h => h) rfl rfl rfl rfl (Nat.le_of_ble_eq_true rfl) dX5_would_2 (fun H locs hP hD hS => ?_)
  have hP : va_P D vwCl (wY ca ad M1) H := by rw [← eM1]; exact hPset (gY_0_s0) stM_o hP
  refine lv_iload_n hx hb dX5_would_5 rfl (lv_at hl 1 rfl) ?_
  refine lv_iload_n hx hb dX5_would_6 rfl (lv_at hl 2 rfl) ?_
  refine lv_iload_n hx hb dX5_would_7 rfl (lv_at hl 3 rfl) ?_
  refine lv_iload hx hb dX5_would_8 (lv_at hl 4 rfl) ?_
  refine lv_iload hx hb dX5_would_10 (lv_at hl 5 rfl) ?_
  refine lv_iload hx hb dX5_would_12 (lv_at hl 6 rfl) ?_
  obtain ⟨v2, qv2, hf⟩ := bnd_some hf
  refine jc_i (va_runS (As := [.int (J a1), .int (J a2), .int (J a3), .int (J a4), .int (J a5), .int (J a6)]) (rest := []) ⟨hx, hb, hml, hown, hts⟩ (kX5_refuses l D ca ad hI M1 hRM1 a1 a2 a3 a4 a5 a6 i1 i2 i3 i4 i5 i6 v2 qv2) (va_cwS 6 hts gX5_would_X5_refuses rfl rfl rfl (by decide +kernel) ⟨Nat.le_of_ble_eq_true rfl, Nat.le_of_ble_eq_true rfl⟩) (psY hK hP [.int (J a1), .int (J a2), .int (J a3), .int (J a4), .int (J a5), .int (J a6)]) rfl rfl hl.1 rfl (lv_room (Nat.le_of_ble_eq_true rfl)) dX5_would_14 ⟨Nat.zero_le _, Nat.zero_le _⟩) hS (fun H locs t ht hφ hO hS => ?_)
  have rv2 := hφ
  have hP : va_P D vwCl (wY ca ad M1) H := by rw [← ht]; exact hO
  refine lv_istore (lv' := [(7, .int (J v2)), (0, .ref (ad 0)), (1, .int (J a1)), (2, .int (J a2)), (3, .int (J a3)), (4, .int (J a4)), (5, .int (J a5)), (6, .int (J a6))]) hx hb dX5_would_17 hl (by decide) rfl (fun ls hl => ?_)
  refine lv_iload hx hb dX5_would_19 (lv_at hl 0 rfl) ?_
  refine jv_if_eq (tgt := 27) hx hb dX5_would_21 (by decide) rv2 (fun c4 => ?_) (fun c4 => ?_)
  · have hf := itep hf c4
    refine lv_aload_n hx hb dX5_would_27 rfl (lv_at hl 1 rfl) ?_
    refine lv_iload_n hx hb dX5_would_28 rfl (lv_at hl 2 rfl) ?_
    refine lv_iload_n hx hb dX5_would_29 rfl (lv_at hl 3 rfl) ?_
    refine lv_iload_n hx hb dX5_would_30 rfl (lv_at hl 4 rfl) ?_
    refine lv_iload hx hb dX5_would_31 (lv_at hl 5 rfl) ?_
    refine lv_iload hx hb dX5_would_33 (lv_at hl 6 rfl) ?_
    refine lv_iload hx hb dX5_would_35 (lv_at hl 7 rfl) ?_
    obtain ⟨v5, M6, qv5, hf⟩ := bnd2_some hf
    refine jc_i (va_runV (As := [.int (J a1), .int (J a2), .int (J a3), .int (J a4), .int (J a5), .int (J a6)]) (rest := []) ⟨hx, hb, hml, hown, hts⟩ (kX5_laysVisit l D ca ad hI M1 hRM1 a1 a2 a3 a4 a5 a6 i1 i2 i3 i4 i5 i6 v5 M6 qv5) (cwV 6 hts gX5_would_X5_laysVisit rfl rfl rfl (by decide +kernel) ⟨Nat.le_of_ble_eq_true rfl, Nat.le_of_ble_eq_true rfl⟩) (pvY hK hP [.int (J a1), .int (J a2), .int (J a3), .int (J a4), .int (J a5), .int (J a6)]) rfl rfl hl.1 rfl (lv_room (Nat.le_of_ble_eq_true rfl)) dX5_would_37 ⟨Nat.zero_le _, Nat.zero_le _⟩) hS (fun H locs t ht hφ hO hS => ?_)
    obtain ⟨rv5, hRM6⟩ := hφ
    have hP : va_P D vwCl (wY ca ad M6) H := by rw [← ht]; exact hO
    refine lv_istore (lv' := [(8, .int (J v5)), (7, .int (J v2)), (0, .ref (ad 0)), (1, .int (J a1)), (2, .int (J a2)), (3, .int (J a3)), (4, .int (J a4)), (5, .int (J a5)), (6, .int (J a6))]) hx hb dX5_would_40 hl (by decide) rfl (fun ls hl => ?_)
    refine lv_aload_n hx hb dX5_would_42 rfl (lv_at hl 2 rfl) ?_
    obtain ⟨M8, qM8, hf⟩ := bnd_some hf
    refine jc_v (va_runV (As := []) (rest := []) ⟨hx, hb, hml, hown, hts⟩ (kX5_plans l D ca ad hI M6 hRM6 M8 qM8) (cwV 0 hts gX5_would_X5_plans rfl rfl rfl (by decide +kernel) ⟨Nat.le_of_ble_eq_true rfl, Nat.le_of_ble_eq_true rfl⟩) (pvY hK hP []) rfl rfl hl.1 rfl (lv_room (Nat.le_of_ble_eq_true rfl)) dX5_would_43 ⟨Nat.zero_le _, Nat.zero_le _⟩) hS (fun H locs t ht hφ hO hS => ?_)
    have hRM8 := hφ
    have hP : va_P D vwCl (wY ca ad M8) H := by rw [← ht]; exact hO
    refine lv_aload_n hx hb dX5_would_46 rfl (lv_at hl 2 rfl) ?_
    refine va_get (D := D) (ci := 5) (v := .ref (ad 7)) (C := RX5) (T := TX5) (N := 23) hx hb hts hinX5 hown hK hP 0 (wL_get (by decide) (gY_0 _)) rfl 9 (by decide) (hts (.fieldLink RX5 29 "VisitVansModel" "promise" "[I") (List.mem_of_getElem? (i := 2) rfl)) (fun _ h => h) rfl dX5_would_47 ?_
    refine lv_iload hx hb dX5_would_50 (lv_at hl 0 rfl) ?_
    obtain ⟨v9, qv9, hf⟩ := bnd_some hf
    obtain ⟨bv9, ev9⟩ := rd_some qv9
    have rv9 : inR v9 := by rw [ev9]; exact hRM8 _ _
    refine jx_iald hx hb hK hP 7 0 (by decide) gY_7 rfl (by decide) bv9 ev9 dX5_would_52 ?_
    refine lv_istore (lv' := [(9, .int (J v9)), (8, .int (J v5)), (7, .int (J v2)), (0, .ref (ad 0)), (1, .int (J a1)), (2, .int (J a2)), (3, .int (J a3)), (4, .int (J a4)), (5, .int (J a5)), (6, .int (J a6))]) hx hb dX5_would_53 hl (by decide) rfl (fun ls hl => ?_)
    refine lv_aload_n hx hb dX5_would_55 rfl (lv_at hl 3 rfl) ?_
    refine lv_iload hx hb dX5_would_56 (lv_at hl 1 rfl) ?_
    obtain ⟨v10, M11, qv10, hf⟩ := bnd2_some hf
    refine jc_i (va_runV (As := [.int (J v5)]) (rest := []) ⟨hx, hb, hml, hown, hts⟩ (kX5_dropsVisit l D ca ad hI M8 hRM8 v5 rv5 v10 M11 qv10) (cwV 1 hts gX5_would_X5_dropsVisit rfl rfl rfl (by decide +kernel) ⟨Nat.le_of_ble_eq_true rfl, Nat.le_of_ble_eq_true rfl⟩) (pvY hK hP [.int (J v5)]) rfl rfl hl.1 rfl (lv_room (Nat.le_of_ble_eq_true rfl)) dX5_would_58 ⟨Nat.zero_le _, Nat.zero_le _⟩) hS (fun H locs t ht hφ hO hS => ?_)
    obtain ⟨rv10, hRM11⟩ := hφ
    have hP : va_P D vwCl (wY ca ad M11) H := by rw [← ht]; exact hO
    refine lv_pop hx hb dX5_would_61 rfl ?_
    refine lv_iload hx hb dX5_would_62 (lv_at hl 0 rfl) ?_
    obtain ⟨e1, e2⟩ := Prod.mk.inj (Option.some.inj hf)
    exact jend_i hx hb hr rfl hS e1 ⟨by rw [← e1]; exact rv9, by rw [← e2]; exact hRM11⟩ (oY e2 hP) dX5_would_64 hlocks
  · have hf := iten hf c4
    refine lv_iload hx hb dX5_would_24 (lv_at hl 0 rfl) ?_
    obtain ⟨e1, e2⟩ := Prod.mk.inj (Option.some.inj hf)
    exact jend_i hx hb hr rfl hS e1 ⟨by rw [← e1]; exact rv2, by rw [← e2]; exact hRM1⟩ (oY e2 hP) dX5_would_26 hlocks
def fX5_withVan_L44 : Nat → Int → MM → Option (MM)
  | 0, _, _ => none
  | n + 1, x4_11, M_11 => if 7 ≤ x4_11 then some M_11 else bnd (rd M_11 1 160 4) (fun v13 => bnd (wr M_11 1 160 ((5 + (7 * v13)) + x4_11) 0) (fun M14 => gd (inR (x4_11 + 1)) (fX5_withVan_L44 n (x4_11 + 1) M14)))
def fX5_withVan (a1 : Int) (a2 : Int) (M : MM) : Option (Int × MM) := bnd (some (stM M 0 0 0)) (fun M1 => bnd (fX5_refusesVan a1 a2 M1) (fun v2 => if v2 = 0 then bnd2 (fX5_laysVan a1 a2 99 M1) (fun v5 M6 => bnd (fX5_plans M6) (fun M8 => bnd (rd M8 1 160 4) (fun v9 => bnd (wr M8 1 160 4 (v9 - 1)) (fun M10 => bnd (fX5_withVan_L44 4000 0 M10) (fun N_11 => bnd (fX5_withPromise 0 1 N_11) (fun v16 => some (v16, N_11))))))) else some (v2, M1)))
set_option maxHeartbeats 4000000 in
set_option maxRecDepth 100000 in
theorem kX5_withVan (l : Launch) (D : va_G) (ca : Nat → ClassId) (ad : Nat → Nat) (hI : aInj 18 ad) (M : MM) (hR : RR M) (a1 : Int) (a2 : Int) (i1 : inR a1) (i2 : inR a2) (res : Int) (M' : MM) (hf : fX5_withVan a1 a2 M = some (res, M')) : CI l yX5_withVan wsX5_withVan 6 141 [.ref (ad 0), .int (J a1), .int (J a2)] (PY D ca ad M) res (inR res ∧ RR M') (OY D ca ad M') (aS 18 ad) := by
  refine Met.ofW (cc := cX5_withVan) (maxL := 5) (ret := (some .int)) (by decide) rfl ?_
  intro p e s m args below meth c s₁ B hml hv
  obtain ⟨rfl, hP, hK⟩ := hv
  have hx := B.exec
  have hb := B.bytes
  have hr := B.returns
  have hts := atoms_spec (ws := wsX5_withVan) B.pre
  have hown : s.vm.findClass RX5 = some m.cls := findClass_of_methodNamed B.named
  have hlocks := B.notSynchronized
  have hS : va_S (aS 18 ad) s.heap s.heap [] := va_S.rf
  have hinX5 : ∀ w ∈ wsX50, w ∈ wsX5_withVan := by decide +kernel
  have hl := lv_entry ([.ref (ad 0), .int (J a1), .int (J a2)]) (n := 5) (Nat.le_of_ble_eq_true rfl)
  rw [lg_entry_eq]
  generalize (lg_sl ([.ref (ad 0), .int (J a1), .int (J a2)]) ++ List.replicate (5 - (lg_sl ([.ref (ad 0), .int (J a1), .int (J a2)])).length) Slot.unset).toArray = ls at hl ⊢
  have hl : lv_has ls 5 [(0, .ref (ad 0)), (1, .int (J a1)), (2, .int (J a2))] := hl
  unfold fX5_withVan at hf
  refine lv_aload_n hx hb dX5_withVan_0 rfl (lv_at hl 0 rfl) ?_
  refine lv_iconst (v := J 0) hx hb dX5_withVan_1 rfl ?_
  obtain ⟨M1, eM1, hf⟩ := bnd_some hf
  have eM1 := Option.some.inj eM1
  have hRM1 : RR M1 := by rw [← eM1]; exact RR_st hR 0 0 (by decide : inR 0)
  refine va_put (D := D) (ci := 5) (v := .int (J 0)) (ty := .int) (C := RX5) (T := TX5) (N := 23) hx hb hts hinX5 tyX5 tyX5_ok nmX5 hown hK hP (wL_D hI M) hS 0 (wL_get (by decide) (gY_0 _)) rfl 0 (by decide) (hts (.fieldLink RX5 62 "VisitVansModel" "thrown" "I") (List.mem_of_getElem? (i := 1) rfl)) (fun _ h => h) rfl rfl rfl rfl (Nat.le_of_ble_eq_true rfl) dX5_withVan_2 (fun H locs hP hD hS => ?_)
  have hP : va_P D vwCl (wY ca ad M1) H := by rw [← eM1]; exact hPset (gY_0_s0) stM_o hP
  refine lv_aload_n hx hb dX5_withVan_5 rfl (lv_at hl 0 rfl) ?_
  refine lv_iload_n hx hb dX5_withVan_6 rfl (lv_at hl 1 rfl) ?_
  refine lv_iload_n hx hb dX5_withVan_7 rfl (lv_at hl 2 rfl) ?_
  obtain ⟨v2, qv2, hf⟩ := bnd_some hf
  refine jc_i (va_runV (As := [.int (J a1), .int (J a2)]) (rest := []) ⟨hx, hb, hml, hown, hts⟩ (kX5_refusesVan l D ca ad hI M1 hRM1 a1 a2 i1 i2 v2 qv2) (cwV 2 hts gX5_withVan_X5_refusesVan rfl rfl rfl (by decide +kernel) ⟨Nat.le_of_ble_eq_true rfl, Nat.le_of_ble_eq_true rfl⟩) (pvY hK hP [.int (J a1), .int (J a2)]) rfl rfl hl.1 rfl (lv_room (Nat.le_of_ble_eq_true rfl)) dX5_withVan_8 ⟨Nat.zero_le _, Nat.zero_le _⟩) hS (fun H locs t ht hφ hO hS => ?_)
  have rv2 := hφ
  have hP : va_P D vwCl (wY ca ad M1) H := by rw [← ht]; exact hO
  refine lv_istore_n (lv' := [(3, .int (J v2)), (0, .ref (ad 0)), (1, .int (J a1)), (2, .int (J a2))]) hx hb dX5_withVan_11 rfl hl (by decide) rfl (fun ls hl => ?_)
  refine lv_iload_n hx hb dX5_withVan_12 rfl (lv_at hl 0 rfl) ?_
  refine jv_if_eq (tgt := 18) hx hb dX5_withVan_13 (by decide) rv2 (fun c4 => ?_) (fun c4 => ?_)
  · have hf := itep hf c4
    refine lv_aload_n hx hb dX5_withVan_18 rfl (lv_at hl 1 rfl) ?_
    refine lv_iload_n hx hb dX5_withVan_19 rfl (lv_at hl 2 rfl) ?_
    refine lv_iload_n hx hb dX5_withVan_20 rfl (lv_at hl 3 rfl) ?_
    refine lv_bipush (v := J 99) hx hb dX5_withVan_21 (by decide +kernel) ?_
    obtain ⟨v5, M6, qv5, hf⟩ := bnd2_some hf
    refine jc_i (va_runV (As := [.int (J a1), .int (J a2), .int (J 99)]) (rest := []) ⟨hx, hb, hml, hown, hts⟩ (kX5_laysVan l D ca ad hI M1 hRM1 a1 a2 99 i1 i2 (by decide : inR 99) v5 M6 qv5) (cwV 3 hts gX5_withVan_X5_laysVan rfl rfl rfl (by decide +kernel) ⟨Nat.le_of_ble_eq_true rfl, Nat.le_of_ble_eq_true rfl⟩) (pvY hK hP [.int (J a1), .int (J a2), .int (J 99)]) rfl rfl hl.1 rfl (lv_room (Nat.le_of_ble_eq_true rfl)) dX5_withVan_23 ⟨Nat.zero_le _, Nat.zero_le _⟩) hS (fun H locs t ht hφ hO hS => ?_)
    obtain ⟨rv5, hRM6⟩ := hφ
    have hP : va_P D vwCl (wY ca ad M6) H := by rw [← ht]; exact hO
    refine lv_pop hx hb dX5_withVan_26 rfl ?_
    refine lv_aload_n hx hb dX5_withVan_27 rfl (lv_at hl 1 rfl) ?_
    obtain ⟨M8, qM8, hf⟩ := bnd_some hf
    refine jc_v (va_runV (As := []) (rest := []) ⟨hx, hb, hml, hown, hts⟩ (kX5_plans l D ca ad hI M6 hRM6 M8 qM8) (cwV 0 hts gX5_withVan_X5_plans rfl rfl rfl (by decide +kernel) ⟨Nat.le_of_ble_eq_true rfl, Nat.le_of_ble_eq_true rfl⟩) (pvY hK hP []) rfl rfl hl.1 rfl (lv_room (Nat.le_of_ble_eq_true rfl)) dX5_withVan_28 ⟨Nat.zero_le _, Nat.zero_le _⟩) hS (fun H locs t ht hφ hO hS => ?_)
    have hRM8 := hφ
    have hP : va_P D vwCl (wY ca ad M8) H := by rw [← ht]; exact hO
    refine lv_aload_n hx hb dX5_withVan_31 rfl (lv_at hl 1 rfl) ?_
    refine va_get (D := D) (ci := 5) (v := .ref (ad 1)) (C := RX5) (T := TX5) (N := 23) hx hb hts hinX5 hown hK hP 0 (wL_get (by decide) (gY_0 _)) rfl 1 (by decide) (hts (.fieldLink RX5 7 "VisitVansModel" "s" "[I") (List.mem_of_getElem? (i := 2) rfl)) (fun _ h => h) rfl dX5_withVan_32 ?_
    refine lv_iconst (v := J 4) hx hb dX5_withVan_35 rfl ?_
    refine lv_dup2_11 hx hb dX5_withVan_36 rfl rfl ?_
    obtain ⟨v9, qv9, hf⟩ := bnd_some hf
    obtain ⟨bv9, ev9⟩ := rd_some qv9
    have rv9 : inR v9 := by rw [ev9]; exact hRM8 _ _
    refine jx_iald hx hb hK hP 1 0 (by decide) gY_1 rfl (by decide) bv9 ev9 dX5_withVan_37 ?_
    refine lv_iconst (v := J 1) hx hb dX5_withVan_38 rfl ?_
    refine jv_isub hx hb dX5_withVan_39 ?_
    obtain ⟨M10, qM10, hf⟩ := bnd_some hf
    obtain ⟨bM10, zM10, eM10⟩ := wr_some qM10
    have hRM10 : RR M10 := by rw [eM10]; exact RR_st hRM8 _ _ zM10
    refine jx_iast hx hb hK hP hI hS 1 0 (by decide) gY_1 rfl (by decide) bM10 zM10 dX5_withVan_40 (fun H locs hP hS => ?_)
    rw [← eM10] at hP
    refine lv_iconst (v := J 0) hx hb dX5_withVan_41 rfl ?_
    refine lv_istore (lv' := [(4, .int (J 0)), (3, .int (J v2)), (0, .ref (ad 0)), (1, .int (J a1)), (2, .int (J a2))]) hx hb dX5_withVan_42 hl (by decide) rfl (fun ls hl => ?_)
    obtain ⟨N_11, h11, hf⟩ := bnd_some hf
    have K11 : ∀ (H : Heap) (locs : List Loc) (ls : Array Slot), RR N_11 → va_P D vwCl (wY ca ad N_11) H → va_S (aS 18 ad) s.heap H locs → lv_has ls 5 [(0, .ref (ad 0))] → W p l e (headSpec wsX5_withVan (RmC 6 141)).room s m ([.ref (ad 0), .int (J a1), .int (J a2)] : List Value).toArray below meth c H locs 0 0 (MQ below (va_Qi (fun x (_ : Unit) => x = J res ∧ (inR res ∧ RR M')) (fun _ => (OY D ca ad M')) (aS 18 ad)) ([.ref (ad 0), .int (J a1), .int (J a2)] : List Value).toArray s 0 0 (aS 18 ad)) (F0 m 77 ls []) := by
      intro H locs ls hRN_11 hP hS hl
      refine lv_aload_n hx hb dX5_withVan_77 rfl (lv_at hl 0 rfl) ?_
      refine lv_iconst (v := J 0) hx hb dX5_withVan_78 rfl ?_
      refine lv_iconst (v := J 1) hx hb dX5_withVan_79 rfl ?_
      obtain ⟨v16, qv16, hf⟩ := bnd_some hf
      refine jc_i (va_runV (As := [.int (J 0), .int (J 1)]) (rest := []) ⟨hx, hb, hml, hown, hts⟩ (kX5_withPromise l D ca ad hI N_11 hRN_11 0 1 (by decide : inR 0) (by decide : inR 1) v16 qv16) (cwV 2 hts gX5_withVan_X5_withPromise rfl rfl rfl (by decide +kernel) ⟨Nat.le_of_ble_eq_true rfl, Nat.le_of_ble_eq_true rfl⟩) (pvY hK hP [.int (J 0), .int (J 1)]) rfl rfl hl.1 rfl (lv_room (Nat.le_of_ble_eq_true rfl)) dX5_withVan_80 ⟨Nat.zero_le _, Nat.zero_le _⟩) hS (fun H locs t ht hφ hO hS => ?_)
      have rv16 := hφ
      have hP : va_P D vwCl (wY ca ad N_11) H := by rw [← ht]; exact hO
      obtain ⟨e1, e2⟩ := Prod.mk.inj (Option.some.inj hf)
      exact jend_i hx hb hr rfl hS e1 ⟨by rw [← e1]; exact rv16, by rw [← e2]; exact hRN_11⟩ (oY e2 hP) dX5_withVan_83 hlocks
    have hL11 : ∀ (n : Nat) (x4_11 : Int) (M_11 : MM) (H : Heap) (locs : List Loc) (ls : Array Slot), inR x4_11 → RR M_11 → va_P D vwCl (wY ca ad M_11) H → va_S (aS 18 ad) s.heap H locs → lv_has ls 5 [(0, .ref (ad 0)), (4, .int (J x4_11))] → fX5_withVan_L44 n x4_11 M_11 = some N_11 → W p l e (headSpec wsX5_withVan (RmC 6 141)).room s m ([.ref (ad 0), .int (J a1), .int (J a2)] : List Value).toArray below meth c H locs 0 0 (MQ below (va_Qi (fun x (_ : Unit) => x = J res ∧ (inR res ∧ RR M')) (fun _ => (OY D ca ad M')) (aS 18 ad)) ([.ref (ad 0), .int (J a1), .int (J a2)] : List Value).toArray s 0 0 (aS 18 ad)) (F0 m 44 ls []) := by
      intro n
      induction n with
      | zero =>
        intro x4_11 M_11 H locs ls rx4_11 hRM_11 hP hS hl hf
        rw [fX5_withVan_L44] at hf
        cases hf
      | succ n ih =>
        intro x4_11 M_11 H locs ls rx4_11 hRM_11 hP hS hl hf
        rw [fX5_withVan_L44] at hf
        refine lv_iload hx hb dX5_withVan_44 (lv_at hl 1 rfl) ?_
        refine lv_bipush (v := J 7) hx hb dX5_withVan_46 (by decide +kernel) ?_
        refine jv_icmp_ge (tgt := 77) hx hb dX5_withVan_48 (by decide) rx4_11 (by decide : inR 7) (fun c12 => ?_) (fun c12 => ?_)
        · have hf := itep hf c12
          cases hf
          exact K11 _ _ _ hRM_11 hP hS (lv_sub hl [0] rfl)
        · have hf := iten hf c12
          refine lv_aload_n hx hb dX5_withVan_51 rfl (lv_at hl 0 rfl) ?_
          refine va_get (D := D) (ci := 5) (v := .ref (ad 1)) (C := RX5) (T := TX5) (N := 23) hx hb hts hinX5 hown hK hP 0 (wL_get (by decide) (gY_0 _)) rfl 1 (by decide) (hts (.fieldLink RX5 7 "VisitVansModel" "s" "[I") (List.mem_of_getElem? (i := 2) rfl)) (fun _ h => h) rfl dX5_withVan_52 ?_
          refine lv_iconst (v := J 5) hx hb dX5_withVan_55 rfl ?_
          refine lv_bipush (v := J 7) hx hb dX5_withVan_56 (by decide +kernel) ?_
          refine lv_aload_n hx hb dX5_withVan_58 rfl (lv_at hl 0 rfl) ?_
          refine va_get (D := D) (ci := 5) (v := .ref (ad 1)) (C := RX5) (T := TX5) (N := 23) hx hb hts hinX5 hown hK hP 0 (wL_get (by decide) (gY_0 _)) rfl 1 (by decide) (hts (.fieldLink RX5 7 "VisitVansModel" "s" "[I") (List.mem_of_getElem? (i := 2) rfl)) (fun _ h => h) rfl dX5_withVan_59 ?_
          refine lv_iconst (v := J 4) hx hb dX5_withVan_62 rfl ?_
          obtain ⟨v13, qv13, hf⟩ := bnd_some hf
          obtain ⟨bv13, ev13⟩ := rd_some qv13
          have rv13 : inR v13 := by rw [ev13]; exact hRM_11 _ _
          refine jx_iald hx hb hK hP 1 0 (by decide) gY_1 rfl (by decide) bv13 ev13 dX5_withVan_63 ?_
          refine jv_imul hx hb dX5_withVan_64 ?_
          refine jv_iadd hx hb dX5_withVan_65 ?_
          refine lv_iload hx hb dX5_withVan_66 (lv_at hl 1 rfl) ?_
          refine jv_iadd hx hb dX5_withVan_68 ?_
          refine lv_iconst (v := J 0) hx hb dX5_withVan_69 rfl ?_
          obtain ⟨M14, qM14, hf⟩ := bnd_some hf
          obtain ⟨bM14, zM14, eM14⟩ := wr_some qM14
          have hRM14 : RR M14 := by rw [eM14]; exact RR_st hRM_11 _ _ zM14
          refine jx_iast hx hb hK hP hI hS 1 0 (by decide) gY_1 rfl (by decide) bM14 zM14 dX5_withVan_70 (fun H locs hP hS => ?_)
          rw [← eM14] at hP
          refine lv_iinc (v := J (x4_11 + 1)) (lv' := [(4, .int (J (x4_11 + 1))), (0, .ref (ad 0))]) hx hb dX5_withVan_71 hl (k := 1) rfl (J_add _ _) (by decide) rfl (fun ls hl => ?_)
          refine lv_goto (tgt := 44) hx hb dX5_withVan_74 (by decide) ?_
          obtain ⟨g15, hf⟩ := gd_some hf
          exact ih _ _ _ _ _ g15 hRM14 hP hS (lv_sub hl [1, 0] rfl) hf
    exact hL11 4000 _ _ _ _ _ (by decide : inR 0) hRM10 hP hS (lv_sub hl [2, 0] rfl) h11
  · have hf := iten hf c4
    refine lv_iload_n hx hb dX5_withVan_16 rfl (lv_at hl 0 rfl) ?_
    obtain ⟨e1, e2⟩ := Prod.mk.inj (Option.some.inj hf)
    exact jend_i hx hb hr rfl hS e1 ⟨by rw [← e1]; exact rv2, by rw [← e2]; exact hRM1⟩ (oY e2 hP) dX5_withVan_17 hlocks
def fX5_brokenAt (a1 : Int) (M : MM) : Option (Int × MM) := bnd (rd M 1 160 0) (fun v1 => bnd (wr M 1 160 0 a1) (fun M2 => bnd (fX5_plans M2) (fun M4 => bnd (wr M4 1 160 0 v1) (fun M5 => bnd (fX5_withPromise 2 4 M5) (fun v6 => some (v6, M5))))))
set_option maxHeartbeats 4000000 in
set_option maxRecDepth 100000 in
theorem kX5_brokenAt (l : Launch) (D : va_G) (ca : Nat → ClassId) (ad : Nat → Nat) (hI : aInj 18 ad) (M : MM) (hR : RR M) (a1 : Int) (i1 : inR a1) (res : Int) (M' : MM) (hf : fX5_brokenAt a1 M = some (res, M')) : CI l yX5_brokenAt wsX5_brokenAt 6 141 [.ref (ad 0), .int (J a1)] (PY D ca ad M) res (inR res ∧ RR M') (OY D ca ad M') (aS 18 ad) := by
  refine Met.ofW (cc := cX5_brokenAt) (maxL := 3) (ret := (some .int)) (by decide) rfl ?_
  intro p e s m args below meth c s₁ B hml hv
  obtain ⟨rfl, hP, hK⟩ := hv
  have hx := B.exec
  have hb := B.bytes
  have hr := B.returns
  have hts := atoms_spec (ws := wsX5_brokenAt) B.pre
  have hown : s.vm.findClass RX5 = some m.cls := findClass_of_methodNamed B.named
  have hlocks := B.notSynchronized
  have hS : va_S (aS 18 ad) s.heap s.heap [] := va_S.rf
  have hinX5 : ∀ w ∈ wsX50, w ∈ wsX5_brokenAt := by decide +kernel
  have hl := lv_entry ([.ref (ad 0), .int (J a1)]) (n := 3) (Nat.le_of_ble_eq_true rfl)
  rw [lg_entry_eq]
  generalize (lg_sl ([.ref (ad 0), .int (J a1)]) ++ List.replicate (3 - (lg_sl ([.ref (ad 0), .int (J a1)])).length) Slot.unset).toArray = ls at hl ⊢
  have hl : lv_has ls 3 [(0, .ref (ad 0)), (1, .int (J a1))] := hl
  unfold fX5_brokenAt at hf
  refine lv_aload_n hx hb dX5_brokenAt_0 rfl (lv_at hl 0 rfl) ?_
  refine va_get (D := D) (ci := 5) (v := .ref (ad 1)) (C := RX5) (T := TX5) (N := 23) hx hb hts hinX5 hown hK hP 0 (wL_get (by decide) (gY_0 _)) rfl 1 (by decide) (hts (.fieldLink RX5 7 "VisitVansModel" "s" "[I") (List.mem_of_getElem? (i := 1) rfl)) (fun _ h => h) rfl dX5_brokenAt_1 ?_
  refine lv_iconst (v := J 0) hx hb dX5_brokenAt_4 rfl ?_
  obtain ⟨v1, qv1, hf⟩ := bnd_some hf
  obtain ⟨bv1, ev1⟩ := rd_some qv1
  have rv1 : inR v1 := by rw [ev1]; exact hR _ _
  refine jx_iald hx hb hK hP 1 0 (by decide) gY_1 rfl (by decide) bv1 ev1 dX5_brokenAt_5 ?_
  refine lv_istore_n (lv' := [(2, .int (J v1)), (0, .ref (ad 0)), (1, .int (J a1))]) hx hb dX5_brokenAt_6 rfl hl (by decide) rfl (fun ls hl => ?_)
  refine lv_aload_n hx hb dX5_brokenAt_7 rfl (lv_at hl 1 rfl) ?_
  refine va_get (D := D) (ci := 5) (v := .ref (ad 1)) (C := RX5) (T := TX5) (N := 23) hx hb hts hinX5 hown hK hP 0 (wL_get (by decide) (gY_0 _)) rfl 1 (by decide) (hts (.fieldLink RX5 7 "VisitVansModel" "s" "[I") (List.mem_of_getElem? (i := 1) rfl)) (fun _ h => h) rfl dX5_brokenAt_8 ?_
  refine lv_iconst (v := J 0) hx hb dX5_brokenAt_11 rfl ?_
  refine lv_iload_n hx hb dX5_brokenAt_12 rfl (lv_at hl 2 rfl) ?_
  obtain ⟨M2, qM2, hf⟩ := bnd_some hf
  obtain ⟨bM2, zM2, eM2⟩ := wr_some qM2
  have hRM2 : RR M2 := by rw [eM2]; exact RR_st hR _ _ zM2
  refine jx_iast hx hb hK hP hI hS 1 0 (by decide) gY_1 rfl (by decide) bM2 zM2 dX5_brokenAt_13 (fun H locs hP hS => ?_)
  rw [← eM2] at hP
  refine lv_aload_n hx hb dX5_brokenAt_14 rfl (lv_at hl 1 rfl) ?_
  obtain ⟨M4, qM4, hf⟩ := bnd_some hf
  refine jc_v (va_runV (As := []) (rest := []) ⟨hx, hb, hml, hown, hts⟩ (kX5_plans l D ca ad hI M2 hRM2 M4 qM4) (cwV 0 hts gX5_brokenAt_X5_plans rfl rfl rfl (by decide +kernel) ⟨Nat.le_of_ble_eq_true rfl, Nat.le_of_ble_eq_true rfl⟩) (pvY hK hP []) rfl rfl hl.1 rfl (lv_room (Nat.le_of_ble_eq_true rfl)) dX5_brokenAt_15 ⟨Nat.zero_le _, Nat.zero_le _⟩) hS (fun H locs t ht hφ hO hS => ?_)
  have hRM4 := hφ
  have hP : va_P D vwCl (wY ca ad M4) H := by rw [← ht]; exact hO
  refine lv_aload_n hx hb dX5_brokenAt_18 rfl (lv_at hl 1 rfl) ?_
  refine va_get (D := D) (ci := 5) (v := .ref (ad 1)) (C := RX5) (T := TX5) (N := 23) hx hb hts hinX5 hown hK hP 0 (wL_get (by decide) (gY_0 _)) rfl 1 (by decide) (hts (.fieldLink RX5 7 "VisitVansModel" "s" "[I") (List.mem_of_getElem? (i := 1) rfl)) (fun _ h => h) rfl dX5_brokenAt_19 ?_
  refine lv_iconst (v := J 0) hx hb dX5_brokenAt_22 rfl ?_
  refine lv_iload_n hx hb dX5_brokenAt_23 rfl (lv_at hl 0 rfl) ?_
  obtain ⟨M5, qM5, hf⟩ := bnd_some hf
  obtain ⟨bM5, zM5, eM5⟩ := wr_some qM5
  have hRM5 : RR M5 := by rw [eM5]; exact RR_st hRM4 _ _ zM5
  refine jx_iast hx hb hK hP hI hS 1 0 (by decide) gY_1 rfl (by decide) bM5 zM5 dX5_brokenAt_24 (fun H locs hP hS => ?_)
  rw [← eM5] at hP
  refine lv_aload_n hx hb dX5_brokenAt_25 rfl (lv_at hl 1 rfl) ?_
  refine lv_iconst (v := J 2) hx hb dX5_brokenAt_26 rfl ?_
  refine lv_iconst (v := J 4) hx hb dX5_brokenAt_27 rfl ?_
  obtain ⟨v6, qv6, hf⟩ := bnd_some hf
  refine jc_i (va_runV (As := [.int (J 2), .int (J 4)]) (rest := []) ⟨hx, hb, hml, hown, hts⟩ (kX5_withPromise l D ca ad hI M5 hRM5 2 4 (by decide : inR 2) (by decide : inR 4) v6 qv6) (cwV 2 hts gX5_brokenAt_X5_withPromise rfl rfl rfl (by decide +kernel) ⟨Nat.le_of_ble_eq_true rfl, Nat.le_of_ble_eq_true rfl⟩) (pvY hK hP [.int (J 2), .int (J 4)]) rfl rfl hl.1 rfl (lv_room (Nat.le_of_ble_eq_true rfl)) dX5_brokenAt_28 ⟨Nat.zero_le _, Nat.zero_le _⟩) hS (fun H locs t ht hφ hO hS => ?_)
  have rv6 := hφ
  have hP : va_P D vwCl (wY ca ad M5) H := by rw [← ht]; exact hO
  obtain ⟨e1, e2⟩ := Prod.mk.inj (Option.some.inj hf)
  exact jend_i hx hb hr rfl hS e1 ⟨by rw [← e1]; exact rv6, by rw [← e2]; exact hRM5⟩ (oY e2 hP) dX5_brokenAt_31 hlocks
def fX5_slowest_L14 : Nat → Int → Int → MM → Option (Int × MM)
  | 0, _, _, _ => none
  | n + 1, x1_4, x2_4, M_4 => bnd2 (fX5_brokenAt x2_4 M_4) (fun v5 M6 => if v5 ≤ x1_4 then some (x2_4, M6) else gd (inR (x2_4 + (-1))) (fX5_slowest_L14 n x1_4 (x2_4 + (-1)) M6))
def fX5_slowest (M : MM) : Option (Int × MM) := bnd (some (stM M 0 0 0)) (fun M1 => bnd2 (fX5_brokenAt 1 M1) (fun v2 M3 => bnd2 (fX5_slowest_L14 4000 v2 9 M3) (fun y4_0 N_4 => some (y4_0, N_4))))
set_option maxHeartbeats 4000000 in
set_option maxRecDepth 100000 in
theorem kX5_slowest (l : Launch) (D : va_G) (ca : Nat → ClassId) (ad : Nat → Nat) (hI : aInj 18 ad) (M : MM) (hR : RR M) (res : Int) (M' : MM) (hf : fX5_slowest M = some (res, M')) : CI l yX5_slowest wsX5_slowest 7 163 [.ref (ad 0)] (PY D ca ad M) res (inR res ∧ RR M') (OY D ca ad M') (aS 18 ad) := by
  refine Met.ofW (cc := cX5_slowest) (maxL := 3) (ret := (some .int)) (by decide) rfl ?_
  intro p e s m args below meth c s₁ B hml hv
  obtain ⟨rfl, hP, hK⟩ := hv
  have hx := B.exec
  have hb := B.bytes
  have hr := B.returns
  have hts := atoms_spec (ws := wsX5_slowest) B.pre
  have hown : s.vm.findClass RX5 = some m.cls := findClass_of_methodNamed B.named
  have hlocks := B.notSynchronized
  have hS : va_S (aS 18 ad) s.heap s.heap [] := va_S.rf
  have hinX5 : ∀ w ∈ wsX50, w ∈ wsX5_slowest := by decide +kernel
  have hl := lv_entry ([.ref (ad 0)]) (n := 3) (Nat.le_of_ble_eq_true rfl)
  rw [lg_entry_eq]
  generalize (lg_sl ([.ref (ad 0)]) ++ List.replicate (3 - (lg_sl ([.ref (ad 0)])).length) Slot.unset).toArray = ls at hl ⊢
  have hl : lv_has ls 3 [(0, .ref (ad 0))] := hl
  unfold fX5_slowest at hf
  refine lv_aload_n hx hb dX5_slowest_0 rfl (lv_at hl 0 rfl) ?_
  refine lv_iconst (v := J 0) hx hb dX5_slowest_1 rfl ?_
  obtain ⟨M1, eM1, hf⟩ := bnd_some hf
  have eM1 := Option.some.inj eM1
  have hRM1 : RR M1 := by rw [← eM1]; exact RR_st hR 0 0 (by decide : inR 0)
  refine va_put (D := D) (ci := 5) (v := .int (J 0)) (ty := .int) (C := RX5) (T := TX5) (N := 23) hx hb hts hinX5 tyX5 tyX5_ok nmX5 hown hK hP (wL_D hI M) hS 0 (wL_get (by decide) (gY_0 _)) rfl 0 (by decide) (hts (.fieldLink RX5 62 "VisitVansModel" "thrown" "I") (List.mem_of_getElem? (i := 1) rfl)) (fun _ h => h) rfl rfl rfl rfl (Nat.le_of_ble_eq_true rfl) dX5_slowest_2 (fun H locs hP hD hS => ?_)
  have hP : va_P D vwCl (wY ca ad M1) H := by rw [← eM1]; exact hPset (gY_0_s0) stM_o hP
  refine lv_aload_n hx hb dX5_slowest_5 rfl (lv_at hl 0 rfl) ?_
  refine lv_iconst (v := J 1) hx hb dX5_slowest_6 rfl ?_
  obtain ⟨v2, M3, qv2, hf⟩ := bnd2_some hf
  refine jc_i (va_runV (As := [.int (J 1)]) (rest := []) ⟨hx, hb, hml, hown, hts⟩ (kX5_brokenAt l D ca ad hI M1 hRM1 1 (by decide : inR 1) v2 M3 qv2) (cwV 1 hts gX5_slowest_X5_brokenAt rfl rfl rfl (by decide +kernel) ⟨Nat.le_of_ble_eq_true rfl, Nat.le_of_ble_eq_true rfl⟩) (pvY hK hP [.int (J 1)]) rfl rfl hl.1 rfl (lv_room (Nat.le_of_ble_eq_true rfl)) dX5_slowest_7 ⟨Nat.zero_le _, Nat.zero_le _⟩) hS (fun H locs t ht hφ hO hS => ?_)
  obtain ⟨rv2, hRM3⟩ := hφ
  have hP : va_P D vwCl (wY ca ad M3) H := by rw [← ht]; exact hO
  refine lv_istore_n (lv' := [(1, .int (J v2)), (0, .ref (ad 0))]) hx hb dX5_slowest_10 rfl hl (by decide) rfl (fun ls hl => ?_)
  refine lv_bipush (v := J 9) hx hb dX5_slowest_11 (by decide +kernel) ?_
  refine lv_istore_n (lv' := [(2, .int (J 9)), (1, .int (J v2)), (0, .ref (ad 0))]) hx hb dX5_slowest_13 rfl hl (by decide) rfl (fun ls hl => ?_)
  obtain ⟨y4_0, N_4, h4, hf⟩ := bnd2_some hf
  have K4 : ∀ (H : Heap) (locs : List Loc) (ls : Array Slot), inR y4_0 → RR N_4 → va_P D vwCl (wY ca ad N_4) H → va_S (aS 18 ad) s.heap H locs → lv_has ls 3 [(2, .int (J y4_0))] → W p l e (headSpec wsX5_slowest (RmC 7 163)).room s m ([.ref (ad 0)] : List Value).toArray below meth c H locs 0 0 (MQ below (va_Qi (fun x (_ : Unit) => x = J res ∧ (inR res ∧ RR M')) (fun _ => (OY D ca ad M')) (aS 18 ad)) ([.ref (ad 0)] : List Value).toArray s 0 0 (aS 18 ad)) (F0 m 29 ls []) := by
    intro H locs ls ry4_0 hRN_4 hP hS hl
    refine lv_iload_n hx hb dX5_slowest_29 rfl (lv_at hl 0 rfl) ?_
    obtain ⟨e1, e2⟩ := Prod.mk.inj (Option.some.inj hf)
    exact jend_i hx hb hr rfl hS e1 ⟨by rw [← e1]; exact ry4_0, by rw [← e2]; exact hRN_4⟩ (oY e2 hP) dX5_slowest_30 hlocks
  have hL4 : ∀ (n : Nat) (x1_4 : Int) (x2_4 : Int) (M_4 : MM) (H : Heap) (locs : List Loc) (ls : Array Slot), inR x1_4 → inR x2_4 → RR M_4 → x1_4 = v2 → va_P D vwCl (wY ca ad M_4) H → va_S (aS 18 ad) s.heap H locs → lv_has ls 3 [(0, .ref (ad 0)), (1, .int (J x1_4)), (2, .int (J x2_4))] → fX5_slowest_L14 n x1_4 x2_4 M_4 = some (y4_0, N_4) → W p l e (headSpec wsX5_slowest (RmC 7 163)).room s m ([.ref (ad 0)] : List Value).toArray below meth c H locs 0 0 (MQ below (va_Qi (fun x (_ : Unit) => x = J res ∧ (inR res ∧ RR M')) (fun _ => (OY D ca ad M')) (aS 18 ad)) ([.ref (ad 0)] : List Value).toArray s 0 0 (aS 18 ad)) (F0 m 14 ls []) := by
    intro n
    induction n with
    | zero =>
      intro x1_4 x2_4 M_4 H locs ls rx1_4 rx2_4 hRM_4 e_x1_4 hP hS hl hf
      rw [fX5_slowest_L14] at hf
      cases hf
    | succ n ih =>
      intro x1_4 x2_4 M_4 H locs ls rx1_4 rx2_4 hRM_4 e_x1_4 hP hS hl hf
      rw [fX5_slowest_L14] at hf
      refine lv_aload_n hx hb dX5_slowest_14 rfl (lv_at hl 0 rfl) ?_
      refine lv_iload_n hx hb dX5_slowest_15 rfl (lv_at hl 2 rfl) ?_
      obtain ⟨v5, M6, qv5, hf⟩ := bnd2_some hf
      refine jc_i (va_runV (As := [.int (J x2_4)]) (rest := []) ⟨hx, hb, hml, hown, hts⟩ (kX5_brokenAt l D ca ad hI M_4 hRM_4 x2_4 rx2_4 v5 M6 qv5) (cwV 1 hts gX5_slowest_X5_brokenAt rfl rfl rfl (by decide +kernel) ⟨Nat.le_of_ble_eq_true rfl, Nat.le_of_ble_eq_true rfl⟩) (pvY hK hP [.int (J x2_4)]) rfl rfl hl.1 rfl (lv_room (Nat.le_of_ble_eq_true rfl)) dX5_slowest_16 ⟨Nat.zero_le _, Nat.zero_le _⟩) hS (fun H locs t ht hφ hO hS => ?_)
      obtain ⟨rv5, hRM6⟩ := hφ
      have hP : va_P D vwCl (wY ca ad M6) H := by rw [← ht]; exact hO
      refine lv_iload_n hx hb dX5_slowest_19 rfl (lv_at hl 1 rfl) ?_
      refine jv_icmp_le (tgt := 29) hx hb dX5_slowest_20 (by decide) rv5 rx1_4 (fun c7 => ?_) (fun c7 => ?_)
      · have hf := itep hf c7
        cases hf
        exact K4 _ _ _ rx2_4 hRM6 hP hS (lv_sub hl [2] (by subst e_x1_4; rfl))
      · have hf := iten hf c7
        refine lv_iinc (v := J (x2_4 + (-1))) (lv' := [(2, .int (J (x2_4 + (-1)))), (0, .ref (ad 0)), (1, .int (J x1_4))]) hx hb dX5_slowest_23 hl (k := 2) rfl (J_add _ _) (by decide) rfl (fun ls hl => ?_)
        refine lv_goto (tgt := 14) hx hb dX5_slowest_26 (by decide) ?_
        obtain ⟨g8, hf⟩ := gd_some hf
        exact ih _ _ _ _ _ _ rx1_4 g8 hRM6 e_x1_4 hP hS (lv_sub hl [1, 2, 0] rfl) hf
  exact hL4 4000 _ _ _ _ _ _ rv2 (by decide : inR 9) hRM3 rfl hP hS (lv_sub hl [2, 1, 0] rfl) h4
def fX5_put_L13 : Nat → Int64 → Int → Int64 → Int → MM → Option (Int × Int64 × Int)
  | 0, _, _, _, _, _ => none
  | n + 1, x1_2, x3_2, x4_2, x6_2, M_2 => if 8 ≤ x3_2 then some (x3_2, x4_2, x6_2) else if ((lg_cmp (x4_2 &&& (255 : Int64)) (0 : Int64)).toInt) = 0 then some (x3_2, x4_2, x6_2) else bnd (if x6_2 = 0 then some ((0 : Int)) else bnd (fX5_in (l2i (x4_2 &&& (255 : Int64))) 33 126) (fun v7 => if v7 = 0 then some ((0 : Int)) else some ((1 : Int)))) (fun y6_0 => gd (inR (x3_2 + 1)) (fX5_put_L13 n x1_2 (x3_2 + 1) (lushr x4_2 8) y6_0 M_2))
def fX5_put_L108 : Nat → Int64 → Int → Int → MM → Option (MM)
  | 0, _, _, _, _ => none
  | n + 1, x1_16, x3_16, x7_16, M_16 => if x3_16 ≤ x7_16 then some M_16 else bnd (wr M_16 5 80 ((M_16 0 7) + x7_16) (l2i ((lushr x1_16 (8 * ((x3_16 - 1) - x7_16))) &&& (255 : Int64)))) (fun M18 => gd (inR (x7_16 + 1)) (fX5_put_L108 n x1_16 x3_16 (x7_16 + 1) M18))
def fX5_put (a1 : Int64) (M : MM) : Option (Int × MM) := bnd (some (stM M 0 0 0)) (fun M1 => bnd3 (fX5_put_L13 4000 a1 0 a1 1 M1) (fun y2_0 y2_1 y2_2 => if y2_0 = 0 then some ((-2), M1) else if y2_2 = 0 then some ((-2), M1) else if ((lg_cmp y2_1 (0 : Int64)).toInt) = 0 then gd (inR ((M1 0 7) + y2_0)) (if ((M1 0 7) + y2_0) ≤ 80 then bnd (fX5_put_L108 4000 a1 y2_0 0 M1) (fun N_16 => gd (inR ((N_16 0 7) + y2_0)) (bnd (some (stM N_16 0 7 ((N_16 0 7) + y2_0))) (fun M21 => some ((M21 0 7), M21)))) else some ((-4), M1)) else some ((-2), M1)))
set_option maxHeartbeats 4000000 in
set_option maxRecDepth 100000 in
theorem kX5_put (l : Launch) (D : va_G) (ca : Nat → ClassId) (ad : Nat → Nat) (hI : aInj 18 ad) (M : MM) (hR : RR M) (a1 : Int64) (res : Int) (M' : MM) (hf : fX5_put a1 M = some (res, M')) : CI l yX5_put wsX5_put 1 22 [.ref (ad 0), .long a1] (PY D ca ad M) res (inR res ∧ RR M') (OY D ca ad M') (aS 18 ad) := by
  refine Met.ofW (cc := cX5_put) (maxL := 8) (ret := (some .int)) (by decide) rfl ?_
  intro p e s m args below meth c s₁ B hml hv
  obtain ⟨rfl, hP, hK⟩ := hv
  have hx := B.exec
  have hb := B.bytes
  have hr := B.returns
  have hts := atoms_spec (ws := wsX5_put) B.pre
  have hown : s.vm.findClass RX5 = some m.cls := findClass_of_methodNamed B.named
  have hlocks := B.notSynchronized
  have hS : va_S (aS 18 ad) s.heap s.heap [] := va_S.rf
  have hinX5 : ∀ w ∈ wsX50, w ∈ wsX5_put := by decide +kernel
  have hl := lv_entry ([.ref (ad 0), .long a1]) (n := 8) (Nat.le_of_ble_eq_true rfl)
  rw [lg_entry_eq]
  generalize (lg_sl ([.ref (ad 0), .long a1]) ++ List.replicate (8 - (lg_sl ([.ref (ad 0), .long a1])).length) Slot.unset).toArray = ls at hl ⊢
  have hl : lv_has ls 8 [(0, .ref (ad 0)), (1, .long a1)] := hl
  unfold fX5_put at hf
  refine lv_aload_n hx hb dX5_put_0 rfl (lv_at hl 0 rfl) ?_
  refine lv_iconst (v := J 0) hx hb dX5_put_1 rfl ?_
  obtain ⟨M1, eM1, hf⟩ := bnd_some hf
  have eM1 := Option.some.inj eM1
  have hRM1 : RR M1 := by rw [← eM1]; exact RR_st hR 0 0 (by decide : inR 0)
  refine va_put (D := D) (ci := 5) (v := .int (J 0)) (ty := .int) (C := RX5) (T := TX5) (N := 23) hx hb hts hinX5 tyX5 tyX5_ok nmX5 hown hK hP (wL_D hI M) hS 0 (wL_get (by decide) (gY_0 _)) rfl 0 (by decide) (hts (.fieldLink RX5 62 "VisitVansModel" "thrown" "I") (List.mem_of_getElem? (i := 1) rfl)) (fun _ h => h) rfl rfl rfl rfl (Nat.le_of_ble_eq_true rfl) dX5_put_2 (fun H locs hP hD hS => ?_)
  have hP : va_P D vwCl (wY ca ad M1) H := by rw [← eM1]; exact hPset (gY_0_s0) stM_o hP
  refine lv_iconst (v := J 0) hx hb dX5_put_5 rfl ?_
  refine lv_istore_n (lv' := [(3, .int (J 0)), (0, .ref (ad 0)), (1, .long a1)]) hx hb dX5_put_6 rfl hl (by decide) rfl (fun ls hl => ?_)
  refine lv_lload_n hx hb dX5_put_7 rfl (lv_at hl 2 rfl) ?_
  refine lv_lstore (lv' := [(4, .long a1), (3, .int (J 0)), (0, .ref (ad 0)), (1, .long a1)]) hx hb dX5_put_8 hl (by decide) rfl (fun ls hl => ?_)
  refine lv_iconst (v := J 1) hx hb dX5_put_10 rfl ?_
  refine lv_istore (lv' := [(6, .int (J 1)), (4, .long a1), (3, .int (J 0)), (0, .ref (ad 0)), (1, .long a1)]) hx hb dX5_put_11 hl (by decide) rfl (fun ls hl => ?_)
  obtain ⟨y2_0, y2_1, y2_2, h2, hf⟩ := bnd3_some hf
  have K2 : ∀ (H : Heap) (locs : List Loc) (ls : Array Slot), inR y2_0 → inR y2_2 → va_P D vwCl (wY ca ad M1) H → va_S (aS 18 ad) s.heap H locs → lv_has ls 8 [(0, .ref (ad 0)), (1, .long a1), (3, .int (J y2_0)), (4, .long y2_1), (6, .int (J y2_2))] → W p l e (headSpec wsX5_put (RmC 1 22)).room s m ([.ref (ad 0), .long a1] : List Value).toArray below meth c H locs 0 0 (MQ below (va_Qi (fun x (_ : Unit) => x = J res ∧ (inR res ∧ RR M')) (fun _ => (OY D ca ad M')) (aS 18 ad)) ([.ref (ad 0), .long a1] : List Value).toArray s 0 0 (aS 18 ad)) (F0 m 72 ls []) := by
    intro H locs ls ry2_0 ry2_2 hP hS hl
    refine lv_iload_n hx hb dX5_put_72 rfl (lv_at hl 2 rfl) ?_
    refine jv_if_eq (tgt := 88) hx hb dX5_put_73 (by decide) ry2_0 (fun c11 => ?_) (fun c11 => ?_)
    · have hf := itep hf c11
      refine lv_bipush (v := J (-2)) hx hb dX5_put_88 (by decide +kernel) ?_
      obtain ⟨e1, e2⟩ := Prod.mk.inj (Option.some.inj hf)
      exact jend_i hx hb hr rfl hS e1 ⟨by rw [← e1]; exact (by decide : inR (-2)), by rw [← e2]; exact hRM1⟩ (oY e2 hP) dX5_put_90 hlocks
    · have hf := iten hf c11
      refine lv_iload hx hb dX5_put_76 (lv_at hl 4 rfl) ?_
      refine jv_if_eq (tgt := 88) hx hb dX5_put_78 (by decide) ry2_2 (fun c12 => ?_) (fun c12 => ?_)
      · have hf := itep hf c12
        refine lv_bipush (v := J (-2)) hx hb dX5_put_88 (by decide +kernel) ?_
        obtain ⟨e1, e2⟩ := Prod.mk.inj (Option.some.inj hf)
        exact jend_i hx hb hr rfl hS e1 ⟨by rw [← e1]; exact (by decide : inR (-2)), by rw [← e2]; exact hRM1⟩ (oY e2 hP) dX5_put_90 hlocks
      · have hf := iten hf c12
        refine lv_lload hx hb dX5_put_81 (lv_at hl 3 rfl) ?_
        refine lv_lconst (v := 0) hx hb dX5_put_83 rfl ?_
        refine jv_lcmp hx hb dX5_put_84 ?_
        refine jv_if_eq (tgt := 91) hx hb dX5_put_85 (by decide) (J_inR _) (fun c13 => ?_) (fun c13 => ?_)
        · have hf := itep hf c13
          refine lv_aload_n hx hb dX5_put_91 rfl (lv_at hl 0 rfl) ?_
          refine va_get (D := D) (ci := 5) (v := .int (J (M1 0 7))) (C := RX5) (T := TX5) (N := 23) hx hb hts hinX5 hown hK hP 0 (wL_get (by decide) (gY_0 _)) rfl 7 (by decide) (hts (.fieldLink RX5 168 "VisitVansModel" "length" "I") (List.mem_of_getElem? (i := 3) rfl)) (fun _ h => h) rfl dX5_put_92 ?_
          refine lv_iload_n hx hb dX5_put_95 rfl (lv_at hl 2 rfl) ?_
          refine jv_iadd hx hb dX5_put_96 ?_
          refine lv_bipush (v := J 80) hx hb dX5_put_97 (by decide +kernel) ?_
          obtain ⟨g14, hf⟩ := gd_some hf
          refine jv_icmp_le (tgt := 105) hx hb dX5_put_99 (by decide) g14 (by decide : inR 80) (fun c15 => ?_) (fun c15 => ?_)
          · have hf := itep hf c15
            refine lv_iconst (v := J 0) hx hb dX5_put_105 rfl ?_
            refine lv_istore (lv' := [(7, .int (J 0)), (0, .ref (ad 0)), (1, .long a1), (3, .int (J y2_0)), (4, .long y2_1), (6, .int (J y2_2))]) hx hb dX5_put_106 hl (by decide) rfl (fun ls hl => ?_)
            obtain ⟨N_16, h16, hf⟩ := bnd_some hf
            have K16 : ∀ (H : Heap) (locs : List Loc) (ls : Array Slot), RR N_16 → va_P D vwCl (wY ca ad N_16) H → va_S (aS 18 ad) s.heap H locs → lv_has ls 8 [(0, .ref (ad 0)), (3, .int (J y2_0))] → W p l e (headSpec wsX5_put (RmC 1 22)).room s m ([.ref (ad 0), .long a1] : List Value).toArray below meth c H locs 0 0 (MQ below (va_Qi (fun x (_ : Unit) => x = J res ∧ (inR res ∧ RR M')) (fun _ => (OY D ca ad M')) (aS 18 ad)) ([.ref (ad 0), .long a1] : List Value).toArray s 0 0 (aS 18 ad)) (F0 m 148 ls []) := by
              intro H locs ls hRN_16 hP hS hl
              refine lv_aload_n hx hb dX5_put_148 rfl (lv_at hl 0 rfl) ?_
              refine lv_dup hx hb dX5_put_149 rfl ?_
              refine va_get (D := D) (ci := 5) (v := .int (J (N_16 0 7))) (C := RX5) (T := TX5) (N := 23) hx hb hts hinX5 hown hK hP 0 (wL_get (by decide) (gY_0 _)) rfl 7 (by decide) (hts (.fieldLink RX5 168 "VisitVansModel" "length" "I") (List.mem_of_getElem? (i := 3) rfl)) (fun _ h => h) rfl dX5_put_150 ?_
              refine lv_iload_n hx hb dX5_put_153 rfl (lv_at hl 1 rfl) ?_
              refine jv_iadd hx hb dX5_put_154 ?_
              obtain ⟨g20, hf⟩ := gd_some hf
              obtain ⟨M21, eM21, hf⟩ := bnd_some hf
              have eM21 := Option.some.inj eM21
              have hRM21 : RR M21 := by rw [← eM21]; exact RR_st hRN_16 0 7 g20
              refine va_put (D := D) (ci := 5) (v := .int (J ((N_16 0 7) + y2_0))) (ty := .int) (C := RX5) (T := TX5) (N := 23) hx hb hts hinX5 tyX5 tyX5_ok nmX5 hown hK hP (wL_D hI N_16) hS 0 (wL_get (by decide) (gY_0 _)) rfl 7 (by decide) (hts (.fieldLink RX5 168 "VisitVansModel" "length" "I") (List.mem_of_getElem? (i := 3) rfl)) (fun _ h => h) rfl rfl rfl rfl (Nat.le_of_ble_eq_true rfl) dX5_put_155 (fun H locs hP hD hS => ?_)
              have hP : va_P D vwCl (wY ca ad M21) H := by rw [← eM21]; exact hPset (gY_0_s7) stM_o hP
              refine lv_aload_n hx hb dX5_put_158 rfl (lv_at hl 0 rfl) ?_
              refine va_get (D := D) (ci := 5) (v := .int (J (M21 0 7))) (C := RX5) (T := TX5) (N := 23) hx hb hts hinX5 hown hK hP 0 (wL_get (by decide) (gY_0 _)) rfl 7 (by decide) (hts (.fieldLink RX5 168 "VisitVansModel" "length" "I") (List.mem_of_getElem? (i := 3) rfl)) (fun _ h => h) rfl dX5_put_159 ?_
              obtain ⟨e1, e2⟩ := Prod.mk.inj (Option.some.inj hf)
              exact jend_i hx hb hr rfl hS e1 ⟨by rw [← e1]; exact (hRM21 0 7), by rw [← e2]; exact hRM21⟩ (oY e2 hP) dX5_put_162 hlocks
            have hL16 : ∀ (n : Nat) (x1_16 : Int64) (x3_16 : Int) (x7_16 : Int) (M_16 : MM) (H : Heap) (locs : List Loc) (ls : Array Slot), inR x3_16 → inR x7_16 → RR M_16 → x1_16 = a1 → x3_16 = y2_0 → va_P D vwCl (wY ca ad M_16) H → va_S (aS 18 ad) s.heap H locs → lv_has ls 8 [(0, .ref (ad 0)), (1, .long x1_16), (3, .int (J x3_16)), (7, .int (J x7_16))] → fX5_put_L108 n x1_16 x3_16 x7_16 M_16 = some N_16 → W p l e (headSpec wsX5_put (RmC 1 22)).room s m ([.ref (ad 0), .long a1] : List Value).toArray below meth c H locs 0 0 (MQ below (va_Qi (fun x (_ : Unit) => x = J res ∧ (inR res ∧ RR M')) (fun _ => (OY D ca ad M')) (aS 18 ad)) ([.ref (ad 0), .long a1] : List Value).toArray s 0 0 (aS 18 ad)) (F0 m 108 ls []) := by
              intro n
              induction n with
              | zero =>
                intro x1_16 x3_16 x7_16 M_16 H locs ls rx3_16 rx7_16 hRM_16 e_x1_16 e_x3_16 hP hS hl hf
                rw [fX5_put_L108] at hf
                cases hf
              | succ n ih =>
                intro x1_16 x3_16 x7_16 M_16 H locs ls rx3_16 rx7_16 hRM_16 e_x1_16 e_x3_16 hP hS hl hf
                rw [fX5_put_L108] at hf
                refine lv_iload hx hb dX5_put_108 (lv_at hl 3 rfl) ?_
                refine lv_iload_n hx hb dX5_put_110 rfl (lv_at hl 2 rfl) ?_
                refine jv_icmp_ge (tgt := 148) hx hb dX5_put_111 (by decide) rx7_16 rx3_16 (fun c17 => ?_) (fun c17 => ?_)
                · have hf := itep hf c17
                  cases hf
                  exact K16 _ _ _ hRM_16 hP hS (lv_sub hl [0, 2] (by subst e_x1_16; subst e_x3_16; rfl))
                · have hf := iten hf c17
                  refine lv_aload_n hx hb dX5_put_114 rfl (lv_at hl 0 rfl) ?_
                  refine va_get (D := D) (ci := 5) (v := .ref (ad 5)) (C := RX5) (T := TX5) (N := 23) hx hb hts hinX5 hown hK hP 0 (wL_get (by decide) (gY_0 _)) rfl 6 (by decide) (hts (.fieldLink RX5 23 "VisitVansModel" "pad" "[I") (List.mem_of_getElem? (i := 4) rfl)) (fun _ h => h) rfl dX5_put_115 ?_
                  refine lv_aload_n hx hb dX5_put_118 rfl (lv_at hl 0 rfl) ?_
                  refine va_get (D := D) (ci := 5) (v := .int (J (M_16 0 7))) (C := RX5) (T := TX5) (N := 23) hx hb hts hinX5 hown hK hP 0 (wL_get (by decide) (gY_0 _)) rfl 7 (by decide) (hts (.fieldLink RX5 168 "VisitVansModel" "length" "I") (List.mem_of_getElem? (i := 3) rfl)) (fun _ h => h) rfl dX5_put_119 ?_
                  refine lv_iload hx hb dX5_put_122 (lv_at hl 3 rfl) ?_
                  refine jv_iadd hx hb dX5_put_124 ?_
                  refine lv_lload_n hx hb dX5_put_125 rfl (lv_at hl 1 rfl) ?_
                  refine lv_bipush (v := J 8) hx hb dX5_put_126 (by decide +kernel) ?_
                  refine lv_iload_n hx hb dX5_put_128 rfl (lv_at hl 2 rfl) ?_
                  refine lv_iconst (v := J 1) hx hb dX5_put_129 rfl ?_
                  refine jv_isub hx hb dX5_put_130 ?_
                  refine lv_iload hx hb dX5_put_131 (lv_at hl 3 rfl) ?_
                  refine jv_isub hx hb dX5_put_133 ?_
                  refine jv_imul hx hb dX5_put_134 ?_
                  refine jv_lushr hx hb dX5_put_135 ?_
                  refine lv_ldc2 (v := (255 : Int64)) hx hb hown (hts (.constantLong RX5 188 (255)) (List.mem_of_getElem? (i := 2) rfl)) dX5_put_136 ?_
                  refine lv_land hx hb dX5_put_139 ?_
                  refine jv_l2i hx hb dX5_put_140 ?_
                  obtain ⟨M18, qM18, hf⟩ := bnd_some hf
                  obtain ⟨bM18, zM18, eM18⟩ := wr_some qM18
                  have hRM18 : RR M18 := by rw [eM18]; exact RR_st hRM_16 _ _ zM18
                  refine jx_iast hx hb hK hP hI hS 5 0 (by decide) gY_5 rfl (by decide) bM18 zM18 dX5_put_141 (fun H locs hP hS => ?_)
                  rw [← eM18] at hP
                  refine lv_iinc (v := J (x7_16 + 1)) (lv' := [(7, .int (J (x7_16 + 1))), (0, .ref (ad 0)), (1, .long x1_16), (3, .int (J x3_16))]) hx hb dX5_put_142 hl (k := 3) rfl (J_add _ _) (by decide) rfl (fun ls hl => ?_)
                  refine lv_goto (tgt := 108) hx hb dX5_put_145 (by decide) ?_
                  obtain ⟨g19, hf⟩ := gd_some hf
                  exact ih _ _ _ _ _ _ _ rx3_16 g19 hRM18 e_x1_16 e_x3_16 hP hS (lv_sub hl [1, 2, 3, 0] rfl) hf
            exact hL16 4000 _ _ _ _ _ _ _ ry2_0 (by decide : inR 0) hRM1 rfl rfl hP hS (lv_sub hl [1, 2, 3, 0] rfl) h16
          · have hf := iten hf c15
            refine lv_bipush (v := J (-4)) hx hb dX5_put_102 (by decide +kernel) ?_
            obtain ⟨e1, e2⟩ := Prod.mk.inj (Option.some.inj hf)
            exact jend_i hx hb hr rfl hS e1 ⟨by rw [← e1]; exact (by decide : inR (-4)), by rw [← e2]; exact hRM1⟩ (oY e2 hP) dX5_put_104 hlocks
        · have hf := iten hf c13
          refine lv_bipush (v := J (-2)) hx hb dX5_put_88 (by decide +kernel) ?_
          obtain ⟨e1, e2⟩ := Prod.mk.inj (Option.some.inj hf)
          exact jend_i hx hb hr rfl hS e1 ⟨by rw [← e1]; exact (by decide : inR (-2)), by rw [← e2]; exact hRM1⟩ (oY e2 hP) dX5_put_90 hlocks
  have hL2 : ∀ (n : Nat) (x1_2 : Int64) (x3_2 : Int) (x4_2 : Int64) (x6_2 : Int) (M_2 : MM) (H : Heap) (locs : List Loc) (ls : Array Slot), inR x3_2 → inR x6_2 → RR M_2 → x1_2 = a1 → M_2 = M1 → va_P D vwCl (wY ca ad M_2) H → va_S (aS 18 ad) s.heap H locs → lv_has ls 8 [(0, .ref (ad 0)), (1, .long x1_2), (3, .int (J x3_2)), (4, .long x4_2), (6, .int (J x6_2))] → fX5_put_L13 n x1_2 x3_2 x4_2 x6_2 M_2 = some (y2_0, y2_1, y2_2) → W p l e (headSpec wsX5_put (RmC 1 22)).room s m ([.ref (ad 0), .long a1] : List Value).toArray below meth c H locs 0 0 (MQ below (va_Qi (fun x (_ : Unit) => x = J res ∧ (inR res ∧ RR M')) (fun _ => (OY D ca ad M')) (aS 18 ad)) ([.ref (ad 0), .long a1] : List Value).toArray s 0 0 (aS 18 ad)) (F0 m 13 ls []) := by
    intro n
    induction n with
    | zero =>
      intro x1_2 x3_2 x4_2 x6_2 M_2 H locs ls rx3_2 rx6_2 hRM_2 e_x1_2 e_M_2 hP hS hl hf
      rw [fX5_put_L13] at hf
      cases hf
    | succ n ih =>
      intro x1_2 x3_2 x4_2 x6_2 M_2 H locs ls rx3_2 rx6_2 hRM_2 e_x1_2 e_M_2 hP hS hl hf
      rw [fX5_put_L13] at hf
      refine lv_iload_n hx hb dX5_put_13 rfl (lv_at hl 2 rfl) ?_
      refine lv_bipush (v := J 8) hx hb dX5_put_14 (by decide +kernel) ?_
      refine jv_icmp_ge (tgt := 72) hx hb dX5_put_16 (by decide) rx3_2 (by decide : inR 8) (fun c3 => ?_) (fun c3 => ?_)
      · have hf := itep hf c3
        cases hf
        exact K2 _ _ _ rx3_2 rx6_2  (e_M_2 ▸ hP) hS (lv_sub hl [0, 1, 2, 3, 4] (by subst e_x1_2; rfl))
      · have hf := iten hf c3
        refine lv_lload hx hb dX5_put_19 (lv_at hl 3 rfl) ?_
        refine lv_ldc2 (v := (255 : Int64)) hx hb hown (hts (.constantLong RX5 188 (255)) (List.mem_of_getElem? (i := 2) rfl)) dX5_put_21 ?_
        refine lv_land hx hb dX5_put_24 ?_
        refine lv_lconst (v := 0) hx hb dX5_put_25 rfl ?_
        refine jv_lcmp hx hb dX5_put_26 ?_
        refine jv_if_eq (tgt := 72) hx hb dX5_put_27 (by decide) (J_inR _) (fun c4 => ?_) (fun c4 => ?_)
        · have hf := itep hf c4
          cases hf
          exact K2 _ _ _ rx3_2 rx6_2  (e_M_2 ▸ hP) hS (lv_sub hl [0, 1, 2, 3, 4] (by subst e_x1_2; rfl))
        · have hf := iten hf c4
          refine lv_iload hx hb dX5_put_30 (lv_at hl 4 rfl) ?_
          obtain ⟨y6_0, h6, hf⟩ := bnd_some hf
          have K6 : ∀ (H : Heap) (locs : List Loc) (ls : Array Slot), inR y6_0 → va_P D vwCl (wY ca ad M_2) H → va_S (aS 18 ad) s.heap H locs → lv_has ls 8 [(0, .ref (ad 0)), (1, .long x1_2), (3, .int (J x3_2)), (4, .long x4_2)] → W p l e (headSpec wsX5_put (RmC 1 22)).room s m ([.ref (ad 0), .long a1] : List Value).toArray below meth c H locs 0 0 (MQ below (va_Qi (fun x (_ : Unit) => x = J res ∧ (inR res ∧ RR M')) (fun _ => (OY D ca ad M')) (aS 18 ad)) ([.ref (ad 0), .long a1] : List Value).toArray s 0 0 (aS 18 ad)) (F0 m 57 ls [.int (J y6_0)]) := by
            intro H locs ls ry6_0  hP hS hl
            refine lv_istore (lv' := [(6, .int (J y6_0)), (0, .ref (ad 0)), (1, .long x1_2), (3, .int (J x3_2)), (4, .long x4_2)]) hx hb dX5_put_57 hl (by decide) rfl (fun ls hl => ?_)
            refine lv_lload hx hb dX5_put_59 (lv_at hl 4 rfl) ?_
            refine lv_bipush (v := J 8) hx hb dX5_put_61 (by decide +kernel) ?_
            refine jv_lushr hx hb dX5_put_63 ?_
            refine lv_lstore (lv' := [(4, .long (lushr x4_2 8)), (6, .int (J y6_0)), (0, .ref (ad 0)), (1, .long x1_2), (3, .int (J x3_2))]) hx hb dX5_put_64 hl (by decide) rfl (fun ls hl => ?_)
            refine lv_iinc (v := J (x3_2 + 1)) (lv' := [(3, .int (J (x3_2 + 1))), (4, .long (lushr x4_2 8)), (6, .int (J y6_0)), (0, .ref (ad 0)), (1, .long x1_2)]) hx hb dX5_put_66 hl (k := 4) rfl (J_add _ _) (by decide) rfl (fun ls hl => ?_)
            refine lv_goto (tgt := 13) hx hb dX5_put_69 (by decide) ?_
            obtain ⟨g10, hf⟩ := gd_some hf
            exact ih _ _ _ _ _ _ _ _ g10 ry6_0 hRM_2 e_x1_2 e_M_2 hP hS (lv_sub hl [3, 4, 0, 1, 2] rfl) hf
          have hf := h6
          clear h6
          refine jv_if_eq (tgt := 56) hx hb dX5_put_32 (by decide) rx6_2 (fun c5 => ?_) (fun c5 => ?_)
          · have hf := itep hf c5
            refine lv_iconst (v := J 0) hx hb dX5_put_56 rfl ?_
            cases hf
            exact K6 _ _ _ (by decide : inR 0)  hP hS (lv_sub hl [0, 1, 2, 3] rfl)
          · have hf := iten hf c5
            refine lv_lload hx hb dX5_put_35 (lv_at hl 3 rfl) ?_
            refine lv_ldc2 (v := (255 : Int64)) hx hb hown (hts (.constantLong RX5 188 (255)) (List.mem_of_getElem? (i := 2) rfl)) dX5_put_37 ?_
            refine lv_land hx hb dX5_put_40 ?_
            refine jv_l2i hx hb dX5_put_41 ?_
            refine lv_bipush (v := J 33) hx hb dX5_put_42 (by decide +kernel) ?_
            refine lv_bipush (v := J 126) hx hb dX5_put_44 (by decide +kernel) ?_
            obtain ⟨v7, qv7, hf⟩ := bnd_some hf
            refine jc_i (va_runS (As := [.int (J (l2i (x4_2 &&& (255 : Int64)))), .int (J 33), .int (J 126)]) (rest := []) ⟨hx, hb, hml, hown, hts⟩ (kX5_in l D ca ad hI M_2 hRM_2 (l2i (x4_2 &&& (255 : Int64))) 33 126 (J_inR _) (by decide : inR 33) (by decide : inR 126) v7 qv7) (va_cwS 3 hts gX5_put_X5_in rfl rfl rfl (by decide +kernel) ⟨Nat.le_of_ble_eq_true rfl, Nat.le_of_ble_eq_true rfl⟩) (psY hK hP [.int (J (l2i (x4_2 &&& (255 : Int64)))), .int (J 33), .int (J 126)]) rfl rfl hl.1 rfl (lv_room (Nat.le_of_ble_eq_true rfl)) dX5_put_46 ⟨Nat.zero_le _, Nat.zero_le _⟩) hS (fun H locs t ht hφ hO hS => ?_)
            have rv7 := hφ
            have hP : va_P D vwCl (wY ca ad M_2) H := by rw [← ht]; exact hO
            refine jv_if_eq (tgt := 56) hx hb dX5_put_49 (by decide) rv7 (fun c9 => ?_) (fun c9 => ?_)
            · have hf := itep hf c9
              refine lv_iconst (v := J 0) hx hb dX5_put_56 rfl ?_
              cases hf
              exact K6 _ _ _ (by decide : inR 0)  hP hS (lv_sub hl [0, 1, 2, 3] rfl)
            · have hf := iten hf c9
              refine lv_iconst (v := J 1) hx hb dX5_put_52 rfl ?_
              refine lv_goto (tgt := 57) hx hb dX5_put_53 (by decide) ?_
              cases hf
              exact K6 _ _ _ (by decide : inR 1)  hP hS (lv_sub hl [0, 1, 2, 3] rfl)
  exact hL2 4000 _ _ _ _ _ _ _ _ (by decide : inR 0) (by decide : inR 1) hRM1 rfl rfl hP hS (lv_sub hl [3, 4, 2, 1, 0] rfl) h2
def fX5_wipe (M : MM) : Option (Int × MM) := bnd (some (stM M 0 0 0)) (fun M1 => bnd (some (stM M1 0 7 0)) (fun M2 => some ((M1 0 7), M2)))
set_option maxHeartbeats 4000000 in
set_option maxRecDepth 100000 in
theorem kX5_wipe (l : Launch) (D : va_G) (ca : Nat → ClassId) (ad : Nat → Nat) (hI : aInj 18 ad) (M : MM) (hR : RR M) (res : Int) (M' : MM) (hf : fX5_wipe M = some (res, M')) : CI l yX5_wipe wsX5_wipe 0 0 [.ref (ad 0)] (PY D ca ad M) res (inR res ∧ RR M') (OY D ca ad M') (aS 18 ad) := by
  refine Met.ofW (cc := cX5_wipe) (maxL := 2) (ret := (some .int)) (by decide) rfl ?_
  intro p e s m args below meth c s₁ B hml hv
  obtain ⟨rfl, hP, hK⟩ := hv
  have hx := B.exec
  have hb := B.bytes
  have hr := B.returns
  have hts := atoms_spec (ws := wsX5_wipe) B.pre
  have hown : s.vm.findClass RX5 = some m.cls := findClass_of_methodNamed B.named
  have hlocks := B.notSynchronized
  have hS : va_S (aS 18 ad) s.heap s.heap [] := va_S.rf
  have hinX5 : ∀ w ∈ wsX50, w ∈ wsX5_wipe := by decide +kernel
  have hl := lv_entry ([.ref (ad 0)]) (n := 2) (Nat.le_of_ble_eq_true rfl)
  rw [lg_entry_eq]
  generalize (lg_sl ([.ref (ad 0)]) ++ List.replicate (2 - (lg_sl ([.ref (ad 0)])).length) Slot.unset).toArray = ls at hl ⊢
  have hl : lv_has ls 2 [(0, .ref (ad 0))] := hl
  unfold fX5_wipe at hf
  refine lv_aload_n hx hb dX5_wipe_0 rfl (lv_at hl 0 rfl) ?_
  refine lv_iconst (v := J 0) hx hb dX5_wipe_1 rfl ?_
  obtain ⟨M1, eM1, hf⟩ := bnd_some hf
  have eM1 := Option.some.inj eM1
  have hRM1 : RR M1 := by rw [← eM1]; exact RR_st hR 0 0 (by decide : inR 0)
  refine va_put (D := D) (ci := 5) (v := .int (J 0)) (ty := .int) (C := RX5) (T := TX5) (N := 23) hx hb hts hinX5 tyX5 tyX5_ok nmX5 hown hK hP (wL_D hI M) hS 0 (wL_get (by decide) (gY_0 _)) rfl 0 (by decide) (hts (.fieldLink RX5 62 "VisitVansModel" "thrown" "I") (List.mem_of_getElem? (i := 1) rfl)) (fun _ h => h) rfl rfl rfl rfl (Nat.le_of_ble_eq_true rfl) dX5_wipe_2 (fun H locs hP hD hS => ?_)
  have hP : va_P D vwCl (wY ca ad M1) H := by rw [← eM1]; exact hPset (gY_0_s0) stM_o hP
  refine lv_aload_n hx hb dX5_wipe_5 rfl (lv_at hl 0 rfl) ?_
  refine va_get (D := D) (ci := 5) (v := .int (J (M1 0 7))) (C := RX5) (T := TX5) (N := 23) hx hb hts hinX5 hown hK hP 0 (wL_get (by decide) (gY_0 _)) rfl 7 (by decide) (hts (.fieldLink RX5 168 "VisitVansModel" "length" "I") (List.mem_of_getElem? (i := 2) rfl)) (fun _ h => h) rfl dX5_wipe_6 ?_
  refine lv_istore_n (lv' := [(1, .int (J (M1 0 7))), (0, .ref (ad 0))]) hx hb dX5_wipe_9 rfl hl (by decide) rfl (fun ls hl => ?_)
  refine lv_aload_n hx hb dX5_wipe_10 rfl (lv_at hl 1 rfl) ?_
  refine lv_iconst (v := J 0) hx hb dX5_wipe_11 rfl ?_
  obtain ⟨M2, eM2, hf⟩ := bnd_some hf
  have eM2 := Option.some.inj eM2
  have hRM2 : RR M2 := by rw [← eM2]; exact RR_st hRM1 0 7 (by decide : inR 0)
  refine va_put (D := D) (ci := 5) (v := .int (J 0)) (ty := .int) (C := RX5) (T := TX5) (N := 23) hx hb hts hinX5 tyX5 tyX5_ok nmX5 hown hK hP (wL_D hI M1) hS 0 (wL_get (by decide) (gY_0 _)) rfl 7 (by decide) (hts (.fieldLink RX5 168 "VisitVansModel" "length" "I") (List.mem_of_getElem? (i := 2) rfl)) (fun _ h => h) rfl rfl rfl rfl (Nat.le_of_ble_eq_true rfl) dX5_wipe_12 (fun H locs hP hD hS => ?_)
  have hP : va_P D vwCl (wY ca ad M2) H := by rw [← eM2]; exact hPset (gY_0_s7) stM_o hP
  refine lv_iload_n hx hb dX5_wipe_15 rfl (lv_at hl 0 rfl) ?_
  obtain ⟨e1, e2⟩ := Prod.mk.inj (Option.some.inj hf)
  exact jend_i hx hb hr rfl hS e1 ⟨by rw [← e1]; exact (hRM1 0 7), by rw [← e2]; exact hRM2⟩ (oY e2 hP) dX5_wipe_16 hlocks
def fX5_sign (M : MM) : Option (Int) := bnd (if (M 0 7) ≤ (M 0 19) then some ((0 : Int)) else bnd (rd M 5 80 (M 0 19)) (fun v3 => some (v3))) (fun y2_0 => some y2_0)
set_option maxHeartbeats 4000000 in
set_option maxRecDepth 100000 in
theorem kX5_sign (l : Launch) (D : va_G) (ca : Nat → ClassId) (ad : Nat → Nat) (hI : aInj 18 ad) (M : MM) (hR : RR M) (res : Int) (hf : fX5_sign M = some res) : CI l yX5_sign wsX5_sign 0 0 [.ref (ad 0)] (PY D ca ad M) res (inR res) (OY D ca ad M) (aS 18 ad) := by
  refine Met.ofW (cc := cX5_sign) (maxL := 1) (ret := (some .int)) (by decide) rfl ?_
  intro p e s m args below meth c s₁ B hml hv
  obtain ⟨rfl, hP, hK⟩ := hv
  have hx := B.exec
  have hb := B.bytes
  have hr := B.returns
  have hts := atoms_spec (ws := wsX5_sign) B.pre
  have hown : s.vm.findClass RX5 = some m.cls := findClass_of_methodNamed B.named
  have hlocks := B.notSynchronized
  have hS : va_S (aS 18 ad) s.heap s.heap [] := va_S.rf
  have hinX5 : ∀ w ∈ wsX50, w ∈ wsX5_sign := by decide +kernel
  have hl := lv_entry ([.ref (ad 0)]) (n := 1) (Nat.le_of_ble_eq_true rfl)
  rw [lg_entry_eq]
  generalize (lg_sl ([.ref (ad 0)]) ++ List.replicate (1 - (lg_sl ([.ref (ad 0)])).length) Slot.unset).toArray = ls at hl ⊢
  have hl : lv_has ls 1 [(0, .ref (ad 0))] := hl
  unfold fX5_sign at hf
  refine lv_aload_n hx hb dX5_sign_0 rfl (lv_at hl 0 rfl) ?_
  refine va_get (D := D) (ci := 5) (v := .int (J (M 0 19))) (C := RX5) (T := TX5) (N := 23) hx hb hts hinX5 hown hK hP 0 (wL_get (by decide) (gY_0 _)) rfl 19 (by decide) (hts (.fieldLink RX5 190 "VisitVansModel" "at" "I") (List.mem_of_getElem? (i := 1) rfl)) (fun _ h => h) rfl dX5_sign_1 ?_
  refine lv_aload_n hx hb dX5_sign_4 rfl (lv_at hl 0 rfl) ?_
  refine va_get (D := D) (ci := 5) (v := .int (J (M 0 7))) (C := RX5) (T := TX5) (N := 23) hx hb hts hinX5 hown hK hP 0 (wL_get (by decide) (gY_0 _)) rfl 7 (by decide) (hts (.fieldLink RX5 168 "VisitVansModel" "length" "I") (List.mem_of_getElem? (i := 2) rfl)) (fun _ h => h) rfl dX5_sign_5 ?_
  obtain ⟨y2_0, h2, hf⟩ := bnd_some hf
  have K2 : ∀ (H : Heap) (locs : List Loc) (ls : Array Slot), inR y2_0 → va_P D vwCl (wY ca ad M) H → va_S (aS 18 ad) s.heap H locs → lv_has ls 1 [] → W p l e (headSpec wsX5_sign (RmC 0 0)).room s m ([.ref (ad 0)] : List Value).toArray below meth c H locs 0 0 (MQ below (va_Qi (fun x (_ : Unit) => x = J res ∧ (inR res)) (fun _ => (OY D ca ad M)) (aS 18 ad)) ([.ref (ad 0)] : List Value).toArray s 0 0 (aS 18 ad)) (F0 m 24 ls [.int (J y2_0)]) := by
    intro H locs ls ry2_0  hP hS hl
    have e1 := Option.some.inj hf
    exact jend_i hx hb hr rfl hS e1 (by rw [← e1]; exact ry2_0) (oY rfl hP) dX5_sign_24 hlocks
  have hf := h2
  clear h2
  refine jv_icmp_ge (tgt := 23) hx hb dX5_sign_8 (by decide) (hR 0 19) (hR 0 7) (fun c1 => ?_) (fun c1 => ?_)
  · have hf := itep hf c1
    refine lv_iconst (v := J 0) hx hb dX5_sign_23 rfl ?_
    cases hf
    exact K2 _ _ _ (by decide : inR 0)  hP hS (lv_sub hl [] rfl)
  · have hf := iten hf c1
    refine lv_aload_n hx hb dX5_sign_11 rfl (lv_at hl 0 rfl) ?_
    refine va_get (D := D) (ci := 5) (v := .ref (ad 5)) (C := RX5) (T := TX5) (N := 23) hx hb hts hinX5 hown hK hP 0 (wL_get (by decide) (gY_0 _)) rfl 6 (by decide) (hts (.fieldLink RX5 23 "VisitVansModel" "pad" "[I") (List.mem_of_getElem? (i := 3) rfl)) (fun _ h => h) rfl dX5_sign_12 ?_
    refine lv_aload_n hx hb dX5_sign_15 rfl (lv_at hl 0 rfl) ?_
    refine va_get (D := D) (ci := 5) (v := .int (J (M 0 19))) (C := RX5) (T := TX5) (N := 23) hx hb hts hinX5 hown hK hP 0 (wL_get (by decide) (gY_0 _)) rfl 19 (by decide) (hts (.fieldLink RX5 190 "VisitVansModel" "at" "I") (List.mem_of_getElem? (i := 1) rfl)) (fun _ h => h) rfl dX5_sign_16 ?_
    obtain ⟨v3, qv3, hf⟩ := bnd_some hf
    obtain ⟨bv3, ev3⟩ := rd_some qv3
    have rv3 : inR v3 := by rw [ev3]; exact hR _ _
    refine jx_iald hx hb hK hP 5 0 (by decide) gY_5 rfl (by decide) bv3 ev3 dX5_sign_19 ?_
    refine lv_goto (tgt := 24) hx hb dX5_sign_20 (by decide) ?_
    cases hf
    exact K2 _ _ _ rv3  hP hS (lv_sub hl [] rfl)
def fX5_wants (a1 : Int) (M : MM) : Option (MM) := bnd (if (M 0 20) = 0 then some ((0 : Int)) else bnd (fX5_sign M) (fun v3 => if v3 = a1 then some ((1 : Int)) else some ((0 : Int)))) (fun y2_0 => gd (y2_0 = 0 ∨ y2_0 = 1) (bnd (some (stM M 0 20 y2_0)) (fun M7 => bnd (if (M7 0 20) = 0 then some ((0 : Int)) else some ((1 : Int))) (fun y9_0 => gd (inR ((M7 0 19) + y9_0)) (bnd (some (stM M7 0 19 ((M7 0 19) + y9_0))) (fun M11 => some M11))))))
set_option maxHeartbeats 4000000 in
set_option maxRecDepth 100000 in
theorem kX5_wants (l : Launch) (D : va_G) (ca : Nat → ClassId) (ad : Nat → Nat) (hI : aInj 18 ad) (M : MM) (hR : RR M) (a1 : Int) (i1 : inR a1) (M' : MM) (hf : fX5_wants a1 M = some M') : CV l yX5_wants wsX5_wants 1 20 [.ref (ad 0), .int (J a1)] (PY D ca ad M) (RR M') (OY D ca ad M') (aS 18 ad) := by
  refine Met.ofW (cc := cX5_wants) (maxL := 2) (ret := none) (by decide) rfl ?_
  intro p e s m args below meth c s₁ B hml hv
  obtain ⟨rfl, hP, hK⟩ := hv
  have hx := B.exec
  have hb := B.bytes
  have hr := B.returns
  have hts := atoms_spec (ws := wsX5_wants) B.pre
  have hown : s.vm.findClass RX5 = some m.cls := findClass_of_methodNamed B.named
  have hlocks := B.notSynchronized
  have hS : va_S (aS 18 ad) s.heap s.heap [] := va_S.rf
  have hinX5 : ∀ w ∈ wsX50, w ∈ wsX5_wants := by decide +kernel
  have hl := lv_entry ([.ref (ad 0), .int (J a1)]) (n := 2) (Nat.le_of_ble_eq_true rfl)
  rw [lg_entry_eq]
  generalize (lg_sl ([.ref (ad 0), .int (J a1)]) ++ List.replicate (2 - (lg_sl ([.ref (ad 0), .int (J a1)])).length) Slot.unset).toArray = ls at hl ⊢
  have hl : lv_has ls 2 [(0, .ref (ad 0)), (1, .int (J a1))] := hl
  unfold fX5_wants at hf
  refine lv_aload_n hx hb dX5_wants_0 rfl (lv_at hl 0 rfl) ?_
  refine lv_aload_n hx hb dX5_wants_1 rfl (lv_at hl 0 rfl) ?_
  refine va_get (D := D) (ci := 5) (v := .int (J (M 0 20))) (C := RX5) (T := TX5) (N := 23) hx hb hts hinX5 hown hK hP 0 (wL_get (by decide) (gY_0 _)) rfl 20 (by decide) (hts (.fieldLink RX5 193 "VisitVansModel" "isWell" "Z") (List.mem_of_getElem? (i := 1) rfl)) (fun _ h => h) rfl dX5_wants_2 ?_
  obtain ⟨y2_0, h2, hf⟩ := bnd_some hf
  have K2 : ∀ (H : Heap) (locs : List Loc) (ls : Array Slot), inR y2_0 → va_P D vwCl (wY ca ad M) H → va_S (aS 18 ad) s.heap H locs → lv_has ls 2 [(0, .ref (ad 0))] → W p l e (headSpec wsX5_wants (RmC 1 20)).room s m ([.ref (ad 0), .int (J a1)] : List Value).toArray below meth c H locs 0 0 (MQ below (va_Qv (fun (_ : Unit) => (RR M')) (fun _ => (OY D ca ad M')) (aS 18 ad)) ([.ref (ad 0), .int (J a1)] : List Value).toArray s 0 0 (aS 18 ad)) (F0 m 21 ls [.int (J y2_0), .ref (ad 0)]) := by
    intro H locs ls ry2_0  hP hS hl
    obtain ⟨g6, hf⟩ := gd_some hf
    obtain ⟨M7, eM7, hf⟩ := bnd_some hf
    have eM7 := Option.some.inj eM7
    have hRM7 : RR M7 := by rw [← eM7]; exact RR_st hR 0 20 (J_bR g6)
    refine va_put (D := D) (ci := 5) (v := .int (J y2_0)) (ty := .boolean) (C := RX5) (T := TX5) (N := 23) hx hb hts hinX5 tyX5 tyX5_ok nmX5 hown hK hP (wL_D hI M) hS 0 (wL_get (by decide) (gY_0 _)) rfl 20 (by decide) (hts (.fieldLink RX5 193 "VisitVansModel" "isWell" "Z") (List.mem_of_getElem? (i := 1) rfl)) (fun _ h => h) rfl rfl (J_wZ g6).1 (J_wZ g6).2 (Nat.le_of_ble_eq_true rfl) dX5_wants_21 (fun H locs hP hD hS => ?_)
    have hP : va_P D vwCl (wY ca ad M7) H := by rw [← eM7]; exact hPset (gY_0_s20) stM_o hP
    refine lv_aload_n hx hb dX5_wants_24 rfl (lv_at hl 0 rfl) ?_
    refine lv_dup hx hb dX5_wants_25 rfl ?_
    refine va_get (D := D) (ci := 5) (v := .int (J (M7 0 19))) (C := RX5) (T := TX5) (N := 23) hx hb hts hinX5 hown hK hP 0 (wL_get (by decide) (gY_0 _)) rfl 19 (by decide) (hts (.fieldLink RX5 190 "VisitVansModel" "at" "I") (List.mem_of_getElem? (i := 2) rfl)) (fun _ h => h) rfl dX5_wants_26 ?_
    refine lv_aload_n hx hb dX5_wants_29 rfl (lv_at hl 0 rfl) ?_
    refine va_get (D := D) (ci := 5) (v := .int (J (M7 0 20))) (C := RX5) (T := TX5) (N := 23) hx hb hts hinX5 hown hK hP 0 (wL_get (by decide) (gY_0 _)) rfl 20 (by decide) (hts (.fieldLink RX5 193 "VisitVansModel" "isWell" "Z") (List.mem_of_getElem? (i := 1) rfl)) (fun _ h => h) rfl dX5_wants_30 ?_
    obtain ⟨y9_0, h9, hf⟩ := bnd_some hf
    have K9 : ∀ (H : Heap) (locs : List Loc) (ls : Array Slot), inR y9_0 → va_P D vwCl (wY ca ad M7) H → va_S (aS 18 ad) s.heap H locs → lv_has ls 2 [] → W p l e (headSpec wsX5_wants (RmC 1 20)).room s m ([.ref (ad 0), .int (J a1)] : List Value).toArray below meth c H locs 0 0 (MQ below (va_Qv (fun (_ : Unit) => (RR M')) (fun _ => (OY D ca ad M')) (aS 18 ad)) ([.ref (ad 0), .int (J a1)] : List Value).toArray s 0 0 (aS 18 ad)) (F0 m 41 ls [.int (J y9_0), .int (J (M7 0 19)), .ref (ad 0)]) := by
      intro H locs ls ry9_0  hP hS hl
      refine jv_iadd hx hb dX5_wants_41 ?_
      obtain ⟨g10, hf⟩ := gd_some hf
      obtain ⟨M11, eM11, hf⟩ := bnd_some hf
      have eM11 := Option.some.inj eM11
      have hRM11 : RR M11 := by rw [← eM11]; exact RR_st hRM7 0 19 g10
      refine va_put (D := D) (ci := 5) (v := .int (J ((M7 0 19) + y9_0))) (ty := .int) (C := RX5) (T := TX5) (N := 23) hx hb hts hinX5 tyX5 tyX5_ok nmX5 hown hK hP (wL_D hI M7) hS 0 (wL_get (by decide) (gY_0 _)) rfl 19 (by decide) (hts (.fieldLink RX5 190 "VisitVansModel" "at" "I") (List.mem_of_getElem? (i := 2) rfl)) (fun _ h => h) rfl rfl rfl rfl (Nat.le_of_ble_eq_true rfl) dX5_wants_42 (fun H locs hP hD hS => ?_)
      have hP : va_P D vwCl (wY ca ad M11) H := by rw [← eM11]; exact hPset (gY_0_s19) stM_o hP
      have e2 := Option.some.inj hf
      exact jend_v hx hb hr hS (by rw [← e2]; exact hRM11) (oY e2 hP) dX5_wants_45 hlocks
    have hf := h9
    clear h9
    refine jv_if_eq (tgt := 40) hx hb dX5_wants_33 (by decide) (hRM7 0 20) (fun c8 => ?_) (fun c8 => ?_)
    · have hf := itep hf c8
      refine lv_iconst (v := J 0) hx hb dX5_wants_40 rfl ?_
      cases hf
      exact K9 _ _ _ (by decide : inR 0)  hP hS (lv_sub hl [] rfl)
    · have hf := iten hf c8
      refine lv_iconst (v := J 1) hx hb dX5_wants_36 rfl ?_
      refine lv_goto (tgt := 41) hx hb dX5_wants_37 (by decide) ?_
      cases hf
      exact K9 _ _ _ (by decide : inR 1)  hP hS (lv_sub hl [] rfl)
  have hf := h2
  clear h2
  refine jv_if_eq (tgt := 20) hx hb dX5_wants_5 (by decide) (hR 0 20) (fun c1 => ?_) (fun c1 => ?_)
  · have hf := itep hf c1
    refine lv_iconst (v := J 0) hx hb dX5_wants_20 rfl ?_
    cases hf
    exact K2 _ _ _ (by decide : inR 0)  hP hS (lv_sub hl [0] rfl)
  · have hf := iten hf c1
    refine lv_aload_n hx hb dX5_wants_8 rfl (lv_at hl 0 rfl) ?_
    obtain ⟨v3, qv3, hf⟩ := bnd_some hf
    refine jc_i (va_runV (As := []) (rest := [.ref (ad 0)]) ⟨hx, hb, hml, hown, hts⟩ (kX5_sign l D ca ad hI M hR v3 qv3) (cwV 0 hts gX5_wants_X5_sign rfl rfl rfl (by decide +kernel) ⟨Nat.le_of_ble_eq_true rfl, Nat.le_of_ble_eq_true rfl⟩) (pvY hK hP []) rfl rfl hl.1 rfl (lv_room (Nat.le_of_ble_eq_true rfl)) dX5_wants_9 ⟨Nat.zero_le _, Nat.zero_le _⟩) hS (fun H locs t ht hφ hO hS => ?_)
    have rv3 := hφ
    have hP : va_P D vwCl (wY ca ad M) H := by rw [← ht]; exact hO
    refine lv_iload_n hx hb dX5_wants_12 rfl (lv_at hl 1 rfl) ?_
    refine jv_icmp_ne (tgt := 20) hx hb dX5_wants_13 (by decide) rv3 i1 (fun c5 => ?_) (fun c5 => ?_)
    · have hf := iten hf c5
      refine lv_iconst (v := J 0) hx hb dX5_wants_20 rfl ?_
      cases hf
      exact K2 _ _ _ (by decide : inR 0)  hP hS (lv_sub hl [0] rfl)
    · have hf := itep hf c5
      refine lv_iconst (v := J 1) hx hb dX5_wants_16 rfl ?_
      refine lv_goto (tgt := 21) hx hb dX5_wants_17 (by decide) ?_
      cases hf
      exact K2 _ _ _ (by decide : inR 1)  hP hS (lv_sub hl [0] rfl)
def fX5_digit (a1 : Int) (M : MM) : Option (Int × MM) := bnd (if (M 0 20) = 0 then some ((0 : Int)) else bnd (fX5_sign M) (fun v3 => gd (inR (48 + a1)) (bnd (fX5_in v3 48 (48 + a1)) (fun v6 => if v6 = 0 then some ((0 : Int)) else some ((1 : Int)))))) (fun y2_0 => gd (y2_0 = 0 ∨ y2_0 = 1) (bnd (some (stM M 0 20 y2_0)) (fun M10 => bnd (fX5_sign M10) (fun v11 => bnd (if (M10 0 20) = 0 then some ((0 : Int)) else some ((1 : Int))) (fun y14_0 => gd (inR ((M10 0 19) + y14_0)) (bnd (some (stM M10 0 19 ((M10 0 19) + y14_0))) (fun M16 => gd (inR (v11 - 48)) (some ((v11 - 48), M16)))))))))
set_option maxHeartbeats 4000000 in
set_option maxRecDepth 100000 in
theorem kX5_digit (l : Launch) (D : va_G) (ca : Nat → ClassId) (ad : Nat → Nat) (hI : aInj 18 ad) (M : MM) (hR : RR M) (a1 : Int) (i1 : inR a1) (res : Int) (M' : MM) (hf : fX5_digit a1 M = some (res, M')) : CI l yX5_digit wsX5_digit 1 22 [.ref (ad 0), .int (J a1)] (PY D ca ad M) res (inR res ∧ RR M') (OY D ca ad M') (aS 18 ad) := by
  refine Met.ofW (cc := cX5_digit) (maxL := 3) (ret := (some .int)) (by decide) rfl ?_
  intro p e s m args below meth c s₁ B hml hv
  obtain ⟨rfl, hP, hK⟩ := hv
  have hx := B.exec
  have hb := B.bytes
  have hr := B.returns
  have hts := atoms_spec (ws := wsX5_digit) B.pre
  have hown : s.vm.findClass RX5 = some m.cls := findClass_of_methodNamed B.named
  have hlocks := B.notSynchronized
  have hS : va_S (aS 18 ad) s.heap s.heap [] := va_S.rf
  have hinX5 : ∀ w ∈ wsX50, w ∈ wsX5_digit := by decide +kernel
  have hl := lv_entry ([.ref (ad 0), .int (J a1)]) (n := 3) (Nat.le_of_ble_eq_true rfl)
  rw [lg_entry_eq]
  generalize (lg_sl ([.ref (ad 0), .int (J a1)]) ++ List.replicate (3 - (lg_sl ([.ref (ad 0), .int (J a1)])).length) Slot.unset).toArray = ls at hl ⊢
  have hl : lv_has ls 3 [(0, .ref (ad 0)), (1, .int (J a1))] := hl
  unfold fX5_digit at hf
  refine lv_aload_n hx hb dX5_digit_0 rfl (lv_at hl 0 rfl) ?_
  refine lv_aload_n hx hb dX5_digit_1 rfl (lv_at hl 0 rfl) ?_
  refine va_get (D := D) (ci := 5) (v := .int (J (M 0 20))) (C := RX5) (T := TX5) (N := 23) hx hb hts hinX5 hown hK hP 0 (wL_get (by decide) (gY_0 _)) rfl 20 (by decide) (hts (.fieldLink RX5 193 "VisitVansModel" "isWell" "Z") (List.mem_of_getElem? (i := 1) rfl)) (fun _ h => h) rfl dX5_digit_2 ?_
  obtain ⟨y2_0, h2, hf⟩ := bnd_some hf
  have K2 : ∀ (H : Heap) (locs : List Loc) (ls : Array Slot), inR y2_0 → va_P D vwCl (wY ca ad M) H → va_S (aS 18 ad) s.heap H locs → lv_has ls 3 [(0, .ref (ad 0))] → W p l e (headSpec wsX5_digit (RmC 1 22)).room s m ([.ref (ad 0), .int (J a1)] : List Value).toArray below meth c H locs 0 0 (MQ below (va_Qi (fun x (_ : Unit) => x = J res ∧ (inR res ∧ RR M')) (fun _ => (OY D ca ad M')) (aS 18 ad)) ([.ref (ad 0), .int (J a1)] : List Value).toArray s 0 0 (aS 18 ad)) (F0 m 29 ls [.int (J y2_0), .ref (ad 0)]) := by
    intro H locs ls ry2_0  hP hS hl
    obtain ⟨g9, hf⟩ := gd_some hf
    obtain ⟨M10, eM10, hf⟩ := bnd_some hf
    have eM10 := Option.some.inj eM10
    have hRM10 : RR M10 := by rw [← eM10]; exact RR_st hR 0 20 (J_bR g9)
    refine va_put (D := D) (ci := 5) (v := .int (J y2_0)) (ty := .boolean) (C := RX5) (T := TX5) (N := 23) hx hb hts hinX5 tyX5 tyX5_ok nmX5 hown hK hP (wL_D hI M) hS 0 (wL_get (by decide) (gY_0 _)) rfl 20 (by decide) (hts (.fieldLink RX5 193 "VisitVansModel" "isWell" "Z") (List.mem_of_getElem? (i := 1) rfl)) (fun _ h => h) rfl rfl (J_wZ g9).1 (J_wZ g9).2 (Nat.le_of_ble_eq_true rfl) dX5_digit_29 (fun H locs hP hD hS => ?_)
    have hP : va_P D vwCl (wY ca ad M10) H := by rw [← eM10]; exact hPset (gY_0_s20) stM_o hP
    refine lv_aload_n hx hb dX5_digit_32 rfl (lv_at hl 0 rfl) ?_
    obtain ⟨v11, qv11, hf⟩ := bnd_some hf
    refine jc_i (va_runV (As := []) (rest := []) ⟨hx, hb, hml, hown, hts⟩ (kX5_sign l D ca ad hI M10 hRM10 v11 qv11) (cwV 0 hts gX5_digit_X5_sign rfl rfl rfl (by decide +kernel) ⟨Nat.le_of_ble_eq_true rfl, Nat.le_of_ble_eq_true rfl⟩) (pvY hK hP []) rfl rfl hl.1 rfl (lv_room (Nat.le_of_ble_eq_true rfl)) dX5_digit_33 ⟨Nat.zero_le _, Nat.zero_le _⟩) hS (fun H locs t ht hφ hO hS => ?_)
    have rv11 := hφ
    have hP : va_P D vwCl (wY ca ad M10) H := by rw [← ht]; exact hO
    refine lv_bipush (v := J 48) hx hb dX5_digit_36 (by decide +kernel) ?_
    refine jv_isub hx hb dX5_digit_38 ?_
    refine lv_istore_n (lv' := [(2, .int (J (v11 - 48))), (0, .ref (ad 0))]) hx hb dX5_digit_39 rfl hl (by decide) rfl (fun ls hl => ?_)
    refine lv_aload_n hx hb dX5_digit_40 rfl (lv_at hl 1 rfl) ?_
    refine lv_dup hx hb dX5_digit_41 rfl ?_
    refine va_get (D := D) (ci := 5) (v := .int (J (M10 0 19))) (C := RX5) (T := TX5) (N := 23) hx hb hts hinX5 hown hK hP 0 (wL_get (by decide) (gY_0 _)) rfl 19 (by decide) (hts (.fieldLink RX5 190 "VisitVansModel" "at" "I") (List.mem_of_getElem? (i := 2) rfl)) (fun _ h => h) rfl dX5_digit_42 ?_
    refine lv_aload_n hx hb dX5_digit_45 rfl (lv_at hl 1 rfl) ?_
    refine va_get (D := D) (ci := 5) (v := .int (J (M10 0 20))) (C := RX5) (T := TX5) (N := 23) hx hb hts hinX5 hown hK hP 0 (wL_get (by decide) (gY_0 _)) rfl 20 (by decide) (hts (.fieldLink RX5 193 "VisitVansModel" "isWell" "Z") (List.mem_of_getElem? (i := 1) rfl)) (fun _ h => h) rfl dX5_digit_46 ?_
    obtain ⟨y14_0, h14, hf⟩ := bnd_some hf
    have K14 : ∀ (H : Heap) (locs : List Loc) (ls : Array Slot), inR y14_0 → va_P D vwCl (wY ca ad M10) H → va_S (aS 18 ad) s.heap H locs → lv_has ls 3 [(2, .int (J (v11 - 48)))] → W p l e (headSpec wsX5_digit (RmC 1 22)).room s m ([.ref (ad 0), .int (J a1)] : List Value).toArray below meth c H locs 0 0 (MQ below (va_Qi (fun x (_ : Unit) => x = J res ∧ (inR res ∧ RR M')) (fun _ => (OY D ca ad M')) (aS 18 ad)) ([.ref (ad 0), .int (J a1)] : List Value).toArray s 0 0 (aS 18 ad)) (F0 m 57 ls [.int (J y14_0), .int (J (M10 0 19)), .ref (ad 0)]) := by
      intro H locs ls ry14_0  hP hS hl
      refine jv_iadd hx hb dX5_digit_57 ?_
      obtain ⟨g15, hf⟩ := gd_some hf
      obtain ⟨M16, eM16, hf⟩ := bnd_some hf
      have eM16 := Option.some.inj eM16
      have hRM16 : RR M16 := by rw [← eM16]; exact RR_st hRM10 0 19 g15
      refine va_put (D := D) (ci := 5) (v := .int (J ((M10 0 19) + y14_0))) (ty := .int) (C := RX5) (T := TX5) (N := 23) hx hb hts hinX5 tyX5 tyX5_ok nmX5 hown hK hP (wL_D hI M10) hS 0 (wL_get (by decide) (gY_0 _)) rfl 19 (by decide) (hts (.fieldLink RX5 190 "VisitVansModel" "at" "I") (List.mem_of_getElem? (i := 2) rfl)) (fun _ h => h) rfl rfl rfl rfl (Nat.le_of_ble_eq_true rfl) dX5_digit_58 (fun H locs hP hD hS => ?_)
      have hP : va_P D vwCl (wY ca ad M16) H := by rw [← eM16]; exact hPset (gY_0_s19) stM_o hP
      refine lv_iload_n hx hb dX5_digit_61 rfl (lv_at hl 0 rfl) ?_
      obtain ⟨g17, hf⟩ := gd_some hf
      obtain ⟨e1, e2⟩ := Prod.mk.inj (Option.some.inj hf)
      exact jend_i hx hb hr rfl hS e1 ⟨by rw [← e1]; exact g17, by rw [← e2]; exact hRM16⟩ (oY e2 hP) dX5_digit_62 hlocks
    have hf := h14
    clear h14
    refine jv_if_eq (tgt := 56) hx hb dX5_digit_49 (by decide) (hRM10 0 20) (fun c13 => ?_) (fun c13 => ?_)
    · have hf := itep hf c13
      refine lv_iconst (v := J 0) hx hb dX5_digit_56 rfl ?_
      cases hf
      exact K14 _ _ _ (by decide : inR 0)  hP hS (lv_sub hl [0] rfl)
    · have hf := iten hf c13
      refine lv_iconst (v := J 1) hx hb dX5_digit_52 rfl ?_
      refine lv_goto (tgt := 57) hx hb dX5_digit_53 (by decide) ?_
      cases hf
      exact K14 _ _ _ (by decide : inR 1)  hP hS (lv_sub hl [0] rfl)
  have hf := h2
  clear h2
  refine jv_if_eq (tgt := 28) hx hb dX5_digit_5 (by decide) (hR 0 20) (fun c1 => ?_) (fun c1 => ?_)
  · have hf := itep hf c1
    refine lv_iconst (v := J 0) hx hb dX5_digit_28 rfl ?_
    cases hf
    exact K2 _ _ _ (by decide : inR 0)  hP hS (lv_sub hl [0] rfl)
  · have hf := iten hf c1
    refine lv_aload_n hx hb dX5_digit_8 rfl (lv_at hl 0 rfl) ?_
    obtain ⟨v3, qv3, hf⟩ := bnd_some hf
    refine jc_i (va_runV (As := []) (rest := [.ref (ad 0)]) ⟨hx, hb, hml, hown, hts⟩ (kX5_sign l D ca ad hI M hR v3 qv3) (cwV 0 hts gX5_digit_X5_sign rfl rfl rfl (by decide +kernel) ⟨Nat.le_of_ble_eq_true rfl, Nat.le_of_ble_eq_true rfl⟩) (pvY hK hP []) rfl rfl hl.1 rfl (lv_room (Nat.le_of_ble_eq_true rfl)) dX5_digit_9 ⟨Nat.zero_le _, Nat.zero_le _⟩) hS (fun H locs t ht hφ hO hS => ?_)
    have rv3 := hφ
    have hP : va_P D vwCl (wY ca ad M) H := by rw [← ht]; exact hO
    refine lv_bipush (v := J 48) hx hb dX5_digit_12 (by decide +kernel) ?_
    refine lv_bipush (v := J 48) hx hb dX5_digit_14 (by decide +kernel) ?_
    refine lv_iload_n hx hb dX5_digit_16 rfl (lv_at hl 1 rfl) ?_
    refine jv_iadd hx hb dX5_digit_17 ?_
    obtain ⟨g5, hf⟩ := gd_some hf
    obtain ⟨v6, qv6, hf⟩ := bnd_some hf
    refine jc_i (va_runS (As := [.int (J v3), .int (J 48), .int (J (48 + a1))]) (rest := [.ref (ad 0)]) ⟨hx, hb, hml, hown, hts⟩ (kX5_in l D ca ad hI M hR v3 48 (48 + a1) rv3 (by decide : inR 48) g5 v6 qv6) (va_cwS 3 hts gX5_digit_X5_in rfl rfl rfl (by decide +kernel) ⟨Nat.le_of_ble_eq_true rfl, Nat.le_of_ble_eq_true rfl⟩) (psY hK hP [.int (J v3), .int (J 48), .int (J (48 + a1))]) rfl rfl hl.1 rfl (lv_room (Nat.le_of_ble_eq_true rfl)) dX5_digit_18 ⟨Nat.zero_le _, Nat.zero_le _⟩) hS (fun H locs t ht hφ hO hS => ?_)
    have rv6 := hφ
    have hP : va_P D vwCl (wY ca ad M) H := by rw [← ht]; exact hO
    refine jv_if_eq (tgt := 28) hx hb dX5_digit_21 (by decide) rv6 (fun c8 => ?_) (fun c8 => ?_)
    · have hf := itep hf c8
      refine lv_iconst (v := J 0) hx hb dX5_digit_28 rfl ?_
      cases hf
      exact K2 _ _ _ (by decide : inR 0)  hP hS (lv_sub hl [0] rfl)
    · have hf := iten hf c8
      refine lv_iconst (v := J 1) hx hb dX5_digit_24 rfl ?_
      refine lv_goto (tgt := 29) hx hb dX5_digit_25 (by decide) ?_
      cases hf
      exact K2 _ _ _ (by decide : inR 1)  hP hS (lv_sub hl [0] rfl)
def fX5_number_L9 : Nat → Int → Int → MM → Option (Int × MM)
  | 0, _, _, _ => none
  | n + 1, x1_3, x2_3, M_3 => if 3 ≤ x2_3 then some (x1_3, M_3) else if (M_3 0 20) = 0 then some (x1_3, M_3) else if x1_3 ≤ 0 then some (x1_3, M_3) else bnd (fX5_sign M_3) (fun v7 => bnd (fX5_in v7 48 57) (fun v9 => if v9 = 0 then some (x1_3, M_3) else bnd (fX5_sign M_3) (fun v12 => gd (inR ((M_3 0 19) + 1)) (bnd (some (stM M_3 0 19 ((M_3 0 19) + 1))) (fun M15 => gd (inR (((10 * x1_3) + v12) - 48)) (gd (inR (x2_3 + 1)) (fX5_number_L9 n (((10 * x1_3) + v12) - 48) (x2_3 + 1) M15)))))))
def fX5_number (M : MM) : Option (Int × MM) := bnd2 (fX5_digit 9 M) (fun v1 M2 => bnd2 (fX5_number_L9 4000 v1 1 M2) (fun y3_0 N_3 => some (y3_0, N_3)))
set_option maxHeartbeats 4000000 in
set_option maxRecDepth 100000 in
theorem kX5_number (l : Launch) (D : va_G) (ca : Nat → ClassId) (ad : Nat → Nat) (hI : aInj 18 ad) (M : MM) (hR : RR M) (res : Int) (M' : MM) (hf : fX5_number M = some (res, M')) : CI l yX5_number wsX5_number 2 44 [.ref (ad 0)] (PY D ca ad M) res (inR res ∧ RR M') (OY D ca ad M') (aS 18 ad) := by
  refine Met.ofW (cc := cX5_number) (maxL := 3) (ret := (some .int)) (by decide) rfl ?_
  intro p e s m args below meth c s₁ B hml hv
  obtain ⟨rfl, hP, hK⟩ := hv
  have hx := B.exec
  have hb := B.bytes
  have hr := B.returns
  have hts := atoms_spec (ws := wsX5_number) B.pre
  have hown : s.vm.findClass RX5 = some m.cls := findClass_of_methodNamed B.named
  have hlocks := B.notSynchronized
  have hS : va_S (aS 18 ad) s.heap s.heap [] := va_S.rf
  have hinX5 : ∀ w ∈ wsX50, w ∈ wsX5_number := by decide +kernel
  have hl := lv_entry ([.ref (ad 0)]) (n := 3) (Nat.le_of_ble_eq_true rfl)
  rw [lg_entry_eq]
  generalize (lg_sl ([.ref (ad 0)]) ++ List.replicate (3 - (lg_sl ([.ref (ad 0)])).length) Slot.unset).toArray = ls at hl ⊢
  have hl : lv_has ls 3 [(0, .ref (ad 0))] := hl
  unfold fX5_number at hf
  refine lv_aload_n hx hb dX5_number_0 rfl (lv_at hl 0 rfl) ?_
  refine lv_bipush (v := J 9) hx hb dX5_number_1 (by decide +kernel) ?_
  obtain ⟨v1, M2, qv1, hf⟩ := bnd2_some hf
  refine jc_i (va_runV (As := [.int (J 9)]) (rest := []) ⟨hx, hb, hml, hown, hts⟩ (kX5_digit l D ca ad hI M hR 9 (by decide : inR 9) v1 M2 qv1) (cwV 1 hts gX5_number_X5_digit rfl rfl rfl (by decide +kernel) ⟨Nat.le_of_ble_eq_true rfl, Nat.le_of_ble_eq_true rfl⟩) (pvY hK hP [.int (J 9)]) rfl rfl hl.1 rfl (lv_room (Nat.le_of_ble_eq_true rfl)) dX5_number_3 ⟨Nat.zero_le _, Nat.zero_le _⟩) hS (fun H locs t ht hφ hO hS => ?_)
  obtain ⟨rv1, hRM2⟩ := hφ
  have hP : va_P D vwCl (wY ca ad M2) H := by rw [← ht]; exact hO
  refine lv_istore_n (lv' := [(1, .int (J v1)), (0, .ref (ad 0))]) hx hb dX5_number_6 rfl hl (by decide) rfl (fun ls hl => ?_)
  refine lv_iconst (v := J 1) hx hb dX5_number_7 rfl ?_
  refine lv_istore_n (lv' := [(2, .int (J 1)), (1, .int (J v1)), (0, .ref (ad 0))]) hx hb dX5_number_8 rfl hl (by decide) rfl (fun ls hl => ?_)
  obtain ⟨y3_0, N_3, h3, hf⟩ := bnd2_some hf
  have K3 : ∀ (H : Heap) (locs : List Loc) (ls : Array Slot), inR y3_0 → RR N_3 → va_P D vwCl (wY ca ad N_3) H → va_S (aS 18 ad) s.heap H locs → lv_has ls 3 [(1, .int (J y3_0))] → W p l e (headSpec wsX5_number (RmC 2 44)).room s m ([.ref (ad 0)] : List Value).toArray below meth c H locs 0 0 (MQ below (va_Qi (fun x (_ : Unit) => x = J res ∧ (inR res ∧ RR M')) (fun _ => (OY D ca ad M')) (aS 18 ad)) ([.ref (ad 0)] : List Value).toArray s 0 0 (aS 18 ad)) (F0 m 68 ls []) := by
    intro H locs ls ry3_0 hRN_3 hP hS hl
    refine lv_iload_n hx hb dX5_number_68 rfl (lv_at hl 0 rfl) ?_
    obtain ⟨e1, e2⟩ := Prod.mk.inj (Option.some.inj hf)
    exact jend_i hx hb hr rfl hS e1 ⟨by rw [← e1]; exact ry3_0, by rw [← e2]; exact hRN_3⟩ (oY e2 hP) dX5_number_69 hlocks
  have hL3 : ∀ (n : Nat) (x1_3 : Int) (x2_3 : Int) (M_3 : MM) (H : Heap) (locs : List Loc) (ls : Array Slot), inR x1_3 → inR x2_3 → RR M_3 → va_P D vwCl (wY ca ad M_3) H → va_S (aS 18 ad) s.heap H locs → lv_has ls 3 [(0, .ref (ad 0)), (1, .int (J x1_3)), (2, .int (J x2_3))] → fX5_number_L9 n x1_3 x2_3 M_3 = some (y3_0, N_3) → W p l e (headSpec wsX5_number (RmC 2 44)).room s m ([.ref (ad 0)] : List Value).toArray below meth c H locs 0 0 (MQ below (va_Qi (fun x (_ : Unit) => x = J res ∧ (inR res ∧ RR M')) (fun _ => (OY D ca ad M')) (aS 18 ad)) ([.ref (ad 0)] : List Value).toArray s 0 0 (aS 18 ad)) (F0 m 9 ls []) := by
    intro n
    induction n with
    | zero =>
      intro x1_3 x2_3 M_3 H locs ls rx1_3 rx2_3 hRM_3 hP hS hl hf
      rw [fX5_number_L9] at hf
      cases hf
    | succ n ih =>
      intro x1_3 x2_3 M_3 H locs ls rx1_3 rx2_3 hRM_3 hP hS hl hf
      rw [fX5_number_L9] at hf
      refine lv_iload_n hx hb dX5_number_9 rfl (lv_at hl 2 rfl) ?_
      refine lv_iconst (v := J 3) hx hb dX5_number_10 rfl ?_
      refine jv_icmp_ge (tgt := 68) hx hb dX5_number_11 (by decide) rx2_3 (by decide : inR 3) (fun c4 => ?_) (fun c4 => ?_)
      · have hf := itep hf c4
        cases hf
        exact K3 _ _ _ rx1_3 hRM_3 hP hS (lv_sub hl [1] rfl)
      · have hf := iten hf c4
        refine lv_aload_n hx hb dX5_number_14 rfl (lv_at hl 0 rfl) ?_
        refine va_get (D := D) (ci := 5) (v := .int (J (M_3 0 20))) (C := RX5) (T := TX5) (N := 23) hx hb hts hinX5 hown hK hP 0 (wL_get (by decide) (gY_0 _)) rfl 20 (by decide) (hts (.fieldLink RX5 193 "VisitVansModel" "isWell" "Z") (List.mem_of_getElem? (i := 1) rfl)) (fun _ h => h) rfl dX5_number_15 ?_
        refine jv_if_eq (tgt := 68) hx hb dX5_number_18 (by decide) (hRM_3 0 20) (fun c5 => ?_) (fun c5 => ?_)
        · have hf := itep hf c5
          cases hf
          exact K3 _ _ _ rx1_3 hRM_3 hP hS (lv_sub hl [1] rfl)
        · have hf := iten hf c5
          refine lv_iload_n hx hb dX5_number_21 rfl (lv_at hl 1 rfl) ?_
          refine jv_if_le (tgt := 68) hx hb dX5_number_22 (by decide) rx1_3 (fun c6 => ?_) (fun c6 => ?_)
          · have hf := itep hf c6
            cases hf
            exact K3 _ _ _ rx1_3 hRM_3 hP hS (lv_sub hl [1] rfl)
          · have hf := iten hf c6
            refine lv_aload_n hx hb dX5_number_25 rfl (lv_at hl 0 rfl) ?_
            obtain ⟨v7, qv7, hf⟩ := bnd_some hf
            refine jc_i (va_runV (As := []) (rest := []) ⟨hx, hb, hml, hown, hts⟩ (kX5_sign l D ca ad hI M_3 hRM_3 v7 qv7) (cwV 0 hts gX5_number_X5_sign rfl rfl rfl (by decide +kernel) ⟨Nat.le_of_ble_eq_true rfl, Nat.le_of_ble_eq_true rfl⟩) (pvY hK hP []) rfl rfl hl.1 rfl (lv_room (Nat.le_of_ble_eq_true rfl)) dX5_number_26 ⟨Nat.zero_le _, Nat.zero_le _⟩) hS (fun H locs t ht hφ hO hS => ?_)
            have rv7 := hφ
            have hP : va_P D vwCl (wY ca ad M_3) H := by rw [← ht]; exact hO
            refine lv_bipush (v := J 48) hx hb dX5_number_29 (by decide +kernel) ?_
            refine lv_bipush (v := J 57) hx hb dX5_number_31 (by decide +kernel) ?_
            obtain ⟨v9, qv9, hf⟩ := bnd_some hf
            refine jc_i (va_runS (As := [.int (J v7), .int (J 48), .int (J 57)]) (rest := []) ⟨hx, hb, hml, hown, hts⟩ (kX5_in l D ca ad hI M_3 hRM_3 v7 48 57 rv7 (by decide : inR 48) (by decide : inR 57) v9 qv9) (va_cwS 3 hts gX5_number_X5_in rfl rfl rfl (by decide +kernel) ⟨Nat.le_of_ble_eq_true rfl, Nat.le_of_ble_eq_true rfl⟩) (psY hK hP [.int (J v7), .int (J 48), .int (J 57)]) rfl rfl hl.1 rfl (lv_room (Nat.le_of_ble_eq_true rfl)) dX5_number_33 ⟨Nat.zero_le _, Nat.zero_le _⟩) hS (fun H locs t ht hφ hO hS => ?_)
            have rv9 := hφ
            have hP : va_P D vwCl (wY ca ad M_3) H := by rw [← ht]; exact hO
            refine jv_if_eq (tgt := 68) hx hb dX5_number_36 (by decide) rv9 (fun c11 => ?_) (fun c11 => ?_)
            · have hf := itep hf c11
              cases hf
              exact K3 _ _ _ rx1_3 hRM_3 hP hS (lv_sub hl [1] rfl)
            · have hf := iten hf c11
              refine lv_bipush (v := J 10) hx hb dX5_number_39 (by decide +kernel) ?_
              refine lv_iload_n hx hb dX5_number_41 rfl (lv_at hl 1 rfl) ?_
              refine jv_imul hx hb dX5_number_42 ?_
              refine lv_aload_n hx hb dX5_number_43 rfl (lv_at hl 0 rfl) ?_
              obtain ⟨v12, qv12, hf⟩ := bnd_some hf
              refine jc_i (va_runV (As := []) (rest := [.int (J (10 * x1_3))]) ⟨hx, hb, hml, hown, hts⟩ (kX5_sign l D ca ad hI M_3 hRM_3 v12 qv12) (cwV 0 hts gX5_number_X5_sign rfl rfl rfl (by decide +kernel) ⟨Nat.le_of_ble_eq_true rfl, Nat.le_of_ble_eq_true rfl⟩) (pvY hK hP []) rfl rfl hl.1 rfl (lv_room (Nat.le_of_ble_eq_true rfl)) dX5_number_44 ⟨Nat.zero_le _, Nat.zero_le _⟩) hS (fun H locs t ht hφ hO hS => ?_)
              have rv12 := hφ
              have hP : va_P D vwCl (wY ca ad M_3) H := by rw [← ht]; exact hO
              refine jv_iadd hx hb dX5_number_47 ?_
              refine lv_bipush (v := J 48) hx hb dX5_number_48 (by decide +kernel) ?_
              refine jv_isub hx hb dX5_number_50 ?_
              refine lv_istore_n (lv' := [(1, .int (J (((10 * x1_3) + v12) - 48))), (0, .ref (ad 0)), (2, .int (J x2_3))]) hx hb dX5_number_51 rfl hl (by decide) rfl (fun ls hl => ?_)
              refine lv_aload_n hx hb dX5_number_52 rfl (lv_at hl 1 rfl) ?_
              refine lv_dup hx hb dX5_number_53 rfl ?_
              refine va_get (D := D) (ci := 5) (v := .int (J (M_3 0 19))) (C := RX5) (T := TX5) (N := 23) hx hb hts hinX5 hown hK hP 0 (wL_get (by decide) (gY_0 _)) rfl 19 (by decide) (hts (.fieldLink RX5 190 "VisitVansModel" "at" "I") (List.mem_of_getElem? (i := 2) rfl)) (fun _ h => h) rfl dX5_number_54 ?_
              refine lv_iconst (v := J 1) hx hb dX5_number_57 rfl ?_
              refine jv_iadd hx hb dX5_number_58 ?_
              obtain ⟨g14, hf⟩ := gd_some hf
              obtain ⟨M15, eM15, hf⟩ := bnd_some hf
              have eM15 := Option.some.inj eM15
              have hRM15 : RR M15 := by rw [← eM15]; exact RR_st hRM_3 0 19 g14
              refine va_put (D := D) (ci := 5) (v := .int (J ((M_3 0 19) + 1))) (ty := .int) (C := RX5) (T := TX5) (N := 23) hx hb hts hinX5 tyX5 tyX5_ok nmX5 hown hK hP (wL_D hI M_3) hS 0 (wL_get (by decide) (gY_0 _)) rfl 19 (by decide) (hts (.fieldLink RX5 190 "VisitVansModel" "at" "I") (List.mem_of_getElem? (i := 2) rfl)) (fun _ h => h) rfl rfl rfl rfl (Nat.le_of_ble_eq_true rfl) dX5_number_59 (fun H locs hP hD hS => ?_)
              have hP : va_P D vwCl (wY ca ad M15) H := by rw [← eM15]; exact hPset (gY_0_s19) stM_o hP
              refine lv_iinc (v := J (x2_3 + 1)) (lv' := [(2, .int (J (x2_3 + 1))), (1, .int (J (((10 * x1_3) + v12) - 48))), (0, .ref (ad 0))]) hx hb dX5_number_62 hl (k := 2) rfl (J_add _ _) (by decide) rfl (fun ls hl => ?_)
              refine lv_goto (tgt := 9) hx hb dX5_number_65 (by decide) ?_
              obtain ⟨g16, hf⟩ := gd_some hf
              obtain ⟨g17, hf⟩ := gd_some hf
              exact ih _ _ _ _ _ _ g16 g17 hRM15 hP hS (lv_sub hl [2, 1, 0] rfl) hf
  exact hL3 4000 _ _ _ _ _ _ rv1 (by decide : inR 1) hRM2 hP hS (lv_sub hl [2, 1, 0] rfl) h3
def fX5_readsVisit (a1 : Int) (M : MM) : Option (MM) := bnd2 (fX5_number M) (fun v1 M2 => bnd (wr M2 17 294 (a1 + 1) v1) (fun M3 => bnd (fX5_wants 35 M3) (fun M5 => bnd2 (fX5_digit 9 M5) (fun v6 M7 => bnd (wr M7 17 294 (a1 + 2) v6) (fun M8 => bnd (fX5_wants 43 M8) (fun M10 => bnd2 (fX5_digit 9 M10) (fun v11 M12 => bnd (wr M12 17 294 (a1 + 3) v11) (fun M13 => bnd (fX5_wants 42 M13) (fun M15 => bnd2 (fX5_digit 9 M15) (fun v16 M17 => bnd (wr M17 17 294 (a1 + 4) v16) (fun M18 => bnd (fX5_wants 58 M18) (fun M20 => bnd2 (fX5_number M20) (fun v21 M22 => bnd (wr M22 17 294 (a1 + 5) v21) (fun M23 => bnd (fX5_wants 45 M23) (fun M25 => bnd2 (fX5_number M25) (fun v26 M27 => bnd (wr M27 17 294 (a1 + 6) v26) (fun M28 => some M28)))))))))))))))))
set_option maxHeartbeats 4000000 in
set_option maxRecDepth 100000 in
theorem kX5_readsVisit (l : Launch) (D : va_G) (ca : Nat → ClassId) (ad : Nat → Nat) (hI : aInj 18 ad) (M : MM) (hR : RR M) (a1 : Int) (i1 : inR a1) (M' : MM) (hf : fX5_readsVisit a1 M = some M') : CV l yX5_readsVisit wsX5_readsVisit 3 66 [.ref (ad 0), .int (J a1)] (PY D ca ad M) (RR M') (OY D ca ad M') (aS 18 ad) := by
  refine Met.ofW (cc := cX5_readsVisit) (maxL := 2) (ret := none) (by decide) rfl ?_
  intro p e s m args below meth c s₁ B hml hv
  obtain ⟨rfl, hP, hK⟩ := hv
  have hx := B.exec
  have hb := B.bytes
  have hr := B.returns
  have hts := atoms_spec (ws := wsX5_readsVisit) B.pre
  have hown : s.vm.findClass RX5 = some m.cls := findClass_of_methodNamed B.named
  have hlocks := B.notSynchronized
  have hS : va_S (aS 18 ad) s.heap s.heap [] := va_S.rf
  have hinX5 : ∀ w ∈ wsX50, w ∈ wsX5_readsVisit := by decide +kernel
  have hl := lv_entry ([.ref (ad 0), .int (J a1)]) (n := 2) (Nat.le_of_ble_eq_true rfl)
  rw [lg_entry_eq]
  generalize (lg_sl ([.ref (ad 0), .int (J a1)]) ++ List.replicate (2 - (lg_sl ([.ref (ad 0), .int (J a1)])).length) Slot.unset).toArray = ls at hl ⊢
  have hl : lv_has ls 2 [(0, .ref (ad 0)), (1, .int (J a1))] := hl
  unfold fX5_readsVisit at hf
  refine lv_aload_n hx hb dX5_readsVisit_0 rfl (lv_at hl 0 rfl) ?_
  refine va_get (D := D) (ci := 5) (v := .ref (ad 17)) (C := RX5) (T := TX5) (N := 23) hx hb hts hinX5 hown hK hP 0 (wL_get (by decide) (gY_0 _)) rfl 21 (by decide) (hts (.fieldLink RX5 59 "VisitVansModel" "told" "[I") (List.mem_of_getElem? (i := 1) rfl)) (fun _ h => h) rfl dX5_readsVisit_1 ?_
  refine lv_iload_n hx hb dX5_readsVisit_4 rfl (lv_at hl 1 rfl) ?_
  refine lv_iconst (v := J 1) hx hb dX5_readsVisit_5 rfl ?_
  refine jv_iadd hx hb dX5_readsVisit_6 ?_
  refine lv_aload_n hx hb dX5_readsVisit_7 rfl (lv_at hl 0 rfl) ?_
  obtain ⟨v1, M2, qv1, hf⟩ := bnd2_some hf
  refine jc_i (va_runV (As := []) (rest := [.int (J (a1 + 1)), .ref (ad 17)]) ⟨hx, hb, hml, hown, hts⟩ (kX5_number l D ca ad hI M hR v1 M2 qv1) (cwV 0 hts gX5_readsVisit_X5_number rfl rfl rfl (by decide +kernel) ⟨Nat.le_of_ble_eq_true rfl, Nat.le_of_ble_eq_true rfl⟩) (pvY hK hP []) rfl rfl hl.1 rfl (lv_room (Nat.le_of_ble_eq_true rfl)) dX5_readsVisit_8 ⟨Nat.zero_le _, Nat.zero_le _⟩) hS (fun H locs t ht hφ hO hS => ?_)
  obtain ⟨rv1, hRM2⟩ := hφ
  have hP : va_P D vwCl (wY ca ad M2) H := by rw [← ht]; exact hO
  obtain ⟨M3, qM3, hf⟩ := bnd_some hf
  obtain ⟨bM3, zM3, eM3⟩ := wr_some qM3
  have hRM3 : RR M3 := by rw [eM3]; exact RR_st hRM2 _ _ zM3
  refine jx_iast hx hb hK hP hI hS 17 0 (by decide) gY_17 rfl (by decide) bM3 zM3 dX5_readsVisit_11 (fun H locs hP hS => ?_)
  rw [← eM3] at hP
  refine lv_aload_n hx hb dX5_readsVisit_12 rfl (lv_at hl 0 rfl) ?_
  refine lv_bipush (v := J 35) hx hb dX5_readsVisit_13 (by decide +kernel) ?_
  obtain ⟨M5, qM5, hf⟩ := bnd_some hf
  refine jc_v (va_runV (As := [.int (J 35)]) (rest := []) ⟨hx, hb, hml, hown, hts⟩ (kX5_wants l D ca ad hI M3 hRM3 35 (by decide : inR 35) M5 qM5) (cwV 1 hts gX5_readsVisit_X5_wants rfl rfl rfl (by decide +kernel) ⟨Nat.le_of_ble_eq_true rfl, Nat.le_of_ble_eq_true rfl⟩) (pvY hK hP [.int (J 35)]) rfl rfl hl.1 rfl (lv_room (Nat.le_of_ble_eq_true rfl)) dX5_readsVisit_15 ⟨Nat.zero_le _, Nat.zero_le _⟩) hS (fun H locs t ht hφ hO hS => ?_)
  have hRM5 := hφ
  have hP : va_P D vwCl (wY ca ad M5) H := by rw [← ht]; exact hO
  refine lv_aload_n hx hb dX5_readsVisit_18 rfl (lv_at hl 0 rfl) ?_
  refine va_get (D := D) (ci := 5) (v := .ref (ad 17)) (C := RX5) (T := TX5) (N := 23) hx hb hts hinX5 hown hK hP 0 (wL_get (by decide) (gY_0 _)) rfl 21 (by decide) (hts (.fieldLink RX5 59 "VisitVansModel" "told" "[I") (List.mem_of_getElem? (i := 1) rfl)) (fun _ h => h) rfl dX5_readsVisit_19 ?_
  refine lv_iload_n hx hb dX5_readsVisit_22 rfl (lv_at hl 1 rfl) ?_
  refine lv_iconst (v := J 2) hx hb dX5_readsVisit_23 rfl ?_
  refine jv_iadd hx hb dX5_readsVisit_24 ?_
  refine lv_aload_n hx hb dX5_readsVisit_25 rfl (lv_at hl 0 rfl) ?_
  refine lv_bipush (v := J 9) hx hb dX5_readsVisit_26 (by decide +kernel) ?_
  obtain ⟨v6, M7, qv6, hf⟩ := bnd2_some hf
  refine jc_i (va_runV (As := [.int (J 9)]) (rest := [.int (J (a1 + 2)), .ref (ad 17)]) ⟨hx, hb, hml, hown, hts⟩ (kX5_digit l D ca ad hI M5 hRM5 9 (by decide : inR 9) v6 M7 qv6) (cwV 1 hts gX5_readsVisit_X5_digit rfl rfl rfl (by decide +kernel) ⟨Nat.le_of_ble_eq_true rfl, Nat.le_of_ble_eq_true rfl⟩) (pvY hK hP [.int (J 9)]) rfl rfl hl.1 rfl (lv_room (Nat.le_of_ble_eq_true rfl)) dX5_readsVisit_28 ⟨Nat.zero_le _, Nat.zero_le _⟩) hS (fun H locs t ht hφ hO hS => ?_)
  obtain ⟨rv6, hRM7⟩ := hφ
  have hP : va_P D vwCl (wY ca ad M7) H := by rw [← ht]; exact hO
  obtain ⟨M8, qM8, hf⟩ := bnd_some hf
  obtain ⟨bM8, zM8, eM8⟩ := wr_some qM8
  have hRM8 : RR M8 := by rw [eM8]; exact RR_st hRM7 _ _ zM8
  refine jx_iast hx hb hK hP hI hS 17 0 (by decide) gY_17 rfl (by decide) bM8 zM8 dX5_readsVisit_31 (fun H locs hP hS => ?_)
  rw [← eM8] at hP
  refine lv_aload_n hx hb dX5_readsVisit_32 rfl (lv_at hl 0 rfl) ?_
  refine lv_bipush (v := J 43) hx hb dX5_readsVisit_33 (by decide +kernel) ?_
  obtain ⟨M10, qM10, hf⟩ := bnd_some hf
  refine jc_v (va_runV (As := [.int (J 43)]) (rest := []) ⟨hx, hb, hml, hown, hts⟩ (kX5_wants l D ca ad hI M8 hRM8 43 (by decide : inR 43) M10 qM10) (cwV 1 hts gX5_readsVisit_X5_wants rfl rfl rfl (by decide +kernel) ⟨Nat.le_of_ble_eq_true rfl, Nat.le_of_ble_eq_true rfl⟩) (pvY hK hP [.int (J 43)]) rfl rfl hl.1 rfl (lv_room (Nat.le_of_ble_eq_true rfl)) dX5_readsVisit_35 ⟨Nat.zero_le _, Nat.zero_le _⟩) hS (fun H locs t ht hφ hO hS => ?_)
  have hRM10 := hφ
  have hP : va_P D vwCl (wY ca ad M10) H := by rw [← ht]; exact hO
  refine lv_aload_n hx hb dX5_readsVisit_38 rfl (lv_at hl 0 rfl) ?_
  refine va_get (D := D) (ci := 5) (v := .ref (ad 17)) (C := RX5) (T := TX5) (N := 23) hx hb hts hinX5 hown hK hP 0 (wL_get (by decide) (gY_0 _)) rfl 21 (by decide) (hts (.fieldLink RX5 59 "VisitVansModel" "told" "[I") (List.mem_of_getElem? (i := 1) rfl)) (fun _ h => h) rfl dX5_readsVisit_39 ?_
  refine lv_iload_n hx hb dX5_readsVisit_42 rfl (lv_at hl 1 rfl) ?_
  refine lv_iconst (v := J 3) hx hb dX5_readsVisit_43 rfl ?_
  refine jv_iadd hx hb dX5_readsVisit_44 ?_
  refine lv_aload_n hx hb dX5_readsVisit_45 rfl (lv_at hl 0 rfl) ?_
  refine lv_bipush (v := J 9) hx hb dX5_readsVisit_46 (by decide +kernel) ?_
  obtain ⟨v11, M12, qv11, hf⟩ := bnd2_some hf
  refine jc_i (va_runV (As := [.int (J 9)]) (rest := [.int (J (a1 + 3)), .ref (ad 17)]) ⟨hx, hb, hml, hown, hts⟩ (kX5_digit l D ca ad hI M10 hRM10 9 (by decide : inR 9) v11 M12 qv11) (cwV 1 hts gX5_readsVisit_X5_digit rfl rfl rfl (by decide +kernel) ⟨Nat.le_of_ble_eq_true rfl, Nat.le_of_ble_eq_true rfl⟩) (pvY hK hP [.int (J 9)]) rfl rfl hl.1 rfl (lv_room (Nat.le_of_ble_eq_true rfl)) dX5_readsVisit_48 ⟨Nat.zero_le _, Nat.zero_le _⟩) hS (fun H locs t ht hφ hO hS => ?_)
  obtain ⟨rv11, hRM12⟩ := hφ
  have hP : va_P D vwCl (wY ca ad M12) H := by rw [← ht]; exact hO
  obtain ⟨M13, qM13, hf⟩ := bnd_some hf
  obtain ⟨bM13, zM13, eM13⟩ := wr_some qM13
  have hRM13 : RR M13 := by rw [eM13]; exact RR_st hRM12 _ _ zM13
  refine jx_iast hx hb hK hP hI hS 17 0 (by decide) gY_17 rfl (by decide) bM13 zM13 dX5_readsVisit_51 (fun H locs hP hS => ?_)
  rw [← eM13] at hP
  refine lv_aload_n hx hb dX5_readsVisit_52 rfl (lv_at hl 0 rfl) ?_
  refine lv_bipush (v := J 42) hx hb dX5_readsVisit_53 (by decide +kernel) ?_
  obtain ⟨M15, qM15, hf⟩ := bnd_some hf
  refine jc_v (va_runV (As := [.int (J 42)]) (rest := []) ⟨hx, hb, hml, hown, hts⟩ (kX5_wants l D ca ad hI M13 hRM13 42 (by decide : inR 42) M15 qM15) (cwV 1 hts gX5_readsVisit_X5_wants rfl rfl rfl (by decide +kernel) ⟨Nat.le_of_ble_eq_true rfl, Nat.le_of_ble_eq_true rfl⟩) (pvY hK hP [.int (J 42)]) rfl rfl hl.1 rfl (lv_room (Nat.le_of_ble_eq_true rfl)) dX5_readsVisit_55 ⟨Nat.zero_le _, Nat.zero_le _⟩) hS (fun H locs t ht hφ hO hS => ?_)
  have hRM15 := hφ
  have hP : va_P D vwCl (wY ca ad M15) H := by rw [← ht]; exact hO
  refine lv_aload_n hx hb dX5_readsVisit_58 rfl (lv_at hl 0 rfl) ?_
  refine va_get (D := D) (ci := 5) (v := .ref (ad 17)) (C := RX5) (T := TX5) (N := 23) hx hb hts hinX5 hown hK hP 0 (wL_get (by decide) (gY_0 _)) rfl 21 (by decide) (hts (.fieldLink RX5 59 "VisitVansModel" "told" "[I") (List.mem_of_getElem? (i := 1) rfl)) (fun _ h => h) rfl dX5_readsVisit_59 ?_
  refine lv_iload_n hx hb dX5_readsVisit_62 rfl (lv_at hl 1 rfl) ?_
  refine lv_iconst (v := J 4) hx hb dX5_readsVisit_63 rfl ?_
  refine jv_iadd hx hb dX5_readsVisit_64 ?_
  refine lv_aload_n hx hb dX5_readsVisit_65 rfl (lv_at hl 0 rfl) ?_
  refine lv_bipush (v := J 9) hx hb dX5_readsVisit_66 (by decide +kernel) ?_
  obtain ⟨v16, M17, qv16, hf⟩ := bnd2_some hf
  refine jc_i (va_runV (As := [.int (J 9)]) (rest := [.int (J (a1 + 4)), .ref (ad 17)]) ⟨hx, hb, hml, hown, hts⟩ (kX5_digit l D ca ad hI M15 hRM15 9 (by decide : inR 9) v16 M17 qv16) (cwV 1 hts gX5_readsVisit_X5_digit rfl rfl rfl (by decide +kernel) ⟨Nat.le_of_ble_eq_true rfl, Nat.le_of_ble_eq_true rfl⟩) (pvY hK hP [.int (J 9)]) rfl rfl hl.1 rfl (lv_room (Nat.le_of_ble_eq_true rfl)) dX5_readsVisit_68 ⟨Nat.zero_le _, Nat.zero_le _⟩) hS (fun H locs t ht hφ hO hS => ?_)
  obtain ⟨rv16, hRM17⟩ := hφ
  have hP : va_P D vwCl (wY ca ad M17) H := by rw [← ht]; exact hO
  obtain ⟨M18, qM18, hf⟩ := bnd_some hf
  obtain ⟨bM18, zM18, eM18⟩ := wr_some qM18
  have hRM18 : RR M18 := by rw [eM18]; exact RR_st hRM17 _ _ zM18
  refine jx_iast hx hb hK hP hI hS 17 0 (by decide) gY_17 rfl (by decide) bM18 zM18 dX5_readsVisit_71 (fun H locs hP hS => ?_)
  rw [← eM18] at hP
  refine lv_aload_n hx hb dX5_readsVisit_72 rfl (lv_at hl 0 rfl) ?_
  refine lv_bipush (v := J 58) hx hb dX5_readsVisit_73 (by decide +kernel) ?_
  obtain ⟨M20, qM20, hf⟩ := bnd_some hf
  refine jc_v (va_runV (As := [.int (J 58)]) (rest := []) ⟨hx, hb, hml, hown, hts⟩ (kX5_wants l D ca ad hI M18 hRM18 58 (by decide : inR 58) M20 qM20) (cwV 1 hts gX5_readsVisit_X5_wants rfl rfl rfl (by decide +kernel) ⟨Nat.le_of_ble_eq_true rfl, Nat.le_of_ble_eq_true rfl⟩) (pvY hK hP [.int (J 58)]) rfl rfl hl.1 rfl (lv_room (Nat.le_of_ble_eq_true rfl)) dX5_readsVisit_75 ⟨Nat.zero_le _, Nat.zero_le _⟩) hS (fun H locs t ht hφ hO hS => ?_)
  have hRM20 := hφ
  have hP : va_P D vwCl (wY ca ad M20) H := by rw [← ht]; exact hO
  refine lv_aload_n hx hb dX5_readsVisit_78 rfl (lv_at hl 0 rfl) ?_
  refine va_get (D := D) (ci := 5) (v := .ref (ad 17)) (C := RX5) (T := TX5) (N := 23) hx hb hts hinX5 hown hK hP 0 (wL_get (by decide) (gY_0 _)) rfl 21 (by decide) (hts (.fieldLink RX5 59 "VisitVansModel" "told" "[I") (List.mem_of_getElem? (i := 1) rfl)) (fun _ h => h) rfl dX5_readsVisit_79 ?_
  refine lv_iload_n hx hb dX5_readsVisit_82 rfl (lv_at hl 1 rfl) ?_
  refine lv_iconst (v := J 5) hx hb dX5_readsVisit_83 rfl ?_
  refine jv_iadd hx hb dX5_readsVisit_84 ?_
  refine lv_aload_n hx hb dX5_readsVisit_85 rfl (lv_at hl 0 rfl) ?_
  obtain ⟨v21, M22, qv21, hf⟩ := bnd2_some hf
  refine jc_i (va_runV (As := []) (rest := [.int (J (a1 + 5)), .ref (ad 17)]) ⟨hx, hb, hml, hown, hts⟩ (kX5_number l D ca ad hI M20 hRM20 v21 M22 qv21) (cwV 0 hts gX5_readsVisit_X5_number rfl rfl rfl (by decide +kernel) ⟨Nat.le_of_ble_eq_true rfl, Nat.le_of_ble_eq_true rfl⟩) (pvY hK hP []) rfl rfl hl.1 rfl (lv_room (Nat.le_of_ble_eq_true rfl)) dX5_readsVisit_86 ⟨Nat.zero_le _, Nat.zero_le _⟩) hS (fun H locs t ht hφ hO hS => ?_)
  obtain ⟨rv21, hRM22⟩ := hφ
  have hP : va_P D vwCl (wY ca ad M22) H := by rw [← ht]; exact hO
  obtain ⟨M23, qM23, hf⟩ := bnd_some hf
  obtain ⟨bM23, zM23, eM23⟩ := wr_some qM23
  have hRM23 : RR M23 := by rw [eM23]; exact RR_st hRM22 _ _ zM23
  refine jx_iast hx hb hK hP hI hS 17 0 (by decide) gY_17 rfl (by decide) bM23 zM23 dX5_readsVisit_89 (fun H locs hP hS => ?_)
  rw [← eM23] at hP
  refine lv_aload_n hx hb dX5_readsVisit_90 rfl (lv_at hl 0 rfl) ?_
  refine lv_bipush (v := J 45) hx hb dX5_readsVisit_91 (by decide +kernel) ?_
  obtain ⟨M25, qM25, hf⟩ := bnd_some hf
  refine jc_v (va_runV (As := [.int (J 45)]) (rest := []) ⟨hx, hb, hml, hown, hts⟩ (kX5_wants l D ca ad hI M23 hRM23 45 (by decide : inR 45) M25 qM25) (cwV 1 hts gX5_readsVisit_X5_wants rfl rfl rfl (by decide +kernel) ⟨Nat.le_of_ble_eq_true rfl, Nat.le_of_ble_eq_true rfl⟩) (pvY hK hP [.int (J 45)]) rfl rfl hl.1 rfl (lv_room (Nat.le_of_ble_eq_true rfl)) dX5_readsVisit_93 ⟨Nat.zero_le _, Nat.zero_le _⟩) hS (fun H locs t ht hφ hO hS => ?_)
  have hRM25 := hφ
  have hP : va_P D vwCl (wY ca ad M25) H := by rw [← ht]; exact hO
  refine lv_aload_n hx hb dX5_readsVisit_96 rfl (lv_at hl 0 rfl) ?_
  refine va_get (D := D) (ci := 5) (v := .ref (ad 17)) (C := RX5) (T := TX5) (N := 23) hx hb hts hinX5 hown hK hP 0 (wL_get (by decide) (gY_0 _)) rfl 21 (by decide) (hts (.fieldLink RX5 59 "VisitVansModel" "told" "[I") (List.mem_of_getElem? (i := 1) rfl)) (fun _ h => h) rfl dX5_readsVisit_97 ?_
  refine lv_iload_n hx hb dX5_readsVisit_100 rfl (lv_at hl 1 rfl) ?_
  refine lv_bipush (v := J 6) hx hb dX5_readsVisit_101 (by decide +kernel) ?_
  refine jv_iadd hx hb dX5_readsVisit_103 ?_
  refine lv_aload_n hx hb dX5_readsVisit_104 rfl (lv_at hl 0 rfl) ?_
  obtain ⟨v26, M27, qv26, hf⟩ := bnd2_some hf
  refine jc_i (va_runV (As := []) (rest := [.int (J (a1 + 6)), .ref (ad 17)]) ⟨hx, hb, hml, hown, hts⟩ (kX5_number l D ca ad hI M25 hRM25 v26 M27 qv26) (cwV 0 hts gX5_readsVisit_X5_number rfl rfl rfl (by decide +kernel) ⟨Nat.le_of_ble_eq_true rfl, Nat.le_of_ble_eq_true rfl⟩) (pvY hK hP []) rfl rfl hl.1 rfl (lv_room (Nat.le_of_ble_eq_true rfl)) dX5_readsVisit_105 ⟨Nat.zero_le _, Nat.zero_le _⟩) hS (fun H locs t ht hφ hO hS => ?_)
  obtain ⟨rv26, hRM27⟩ := hφ
  have hP : va_P D vwCl (wY ca ad M27) H := by rw [← ht]; exact hO
  obtain ⟨M28, qM28, hf⟩ := bnd_some hf
  obtain ⟨bM28, zM28, eM28⟩ := wr_some qM28
  have hRM28 : RR M28 := by rw [eM28]; exact RR_st hRM27 _ _ zM28
  refine jx_iast hx hb hK hP hI hS 17 0 (by decide) gY_17 rfl (by decide) bM28 zM28 dX5_readsVisit_108 (fun H locs hP hS => ?_)
  rw [← eM28] at hP
  have e2 := Option.some.inj hf
  exact jend_v hx hb hr hS (by rw [← e2]; exact hRM28) (oY e2 hP) dX5_readsVisit_109 hlocks
def fX5_readsVan_L29 : Nat → Int → Int → MM → Option (Int × MM)
  | 0, _, _, _ => none
  | n + 1, x1_8, x2_8, M_8 => if (M_8 0 20) = 0 then some (x2_8, M_8) else bnd (fX5_sign M_8) (fun v10 => bnd (fX5_in v10 48 51) (fun v12 => if v12 = 0 then some (x2_8, M_8) else bnd2 (fX5_digit 3 M_8) (fun v15 M16 => fX5_readsVan_L29 n x1_8 (ior x2_8 (ishl 1 v15)) M16)))
def fX5_readsVan (a1 : Int) (M : MM) : Option (MM) := bnd2 (fX5_number M) (fun v1 M2 => bnd (wr M2 17 294 (a1 + 1) v1) (fun M3 => bnd (fX5_wants 47 M3) (fun M5 => bnd2 (fX5_digit 3 M5) (fun v6 M7 => bnd2 (fX5_readsVan_L29 4000 a1 (ishl 1 (iand v6 7)) M7) (fun y8_0 N_8 => bnd (wr N_8 17 294 (a1 + 2) y8_0) (fun M17 => some M17))))))
set_option maxHeartbeats 4000000 in
set_option maxRecDepth 100000 in
theorem kX5_readsVan (l : Launch) (D : va_G) (ca : Nat → ClassId) (ad : Nat → Nat) (hI : aInj 18 ad) (M : MM) (hR : RR M) (a1 : Int) (i1 : inR a1) (M' : MM) (hf : fX5_readsVan a1 M = some M') : CV l yX5_readsVan wsX5_readsVan 3 66 [.ref (ad 0), .int (J a1)] (PY D ca ad M) (RR M') (OY D ca ad M') (aS 18 ad) := by
  refine Met.ofW (cc := cX5_readsVan) (maxL := 3) (ret := none) (by decide) rfl ?_
  intro p e s m args below meth c s₁ B hml hv
  obtain ⟨rfl, hP, hK⟩ := hv
  have hx := B.exec
  have hb := B.bytes
  have hr := B.returns
  have hts := atoms_spec (ws := wsX5_readsVan) B.pre
  have hown : s.vm.findClass RX5 = some m.cls := findClass_of_methodNamed B.named
  have hlocks := B.notSynchronized
  have hS : va_S (aS 18 ad) s.heap s.heap [] := va_S.rf
  have hinX5 : ∀ w ∈ wsX50, w ∈ wsX5_readsVan := by decide +kernel
  have hl := lv_entry ([.ref (ad 0), .int (J a1)]) (n := 3) (Nat.le_of_ble_eq_true rfl)
  rw [lg_entry_eq]
  generalize (lg_sl ([.ref (ad 0), .int (J a1)]) ++ List.replicate (3 - (lg_sl ([.ref (ad 0), .int (J a1)])).length) Slot.unset).toArray = ls at hl ⊢
  have hl : lv_has ls 3 [(0, .ref (ad 0)), (1, .int (J a1))] := hl
  unfold fX5_readsVan at hf
  refine lv_aload_n hx hb dX5_readsVan_0 rfl (lv_at hl 0 rfl) ?_
  refine va_get (D := D) (ci := 5) (v := .ref (ad 17)) (C := RX5) (T := TX5) (N := 23) hx hb hts hinX5 hown hK hP 0 (wL_get (by decide) (gY_0 _)) rfl 21 (by decide) (hts (.fieldLink RX5 59 "VisitVansModel" "told" "[I") (List.mem_of_getElem? (i := 1) rfl)) (fun _ h => h) rfl dX5_readsVan_1 ?_
  refine lv_iload_n hx hb dX5_readsVan_4 rfl (lv_at hl 1 rfl) ?_
  refine lv_iconst (v := J 1) hx hb dX5_readsVan_5 rfl ?_
  refine jv_iadd hx hb dX5_readsVan_6 ?_
  refine lv_aload_n hx hb dX5_readsVan_7 rfl (lv_at hl 0 rfl) ?_
  obtain ⟨v1, M2, qv1, hf⟩ := bnd2_some hf
  refine jc_i (va_runV (As := []) (rest := [.int (J (a1 + 1)), .ref (ad 17)]) ⟨hx, hb, hml, hown, hts⟩ (kX5_number l D ca ad hI M hR v1 M2 qv1) (cwV 0 hts gX5_readsVan_X5_number rfl rfl rfl (by decide +kernel) ⟨Nat.le_of_ble_eq_true rfl, Nat.le_of_ble_eq_true rfl⟩) (pvY hK hP []) rfl rfl hl.1 rfl (lv_room (Nat.le_of_ble_eq_true rfl)) dX5_readsVan_8 ⟨Nat.zero_le _, Nat.zero_le _⟩) hS (fun H locs t ht hφ hO hS => ?_)
  obtain ⟨rv1, hRM2⟩ := hφ
  have hP : va_P D vwCl (wY ca ad M2) H := by rw [← ht]; exact hO
  obtain ⟨M3, qM3, hf⟩ := bnd_some hf
  obtain ⟨bM3, zM3, eM3⟩ := wr_some qM3
  have hRM3 : RR M3 := by rw [eM3]; exact RR_st hRM2 _ _ zM3
  refine jx_iast hx hb hK hP hI hS 17 0 (by decide) gY_17 rfl (by decide) bM3 zM3 dX5_readsVan_11 (fun H locs hP hS => ?_)
  rw [← eM3] at hP
  refine lv_aload_n hx hb dX5_readsVan_12 rfl (lv_at hl 0 rfl) ?_
  refine lv_bipush (v := J 47) hx hb dX5_readsVan_13 (by decide +kernel) ?_
  obtain ⟨M5, qM5, hf⟩ := bnd_some hf
  refine jc_v (va_runV (As := [.int (J 47)]) (rest := []) ⟨hx, hb, hml, hown, hts⟩ (kX5_wants l D ca ad hI M3 hRM3 47 (by decide : inR 47) M5 qM5) (cwV 1 hts gX5_readsVan_X5_wants rfl rfl rfl (by decide +kernel) ⟨Nat.le_of_ble_eq_true rfl, Nat.le_of_ble_eq_true rfl⟩) (pvY hK hP [.int (J 47)]) rfl rfl hl.1 rfl (lv_room (Nat.le_of_ble_eq_true rfl)) dX5_readsVan_15 ⟨Nat.zero_le _, Nat.zero_le _⟩) hS (fun H locs t ht hφ hO hS => ?_)
  have hRM5 := hφ
  have hP : va_P D vwCl (wY ca ad M5) H := by rw [← ht]; exact hO
  refine lv_iconst (v := J 1) hx hb dX5_readsVan_18 rfl ?_
  refine lv_aload_n hx hb dX5_readsVan_19 rfl (lv_at hl 0 rfl) ?_
  refine lv_iconst (v := J 3) hx hb dX5_readsVan_20 rfl ?_
  obtain ⟨v6, M7, qv6, hf⟩ := bnd2_some hf
  refine jc_i (va_runV (As := [.int (J 3)]) (rest := [.int (J 1)]) ⟨hx, hb, hml, hown, hts⟩ (kX5_digit l D ca ad hI M5 hRM5 3 (by decide : inR 3) v6 M7 qv6) (cwV 1 hts gX5_readsVan_X5_digit rfl rfl rfl (by decide +kernel) ⟨Nat.le_of_ble_eq_true rfl, Nat.le_of_ble_eq_true rfl⟩) (pvY hK hP [.int (J 3)]) rfl rfl hl.1 rfl (lv_room (Nat.le_of_ble_eq_true rfl)) dX5_readsVan_21 ⟨Nat.zero_le _, Nat.zero_le _⟩) hS (fun H locs t ht hφ hO hS => ?_)
  obtain ⟨rv6, hRM7⟩ := hφ
  have hP : va_P D vwCl (wY ca ad M7) H := by rw [← ht]; exact hO
  refine lv_bipush (v := J 7) hx hb dX5_readsVan_24 (by decide +kernel) ?_
  refine jv_iand hx hb dX5_readsVan_26 ?_
  refine jv_ishl hx hb dX5_readsVan_27 ?_
  refine lv_istore_n (lv' := [(2, .int (J (ishl 1 (iand v6 7)))), (0, .ref (ad 0)), (1, .int (J a1))]) hx hb dX5_readsVan_28 rfl hl (by decide) rfl (fun ls hl => ?_)
  obtain ⟨y8_0, N_8, h8, hf⟩ := bnd2_some hf
  have K8 : ∀ (H : Heap) (locs : List Loc) (ls : Array Slot), inR y8_0 → RR N_8 → va_P D vwCl (wY ca ad N_8) H → va_S (aS 18 ad) s.heap H locs → lv_has ls 3 [(0, .ref (ad 0)), (1, .int (J a1)), (2, .int (J y8_0))] → W p l e (headSpec wsX5_readsVan (RmC 3 66)).room s m ([.ref (ad 0), .int (J a1)] : List Value).toArray below meth c H locs 0 0 (MQ below (va_Qv (fun (_ : Unit) => (RR M')) (fun _ => (OY D ca ad M')) (aS 18 ad)) ([.ref (ad 0), .int (J a1)] : List Value).toArray s 0 0 (aS 18 ad)) (F0 m 63 ls []) := by
    intro H locs ls ry8_0 hRN_8 hP hS hl
    refine lv_aload_n hx hb dX5_readsVan_63 rfl (lv_at hl 0 rfl) ?_
    refine va_get (D := D) (ci := 5) (v := .ref (ad 17)) (C := RX5) (T := TX5) (N := 23) hx hb hts hinX5 hown hK hP 0 (wL_get (by decide) (gY_0 _)) rfl 21 (by decide) (hts (.fieldLink RX5 59 "VisitVansModel" "told" "[I") (List.mem_of_getElem? (i := 1) rfl)) (fun _ h => h) rfl dX5_readsVan_64 ?_
    refine lv_iload_n hx hb dX5_readsVan_67 rfl (lv_at hl 1 rfl) ?_
    refine lv_iconst (v := J 2) hx hb dX5_readsVan_68 rfl ?_
    refine jv_iadd hx hb dX5_readsVan_69 ?_
    refine lv_iload_n hx hb dX5_readsVan_70 rfl (lv_at hl 2 rfl) ?_
    obtain ⟨M17, qM17, hf⟩ := bnd_some hf
    obtain ⟨bM17, zM17, eM17⟩ := wr_some qM17
    have hRM17 : RR M17 := by rw [eM17]; exact RR_st hRN_8 _ _ zM17
    refine jx_iast hx hb hK hP hI hS 17 0 (by decide) gY_17 rfl (by decide) bM17 zM17 dX5_readsVan_71 (fun H locs hP hS => ?_)
    rw [← eM17] at hP
    have e2 := Option.some.inj hf
    exact jend_v hx hb hr hS (by rw [← e2]; exact hRM17) (oY e2 hP) dX5_readsVan_72 hlocks
  have hL8 : ∀ (n : Nat) (x1_8 : Int) (x2_8 : Int) (M_8 : MM) (H : Heap) (locs : List Loc) (ls : Array Slot), inR x1_8 → inR x2_8 → RR M_8 → x1_8 = a1 → va_P D vwCl (wY ca ad M_8) H → va_S (aS 18 ad) s.heap H locs → lv_has ls 3 [(0, .ref (ad 0)), (1, .int (J x1_8)), (2, .int (J x2_8))] → fX5_readsVan_L29 n x1_8 x2_8 M_8 = some (y8_0, N_8) → W p l e (headSpec wsX5_readsVan (RmC 3 66)).room s m ([.ref (ad 0), .int (J a1)] : List Value).toArray below meth c H locs 0 0 (MQ below (va_Qv (fun (_ : Unit) => (RR M')) (fun _ => (OY D ca ad M')) (aS 18 ad)) ([.ref (ad 0), .int (J a1)] : List Value).toArray s 0 0 (aS 18 ad)) (F0 m 29 ls []) := by
    intro n
    induction n with
    | zero =>
      intro x1_8 x2_8 M_8 H locs ls rx1_8 rx2_8 hRM_8 e_x1_8 hP hS hl hf
      rw [fX5_readsVan_L29] at hf
      cases hf
    | succ n ih =>
      intro x1_8 x2_8 M_8 H locs ls rx1_8 rx2_8 hRM_8 e_x1_8 hP hS hl hf
      rw [fX5_readsVan_L29] at hf
      refine lv_aload_n hx hb dX5_readsVan_29 rfl (lv_at hl 0 rfl) ?_
      refine va_get (D := D) (ci := 5) (v := .int (J (M_8 0 20))) (C := RX5) (T := TX5) (N := 23) hx hb hts hinX5 hown hK hP 0 (wL_get (by decide) (gY_0 _)) rfl 20 (by decide) (hts (.fieldLink RX5 193 "VisitVansModel" "isWell" "Z") (List.mem_of_getElem? (i := 2) rfl)) (fun _ h => h) rfl dX5_readsVan_30 ?_
      refine jv_if_eq (tgt := 63) hx hb dX5_readsVan_33 (by decide) (hRM_8 0 20) (fun c9 => ?_) (fun c9 => ?_)
      · have hf := itep hf c9
        cases hf
        exact K8 _ _ _ rx2_8 hRM_8 hP hS (lv_sub hl [0, 1, 2] (by subst e_x1_8; rfl))
      · have hf := iten hf c9
        refine lv_aload_n hx hb dX5_readsVan_36 rfl (lv_at hl 0 rfl) ?_
        obtain ⟨v10, qv10, hf⟩ := bnd_some hf
        refine jc_i (va_runV (As := []) (rest := []) ⟨hx, hb, hml, hown, hts⟩ (kX5_sign l D ca ad hI M_8 hRM_8 v10 qv10) (cwV 0 hts gX5_readsVan_X5_sign rfl rfl rfl (by decide +kernel) ⟨Nat.le_of_ble_eq_true rfl, Nat.le_of_ble_eq_true rfl⟩) (pvY hK hP []) rfl rfl hl.1 rfl (lv_room (Nat.le_of_ble_eq_true rfl)) dX5_readsVan_37 ⟨Nat.zero_le _, Nat.zero_le _⟩) hS (fun H locs t ht hφ hO hS => ?_)
        have rv10 := hφ
        have hP : va_P D vwCl (wY ca ad M_8) H := by rw [← ht]; exact hO
        refine lv_bipush (v := J 48) hx hb dX5_readsVan_40 (by decide +kernel) ?_
        refine lv_bipush (v := J 51) hx hb dX5_readsVan_42 (by decide +kernel) ?_
        obtain ⟨v12, qv12, hf⟩ := bnd_some hf
        refine jc_i (va_runS (As := [.int (J v10), .int (J 48), .int (J 51)]) (rest := []) ⟨hx, hb, hml, hown, hts⟩ (kX5_in l D ca ad hI M_8 hRM_8 v10 48 51 rv10 (by decide : inR 48) (by decide : inR 51) v12 qv12) (va_cwS 3 hts gX5_readsVan_X5_in rfl rfl rfl (by decide +kernel) ⟨Nat.le_of_ble_eq_true rfl, Nat.le_of_ble_eq_true rfl⟩) (psY hK hP [.int (J v10), .int (J 48), .int (J 51)]) rfl rfl hl.1 rfl (lv_room (Nat.le_of_ble_eq_true rfl)) dX5_readsVan_44 ⟨Nat.zero_le _, Nat.zero_le _⟩) hS (fun H locs t ht hφ hO hS => ?_)
        have rv12 := hφ
        have hP : va_P D vwCl (wY ca ad M_8) H := by rw [← ht]; exact hO
        refine jv_if_eq (tgt := 63) hx hb dX5_readsVan_47 (by decide) rv12 (fun c14 => ?_) (fun c14 => ?_)
        · have hf := itep hf c14
          cases hf
          exact K8 _ _ _ rx2_8 hRM_8 hP hS (lv_sub hl [0, 1, 2] (by subst e_x1_8; rfl))
        · have hf := iten hf c14
          refine lv_iload_n hx hb dX5_readsVan_50 rfl (lv_at hl 2 rfl) ?_
          refine lv_iconst (v := J 1) hx hb dX5_readsVan_51 rfl ?_
          refine lv_aload_n hx hb dX5_readsVan_52 rfl (lv_at hl 0 rfl) ?_
          refine lv_iconst (v := J 3) hx hb dX5_readsVan_53 rfl ?_
          obtain ⟨v15, M16, qv15, hf⟩ := bnd2_some hf
          refine jc_i (va_runV (As := [.int (J 3)]) (rest := [.int (J 1), .int (J x2_8)]) ⟨hx, hb, hml, hown, hts⟩ (kX5_digit l D ca ad hI M_8 hRM_8 3 (by decide : inR 3) v15 M16 qv15) (cwV 1 hts gX5_readsVan_X5_digit rfl rfl rfl (by decide +kernel) ⟨Nat.le_of_ble_eq_true rfl, Nat.le_of_ble_eq_true rfl⟩) (pvY hK hP [.int (J 3)]) rfl rfl hl.1 rfl (lv_room (Nat.le_of_ble_eq_true rfl)) dX5_readsVan_54 ⟨Nat.zero_le _, Nat.zero_le _⟩) hS (fun H locs t ht hφ hO hS => ?_)
          obtain ⟨rv15, hRM16⟩ := hφ
          have hP : va_P D vwCl (wY ca ad M16) H := by rw [← ht]; exact hO
          refine jv_ishl hx hb dX5_readsVan_57 ?_
          refine jv_ior hx hb dX5_readsVan_58 ?_
          refine lv_istore_n (lv' := [(2, .int (J (ior x2_8 (ishl 1 v15)))), (0, .ref (ad 0)), (1, .int (J x1_8))]) hx hb dX5_readsVan_59 rfl hl (by decide) rfl (fun ls hl => ?_)
          refine lv_goto (tgt := 29) hx hb dX5_readsVan_60 (by decide) ?_
          exact ih _ _ _ _ _ _ rx1_8 (J_inR _) hRM16 e_x1_8 hP hS (lv_sub hl [1, 2, 0] rfl) hf
  exact hL8 4000 _ _ _ _ _ _ i1 (J_inR _) hRM7 rfl hP hS (lv_sub hl [1, 2, 0] rfl) h8
def fX5_readsOrder (M : MM) : Option (MM) := bnd (fX5_sign M) (fun v1 => bnd (if (M 0 20) = 0 then some ((0 : Int)) else if v1 = 118 then some ((1 : Int)) else if v1 = 119 then some ((1 : Int)) else if v1 = 108 then some ((1 : Int)) else if v1 = 120 then some ((1 : Int)) else some ((0 : Int))) (fun y4_0 => gd (y4_0 = 0 ∨ y4_0 = 1) (bnd (some (stM M 0 20 y4_0)) (fun M10 => bnd (if (M10 0 20) = 0 then some ((0 : Int)) else some ((1 : Int))) (fun y12_0 => gd (inR ((M10 0 19) + y12_0)) (bnd (some (stM M10 0 19 ((M10 0 19) + y12_0))) (fun M14 => bnd (wr M14 17 294 (7 * (M 0 22)) v1) (fun M15 => bnd (if v1 = 118 then gd (inR (7 * (M 0 22))) (bnd (fX5_readsVisit (7 * (M 0 22)) M15) (fun M41 => some (M41))) else if v1 = 119 then gd (inR (7 * (M 0 22))) (bnd (fX5_readsVan (7 * (M 0 22)) M15) (fun M38 => some (M38))) else if v1 = 108 then bnd2 (fX5_digit 9 M15) (fun v23 M24 => bnd (wr M24 17 294 ((7 * (M 0 22)) + 1) v23) (fun M25 => bnd (fX5_wants 43 M25) (fun M27 => bnd2 (fX5_digit 9 M27) (fun v28 M29 => bnd (wr M29 17 294 ((7 * (M 0 22)) + 2) v28) (fun M30 => bnd (fX5_wants 61 M30) (fun M32 => bnd2 (fX5_number M32) (fun v33 M34 => bnd (wr M34 17 294 ((7 * (M 0 22)) + 3) v33) (fun M35 => some (M35))))))))) else bnd2 (fX5_number M15) (fun v20 M21 => bnd (wr M21 17 294 ((7 * (M 0 22)) + 1) v20) (fun M22 => some (M22)))) (fun M_17 => bnd (if (M_17 0 20) = 0 then some ((0 : Int)) else some ((1 : Int))) (fun y43_0 => gd (inR ((M_17 0 22) + y43_0)) (bnd (some (stM M_17 0 22 ((M_17 0 22) + y43_0))) (fun M45 => some M45))))))))))))
set_option maxHeartbeats 4000000 in
set_option maxRecDepth 100000 in
theorem kX5_readsOrder (l : Launch) (D : va_G) (ca : Nat → ClassId) (ad : Nat → Nat) (hI : aInj 18 ad) (M : MM) (hR : RR M) (M' : MM) (hf : fX5_readsOrder M = some M') : CV l yX5_readsOrder wsX5_readsOrder 4 88 [.ref (ad 0)] (PY D ca ad M) (RR M') (OY D ca ad M') (aS 18 ad) := by
  refine Met.ofW (cc := cX5_readsOrder) (maxL := 3) (ret := none) (by decide) rfl ?_
  intro p e s m args below meth c s₁ B hml hv
  obtain ⟨rfl, hP, hK⟩ := hv
  have hx := B.exec
  have hb := B.bytes
  have hr := B.returns
  have hts := atoms_spec (ws := wsX5_readsOrder) B.pre
  have hown : s.vm.findClass RX5 = some m.cls := findClass_of_methodNamed B.named
  have hlocks := B.notSynchronized
  have hS : va_S (aS 18 ad) s.heap s.heap [] := va_S.rf
  have hinX5 : ∀ w ∈ wsX50, w ∈ wsX5_readsOrder := by decide +kernel
  have hl := lv_entry ([.ref (ad 0)]) (n := 3) (Nat.le_of_ble_eq_true rfl)
  rw [lg_entry_eq]
  generalize (lg_sl ([.ref (ad 0)]) ++ List.replicate (3 - (lg_sl ([.ref (ad 0)])).length) Slot.unset).toArray = ls at hl ⊢
  have hl : lv_has ls 3 [(0, .ref (ad 0))] := hl
  unfold fX5_readsOrder at hf
  refine lv_bipush (v := J 7) hx hb dX5_readsOrder_0 (by decide +kernel) ?_
  refine lv_aload_n hx hb dX5_readsOrder_2 rfl (lv_at hl 0 rfl) ?_
  refine va_get (D := D) (ci := 5) (v := .int (J (M 0 22))) (C := RX5) (T := TX5) (N := 23) hx hb hts hinX5 hown hK hP 0 (wL_get (by decide) (gY_0 _)) rfl 22 (by decide) (hts (.fieldLink RX5 211 "VisitVansModel" "toldMany" "I") (List.mem_of_getElem? (i := 1) rfl)) (fun _ h => h) rfl dX5_readsOrder_3 ?_
  refine jv_imul hx hb dX5_readsOrder_6 ?_
  refine lv_istore_n (lv' := [(1, .int (J (7 * (M 0 22)))), (0, .ref (ad 0))]) hx hb dX5_readsOrder_7 rfl hl (by decide) rfl (fun ls hl => ?_)
  refine lv_aload_n hx hb dX5_readsOrder_8 rfl (lv_at hl 1 rfl) ?_
  obtain ⟨v1, qv1, hf⟩ := bnd_some hf
  refine jc_i (va_runV (As := []) (rest := []) ⟨hx, hb, hml, hown, hts⟩ (kX5_sign l D ca ad hI M hR v1 qv1) (cwV 0 hts gX5_readsOrder_X5_sign rfl rfl rfl (by decide +kernel) ⟨Nat.le_of_ble_eq_true rfl, Nat.le_of_ble_eq_true rfl⟩) (pvY hK hP []) rfl rfl hl.1 rfl (lv_room (Nat.le_of_ble_eq_true rfl)) dX5_readsOrder_9 ⟨Nat.zero_le _, Nat.zero_le _⟩) hS (fun H locs t ht hφ hO hS => ?_)
  have rv1 := hφ
  have hP : va_P D vwCl (wY ca ad M) H := by rw [← ht]; exact hO
  refine lv_istore_n (lv' := [(2, .int (J v1)), (1, .int (J (7 * (M 0 22)))), (0, .ref (ad 0))]) hx hb dX5_readsOrder_12 rfl hl (by decide) rfl (fun ls hl => ?_)
  refine lv_aload_n hx hb dX5_readsOrder_13 rfl (lv_at hl 2 rfl) ?_
  refine lv_aload_n hx hb dX5_readsOrder_14 rfl (lv_at hl 2 rfl) ?_
  refine va_get (D := D) (ci := 5) (v := .int (J (M 0 20))) (C := RX5) (T := TX5) (N := 23) hx hb hts hinX5 hown hK hP 0 (wL_get (by decide) (gY_0 _)) rfl 20 (by decide) (hts (.fieldLink RX5 193 "VisitVansModel" "isWell" "Z") (List.mem_of_getElem? (i := 2) rfl)) (fun _ h => h) rfl dX5_readsOrder_15 ?_
  obtain ⟨y4_0, h4, hf⟩ := bnd_some hf
  have K4 : ∀ (H : Heap) (locs : List Loc) (ls : Array Slot), inR y4_0 → va_P D vwCl (wY ca ad M) H → va_S (aS 18 ad) s.heap H locs → lv_has ls 3 [(0, .ref (ad 0)), (1, .int (J (7 * (M 0 22)))), (2, .int (J v1))] → W p l e (headSpec wsX5_readsOrder (RmC 4 88)).room s m ([.ref (ad 0)] : List Value).toArray below meth c H locs 0 0 (MQ below (va_Qv (fun (_ : Unit) => (RR M')) (fun _ => (OY D ca ad M')) (aS 18 ad)) ([.ref (ad 0)] : List Value).toArray s 0 0 (aS 18 ad)) (F0 m 50 ls [.int (J y4_0), .ref (ad 0)]) := by
    intro H locs ls ry4_0  hP hS hl
    obtain ⟨g9, hf⟩ := gd_some hf
    obtain ⟨M10, eM10, hf⟩ := bnd_some hf
    have eM10 := Option.some.inj eM10
    have hRM10 : RR M10 := by rw [← eM10]; exact RR_st hR 0 20 (J_bR g9)
    refine va_put (D := D) (ci := 5) (v := .int (J y4_0)) (ty := .boolean) (C := RX5) (T := TX5) (N := 23) hx hb hts hinX5 tyX5 tyX5_ok nmX5 hown hK hP (wL_D hI M) hS 0 (wL_get (by decide) (gY_0 _)) rfl 20 (by decide) (hts (.fieldLink RX5 193 "VisitVansModel" "isWell" "Z") (List.mem_of_getElem? (i := 2) rfl)) (fun _ h => h) rfl rfl (J_wZ g9).1 (J_wZ g9).2 (Nat.le_of_ble_eq_true rfl) dX5_readsOrder_50 (fun H locs hP hD hS => ?_)
    have hP : va_P D vwCl (wY ca ad M10) H := by rw [← eM10]; exact hPset (gY_0_s20) stM_o hP
    refine lv_aload_n hx hb dX5_readsOrder_53 rfl (lv_at hl 0 rfl) ?_
    refine lv_dup hx hb dX5_readsOrder_54 rfl ?_
    refine va_get (D := D) (ci := 5) (v := .int (J (M10 0 19))) (C := RX5) (T := TX5) (N := 23) hx hb hts hinX5 hown hK hP 0 (wL_get (by decide) (gY_0 _)) rfl 19 (by decide) (hts (.fieldLink RX5 190 "VisitVansModel" "at" "I") (List.mem_of_getElem? (i := 3) rfl)) (fun _ h => h) rfl dX5_readsOrder_55 ?_
    refine lv_aload_n hx hb dX5_readsOrder_58 rfl (lv_at hl 0 rfl) ?_
    refine va_get (D := D) (ci := 5) (v := .int (J (M10 0 20))) (C := RX5) (T := TX5) (N := 23) hx hb hts hinX5 hown hK hP 0 (wL_get (by decide) (gY_0 _)) rfl 20 (by decide) (hts (.fieldLink RX5 193 "VisitVansModel" "isWell" "Z") (List.mem_of_getElem? (i := 2) rfl)) (fun _ h => h) rfl dX5_readsOrder_59 ?_
    obtain ⟨y12_0, h12, hf⟩ := bnd_some hf
    have K12 : ∀ (H : Heap) (locs : List Loc) (ls : Array Slot), inR y12_0 → va_P D vwCl (wY ca ad M10) H → va_S (aS 18 ad) s.heap H locs → lv_has ls 3 [(0, .ref (ad 0)), (1, .int (J (7 * (M 0 22)))), (2, .int (J v1))] → W p l e (headSpec wsX5_readsOrder (RmC 4 88)).room s m ([.ref (ad 0)] : List Value).toArray below meth c H locs 0 0 (MQ below (va_Qv (fun (_ : Unit) => (RR M')) (fun _ => (OY D ca ad M')) (aS 18 ad)) ([.ref (ad 0)] : List Value).toArray s 0 0 (aS 18 ad)) (F0 m 70 ls [.int (J y12_0), .int (J (M10 0 19)), .ref (ad 0)]) := by
      intro H locs ls ry12_0  hP hS hl
      refine jv_iadd hx hb dX5_readsOrder_70 ?_
      obtain ⟨g13, hf⟩ := gd_some hf
      obtain ⟨M14, eM14, hf⟩ := bnd_some hf
      have eM14 := Option.some.inj eM14
      have hRM14 : RR M14 := by rw [← eM14]; exact RR_st hRM10 0 19 g13
      refine va_put (D := D) (ci := 5) (v := .int (J ((M10 0 19) + y12_0))) (ty := .int) (C := RX5) (T := TX5) (N := 23) hx hb hts hinX5 tyX5 tyX5_ok nmX5 hown hK hP (wL_D hI M10) hS 0 (wL_get (by decide) (gY_0 _)) rfl 19 (by decide) (hts (.fieldLink RX5 190 "VisitVansModel" "at" "I") (List.mem_of_getElem? (i := 3) rfl)) (fun _ h => h) rfl rfl rfl rfl (Nat.le_of_ble_eq_true rfl) dX5_readsOrder_71 (fun H locs hP hD hS => ?_)
      have hP : va_P D vwCl (wY ca ad M14) H := by rw [← eM14]; exact hPset (gY_0_s19) stM_o hP
      refine lv_aload_n hx hb dX5_readsOrder_74 rfl (lv_at hl 0 rfl) ?_
      refine va_get (D := D) (ci := 5) (v := .ref (ad 17)) (C := RX5) (T := TX5) (N := 23) hx hb hts hinX5 hown hK hP 0 (wL_get (by decide) (gY_0 _)) rfl 21 (by decide) (hts (.fieldLink RX5 59 "VisitVansModel" "told" "[I") (List.mem_of_getElem? (i := 4) rfl)) (fun _ h => h) rfl dX5_readsOrder_75 ?_
      refine lv_iload_n hx hb dX5_readsOrder_78 rfl (lv_at hl 1 rfl) ?_
      refine lv_iload_n hx hb dX5_readsOrder_79 rfl (lv_at hl 2 rfl) ?_
      obtain ⟨M15, qM15, hf⟩ := bnd_some hf
      obtain ⟨bM15, zM15, eM15⟩ := wr_some qM15
      have hRM15 : RR M15 := by rw [eM15]; exact RR_st hRM14 _ _ zM15
      refine jx_iast hx hb hK hP hI hS 17 0 (by decide) gY_17 rfl (by decide) bM15 zM15 dX5_readsOrder_80 (fun H locs hP hS => ?_)
      rw [← eM15] at hP
      refine lv_iload_n hx hb dX5_readsOrder_81 rfl (lv_at hl 2 rfl) ?_
      refine lv_bipush (v := J 118) hx hb dX5_readsOrder_82 (by decide +kernel) ?_
      obtain ⟨M_17, h17, hf⟩ := bnd_some hf
      have K17 : ∀ (H : Heap) (locs : List Loc) (ls : Array Slot), RR M_17 → va_P D vwCl (wY ca ad M_17) H → va_S (aS 18 ad) s.heap H locs → lv_has ls 3 [(0, .ref (ad 0))] → W p l e (headSpec wsX5_readsOrder (RmC 4 88)).room s m ([.ref (ad 0)] : List Value).toArray below meth c H locs 0 0 (MQ below (va_Qv (fun (_ : Unit) => (RR M')) (fun _ => (OY D ca ad M')) (aS 18 ad)) ([.ref (ad 0)] : List Value).toArray s 0 0 (aS 18 ad)) (F0 m 182 ls []) := by
        intro H locs ls hRM_17  hP hS hl
        refine lv_aload_n hx hb dX5_readsOrder_182 rfl (lv_at hl 0 rfl) ?_
        refine lv_dup hx hb dX5_readsOrder_183 rfl ?_
        refine va_get (D := D) (ci := 5) (v := .int (J (M_17 0 22))) (C := RX5) (T := TX5) (N := 23) hx hb hts hinX5 hown hK hP 0 (wL_get (by decide) (gY_0 _)) rfl 22 (by decide) (hts (.fieldLink RX5 211 "VisitVansModel" "toldMany" "I") (List.mem_of_getElem? (i := 1) rfl)) (fun _ h => h) rfl dX5_readsOrder_184 ?_
        refine lv_aload_n hx hb dX5_readsOrder_187 rfl (lv_at hl 0 rfl) ?_
        refine va_get (D := D) (ci := 5) (v := .int (J (M_17 0 20))) (C := RX5) (T := TX5) (N := 23) hx hb hts hinX5 hown hK hP 0 (wL_get (by decide) (gY_0 _)) rfl 20 (by decide) (hts (.fieldLink RX5 193 "VisitVansModel" "isWell" "Z") (List.mem_of_getElem? (i := 2) rfl)) (fun _ h => h) rfl dX5_readsOrder_188 ?_
        obtain ⟨y43_0, h43, hf⟩ := bnd_some hf
        have K43 : ∀ (H : Heap) (locs : List Loc) (ls : Array Slot), inR y43_0 → va_P D vwCl (wY ca ad M_17) H → va_S (aS 18 ad) s.heap H locs → lv_has ls 3 [] → W p l e (headSpec wsX5_readsOrder (RmC 4 88)).room s m ([.ref (ad 0)] : List Value).toArray below meth c H locs 0 0 (MQ below (va_Qv (fun (_ : Unit) => (RR M')) (fun _ => (OY D ca ad M')) (aS 18 ad)) ([.ref (ad 0)] : List Value).toArray s 0 0 (aS 18 ad)) (F0 m 199 ls [.int (J y43_0), .int (J (M_17 0 22)), .ref (ad 0)]) := by
          intro H locs ls ry43_0  hP hS hl
          refine jv_iadd hx hb dX5_readsOrder_199 ?_
          obtain ⟨g44, hf⟩ := gd_some hf
          obtain ⟨M45, eM45, hf⟩ := bnd_some hf
          have eM45 := Option.some.inj eM45
          have hRM45 : RR M45 := by rw [← eM45]; exact RR_st hRM_17 0 22 g44
          refine va_put (D := D) (ci := 5) (v := .int (J ((M_17 0 22) + y43_0))) (ty := .int) (C := RX5) (T := TX5) (N := 23) hx hb hts hinX5 tyX5 tyX5_ok nmX5 hown hK hP (wL_D hI M_17) hS 0 (wL_get (by decide) (gY_0 _)) rfl 22 (by decide) (hts (.fieldLink RX5 211 "VisitVansModel" "toldMany" "I") (List.mem_of_getElem? (i := 1) rfl)) (fun _ h => h) rfl rfl rfl rfl (Nat.le_of_ble_eq_true rfl) dX5_readsOrder_200 (fun H locs hP hD hS => ?_)
          have hP : va_P D vwCl (wY ca ad M45) H := by rw [← eM45]; exact hPset (gY_0_s22) stM_o hP
          have e2 := Option.some.inj hf
          exact jend_v hx hb hr hS (by rw [← e2]; exact hRM45) (oY e2 hP) dX5_readsOrder_203 hlocks
        have hf := h43
        clear h43
        refine jv_if_eq (tgt := 198) hx hb dX5_readsOrder_191 (by decide) (hRM_17 0 20) (fun c42 => ?_) (fun c42 => ?_)
        · have hf := itep hf c42
          refine lv_iconst (v := J 0) hx hb dX5_readsOrder_198 rfl ?_
          cases hf
          exact K43 _ _ _ (by decide : inR 0)  hP hS (lv_sub hl [] rfl)
        · have hf := iten hf c42
          refine lv_iconst (v := J 1) hx hb dX5_readsOrder_194 rfl ?_
          refine lv_goto (tgt := 199) hx hb dX5_readsOrder_195 (by decide) ?_
          cases hf
          exact K43 _ _ _ (by decide : inR 1)  hP hS (lv_sub hl [] rfl)
      have hf := h17
      clear h17
      refine jv_icmp_ne (tgt := 95) hx hb dX5_readsOrder_84 (by decide) rv1 (by decide : inR 118) (fun c16 => ?_) (fun c16 => ?_)
      · have hf := iten hf c16
        refine lv_iload_n hx hb dX5_readsOrder_95 rfl (lv_at hl 2 rfl) ?_
        refine lv_bipush (v := J 119) hx hb dX5_readsOrder_96 (by decide +kernel) ?_
        refine jv_icmp_ne (tgt := 109) hx hb dX5_readsOrder_98 (by decide) rv1 (by decide : inR 119) (fun c18 => ?_) (fun c18 => ?_)
        · have hf := iten hf c18
          refine lv_iload_n hx hb dX5_readsOrder_109 rfl (lv_at hl 2 rfl) ?_
          refine lv_bipush (v := J 108) hx hb dX5_readsOrder_110 (by decide +kernel) ?_
          refine jv_icmp_ne (tgt := 170) hx hb dX5_readsOrder_112 (by decide) rv1 (by decide : inR 108) (fun c19 => ?_) (fun c19 => ?_)
          · have hf := iten hf c19
            refine lv_aload_n hx hb dX5_readsOrder_170 rfl (lv_at hl 0 rfl) ?_
            refine va_get (D := D) (ci := 5) (v := .ref (ad 17)) (C := RX5) (T := TX5) (N := 23) hx hb hts hinX5 hown hK hP 0 (wL_get (by decide) (gY_0 _)) rfl 21 (by decide) (hts (.fieldLink RX5 59 "VisitVansModel" "told" "[I") (List.mem_of_getElem? (i := 4) rfl)) (fun _ h => h) rfl dX5_readsOrder_171 ?_
            refine lv_iload_n hx hb dX5_readsOrder_174 rfl (lv_at hl 1 rfl) ?_
            refine lv_iconst (v := J 1) hx hb dX5_readsOrder_175 rfl ?_
            refine jv_iadd hx hb dX5_readsOrder_176 ?_
            refine lv_aload_n hx hb dX5_readsOrder_177 rfl (lv_at hl 0 rfl) ?_
            obtain ⟨v20, M21, qv20, hf⟩ := bnd2_some hf
            refine jc_i (va_runV (As := []) (rest := [.int (J ((7 * (M 0 22)) + 1)), .ref (ad 17)]) ⟨hx, hb, hml, hown, hts⟩ (kX5_number l D ca ad hI M15 hRM15 v20 M21 qv20) (cwV 0 hts gX5_readsOrder_X5_number rfl rfl rfl (by decide +kernel) ⟨Nat.le_of_ble_eq_true rfl, Nat.le_of_ble_eq_true rfl⟩) (pvY hK hP []) rfl rfl hl.1 rfl (lv_room (Nat.le_of_ble_eq_true rfl)) dX5_readsOrder_178 ⟨Nat.zero_le _, Nat.zero_le _⟩) hS (fun H locs t ht hφ hO hS => ?_)
            obtain ⟨rv20, hRM21⟩ := hφ
            have hP : va_P D vwCl (wY ca ad M21) H := by rw [← ht]; exact hO
            obtain ⟨M22, qM22, hf⟩ := bnd_some hf
            obtain ⟨bM22, zM22, eM22⟩ := wr_some qM22
            have hRM22 : RR M22 := by rw [eM22]; exact RR_st hRM21 _ _ zM22
            refine jx_iast hx hb hK hP hI hS 17 0 (by decide) gY_17 rfl (by decide) bM22 zM22 dX5_readsOrder_181 (fun H locs hP hS => ?_)
            rw [← eM22] at hP
            cases hf
            exact K17 _ _ _ hRM22 hP hS (lv_sub hl [0] rfl)
          · have hf := itep hf c19
            refine lv_aload_n hx hb dX5_readsOrder_115 rfl (lv_at hl 0 rfl) ?_
            refine va_get (D := D) (ci := 5) (v := .ref (ad 17)) (C := RX5) (T := TX5) (N := 23) hx hb hts hinX5 hown hK hP 0 (wL_get (by decide) (gY_0 _)) rfl 21 (by decide) (hts (.fieldLink RX5 59 "VisitVansModel" "told" "[I") (List.mem_of_getElem? (i := 4) rfl)) (fun _ h => h) rfl dX5_readsOrder_116 ?_
            refine lv_iload_n hx hb dX5_readsOrder_119 rfl (lv_at hl 1 rfl) ?_
            refine lv_iconst (v := J 1) hx hb dX5_readsOrder_120 rfl ?_
            refine jv_iadd hx hb dX5_readsOrder_121 ?_
            refine lv_aload_n hx hb dX5_readsOrder_122 rfl (lv_at hl 0 rfl) ?_
            refine lv_bipush (v := J 9) hx hb dX5_readsOrder_123 (by decide +kernel) ?_
            obtain ⟨v23, M24, qv23, hf⟩ := bnd2_some hf
            refine jc_i (va_runV (As := [.int (J 9)]) (rest := [.int (J ((7 * (M 0 22)) + 1)), .ref (ad 17)]) ⟨hx, hb, hml, hown, hts⟩ (kX5_digit l D ca ad hI M15 hRM15 9 (by decide : inR 9) v23 M24 qv23) (cwV 1 hts gX5_readsOrder_X5_digit rfl rfl rfl (by decide +kernel) ⟨Nat.le_of_ble_eq_true rfl, Nat.le_of_ble_eq_true rfl⟩) (pvY hK hP [.int (J 9)]) rfl rfl hl.1 rfl (lv_room (Nat.le_of_ble_eq_true rfl)) dX5_readsOrder_125 ⟨Nat.zero_le _, Nat.zero_le _⟩) hS (fun H locs t ht hφ hO hS => ?_)
            obtain ⟨rv23, hRM24⟩ := hφ
            have hP : va_P D vwCl (wY ca ad M24) H := by rw [← ht]; exact hO
            obtain ⟨M25, qM25, hf⟩ := bnd_some hf
            obtain ⟨bM25, zM25, eM25⟩ := wr_some qM25
            have hRM25 : RR M25 := by rw [eM25]; exact RR_st hRM24 _ _ zM25
            refine jx_iast hx hb hK hP hI hS 17 0 (by decide) gY_17 rfl (by decide) bM25 zM25 dX5_readsOrder_128 (fun H locs hP hS => ?_)
            rw [← eM25] at hP
            refine lv_aload_n hx hb dX5_readsOrder_129 rfl (lv_at hl 0 rfl) ?_
            refine lv_bipush (v := J 43) hx hb dX5_readsOrder_130 (by decide +kernel) ?_
            obtain ⟨M27, qM27, hf⟩ := bnd_some hf
            refine jc_v (va_runV (As := [.int (J 43)]) (rest := []) ⟨hx, hb, hml, hown, hts⟩ (kX5_wants l D ca ad hI M25 hRM25 43 (by decide : inR 43) M27 qM27) (cwV 1 hts gX5_readsOrder_X5_wants rfl rfl rfl (by decide +kernel) ⟨Nat.le_of_ble_eq_true rfl, Nat.le_of_ble_eq_true rfl⟩) (pvY hK hP [.int (J 43)]) rfl rfl hl.1 rfl (lv_room (Nat.le_of_ble_eq_true rfl)) dX5_readsOrder_132 ⟨Nat.zero_le _, Nat.zero_le _⟩) hS (fun H locs t ht hφ hO hS => ?_)
            have hRM27 := hφ
            have hP : va_P D vwCl (wY ca ad M27) H := by rw [← ht]; exact hO
            refine lv_aload_n hx hb dX5_readsOrder_135 rfl (lv_at hl 0 rfl) ?_
            refine va_get (D := D) (ci := 5) (v := .ref (ad 17)) (C := RX5) (T := TX5) (N := 23) hx hb hts hinX5 hown hK hP 0 (wL_get (by decide) (gY_0 _)) rfl 21 (by decide) (hts (.fieldLink RX5 59 "VisitVansModel" "told" "[I") (List.mem_of_getElem? (i := 4) rfl)) (fun _ h => h) rfl dX5_readsOrder_136 ?_
            refine lv_iload_n hx hb dX5_readsOrder_139 rfl (lv_at hl 1 rfl) ?_
            refine lv_iconst (v := J 2) hx hb dX5_readsOrder_140 rfl ?_
            refine jv_iadd hx hb dX5_readsOrder_141 ?_
            refine lv_aload_n hx hb dX5_readsOrder_142 rfl (lv_at hl 0 rfl) ?_
            refine lv_bipush (v := J 9) hx hb dX5_readsOrder_143 (by decide +kernel) ?_
            obtain ⟨v28, M29, qv28, hf⟩ := bnd2_some hf
            refine jc_i (va_runV (As := [.int (J 9)]) (rest := [.int (J ((7 * (M 0 22)) + 2)), .ref (ad 17)]) ⟨hx, hb, hml, hown, hts⟩ (kX5_digit l D ca ad hI M27 hRM27 9 (by decide : inR 9) v28 M29 qv28) (cwV 1 hts gX5_readsOrder_X5_digit rfl rfl rfl (by decide +kernel) ⟨Nat.le_of_ble_eq_true rfl, Nat.le_of_ble_eq_true rfl⟩) (pvY hK hP [.int (J 9)]) rfl rfl hl.1 rfl (lv_room (Nat.le_of_ble_eq_true rfl)) dX5_readsOrder_145 ⟨Nat.zero_le _, Nat.zero_le _⟩) hS (fun H locs t ht hφ hO hS => ?_)
            obtain ⟨rv28, hRM29⟩ := hφ
            have hP : va_P D vwCl (wY ca ad M29) H := by rw [← ht]; exact hO
            obtain ⟨M30, qM30, hf⟩ := bnd_some hf
            obtain ⟨bM30, zM30, eM30⟩ := wr_some qM30
            have hRM30 : RR M30 := by rw [eM30]; exact RR_st hRM29 _ _ zM30
            refine jx_iast hx hb hK hP hI hS 17 0 (by decide) gY_17 rfl (by decide) bM30 zM30 dX5_readsOrder_148 (fun H locs hP hS => ?_)
            rw [← eM30] at hP
            refine lv_aload_n hx hb dX5_readsOrder_149 rfl (lv_at hl 0 rfl) ?_
            refine lv_bipush (v := J 61) hx hb dX5_readsOrder_150 (by decide +kernel) ?_
            obtain ⟨M32, qM32, hf⟩ := bnd_some hf
            refine jc_v (va_runV (As := [.int (J 61)]) (rest := []) ⟨hx, hb, hml, hown, hts⟩ (kX5_wants l D ca ad hI M30 hRM30 61 (by decide : inR 61) M32 qM32) (cwV 1 hts gX5_readsOrder_X5_wants rfl rfl rfl (by decide +kernel) ⟨Nat.le_of_ble_eq_true rfl, Nat.le_of_ble_eq_true rfl⟩) (pvY hK hP [.int (J 61)]) rfl rfl hl.1 rfl (lv_room (Nat.le_of_ble_eq_true rfl)) dX5_readsOrder_152 ⟨Nat.zero_le _, Nat.zero_le _⟩) hS (fun H locs t ht hφ hO hS => ?_)
            have hRM32 := hφ
            have hP : va_P D vwCl (wY ca ad M32) H := by rw [← ht]; exact hO
            refine lv_aload_n hx hb dX5_readsOrder_155 rfl (lv_at hl 0 rfl) ?_
            refine va_get (D := D) (ci := 5) (v := .ref (ad 17)) (C := RX5) (T := TX5) (N := 23) hx hb hts hinX5 hown hK hP 0 (wL_get (by decide) (gY_0 _)) rfl 21 (by decide) (hts (.fieldLink RX5 59 "VisitVansModel" "told" "[I") (List.mem_of_getElem? (i := 4) rfl)) (fun _ h => h) rfl dX5_readsOrder_156 ?_
            refine lv_iload_n hx hb dX5_readsOrder_159 rfl (lv_at hl 1 rfl) ?_
            refine lv_iconst (v := J 3) hx hb dX5_readsOrder_160 rfl ?_
            refine jv_iadd hx hb dX5_readsOrder_161 ?_
            refine lv_aload_n hx hb dX5_readsOrder_162 rfl (lv_at hl 0 rfl) ?_
            obtain ⟨v33, M34, qv33, hf⟩ := bnd2_some hf
            refine jc_i (va_runV (As := []) (rest := [.int (J ((7 * (M 0 22)) + 3)), .ref (ad 17)]) ⟨hx, hb, hml, hown, hts⟩ (kX5_number l D ca ad hI M32 hRM32 v33 M34 qv33) (cwV 0 hts gX5_readsOrder_X5_number rfl rfl rfl (by decide +kernel) ⟨Nat.le_of_ble_eq_true rfl, Nat.le_of_ble_eq_true rfl⟩) (pvY hK hP []) rfl rfl hl.1 rfl (lv_room (Nat.le_of_ble_eq_true rfl)) dX5_readsOrder_163 ⟨Nat.zero_le _, Nat.zero_le _⟩) hS (fun H locs t ht hφ hO hS => ?_)
            obtain ⟨rv33, hRM34⟩ := hφ
            have hP : va_P D vwCl (wY ca ad M34) H := by rw [← ht]; exact hO
            obtain ⟨M35, qM35, hf⟩ := bnd_some hf
            obtain ⟨bM35, zM35, eM35⟩ := wr_some qM35
            have hRM35 : RR M35 := by rw [eM35]; exact RR_st hRM34 _ _ zM35
            refine jx_iast hx hb hK hP hI hS 17 0 (by decide) gY_17 rfl (by decide) bM35 zM35 dX5_readsOrder_166 (fun H locs hP hS => ?_)
            rw [← eM35] at hP
            refine lv_goto (tgt := 182) hx hb dX5_readsOrder_167 (by decide) ?_
            cases hf
            exact K17 _ _ _ hRM35 hP hS (lv_sub hl [0] rfl)
        · have hf := itep hf c18
          refine lv_aload_n hx hb dX5_readsOrder_101 rfl (lv_at hl 0 rfl) ?_
          refine lv_iload_n hx hb dX5_readsOrder_102 rfl (lv_at hl 1 rfl) ?_
          obtain ⟨g36, hf⟩ := gd_some hf
          obtain ⟨M38, qM38, hf⟩ := bnd_some hf
          refine jc_v (va_runV (As := [.int (J (7 * (M 0 22)))]) (rest := []) ⟨hx, hb, hml, hown, hts⟩ (kX5_readsVan l D ca ad hI M15 hRM15 (7 * (M 0 22)) g36 M38 qM38) (cwV 1 hts gX5_readsOrder_X5_readsVan rfl rfl rfl (by decide +kernel) ⟨Nat.le_of_ble_eq_true rfl, Nat.le_of_ble_eq_true rfl⟩) (pvY hK hP [.int (J (7 * (M 0 22)))]) rfl rfl hl.1 rfl (lv_room (Nat.le_of_ble_eq_true rfl)) dX5_readsOrder_103 ⟨Nat.zero_le _, Nat.zero_le _⟩) hS (fun H locs t ht hφ hO hS => ?_)
          have hRM38 := hφ
          have hP : va_P D vwCl (wY ca ad M38) H := by rw [← ht]; exact hO
          refine lv_goto (tgt := 182) hx hb dX5_readsOrder_106 (by decide) ?_
          cases hf
          exact K17 _ _ _ hRM38 hP hS (lv_sub hl [0] rfl)
      · have hf := itep hf c16
        refine lv_aload_n hx hb dX5_readsOrder_87 rfl (lv_at hl 0 rfl) ?_
        refine lv_iload_n hx hb dX5_readsOrder_88 rfl (lv_at hl 1 rfl) ?_
        obtain ⟨g39, hf⟩ := gd_some hf
        obtain ⟨M41, qM41, hf⟩ := bnd_some hf
        refine jc_v (va_runV (As := [.int (J (7 * (M 0 22)))]) (rest := []) ⟨hx, hb, hml, hown, hts⟩ (kX5_readsVisit l D ca ad hI M15 hRM15 (7 * (M 0 22)) g39 M41 qM41) (cwV 1 hts gX5_readsOrder_X5_readsVisit rfl rfl rfl (by decide +kernel) ⟨Nat.le_of_ble_eq_true rfl, Nat.le_of_ble_eq_true rfl⟩) (pvY hK hP [.int (J (7 * (M 0 22)))]) rfl rfl hl.1 rfl (lv_room (Nat.le_of_ble_eq_true rfl)) dX5_readsOrder_89 ⟨Nat.zero_le _, Nat.zero_le _⟩) hS (fun H locs t ht hφ hO hS => ?_)
        have hRM41 := hφ
        have hP : va_P D vwCl (wY ca ad M41) H := by rw [← ht]; exact hO
        refine lv_goto (tgt := 182) hx hb dX5_readsOrder_92 (by decide) ?_
        cases hf
        exact K17 _ _ _ hRM41 hP hS (lv_sub hl [0] rfl)
    have hf := h12
    clear h12
    refine jv_if_eq (tgt := 69) hx hb dX5_readsOrder_62 (by decide) (hRM10 0 20) (fun c11 => ?_) (fun c11 => ?_)
    · have hf := itep hf c11
      refine lv_iconst (v := J 0) hx hb dX5_readsOrder_69 rfl ?_
      cases hf
      exact K12 _ _ _ (by decide : inR 0)  hP hS (lv_sub hl [0, 1, 2] rfl)
    · have hf := iten hf c11
      refine lv_iconst (v := J 1) hx hb dX5_readsOrder_65 rfl ?_
      refine lv_goto (tgt := 70) hx hb dX5_readsOrder_66 (by decide) ?_
      cases hf
      exact K12 _ _ _ (by decide : inR 1)  hP hS (lv_sub hl [0, 1, 2] rfl)
  have hf := h4
  clear h4
  refine jv_if_eq (tgt := 49) hx hb dX5_readsOrder_18 (by decide) (hR 0 20) (fun c3 => ?_) (fun c3 => ?_)
  · have hf := itep hf c3
    refine lv_iconst (v := J 0) hx hb dX5_readsOrder_49 rfl ?_
    cases hf
    exact K4 _ _ _ (by decide : inR 0)  hP hS (lv_sub hl [2, 1, 0] rfl)
  · have hf := iten hf c3
    refine lv_iload_n hx hb dX5_readsOrder_21 rfl (lv_at hl 0 rfl) ?_
    refine lv_bipush (v := J 118) hx hb dX5_readsOrder_22 (by decide +kernel) ?_
    refine jv_icmp_eq (tgt := 45) hx hb dX5_readsOrder_24 (by decide) rv1 (by decide : inR 118) (fun c5 => ?_) (fun c5 => ?_)
    · have hf := itep hf c5
      refine lv_iconst (v := J 1) hx hb dX5_readsOrder_45 rfl ?_
      refine lv_goto (tgt := 50) hx hb dX5_readsOrder_46 (by decide) ?_
      cases hf
      exact K4 _ _ _ (by decide : inR 1)  hP hS (lv_sub hl [2, 1, 0] rfl)
    · have hf := iten hf c5
      refine lv_iload_n hx hb dX5_readsOrder_27 rfl (lv_at hl 0 rfl) ?_
      refine lv_bipush (v := J 119) hx hb dX5_readsOrder_28 (by decide +kernel) ?_
      refine jv_icmp_eq (tgt := 45) hx hb dX5_readsOrder_30 (by decide) rv1 (by decide : inR 119) (fun c6 => ?_) (fun c6 => ?_)
      · have hf := itep hf c6
        refine lv_iconst (v := J 1) hx hb dX5_readsOrder_45 rfl ?_
        refine lv_goto (tgt := 50) hx hb dX5_readsOrder_46 (by decide) ?_
        cases hf
        exact K4 _ _ _ (by decide : inR 1)  hP hS (lv_sub hl [2, 1, 0] rfl)
      · have hf := iten hf c6
        refine lv_iload_n hx hb dX5_readsOrder_33 rfl (lv_at hl 0 rfl) ?_
        refine lv_bipush (v := J 108) hx hb dX5_readsOrder_34 (by decide +kernel) ?_
        refine jv_icmp_eq (tgt := 45) hx hb dX5_readsOrder_36 (by decide) rv1 (by decide : inR 108) (fun c7 => ?_) (fun c7 => ?_)
        · have hf := itep hf c7
          refine lv_iconst (v := J 1) hx hb dX5_readsOrder_45 rfl ?_
          refine lv_goto (tgt := 50) hx hb dX5_readsOrder_46 (by decide) ?_
          cases hf
          exact K4 _ _ _ (by decide : inR 1)  hP hS (lv_sub hl [2, 1, 0] rfl)
        · have hf := iten hf c7
          refine lv_iload_n hx hb dX5_readsOrder_39 rfl (lv_at hl 0 rfl) ?_
          refine lv_bipush (v := J 120) hx hb dX5_readsOrder_40 (by decide +kernel) ?_
          refine jv_icmp_ne (tgt := 49) hx hb dX5_readsOrder_42 (by decide) rv1 (by decide : inR 120) (fun c8 => ?_) (fun c8 => ?_)
          · have hf := iten hf c8
            refine lv_iconst (v := J 0) hx hb dX5_readsOrder_49 rfl ?_
            cases hf
            exact K4 _ _ _ (by decide : inR 0)  hP hS (lv_sub hl [2, 1, 0] rfl)
          · have hf := itep hf c8
            refine lv_iconst (v := J 1) hx hb dX5_readsOrder_45 rfl ?_
            refine lv_goto (tgt := 50) hx hb dX5_readsOrder_46 (by decide) ?_
            cases hf
            exact K4 _ _ _ (by decide : inR 1)  hP hS (lv_sub hl [2, 1, 0] rfl)
def fX5_reads_L19 : Nat → MM → Option (MM)
  | 0, _ => none
  | n + 1, M_6 => if (M_6 0 20) = 0 then some M_6 else if (M_6 0 7) ≤ (M_6 0 19) then some M_6 else bnd (fX5_wants 59 M_6) (fun M10 => if (M10 0 20) = 0 then fX5_reads_L19 n M10 else bnd (fX5_readsOrder M10) (fun M13 => fX5_reads_L19 n M13))
def fX5_reads (M : MM) : Option (Int × MM) := bnd (some (stM M 0 19 0)) (fun M1 => bnd (some (stM M1 0 20 1)) (fun M2 => bnd (some (stM M2 0 22 0)) (fun M3 => bnd (fX5_readsOrder M3) (fun M5 => bnd (fX5_reads_L19 4000 M5) (fun N_6 => bnd (if (N_6 0 20) = 0 then some ((N_6 0 19)) else some (((-6) : Int))) (fun y15_0 => some (y15_0, N_6)))))))
set_option maxHeartbeats 4000000 in
set_option maxRecDepth 100000 in
theorem kX5_reads (l : Launch) (D : va_G) (ca : Nat → ClassId) (ad : Nat → Nat) (hI : aInj 18 ad) (M : MM) (hR : RR M) (res : Int) (M' : MM) (hf : fX5_reads M = some (res, M')) : CI l yX5_reads wsX5_reads 5 110 [.ref (ad 0)] (PY D ca ad M) res (inR res ∧ RR M') (OY D ca ad M') (aS 18 ad) := by
  refine Met.ofW (cc := cX5_reads) (maxL := 1) (ret := (some .int)) (by decide) rfl ?_
  intro p e s m args below meth c s₁ B hml hv
  obtain ⟨rfl, hP, hK⟩ := hv
  have hx := B.exec
  have hb := B.bytes
  have hr := B.returns
  have hts := atoms_spec (ws := wsX5_reads) B.pre
  have hown : s.vm.findClass RX5 = some m.cls := findClass_of_methodNamed B.named
  have hlocks := B.notSynchronized
  have hS : va_S (aS 18 ad) s.heap s.heap [] := va_S.rf
  have hinX5 : ∀ w ∈ wsX50, w ∈ wsX5_reads := by decide +kernel
  have hl := lv_entry ([.ref (ad 0)]) (n := 1) (Nat.le_of_ble_eq_true rfl)
  rw [lg_entry_eq]
  generalize (lg_sl ([.ref (ad 0)]) ++ List.replicate (1 - (lg_sl ([.ref (ad 0)])).length) Slot.unset).toArray = ls at hl ⊢
  have hl : lv_has ls 1 [(0, .ref (ad 0))] := hl
  unfold fX5_reads at hf
  refine lv_aload_n hx hb dX5_reads_0 rfl (lv_at hl 0 rfl) ?_
  refine lv_iconst (v := J 0) hx hb dX5_reads_1 rfl ?_
  obtain ⟨M1, eM1, hf⟩ := bnd_some hf
  have eM1 := Option.some.inj eM1
  have hRM1 : RR M1 := by rw [← eM1]; exact RR_st hR 0 19 (by decide : inR 0)
  refine va_put (D := D) (ci := 5) (v := .int (J 0)) (ty := .int) (C := RX5) (T := TX5) (N := 23) hx hb hts hinX5 tyX5 tyX5_ok nmX5 hown hK hP (wL_D hI M) hS 0 (wL_get (by decide) (gY_0 _)) rfl 19 (by decide) (hts (.fieldLink RX5 190 "VisitVansModel" "at" "I") (List.mem_of_getElem? (i := 1) rfl)) (fun _ h => h) rfl rfl rfl rfl (Nat.le_of_ble_eq_true rfl) dX5_reads_2 (fun H locs hP hD hS => ?_)
  have hP : va_P D vwCl (wY ca ad M1) H := by rw [← eM1]; exact hPset (gY_0_s19) stM_o hP
  refine lv_aload_n hx hb dX5_reads_5 rfl (lv_at hl 0 rfl) ?_
  refine lv_iconst (v := J 1) hx hb dX5_reads_6 rfl ?_
  obtain ⟨M2, eM2, hf⟩ := bnd_some hf
  have eM2 := Option.some.inj eM2
  have hRM2 : RR M2 := by rw [← eM2]; exact RR_st hRM1 0 20 (J_bR (by decide))
  refine va_put (D := D) (ci := 5) (v := .int (J 1)) (ty := .boolean) (C := RX5) (T := TX5) (N := 23) hx hb hts hinX5 tyX5 tyX5_ok nmX5 hown hK hP (wL_D hI M1) hS 0 (wL_get (by decide) (gY_0 _)) rfl 20 (by decide) (hts (.fieldLink RX5 193 "VisitVansModel" "isWell" "Z") (List.mem_of_getElem? (i := 2) rfl)) (fun _ h => h) rfl rfl (J_wZ (by decide)).1 (J_wZ (by decide)).2 (Nat.le_of_ble_eq_true rfl) dX5_reads_7 (fun H locs hP hD hS => ?_)
  have hP : va_P D vwCl (wY ca ad M2) H := by rw [← eM2]; exact hPset (gY_0_s20) stM_o hP
  refine lv_aload_n hx hb dX5_reads_10 rfl (lv_at hl 0 rfl) ?_
  refine lv_iconst (v := J 0) hx hb dX5_reads_11 rfl ?_
  obtain ⟨M3, eM3, hf⟩ := bnd_some hf
  have eM3 := Option.some.inj eM3
  have hRM3 : RR M3 := by rw [← eM3]; exact RR_st hRM2 0 22 (by decide : inR 0)
  refine va_put (D := D) (ci := 5) (v := .int (J 0)) (ty := .int) (C := RX5) (T := TX5) (N := 23) hx hb hts hinX5 tyX5 tyX5_ok nmX5 hown hK hP (wL_D hI M2) hS 0 (wL_get (by decide) (gY_0 _)) rfl 22 (by decide) (hts (.fieldLink RX5 211 "VisitVansModel" "toldMany" "I") (List.mem_of_getElem? (i := 3) rfl)) (fun _ h => h) rfl rfl rfl rfl (Nat.le_of_ble_eq_true rfl) dX5_reads_12 (fun H locs hP hD hS => ?_)
  have hP : va_P D vwCl (wY ca ad M3) H := by rw [← eM3]; exact hPset (gY_0_s22) stM_o hP
  refine lv_aload_n hx hb dX5_reads_15 rfl (lv_at hl 0 rfl) ?_
  obtain ⟨M5, qM5, hf⟩ := bnd_some hf
  refine jc_v (va_runV (As := []) (rest := []) ⟨hx, hb, hml, hown, hts⟩ (kX5_readsOrder l D ca ad hI M3 hRM3 M5 qM5) (cwV 0 hts gX5_reads_X5_readsOrder rfl rfl rfl (by decide +kernel) ⟨Nat.le_of_ble_eq_true rfl, Nat.le_of_ble_eq_true rfl⟩) (pvY hK hP []) rfl rfl hl.1 rfl (lv_room (Nat.le_of_ble_eq_true rfl)) dX5_reads_16 ⟨Nat.zero_le _, Nat.zero_le _⟩) hS (fun H locs t ht hφ hO hS => ?_)
  have hRM5 := hφ
  have hP : va_P D vwCl (wY ca ad M5) H := by rw [← ht]; exact hO
  obtain ⟨N_6, h6, hf⟩ := bnd_some hf
  have K6 : ∀ (H : Heap) (locs : List Loc) (ls : Array Slot), RR N_6 → va_P D vwCl (wY ca ad N_6) H → va_S (aS 18 ad) s.heap H locs → lv_has ls 1 [(0, .ref (ad 0))] → W p l e (headSpec wsX5_reads (RmC 5 110)).room s m ([.ref (ad 0)] : List Value).toArray below meth c H locs 0 0 (MQ below (va_Qi (fun x (_ : Unit) => x = J res ∧ (inR res ∧ RR M')) (fun _ => (OY D ca ad M')) (aS 18 ad)) ([.ref (ad 0)] : List Value).toArray s 0 0 (aS 18 ad)) (F0 m 57 ls []) := by
    intro H locs ls hRN_6 hP hS hl
    refine lv_aload_n hx hb dX5_reads_57 rfl (lv_at hl 0 rfl) ?_
    refine va_get (D := D) (ci := 5) (v := .int (J (N_6 0 20))) (C := RX5) (T := TX5) (N := 23) hx hb hts hinX5 hown hK hP 0 (wL_get (by decide) (gY_0 _)) rfl 20 (by decide) (hts (.fieldLink RX5 193 "VisitVansModel" "isWell" "Z") (List.mem_of_getElem? (i := 2) rfl)) (fun _ h => h) rfl dX5_reads_58 ?_
    obtain ⟨y15_0, h15, hf⟩ := bnd_some hf
    have K15 : ∀ (H : Heap) (locs : List Loc) (ls : Array Slot), inR y15_0 → va_P D vwCl (wY ca ad N_6) H → va_S (aS 18 ad) s.heap H locs → lv_has ls 1 [] → W p l e (headSpec wsX5_reads (RmC 5 110)).room s m ([.ref (ad 0)] : List Value).toArray below meth c H locs 0 0 (MQ below (va_Qi (fun x (_ : Unit) => x = J res ∧ (inR res ∧ RR M')) (fun _ => (OY D ca ad M')) (aS 18 ad)) ([.ref (ad 0)] : List Value).toArray s 0 0 (aS 18 ad)) (F0 m 73 ls [.int (J y15_0)]) := by
      intro H locs ls ry15_0  hP hS hl
      obtain ⟨e1, e2⟩ := Prod.mk.inj (Option.some.inj hf)
      exact jend_i hx hb hr rfl hS e1 ⟨by rw [← e1]; exact ry15_0, by rw [← e2]; exact hRN_6⟩ (oY e2 hP) dX5_reads_73 hlocks
    have hf := h15
    clear h15
    refine jv_if_eq (tgt := 69) hx hb dX5_reads_61 (by decide) (hRN_6 0 20) (fun c14 => ?_) (fun c14 => ?_)
    · have hf := itep hf c14
      refine lv_aload_n hx hb dX5_reads_69 rfl (lv_at hl 0 rfl) ?_
      refine va_get (D := D) (ci := 5) (v := .int (J (N_6 0 19))) (C := RX5) (T := TX5) (N := 23) hx hb hts hinX5 hown hK hP 0 (wL_get (by decide) (gY_0 _)) rfl 19 (by decide) (hts (.fieldLink RX5 190 "VisitVansModel" "at" "I") (List.mem_of_getElem? (i := 1) rfl)) (fun _ h => h) rfl dX5_reads_70 ?_
      cases hf
      exact K15 _ _ _ (hRN_6 0 19)  hP hS (lv_sub hl [] rfl)
    · have hf := iten hf c14
      refine lv_bipush (v := J (-6)) hx hb dX5_reads_64 (by decide +kernel) ?_
      refine lv_goto (tgt := 73) hx hb dX5_reads_66 (by decide) ?_
      cases hf
      exact K15 _ _ _ (by decide : inR (-6))  hP hS (lv_sub hl [] rfl)
  have hL6 : ∀ (n : Nat) (M_6 : MM) (H : Heap) (locs : List Loc) (ls : Array Slot), RR M_6 → va_P D vwCl (wY ca ad M_6) H → va_S (aS 18 ad) s.heap H locs → lv_has ls 1 [(0, .ref (ad 0))] → fX5_reads_L19 n M_6 = some N_6 → W p l e (headSpec wsX5_reads (RmC 5 110)).room s m ([.ref (ad 0)] : List Value).toArray below meth c H locs 0 0 (MQ below (va_Qi (fun x (_ : Unit) => x = J res ∧ (inR res ∧ RR M')) (fun _ => (OY D ca ad M')) (aS 18 ad)) ([.ref (ad 0)] : List Value).toArray s 0 0 (aS 18 ad)) (F0 m 19 ls []) := by
    intro n
    induction n with
    | zero =>
      intro M_6 H locs ls hRM_6 hP hS hl hf
      rw [fX5_reads_L19] at hf
      cases hf
    | succ n ih =>
      intro M_6 H locs ls hRM_6 hP hS hl hf
      rw [fX5_reads_L19] at hf
      refine lv_aload_n hx hb dX5_reads_19 rfl (lv_at hl 0 rfl) ?_
      refine va_get (D := D) (ci := 5) (v := .int (J (M_6 0 20))) (C := RX5) (T := TX5) (N := 23) hx hb hts hinX5 hown hK hP 0 (wL_get (by decide) (gY_0 _)) rfl 20 (by decide) (hts (.fieldLink RX5 193 "VisitVansModel" "isWell" "Z") (List.mem_of_getElem? (i := 2) rfl)) (fun _ h => h) rfl dX5_reads_20 ?_
      refine jv_if_eq (tgt := 57) hx hb dX5_reads_23 (by decide) (hRM_6 0 20) (fun c7 => ?_) (fun c7 => ?_)
      · have hf := itep hf c7
        cases hf
        exact K6 _ _ _ hRM_6 hP hS (lv_sub hl [0] rfl)
      · have hf := iten hf c7
        refine lv_aload_n hx hb dX5_reads_26 rfl (lv_at hl 0 rfl) ?_
        refine va_get (D := D) (ci := 5) (v := .int (J (M_6 0 19))) (C := RX5) (T := TX5) (N := 23) hx hb hts hinX5 hown hK hP 0 (wL_get (by decide) (gY_0 _)) rfl 19 (by decide) (hts (.fieldLink RX5 190 "VisitVansModel" "at" "I") (List.mem_of_getElem? (i := 1) rfl)) (fun _ h => h) rfl dX5_reads_27 ?_
        refine lv_aload_n hx hb dX5_reads_30 rfl (lv_at hl 0 rfl) ?_
        refine va_get (D := D) (ci := 5) (v := .int (J (M_6 0 7))) (C := RX5) (T := TX5) (N := 23) hx hb hts hinX5 hown hK hP 0 (wL_get (by decide) (gY_0 _)) rfl 7 (by decide) (hts (.fieldLink RX5 168 "VisitVansModel" "length" "I") (List.mem_of_getElem? (i := 4) rfl)) (fun _ h => h) rfl dX5_reads_31 ?_
        refine jv_icmp_ge (tgt := 57) hx hb dX5_reads_34 (by decide) (hRM_6 0 19) (hRM_6 0 7) (fun c8 => ?_) (fun c8 => ?_)
        · have hf := itep hf c8
          cases hf
          exact K6 _ _ _ hRM_6 hP hS (lv_sub hl [0] rfl)
        · have hf := iten hf c8
          refine lv_aload_n hx hb dX5_reads_37 rfl (lv_at hl 0 rfl) ?_
          refine lv_bipush (v := J 59) hx hb dX5_reads_38 (by decide +kernel) ?_
          obtain ⟨M10, qM10, hf⟩ := bnd_some hf
          refine jc_v (va_runV (As := [.int (J 59)]) (rest := []) ⟨hx, hb, hml, hown, hts⟩ (kX5_wants l D ca ad hI M_6 hRM_6 59 (by decide : inR 59) M10 qM10) (cwV 1 hts gX5_reads_X5_wants rfl rfl rfl (by decide +kernel) ⟨Nat.le_of_ble_eq_true rfl, Nat.le_of_ble_eq_true rfl⟩) (pvY hK hP [.int (J 59)]) rfl rfl hl.1 rfl (lv_room (Nat.le_of_ble_eq_true rfl)) dX5_reads_40 ⟨Nat.zero_le _, Nat.zero_le _⟩) hS (fun H locs t ht hφ hO hS => ?_)
          have hRM10 := hφ
          have hP : va_P D vwCl (wY ca ad M10) H := by rw [← ht]; exact hO
          refine lv_aload_n hx hb dX5_reads_43 rfl (lv_at hl 0 rfl) ?_
          refine va_get (D := D) (ci := 5) (v := .int (J (M10 0 20))) (C := RX5) (T := TX5) (N := 23) hx hb hts hinX5 hown hK hP 0 (wL_get (by decide) (gY_0 _)) rfl 20 (by decide) (hts (.fieldLink RX5 193 "VisitVansModel" "isWell" "Z") (List.mem_of_getElem? (i := 2) rfl)) (fun _ h => h) rfl dX5_reads_44 ?_
          refine jv_if_eq (tgt := 19) hx hb dX5_reads_47 (by decide) (hRM10 0 20) (fun c11 => ?_) (fun c11 => ?_)
          · have hf := itep hf c11
            exact ih _ _ _ _ hRM10 hP hS (lv_sub hl [0] rfl) hf
          · have hf := iten hf c11
            refine lv_aload_n hx hb dX5_reads_50 rfl (lv_at hl 0 rfl) ?_
            obtain ⟨M13, qM13, hf⟩ := bnd_some hf
            refine jc_v (va_runV (As := []) (rest := []) ⟨hx, hb, hml, hown, hts⟩ (kX5_readsOrder l D ca ad hI M10 hRM10 M13 qM13) (cwV 0 hts gX5_reads_X5_readsOrder rfl rfl rfl (by decide +kernel) ⟨Nat.le_of_ble_eq_true rfl, Nat.le_of_ble_eq_true rfl⟩) (pvY hK hP []) rfl rfl hl.1 rfl (lv_room (Nat.le_of_ble_eq_true rfl)) dX5_reads_51 ⟨Nat.zero_le _, Nat.zero_le _⟩) hS (fun H locs t ht hφ hO hS => ?_)
            have hRM13 := hφ
            have hP : va_P D vwCl (wY ca ad M13) H := by rw [← ht]; exact hO
            refine lv_goto (tgt := 19) hx hb dX5_reads_54 (by decide) ?_
            exact ih _ _ _ _ hRM13 hP hS (lv_sub hl [0] rfl) hf
  exact hL6 4000 _ _ _ _ hRM5 hP hS (lv_sub hl [0] rfl) h6
def fX5_fault (M : MM) : Option (Int × MM) := bnd (some (stM M 0 0 0)) (fun M1 => bnd2 (fX5_reads M1) (fun v2 M3 => some (v2, M3)))
set_option maxHeartbeats 4000000 in
set_option maxRecDepth 100000 in
theorem kX5_fault (l : Launch) (D : va_G) (ca : Nat → ClassId) (ad : Nat → Nat) (hI : aInj 18 ad) (M : MM) (hR : RR M) (res : Int) (M' : MM) (hf : fX5_fault M = some (res, M')) : CI l yX5_fault wsX5_fault 6 130 [.ref (ad 0)] (PY D ca ad M) res (inR res ∧ RR M') (OY D ca ad M') (aS 18 ad) := by
  refine Met.ofW (cc := cX5_fault) (maxL := 1) (ret := (some .int)) (by decide) rfl ?_
  intro p e s m args below meth c s₁ B hml hv
  obtain ⟨rfl, hP, hK⟩ := hv
  have hx := B.exec
  have hb := B.bytes
  have hr := B.returns
  have hts := atoms_spec (ws := wsX5_fault) B.pre
  have hown : s.vm.findClass RX5 = some m.cls := findClass_of_methodNamed B.named
  have hlocks := B.notSynchronized
  have hS : va_S (aS 18 ad) s.heap s.heap [] := va_S.rf
  have hinX5 : ∀ w ∈ wsX50, w ∈ wsX5_fault := by decide +kernel
  have hl := lv_entry ([.ref (ad 0)]) (n := 1) (Nat.le_of_ble_eq_true rfl)
  rw [lg_entry_eq]
  generalize (lg_sl ([.ref (ad 0)]) ++ List.replicate (1 - (lg_sl ([.ref (ad 0)])).length) Slot.unset).toArray = ls at hl ⊢
  have hl : lv_has ls 1 [(0, .ref (ad 0))] := hl
  unfold fX5_fault at hf
  refine lv_aload_n hx hb dX5_fault_0 rfl (lv_at hl 0 rfl) ?_
  refine lv_iconst (v := J 0) hx hb dX5_fault_1 rfl ?_
  obtain ⟨M1, eM1, hf⟩ := bnd_some hf
  have eM1 := Option.some.inj eM1
  have hRM1 : RR M1 := by rw [← eM1]; exact RR_st hR 0 0 (by decide : inR 0)
  refine va_put (D := D) (ci := 5) (v := .int (J 0)) (ty := .int) (C := RX5) (T := TX5) (N := 23) hx hb hts hinX5 tyX5 tyX5_ok nmX5 hown hK hP (wL_D hI M) hS 0 (wL_get (by decide) (gY_0 _)) rfl 0 (by decide) (hts (.fieldLink RX5 62 "VisitVansModel" "thrown" "I") (List.mem_of_getElem? (i := 1) rfl)) (fun _ h => h) rfl rfl rfl rfl (Nat.le_of_ble_eq_true rfl) dX5_fault_2 (fun H locs hP hD hS => ?_)
  have hP : va_P D vwCl (wY ca ad M1) H := by rw [← eM1]; exact hPset (gY_0_s0) stM_o hP
  refine lv_aload_n hx hb dX5_fault_5 rfl (lv_at hl 0 rfl) ?_
  obtain ⟨v2, M3, qv2, hf⟩ := bnd2_some hf
  refine jc_i (va_runV (As := []) (rest := []) ⟨hx, hb, hml, hown, hts⟩ (kX5_reads l D ca ad hI M1 hRM1 v2 M3 qv2) (cwV 0 hts gX5_fault_X5_reads rfl rfl rfl (by decide +kernel) ⟨Nat.le_of_ble_eq_true rfl, Nat.le_of_ble_eq_true rfl⟩) (pvY hK hP []) rfl rfl hl.1 rfl (lv_room (Nat.le_of_ble_eq_true rfl)) dX5_fault_6 ⟨Nat.zero_le _, Nat.zero_le _⟩) hS (fun H locs t ht hφ hO hS => ?_)
  obtain ⟨rv2, hRM3⟩ := hφ
  have hP : va_P D vwCl (wY ca ad M3) H := by rw [← ht]; exact hO
  obtain ⟨e1, e2⟩ := Prod.mk.inj (Option.some.inj hf)
  exact jend_i hx hb hr rfl hS e1 ⟨by rw [← e1]; exact rv2, by rw [← e2]; exact hRM3⟩ (oY e2 hP) dX5_fault_9 hlocks
def fX5_refusesOrder (a1 : Int) (M : MM) : Option (Int) := bnd (rd M 17 294 a1) (fun v1 => if v1 = 108 then bnd (rd M 17 294 (a1 + 1)) (fun v3 => bnd (rd M 17 294 (a1 + 2)) (fun v4 => bnd (rd M 17 294 (a1 + 3)) (fun v5 => bnd (fX5_refusesLoad v3 v4 v5 M) (fun v6 => some v6)))) else if v1 = 118 then bnd (rd M 17 294 (a1 + 1)) (fun v8 => bnd (rd M 17 294 (a1 + 2)) (fun v9 => bnd (rd M 17 294 (a1 + 3)) (fun v10 => bnd (rd M 17 294 (a1 + 4)) (fun v11 => bnd (rd M 17 294 (a1 + 5)) (fun v12 => bnd (rd M 17 294 (a1 + 6)) (fun v13 => bnd (fX5_refusesVisit v8 v9 v10 v11 v12 v13 M) (fun v14 => some v14))))))) else if v1 = 119 then bnd (rd M 17 294 (a1 + 1)) (fun v16 => bnd (rd M 17 294 (a1 + 2)) (fun v17 => bnd (fX5_refusesVan v16 v17 M) (fun v18 => some v18))) else bnd (rd M 17 294 (a1 + 1)) (fun v20 => bnd (fX5_isVisit v20 M) (fun v21 => bnd (if v21 = 0 then some (((-1) : Int)) else some ((0 : Int))) (fun y24_0 => some y24_0))))
set_option maxHeartbeats 4000000 in
set_option maxRecDepth 100000 in
theorem kX5_refusesOrder (l : Launch) (D : va_G) (ca : Nat → ClassId) (ad : Nat → Nat) (hI : aInj 18 ad) (M : MM) (hR : RR M) (a1 : Int) (i1 : inR a1) (res : Int) (hf : fX5_refusesOrder a1 M = some res) : CI l yX5_refusesOrder wsX5_refusesOrder 3 74 [.ref (ad 0), .int (J a1)] (PY D ca ad M) res (inR res) (OY D ca ad M) (aS 18 ad) := by
  refine Met.ofW (cc := cX5_refusesOrder) (maxL := 2) (ret := (some .int)) (by decide) rfl ?_
  intro p e s m args below meth c s₁ B hml hv
  obtain ⟨rfl, hP, hK⟩ := hv
  have hx := B.exec
  have hb := B.bytes
  have hr := B.returns
  have hts := atoms_spec (ws := wsX5_refusesOrder) B.pre
  have hown : s.vm.findClass RX5 = some m.cls := findClass_of_methodNamed B.named
  have hlocks := B.notSynchronized
  have hS : va_S (aS 18 ad) s.heap s.heap [] := va_S.rf
  have hinX5 : ∀ w ∈ wsX50, w ∈ wsX5_refusesOrder := by decide +kernel
  have hl := lv_entry ([.ref (ad 0), .int (J a1)]) (n := 2) (Nat.le_of_ble_eq_true rfl)
  rw [lg_entry_eq]
  generalize (lg_sl ([.ref (ad 0), .int (J a1)]) ++ List.replicate (2 - (lg_sl ([.ref (ad 0), .int (J a1)])).length) Slot.unset).toArray = ls at hl ⊢
  have hl : lv_has ls 2 [(0, .ref (ad 0)), (1, .int (J a1))] := hl
  unfold fX5_refusesOrder at hf
  refine lv_aload_n hx hb dX5_refusesOrder_0 rfl (lv_at hl 0 rfl) ?_
  refine va_get (D := D) (ci := 5) (v := .ref (ad 17)) (C := RX5) (T := TX5) (N := 23) hx hb hts hinX5 hown hK hP 0 (wL_get (by decide) (gY_0 _)) rfl 21 (by decide) (hts (.fieldLink RX5 59 "VisitVansModel" "told" "[I") (List.mem_of_getElem? (i := 1) rfl)) (fun _ h => h) rfl dX5_refusesOrder_1 ?_
  refine lv_iload_n hx hb dX5_refusesOrder_4 rfl (lv_at hl 1 rfl) ?_
  obtain ⟨v1, qv1, hf⟩ := bnd_some hf
  obtain ⟨bv1, ev1⟩ := rd_some qv1
  have rv1 : inR v1 := by rw [ev1]; exact hR _ _
  refine jx_iald hx hb hK hP 17 0 (by decide) gY_17 rfl (by decide) bv1 ev1 dX5_refusesOrder_5 ?_
  by_cases c2_0 : v1 = 108
  · have hf := itep hf c2_0
    refine jv_look (off := 109) (tgt := 115) hx hb dX5_refusesOrder_6 rv1 (by decide) (by rw [c2_0]; rfl) (by decide) ?_
    refine lv_aload_n hx hb dX5_refusesOrder_115 rfl (lv_at hl 0 rfl) ?_
    refine lv_aload_n hx hb dX5_refusesOrder_116 rfl (lv_at hl 0 rfl) ?_
    refine va_get (D := D) (ci := 5) (v := .ref (ad 17)) (C := RX5) (T := TX5) (N := 23) hx hb hts hinX5 hown hK hP 0 (wL_get (by decide) (gY_0 _)) rfl 21 (by decide) (hts (.fieldLink RX5 59 "VisitVansModel" "told" "[I") (List.mem_of_getElem? (i := 1) rfl)) (fun _ h => h) rfl dX5_refusesOrder_117 ?_
    refine lv_iload_n hx hb dX5_refusesOrder_120 rfl (lv_at hl 1 rfl) ?_
    refine lv_iconst (v := J 1) hx hb dX5_refusesOrder_121 rfl ?_
    refine jv_iadd hx hb dX5_refusesOrder_122 ?_
    obtain ⟨v3, qv3, hf⟩ := bnd_some hf
    obtain ⟨bv3, ev3⟩ := rd_some qv3
    have rv3 : inR v3 := by rw [ev3]; exact hR _ _
    refine jx_iald hx hb hK hP 17 0 (by decide) gY_17 rfl (by decide) bv3 ev3 dX5_refusesOrder_123 ?_
    refine lv_aload_n hx hb dX5_refusesOrder_124 rfl (lv_at hl 0 rfl) ?_
    refine va_get (D := D) (ci := 5) (v := .ref (ad 17)) (C := RX5) (T := TX5) (N := 23) hx hb hts hinX5 hown hK hP 0 (wL_get (by decide) (gY_0 _)) rfl 21 (by decide) (hts (.fieldLink RX5 59 "VisitVansModel" "told" "[I") (List.mem_of_getElem? (i := 1) rfl)) (fun _ h => h) rfl dX5_refusesOrder_125 ?_
    refine lv_iload_n hx hb dX5_refusesOrder_128 rfl (lv_at hl 1 rfl) ?_
    refine lv_iconst (v := J 2) hx hb dX5_refusesOrder_129 rfl ?_
    refine jv_iadd hx hb dX5_refusesOrder_130 ?_
    obtain ⟨v4, qv4, hf⟩ := bnd_some hf
    obtain ⟨bv4, ev4⟩ := rd_some qv4
    have rv4 : inR v4 := by rw [ev4]; exact hR _ _
    refine jx_iald hx hb hK hP 17 0 (by decide) gY_17 rfl (by decide) bv4 ev4 dX5_refusesOrder_131 ?_
    refine lv_aload_n hx hb dX5_refusesOrder_132 rfl (lv_at hl 0 rfl) ?_
    refine va_get (D := D) (ci := 5) (v := .ref (ad 17)) (C := RX5) (T := TX5) (N := 23) hx hb hts hinX5 hown hK hP 0 (wL_get (by decide) (gY_0 _)) rfl 21 (by decide) (hts (.fieldLink RX5 59 "VisitVansModel" "told" "[I") (List.mem_of_getElem? (i := 1) rfl)) (fun _ h => h) rfl dX5_refusesOrder_133 ?_
    refine lv_iload_n hx hb dX5_refusesOrder_136 rfl (lv_at hl 1 rfl) ?_
    refine lv_iconst (v := J 3) hx hb dX5_refusesOrder_137 rfl ?_
    refine jv_iadd hx hb dX5_refusesOrder_138 ?_
    obtain ⟨v5, qv5, hf⟩ := bnd_some hf
    obtain ⟨bv5, ev5⟩ := rd_some qv5
    have rv5 : inR v5 := by rw [ev5]; exact hR _ _
    refine jx_iald hx hb hK hP 17 0 (by decide) gY_17 rfl (by decide) bv5 ev5 dX5_refusesOrder_139 ?_
    obtain ⟨v6, qv6, hf⟩ := bnd_some hf
    refine jc_i (va_runV (As := [.int (J v3), .int (J v4), .int (J v5)]) (rest := []) ⟨hx, hb, hml, hown, hts⟩ (kX5_refusesLoad l D ca ad hI M hR v3 v4 v5 rv3 rv4 rv5 v6 qv6) (cwV 3 hts gX5_refusesOrder_X5_refusesLoad rfl rfl rfl (by decide +kernel) ⟨Nat.le_of_ble_eq_true rfl, Nat.le_of_ble_eq_true rfl⟩) (pvY hK hP [.int (J v3), .int (J v4), .int (J v5)]) rfl rfl hl.1 rfl (lv_room (Nat.le_of_ble_eq_true rfl)) dX5_refusesOrder_140 ⟨Nat.zero_le _, Nat.zero_le _⟩) hS (fun H locs t ht hφ hO hS => ?_)
    have rv6 := hφ
    have hP : va_P D vwCl (wY ca ad M) H := by rw [← ht]; exact hO
    have e1 := Option.some.inj hf
    exact jend_i hx hb hr rfl hS e1 (by rw [← e1]; exact rv6) (oY rfl hP) dX5_refusesOrder_143 hlocks
  · have hf := iten hf c2_0
    by_cases c2_1 : v1 = 118
    · have hf := itep hf c2_1
      refine jv_look (off := 34) (tgt := 40) hx hb dX5_refusesOrder_6 rv1 (by decide) (by rw [c2_1]; rfl) (by decide) ?_
      refine lv_aload_n hx hb dX5_refusesOrder_40 rfl (lv_at hl 0 rfl) ?_
      refine lv_aload_n hx hb dX5_refusesOrder_41 rfl (lv_at hl 0 rfl) ?_
      refine va_get (D := D) (ci := 5) (v := .ref (ad 17)) (C := RX5) (T := TX5) (N := 23) hx hb hts hinX5 hown hK hP 0 (wL_get (by decide) (gY_0 _)) rfl 21 (by decide) (hts (.fieldLink RX5 59 "VisitVansModel" "told" "[I") (List.mem_of_getElem? (i := 1) rfl)) (fun _ h => h) rfl dX5_refusesOrder_42 ?_
      refine lv_iload_n hx hb dX5_refusesOrder_45 rfl (lv_at hl 1 rfl) ?_
      refine lv_iconst (v := J 1) hx hb dX5_refusesOrder_46 rfl ?_
      refine jv_iadd hx hb dX5_refusesOrder_47 ?_
      obtain ⟨v8, qv8, hf⟩ := bnd_some hf
      obtain ⟨bv8, ev8⟩ := rd_some qv8
      have rv8 : inR v8 := by rw [ev8]; exact hR _ _
      refine jx_iald hx hb hK hP 17 0 (by decide) gY_17 rfl (by decide) bv8 ev8 dX5_refusesOrder_48 ?_
      refine lv_aload_n hx hb dX5_refusesOrder_49 rfl (lv_at hl 0 rfl) ?_
      refine va_get (D := D) (ci := 5) (v := .ref (ad 17)) (C := RX5) (T := TX5) (N := 23) hx hb hts hinX5 hown hK hP 0 (wL_get (by decide) (gY_0 _)) rfl 21 (by decide) (hts (.fieldLink RX5 59 "VisitVansModel" "told" "[I") (List.mem_of_getElem? (i := 1) rfl)) (fun _ h => h) rfl dX5_refusesOrder_50 ?_
      refine lv_iload_n hx hb dX5_refusesOrder_53 rfl (lv_at hl 1 rfl) ?_
      refine lv_iconst (v := J 2) hx hb dX5_refusesOrder_54 rfl ?_
      refine jv_iadd hx hb dX5_refusesOrder_55 ?_
      obtain ⟨v9, qv9, hf⟩ := bnd_some hf
      obtain ⟨bv9, ev9⟩ := rd_some qv9
      have rv9 : inR v9 := by rw [ev9]; exact hR _ _
      refine jx_iald hx hb hK hP 17 0 (by decide) gY_17 rfl (by decide) bv9 ev9 dX5_refusesOrder_56 ?_
      refine lv_aload_n hx hb dX5_refusesOrder_57 rfl (lv_at hl 0 rfl) ?_
      refine va_get (D := D) (ci := 5) (v := .ref (ad 17)) (C := RX5) (T := TX5) (N := 23) hx hb hts hinX5 hown hK hP 0 (wL_get (by decide) (gY_0 _)) rfl 21 (by decide) (hts (.fieldLink RX5 59 "VisitVansModel" "told" "[I") (List.mem_of_getElem? (i := 1) rfl)) (fun _ h => h) rfl dX5_refusesOrder_58 ?_
      refine lv_iload_n hx hb dX5_refusesOrder_61 rfl (lv_at hl 1 rfl) ?_
      refine lv_iconst (v := J 3) hx hb dX5_refusesOrder_62 rfl ?_
      refine jv_iadd hx hb dX5_refusesOrder_63 ?_
      obtain ⟨v10, qv10, hf⟩ := bnd_some hf
      obtain ⟨bv10, ev10⟩ := rd_some qv10
      have rv10 : inR v10 := by rw [ev10]; exact hR _ _
      refine jx_iald hx hb hK hP 17 0 (by decide) gY_17 rfl (by decide) bv10 ev10 dX5_refusesOrder_64 ?_
      refine lv_aload_n hx hb dX5_refusesOrder_65 rfl (lv_at hl 0 rfl) ?_
      refine va_get (D := D) (ci := 5) (v := .ref (ad 17)) (C := RX5) (T := TX5) (N := 23) hx hb hts hinX5 hown hK hP 0 (wL_get (by decide) (gY_0 _)) rfl 21 (by decide) (hts (.fieldLink RX5 59 "VisitVansModel" "told" "[I") (List.mem_of_getElem? (i := 1) rfl)) (fun _ h => h) rfl dX5_refusesOrder_66 ?_
      refine lv_iload_n hx hb dX5_refusesOrder_69 rfl (lv_at hl 1 rfl) ?_
      refine lv_iconst (v := J 4) hx hb dX5_refusesOrder_70 rfl ?_
      refine jv_iadd hx hb dX5_refusesOrder_71 ?_
      obtain ⟨v11, qv11, hf⟩ := bnd_some hf
      obtain ⟨bv11, ev11⟩ := rd_some qv11
      have rv11 : inR v11 := by rw [ev11]; exact hR _ _
      refine jx_iald hx hb hK hP 17 0 (by decide) gY_17 rfl (by decide) bv11 ev11 dX5_refusesOrder_72 ?_
      refine lv_aload_n hx hb dX5_refusesOrder_73 rfl (lv_at hl 0 rfl) ?_
      refine va_get (D := D) (ci := 5) (v := .ref (ad 17)) (C := RX5) (T := TX5) (N := 23) hx hb hts hinX5 hown hK hP 0 (wL_get (by decide) (gY_0 _)) rfl 21 (by decide) (hts (.fieldLink RX5 59 "VisitVansModel" "told" "[I") (List.mem_of_getElem? (i := 1) rfl)) (fun _ h => h) rfl dX5_refusesOrder_74 ?_
      refine lv_iload_n hx hb dX5_refusesOrder_77 rfl (lv_at hl 1 rfl) ?_
      refine lv_iconst (v := J 5) hx hb dX5_refusesOrder_78 rfl ?_
      refine jv_iadd hx hb dX5_refusesOrder_79 ?_
      obtain ⟨v12, qv12, hf⟩ := bnd_some hf
      obtain ⟨bv12, ev12⟩ := rd_some qv12
      have rv12 : inR v12 := by rw [ev12]; exact hR _ _
      refine jx_iald hx hb hK hP 17 0 (by decide) gY_17 rfl (by decide) bv12 ev12 dX5_refusesOrder_80 ?_
      refine lv_aload_n hx hb dX5_refusesOrder_81 rfl (lv_at hl 0 rfl) ?_
      refine va_get (D := D) (ci := 5) (v := .ref (ad 17)) (C := RX5) (T := TX5) (N := 23) hx hb hts hinX5 hown hK hP 0 (wL_get (by decide) (gY_0 _)) rfl 21 (by decide) (hts (.fieldLink RX5 59 "VisitVansModel" "told" "[I") (List.mem_of_getElem? (i := 1) rfl)) (fun _ h => h) rfl dX5_refusesOrder_82 ?_
      refine lv_iload_n hx hb dX5_refusesOrder_85 rfl (lv_at hl 1 rfl) ?_
      refine lv_bipush (v := J 6) hx hb dX5_refusesOrder_86 (by decide +kernel) ?_
      refine jv_iadd hx hb dX5_refusesOrder_88 ?_
      obtain ⟨v13, qv13, hf⟩ := bnd_some hf
      obtain ⟨bv13, ev13⟩ := rd_some qv13
      have rv13 : inR v13 := by rw [ev13]; exact hR _ _
      refine jx_iald hx hb hK hP 17 0 (by decide) gY_17 rfl (by decide) bv13 ev13 dX5_refusesOrder_89 ?_
      obtain ⟨v14, qv14, hf⟩ := bnd_some hf
      refine jc_i (va_runV (As := [.int (J v8), .int (J v9), .int (J v10), .int (J v11), .int (J v12), .int (J v13)]) (rest := []) ⟨hx, hb, hml, hown, hts⟩ (kX5_refusesVisit l D ca ad hI M hR v8 v9 v10 v11 v12 v13 rv8 rv9 rv10 rv11 rv12 rv13 v14 qv14) (cwV 6 hts gX5_refusesOrder_X5_refusesVisit rfl rfl rfl (by decide +kernel) ⟨Nat.le_of_ble_eq_true rfl, Nat.le_of_ble_eq_true rfl⟩) (pvY hK hP [.int (J v8), .int (J v9), .int (J v10), .int (J v11), .int (J v12), .int (J v13)]) rfl rfl hl.1 rfl (lv_room (Nat.le_of_ble_eq_true rfl)) dX5_refusesOrder_90 ⟨Nat.zero_le _, Nat.zero_le _⟩) hS (fun H locs t ht hφ hO hS => ?_)
      have rv14 := hφ
      have hP : va_P D vwCl (wY ca ad M) H := by rw [← ht]; exact hO
      have e1 := Option.some.inj hf
      exact jend_i hx hb hr rfl hS e1 (by rw [← e1]; exact rv14) (oY rfl hP) dX5_refusesOrder_93 hlocks
    · have hf := iten hf c2_1
      by_cases c2_2 : v1 = 119
      · have hf := itep hf c2_2
        refine jv_look (off := 88) (tgt := 94) hx hb dX5_refusesOrder_6 rv1 (by decide) (by rw [c2_2]; rfl) (by decide) ?_
        refine lv_aload_n hx hb dX5_refusesOrder_94 rfl (lv_at hl 0 rfl) ?_
        refine lv_aload_n hx hb dX5_refusesOrder_95 rfl (lv_at hl 0 rfl) ?_
        refine va_get (D := D) (ci := 5) (v := .ref (ad 17)) (C := RX5) (T := TX5) (N := 23) hx hb hts hinX5 hown hK hP 0 (wL_get (by decide) (gY_0 _)) rfl 21 (by decide) (hts (.fieldLink RX5 59 "VisitVansModel" "told" "[I") (List.mem_of_getElem? (i := 1) rfl)) (fun _ h => h) rfl dX5_refusesOrder_96 ?_
        refine lv_iload_n hx hb dX5_refusesOrder_99 rfl (lv_at hl 1 rfl) ?_
        refine lv_iconst (v := J 1) hx hb dX5_refusesOrder_100 rfl ?_
        refine jv_iadd hx hb dX5_refusesOrder_101 ?_
        obtain ⟨v16, qv16, hf⟩ := bnd_some hf
        obtain ⟨bv16, ev16⟩ := rd_some qv16
        have rv16 : inR v16 := by rw [ev16]; exact hR _ _
        refine jx_iald hx hb hK hP 17 0 (by decide) gY_17 rfl (by decide) bv16 ev16 dX5_refusesOrder_102 ?_
        refine lv_aload_n hx hb dX5_refusesOrder_103 rfl (lv_at hl 0 rfl) ?_
        refine va_get (D := D) (ci := 5) (v := .ref (ad 17)) (C := RX5) (T := TX5) (N := 23) hx hb hts hinX5 hown hK hP 0 (wL_get (by decide) (gY_0 _)) rfl 21 (by decide) (hts (.fieldLink RX5 59 "VisitVansModel" "told" "[I") (List.mem_of_getElem? (i := 1) rfl)) (fun _ h => h) rfl dX5_refusesOrder_104 ?_
        refine lv_iload_n hx hb dX5_refusesOrder_107 rfl (lv_at hl 1 rfl) ?_
        refine lv_iconst (v := J 2) hx hb dX5_refusesOrder_108 rfl ?_
        refine jv_iadd hx hb dX5_refusesOrder_109 ?_
        obtain ⟨v17, qv17, hf⟩ := bnd_some hf
        obtain ⟨bv17, ev17⟩ := rd_some qv17
        have rv17 : inR v17 := by rw [ev17]; exact hR _ _
        refine jx_iald hx hb hK hP 17 0 (by decide) gY_17 rfl (by decide) bv17 ev17 dX5_refusesOrder_110 ?_
        obtain ⟨v18, qv18, hf⟩ := bnd_some hf
        refine jc_i (va_runV (As := [.int (J v16), .int (J v17)]) (rest := []) ⟨hx, hb, hml, hown, hts⟩ (kX5_refusesVan l D ca ad hI M hR v16 v17 rv16 rv17 v18 qv18) (cwV 2 hts gX5_refusesOrder_X5_refusesVan rfl rfl rfl (by decide +kernel) ⟨Nat.le_of_ble_eq_true rfl, Nat.le_of_ble_eq_true rfl⟩) (pvY hK hP [.int (J v16), .int (J v17)]) rfl rfl hl.1 rfl (lv_room (Nat.le_of_ble_eq_true rfl)) dX5_refusesOrder_111 ⟨Nat.zero_le _, Nat.zero_le _⟩) hS (fun H locs t ht hφ hO hS => ?_)
        have rv18 := hφ
        have hP : va_P D vwCl (wY ca ad M) H := by rw [← ht]; exact hO
        have e1 := Option.some.inj hf
        exact jend_i hx hb hr rfl hS e1 (by rw [← e1]; exact rv18) (oY rfl hP) dX5_refusesOrder_114 hlocks
      · have hf := iten hf c2_2
        refine jv_look (off := 138) (tgt := 144) hx hb dX5_refusesOrder_6 rv1 (by decide) (by show Op.lookupswitch.offset [(108, 109), (118, 34), (119, 88)] _ _ = _; rw [Op.lookupswitch.offset_cons, if_neg (by omega), Op.lookupswitch.offset_cons, if_neg (by omega), Op.lookupswitch.offset_cons, if_neg (by omega)]; rfl) (by decide) ?_
        refine lv_aload_n hx hb dX5_refusesOrder_144 rfl (lv_at hl 0 rfl) ?_
        refine lv_aload_n hx hb dX5_refusesOrder_145 rfl (lv_at hl 0 rfl) ?_
        refine va_get (D := D) (ci := 5) (v := .ref (ad 17)) (C := RX5) (T := TX5) (N := 23) hx hb hts hinX5 hown hK hP 0 (wL_get (by decide) (gY_0 _)) rfl 21 (by decide) (hts (.fieldLink RX5 59 "VisitVansModel" "told" "[I") (List.mem_of_getElem? (i := 1) rfl)) (fun _ h => h) rfl dX5_refusesOrder_146 ?_
        refine lv_iload_n hx hb dX5_refusesOrder_149 rfl (lv_at hl 1 rfl) ?_
        refine lv_iconst (v := J 1) hx hb dX5_refusesOrder_150 rfl ?_
        refine jv_iadd hx hb dX5_refusesOrder_151 ?_
        obtain ⟨v20, qv20, hf⟩ := bnd_some hf
        obtain ⟨bv20, ev20⟩ := rd_some qv20
        have rv20 : inR v20 := by rw [ev20]; exact hR _ _
        refine jx_iald hx hb hK hP 17 0 (by decide) gY_17 rfl (by decide) bv20 ev20 dX5_refusesOrder_152 ?_
        obtain ⟨v21, qv21, hf⟩ := bnd_some hf
        refine jc_i (va_runV (As := [.int (J v20)]) (rest := []) ⟨hx, hb, hml, hown, hts⟩ (kX5_isVisit l D ca ad hI M hR v20 rv20 v21 qv21) (cwV 1 hts gX5_refusesOrder_X5_isVisit rfl rfl rfl (by decide +kernel) ⟨Nat.le_of_ble_eq_true rfl, Nat.le_of_ble_eq_true rfl⟩) (pvY hK hP [.int (J v20)]) rfl rfl hl.1 rfl (lv_room (Nat.le_of_ble_eq_true rfl)) dX5_refusesOrder_153 ⟨Nat.zero_le _, Nat.zero_le _⟩) hS (fun H locs t ht hφ hO hS => ?_)
        have rv21 := hφ
        have hP : va_P D vwCl (wY ca ad M) H := by rw [← ht]; exact hO
        obtain ⟨y24_0, h24, hf⟩ := bnd_some hf
        have K24 : ∀ (H : Heap) (locs : List Loc) (ls : Array Slot), inR y24_0 → va_P D vwCl (wY ca ad M) H → va_S (aS 18 ad) s.heap H locs → lv_has ls 2 [] → W p l e (headSpec wsX5_refusesOrder (RmC 3 74)).room s m ([.ref (ad 0), .int (J a1)] : List Value).toArray below meth c H locs 0 0 (MQ below (va_Qi (fun x (_ : Unit) => x = J res ∧ (inR res)) (fun _ => (OY D ca ad M)) (aS 18 ad)) ([.ref (ad 0), .int (J a1)] : List Value).toArray s 0 0 (aS 18 ad)) (F0 m 164 ls [.int (J y24_0)]) := by
          intro H locs ls ry24_0  hP hS hl
          have e1 := Option.some.inj hf
          exact jend_i hx hb hr rfl hS e1 (by rw [← e1]; exact ry24_0) (oY rfl hP) dX5_refusesOrder_164 hlocks
        have hf := h24
        clear h24
        refine jv_if_eq (tgt := 163) hx hb dX5_refusesOrder_156 (by decide) rv21 (fun c23 => ?_) (fun c23 => ?_)
        · have hf := itep hf c23
          refine lv_iconst (v := J (-1)) hx hb dX5_refusesOrder_163 rfl ?_
          cases hf
          exact K24 _ _ _ (by decide : inR (-1))  hP hS (lv_sub hl [] rfl)
        · have hf := iten hf c23
          refine lv_iconst (v := J 0) hx hb dX5_refusesOrder_159 rfl ?_
          refine lv_goto (tgt := 164) hx hb dX5_refusesOrder_160 (by decide) ?_
          cases hf
          exact K24 _ _ _ (by decide : inR 0)  hP hS (lv_sub hl [] rfl)
def fX5_does (a1 : Int) (M : MM) : Option (MM) := bnd (rd M 17 294 a1) (fun v1 => bnd (if v1 = 108 then bnd (rd M 17 294 (a1 + 1)) (fun v4 => bnd (rd M 17 294 (a1 + 2)) (fun v5 => bnd (rd M 17 294 (a1 + 3)) (fun v6 => bnd (wr M 1 160 (((5 + (7 * v4)) + 2) + v5) v6) (fun M7 => some (M7))))) else if v1 = 118 then bnd (rd M 17 294 (a1 + 1)) (fun v8 => bnd (rd M 17 294 (a1 + 2)) (fun v9 => bnd (rd M 17 294 (a1 + 3)) (fun v10 => bnd (rd M 17 294 (a1 + 4)) (fun v11 => bnd (rd M 17 294 (a1 + 5)) (fun v12 => bnd (rd M 17 294 (a1 + 6)) (fun v13 => bnd2 (fX5_laysVisit v8 v9 v10 v11 v12 v13 M) (fun v14 M15 => some (M15)))))))) else if v1 = 119 then bnd (rd M 17 294 (a1 + 1)) (fun v16 => bnd (rd M 17 294 (a1 + 2)) (fun v17 => bnd2 (fX5_laysVan v16 v17 0 M) (fun v18 M19 => some (M19)))) else bnd (rd M 17 294 (a1 + 1)) (fun v20 => bnd2 (fX5_dropsVisit v20 M) (fun v21 M22 => some (M22)))) (fun M_3 => some M_3))
set_option maxHeartbeats 4000000 in
set_option maxRecDepth 100000 in
theorem kX5_does (l : Launch) (D : va_G) (ca : Nat → ClassId) (ad : Nat → Nat) (hI : aInj 18 ad) (M : MM) (hR : RR M) (a1 : Int) (i1 : inR a1) (M' : MM) (hf : fX5_does a1 M = some M') : CV l yX5_does wsX5_does 1 27 [.ref (ad 0), .int (J a1)] (PY D ca ad M) (RR M') (OY D ca ad M') (aS 18 ad) := by
  refine Met.ofW (cc := cX5_does) (maxL := 2) (ret := none) (by decide) rfl ?_
  intro p e s m args below meth c s₁ B hml hv
  obtain ⟨rfl, hP, hK⟩ := hv
  have hx := B.exec
  have hb := B.bytes
  have hr := B.returns
  have hts := atoms_spec (ws := wsX5_does) B.pre
  have hown : s.vm.findClass RX5 = some m.cls := findClass_of_methodNamed B.named
  have hlocks := B.notSynchronized
  have hS : va_S (aS 18 ad) s.heap s.heap [] := va_S.rf
  have hinX5 : ∀ w ∈ wsX50, w ∈ wsX5_does := by decide +kernel
  have hl := lv_entry ([.ref (ad 0), .int (J a1)]) (n := 2) (Nat.le_of_ble_eq_true rfl)
  rw [lg_entry_eq]
  generalize (lg_sl ([.ref (ad 0), .int (J a1)]) ++ List.replicate (2 - (lg_sl ([.ref (ad 0), .int (J a1)])).length) Slot.unset).toArray = ls at hl ⊢
  have hl : lv_has ls 2 [(0, .ref (ad 0)), (1, .int (J a1))] := hl
  unfold fX5_does at hf
  refine lv_aload_n hx hb dX5_does_0 rfl (lv_at hl 0 rfl) ?_
  refine va_get (D := D) (ci := 5) (v := .ref (ad 17)) (C := RX5) (T := TX5) (N := 23) hx hb hts hinX5 hown hK hP 0 (wL_get (by decide) (gY_0 _)) rfl 21 (by decide) (hts (.fieldLink RX5 59 "VisitVansModel" "told" "[I") (List.mem_of_getElem? (i := 1) rfl)) (fun _ h => h) rfl dX5_does_1 ?_
  refine lv_iload_n hx hb dX5_does_4 rfl (lv_at hl 1 rfl) ?_
  obtain ⟨v1, qv1, hf⟩ := bnd_some hf
  obtain ⟨bv1, ev1⟩ := rd_some qv1
  have rv1 : inR v1 := by rw [ev1]; exact hR _ _
  refine jx_iald hx hb hK hP 17 0 (by decide) gY_17 rfl (by decide) bv1 ev1 dX5_does_5 ?_
  obtain ⟨M_3, h3, hf⟩ := bnd_some hf
  have K3 : ∀ (H : Heap) (locs : List Loc) (ls : Array Slot), RR M_3 → va_P D vwCl (wY ca ad M_3) H → va_S (aS 18 ad) s.heap H locs → lv_has ls 2 [] → W p l e (headSpec wsX5_does (RmC 1 27)).room s m ([.ref (ad 0), .int (J a1)] : List Value).toArray below meth c H locs 0 0 (MQ below (va_Qv (fun (_ : Unit) => (RR M')) (fun _ => (OY D ca ad M')) (aS 18 ad)) ([.ref (ad 0), .int (J a1)] : List Value).toArray s 0 0 (aS 18 ad)) (F0 m 175 ls []) := by
    intro H locs ls hRM_3  hP hS hl
    have e2 := Option.some.inj hf
    exact jend_v hx hb hr hS (by rw [← e2]; exact hRM_3) (oY e2 hP) dX5_does_175 hlocks
  have hf := h3
  clear h3
  by_cases c2_0 : v1 = 108
  · have hf := itep hf c2_0
    refine jv_look (off := 116) (tgt := 122) hx hb dX5_does_6 rv1 (by decide) (by rw [c2_0]; rfl) (by decide) ?_
    refine lv_aload_n hx hb dX5_does_122 rfl (lv_at hl 0 rfl) ?_
    refine va_get (D := D) (ci := 5) (v := .ref (ad 1)) (C := RX5) (T := TX5) (N := 23) hx hb hts hinX5 hown hK hP 0 (wL_get (by decide) (gY_0 _)) rfl 1 (by decide) (hts (.fieldLink RX5 7 "VisitVansModel" "s" "[I") (List.mem_of_getElem? (i := 2) rfl)) (fun _ h => h) rfl dX5_does_123 ?_
    refine lv_iconst (v := J 5) hx hb dX5_does_126 rfl ?_
    refine lv_bipush (v := J 7) hx hb dX5_does_127 (by decide +kernel) ?_
    refine lv_aload_n hx hb dX5_does_129 rfl (lv_at hl 0 rfl) ?_
    refine va_get (D := D) (ci := 5) (v := .ref (ad 17)) (C := RX5) (T := TX5) (N := 23) hx hb hts hinX5 hown hK hP 0 (wL_get (by decide) (gY_0 _)) rfl 21 (by decide) (hts (.fieldLink RX5 59 "VisitVansModel" "told" "[I") (List.mem_of_getElem? (i := 1) rfl)) (fun _ h => h) rfl dX5_does_130 ?_
    refine lv_iload_n hx hb dX5_does_133 rfl (lv_at hl 1 rfl) ?_
    refine lv_iconst (v := J 1) hx hb dX5_does_134 rfl ?_
    refine jv_iadd hx hb dX5_does_135 ?_
    obtain ⟨v4, qv4, hf⟩ := bnd_some hf
    obtain ⟨bv4, ev4⟩ := rd_some qv4
    have rv4 : inR v4 := by rw [ev4]; exact hR _ _
    refine jx_iald hx hb hK hP 17 0 (by decide) gY_17 rfl (by decide) bv4 ev4 dX5_does_136 ?_
    refine jv_imul hx hb dX5_does_137 ?_
    refine jv_iadd hx hb dX5_does_138 ?_
    refine lv_iconst (v := J 2) hx hb dX5_does_139 rfl ?_
    refine jv_iadd hx hb dX5_does_140 ?_
    refine lv_aload_n hx hb dX5_does_141 rfl (lv_at hl 0 rfl) ?_
    refine va_get (D := D) (ci := 5) (v := .ref (ad 17)) (C := RX5) (T := TX5) (N := 23) hx hb hts hinX5 hown hK hP 0 (wL_get (by decide) (gY_0 _)) rfl 21 (by decide) (hts (.fieldLink RX5 59 "VisitVansModel" "told" "[I") (List.mem_of_getElem? (i := 1) rfl)) (fun _ h => h) rfl dX5_does_142 ?_
    refine lv_iload_n hx hb dX5_does_145 rfl (lv_at hl 1 rfl) ?_
    refine lv_iconst (v := J 2) hx hb dX5_does_146 rfl ?_
    refine jv_iadd hx hb dX5_does_147 ?_
    obtain ⟨v5, qv5, hf⟩ := bnd_some hf
    obtain ⟨bv5, ev5⟩ := rd_some qv5
    have rv5 : inR v5 := by rw [ev5]; exact hR _ _
    refine jx_iald hx hb hK hP 17 0 (by decide) gY_17 rfl (by decide) bv5 ev5 dX5_does_148 ?_
    refine jv_iadd hx hb dX5_does_149 ?_
    refine lv_aload_n hx hb dX5_does_150 rfl (lv_at hl 0 rfl) ?_
    refine va_get (D := D) (ci := 5) (v := .ref (ad 17)) (C := RX5) (T := TX5) (N := 23) hx hb hts hinX5 hown hK hP 0 (wL_get (by decide) (gY_0 _)) rfl 21 (by decide) (hts (.fieldLink RX5 59 "VisitVansModel" "told" "[I") (List.mem_of_getElem? (i := 1) rfl)) (fun _ h => h) rfl dX5_does_151 ?_
    refine lv_iload_n hx hb dX5_does_154 rfl (lv_at hl 1 rfl) ?_
    refine lv_iconst (v := J 3) hx hb dX5_does_155 rfl ?_
    refine jv_iadd hx hb dX5_does_156 ?_
    obtain ⟨v6, qv6, hf⟩ := bnd_some hf
    obtain ⟨bv6, ev6⟩ := rd_some qv6
    have rv6 : inR v6 := by rw [ev6]; exact hR _ _
    refine jx_iald hx hb hK hP 17 0 (by decide) gY_17 rfl (by decide) bv6 ev6 dX5_does_157 ?_
    obtain ⟨M7, qM7, hf⟩ := bnd_some hf
    obtain ⟨bM7, zM7, eM7⟩ := wr_some qM7
    have hRM7 : RR M7 := by rw [eM7]; exact RR_st hR _ _ zM7
    refine jx_iast hx hb hK hP hI hS 1 0 (by decide) gY_1 rfl (by decide) bM7 zM7 dX5_does_158 (fun H locs hP hS => ?_)
    rw [← eM7] at hP
    refine lv_goto (tgt := 175) hx hb dX5_does_159 (by decide) ?_
    cases hf
    exact K3 _ _ _ hRM7 hP hS (lv_sub hl [] rfl)
  · have hf := iten hf c2_0
    by_cases c2_1 : v1 = 118
    · have hf := itep hf c2_1
      refine jv_look (off := 34) (tgt := 40) hx hb dX5_does_6 rv1 (by decide) (by rw [c2_1]; rfl) (by decide) ?_
      refine lv_aload_n hx hb dX5_does_40 rfl (lv_at hl 0 rfl) ?_
      refine lv_aload_n hx hb dX5_does_41 rfl (lv_at hl 0 rfl) ?_
      refine va_get (D := D) (ci := 5) (v := .ref (ad 17)) (C := RX5) (T := TX5) (N := 23) hx hb hts hinX5 hown hK hP 0 (wL_get (by decide) (gY_0 _)) rfl 21 (by decide) (hts (.fieldLink RX5 59 "VisitVansModel" "told" "[I") (List.mem_of_getElem? (i := 1) rfl)) (fun _ h => h) rfl dX5_does_42 ?_
      refine lv_iload_n hx hb dX5_does_45 rfl (lv_at hl 1 rfl) ?_
      refine lv_iconst (v := J 1) hx hb dX5_does_46 rfl ?_
      refine jv_iadd hx hb dX5_does_47 ?_
      obtain ⟨v8, qv8, hf⟩ := bnd_some hf
      obtain ⟨bv8, ev8⟩ := rd_some qv8
      have rv8 : inR v8 := by rw [ev8]; exact hR _ _
      refine jx_iald hx hb hK hP 17 0 (by decide) gY_17 rfl (by decide) bv8 ev8 dX5_does_48 ?_
      refine lv_aload_n hx hb dX5_does_49 rfl (lv_at hl 0 rfl) ?_
      refine va_get (D := D) (ci := 5) (v := .ref (ad 17)) (C := RX5) (T := TX5) (N := 23) hx hb hts hinX5 hown hK hP 0 (wL_get (by decide) (gY_0 _)) rfl 21 (by decide) (hts (.fieldLink RX5 59 "VisitVansModel" "told" "[I") (List.mem_of_getElem? (i := 1) rfl)) (fun _ h => h) rfl dX5_does_50 ?_
      refine lv_iload_n hx hb dX5_does_53 rfl (lv_at hl 1 rfl) ?_
      refine lv_iconst (v := J 2) hx hb dX5_does_54 rfl ?_
      refine jv_iadd hx hb dX5_does_55 ?_
      obtain ⟨v9, qv9, hf⟩ := bnd_some hf
      obtain ⟨bv9, ev9⟩ := rd_some qv9
      have rv9 : inR v9 := by rw [ev9]; exact hR _ _
      refine jx_iald hx hb hK hP 17 0 (by decide) gY_17 rfl (by decide) bv9 ev9 dX5_does_56 ?_
      refine lv_aload_n hx hb dX5_does_57 rfl (lv_at hl 0 rfl) ?_
      refine va_get (D := D) (ci := 5) (v := .ref (ad 17)) (C := RX5) (T := TX5) (N := 23) hx hb hts hinX5 hown hK hP 0 (wL_get (by decide) (gY_0 _)) rfl 21 (by decide) (hts (.fieldLink RX5 59 "VisitVansModel" "told" "[I") (List.mem_of_getElem? (i := 1) rfl)) (fun _ h => h) rfl dX5_does_58 ?_
      refine lv_iload_n hx hb dX5_does_61 rfl (lv_at hl 1 rfl) ?_
      refine lv_iconst (v := J 3) hx hb dX5_does_62 rfl ?_
      refine jv_iadd hx hb dX5_does_63 ?_
      obtain ⟨v10, qv10, hf⟩ := bnd_some hf
      obtain ⟨bv10, ev10⟩ := rd_some qv10
      have rv10 : inR v10 := by rw [ev10]; exact hR _ _
      refine jx_iald hx hb hK hP 17 0 (by decide) gY_17 rfl (by decide) bv10 ev10 dX5_does_64 ?_
      refine lv_aload_n hx hb dX5_does_65 rfl (lv_at hl 0 rfl) ?_
      refine va_get (D := D) (ci := 5) (v := .ref (ad 17)) (C := RX5) (T := TX5) (N := 23) hx hb hts hinX5 hown hK hP 0 (wL_get (by decide) (gY_0 _)) rfl 21 (by decide) (hts (.fieldLink RX5 59 "VisitVansModel" "told" "[I") (List.mem_of_getElem? (i := 1) rfl)) (fun _ h => h) rfl dX5_does_66 ?_
      refine lv_iload_n hx hb dX5_does_69 rfl (lv_at hl 1 rfl) ?_
      refine lv_iconst (v := J 4) hx hb dX5_does_70 rfl ?_
      refine jv_iadd hx hb dX5_does_71 ?_
      obtain ⟨v11, qv11, hf⟩ := bnd_some hf
      obtain ⟨bv11, ev11⟩ := rd_some qv11
      have rv11 : inR v11 := by rw [ev11]; exact hR _ _
      refine jx_iald hx hb hK hP 17 0 (by decide) gY_17 rfl (by decide) bv11 ev11 dX5_does_72 ?_
      refine lv_aload_n hx hb dX5_does_73 rfl (lv_at hl 0 rfl) ?_
      refine va_get (D := D) (ci := 5) (v := .ref (ad 17)) (C := RX5) (T := TX5) (N := 23) hx hb hts hinX5 hown hK hP 0 (wL_get (by decide) (gY_0 _)) rfl 21 (by decide) (hts (.fieldLink RX5 59 "VisitVansModel" "told" "[I") (List.mem_of_getElem? (i := 1) rfl)) (fun _ h => h) rfl dX5_does_74 ?_
      refine lv_iload_n hx hb dX5_does_77 rfl (lv_at hl 1 rfl) ?_
      refine lv_iconst (v := J 5) hx hb dX5_does_78 rfl ?_
      refine jv_iadd hx hb dX5_does_79 ?_
      obtain ⟨v12, qv12, hf⟩ := bnd_some hf
      obtain ⟨bv12, ev12⟩ := rd_some qv12
      have rv12 : inR v12 := by rw [ev12]; exact hR _ _
      refine jx_iald hx hb hK hP 17 0 (by decide) gY_17 rfl (by decide) bv12 ev12 dX5_does_80 ?_
      refine lv_aload_n hx hb dX5_does_81 rfl (lv_at hl 0 rfl) ?_
      refine va_get (D := D) (ci := 5) (v := .ref (ad 17)) (C := RX5) (T := TX5) (N := 23) hx hb hts hinX5 hown hK hP 0 (wL_get (by decide) (gY_0 _)) rfl 21 (by decide) (hts (.fieldLink RX5 59 "VisitVansModel" "told" "[I") (List.mem_of_getElem? (i := 1) rfl)) (fun _ h => h) rfl dX5_does_82 ?_
      refine lv_iload_n hx hb dX5_does_85 rfl (lv_at hl 1 rfl) ?_
      refine lv_bipush (v := J 6) hx hb dX5_does_86 (by decide +kernel) ?_
      refine jv_iadd hx hb dX5_does_88 ?_
      obtain ⟨v13, qv13, hf⟩ := bnd_some hf
      obtain ⟨bv13, ev13⟩ := rd_some qv13
      have rv13 : inR v13 := by rw [ev13]; exact hR _ _
      refine jx_iald hx hb hK hP 17 0 (by decide) gY_17 rfl (by decide) bv13 ev13 dX5_does_89 ?_
      obtain ⟨v14, M15, qv14, hf⟩ := bnd2_some hf
      refine jc_i (va_runV (As := [.int (J v8), .int (J v9), .int (J v10), .int (J v11), .int (J v12), .int (J v13)]) (rest := []) ⟨hx, hb, hml, hown, hts⟩ (kX5_laysVisit l D ca ad hI M hR v8 v9 v10 v11 v12 v13 rv8 rv9 rv10 rv11 rv12 rv13 v14 M15 qv14) (cwV 6 hts gX5_does_X5_laysVisit rfl rfl rfl (by decide +kernel) ⟨Nat.le_of_ble_eq_true rfl, Nat.le_of_ble_eq_true rfl⟩) (pvY hK hP [.int (J v8), .int (J v9), .int (J v10), .int (J v11), .int (J v12), .int (J v13)]) rfl rfl hl.1 rfl (lv_room (Nat.le_of_ble_eq_true rfl)) dX5_does_90 ⟨Nat.zero_le _, Nat.zero_le _⟩) hS (fun H locs t ht hφ hO hS => ?_)
      obtain ⟨rv14, hRM15⟩ := hφ
      have hP : va_P D vwCl (wY ca ad M15) H := by rw [← ht]; exact hO
      refine lv_pop hx hb dX5_does_93 rfl ?_
      refine lv_goto (tgt := 175) hx hb dX5_does_94 (by decide) ?_
      cases hf
      exact K3 _ _ _ hRM15 hP hS (lv_sub hl [] rfl)
    · have hf := iten hf c2_1
      by_cases c2_2 : v1 = 119
      · have hf := itep hf c2_2
        refine jv_look (off := 91) (tgt := 97) hx hb dX5_does_6 rv1 (by decide) (by rw [c2_2]; rfl) (by decide) ?_
        refine lv_aload_n hx hb dX5_does_97 rfl (lv_at hl 0 rfl) ?_
        refine lv_aload_n hx hb dX5_does_98 rfl (lv_at hl 0 rfl) ?_
        refine va_get (D := D) (ci := 5) (v := .ref (ad 17)) (C := RX5) (T := TX5) (N := 23) hx hb hts hinX5 hown hK hP 0 (wL_get (by decide) (gY_0 _)) rfl 21 (by decide) (hts (.fieldLink RX5 59 "VisitVansModel" "told" "[I") (List.mem_of_getElem? (i := 1) rfl)) (fun _ h => h) rfl dX5_does_99 ?_
        refine lv_iload_n hx hb dX5_does_102 rfl (lv_at hl 1 rfl) ?_
        refine lv_iconst (v := J 1) hx hb dX5_does_103 rfl ?_
        refine jv_iadd hx hb dX5_does_104 ?_
        obtain ⟨v16, qv16, hf⟩ := bnd_some hf
        obtain ⟨bv16, ev16⟩ := rd_some qv16
        have rv16 : inR v16 := by rw [ev16]; exact hR _ _
        refine jx_iald hx hb hK hP 17 0 (by decide) gY_17 rfl (by decide) bv16 ev16 dX5_does_105 ?_
        refine lv_aload_n hx hb dX5_does_106 rfl (lv_at hl 0 rfl) ?_
        refine va_get (D := D) (ci := 5) (v := .ref (ad 17)) (C := RX5) (T := TX5) (N := 23) hx hb hts hinX5 hown hK hP 0 (wL_get (by decide) (gY_0 _)) rfl 21 (by decide) (hts (.fieldLink RX5 59 "VisitVansModel" "told" "[I") (List.mem_of_getElem? (i := 1) rfl)) (fun _ h => h) rfl dX5_does_107 ?_
        refine lv_iload_n hx hb dX5_does_110 rfl (lv_at hl 1 rfl) ?_
        refine lv_iconst (v := J 2) hx hb dX5_does_111 rfl ?_
        refine jv_iadd hx hb dX5_does_112 ?_
        obtain ⟨v17, qv17, hf⟩ := bnd_some hf
        obtain ⟨bv17, ev17⟩ := rd_some qv17
        have rv17 : inR v17 := by rw [ev17]; exact hR _ _
        refine jx_iald hx hb hK hP 17 0 (by decide) gY_17 rfl (by decide) bv17 ev17 dX5_does_113 ?_
        refine lv_iconst (v := J 0) hx hb dX5_does_114 rfl ?_
        obtain ⟨v18, M19, qv18, hf⟩ := bnd2_some hf
        refine jc_i (va_runV (As := [.int (J v16), .int (J v17), .int (J 0)]) (rest := []) ⟨hx, hb, hml, hown, hts⟩ (kX5_laysVan l D ca ad hI M hR v16 v17 0 rv16 rv17 (by decide : inR 0) v18 M19 qv18) (cwV 3 hts gX5_does_X5_laysVan rfl rfl rfl (by decide +kernel) ⟨Nat.le_of_ble_eq_true rfl, Nat.le_of_ble_eq_true rfl⟩) (pvY hK hP [.int (J v16), .int (J v17), .int (J 0)]) rfl rfl hl.1 rfl (lv_room (Nat.le_of_ble_eq_true rfl)) dX5_does_115 ⟨Nat.zero_le _, Nat.zero_le _⟩) hS (fun H locs t ht hφ hO hS => ?_)
        obtain ⟨rv18, hRM19⟩ := hφ
        have hP : va_P D vwCl (wY ca ad M19) H := by rw [← ht]; exact hO
        refine lv_pop hx hb dX5_does_118 rfl ?_
        refine lv_goto (tgt := 175) hx hb dX5_does_119 (by decide) ?_
        cases hf
        exact K3 _ _ _ hRM19 hP hS (lv_sub hl [] rfl)
      · have hf := iten hf c2_2
        refine jv_look (off := 156) (tgt := 162) hx hb dX5_does_6 rv1 (by decide) (by show Op.lookupswitch.offset [(108, 116), (118, 34), (119, 91)] _ _ = _; rw [Op.lookupswitch.offset_cons, if_neg (by omega), Op.lookupswitch.offset_cons, if_neg (by omega), Op.lookupswitch.offset_cons, if_neg (by omega)]; rfl) (by decide) ?_
        refine lv_aload_n hx hb dX5_does_162 rfl (lv_at hl 0 rfl) ?_
        refine lv_aload_n hx hb dX5_does_163 rfl (lv_at hl 0 rfl) ?_
        refine va_get (D := D) (ci := 5) (v := .ref (ad 17)) (C := RX5) (T := TX5) (N := 23) hx hb hts hinX5 hown hK hP 0 (wL_get (by decide) (gY_0 _)) rfl 21 (by decide) (hts (.fieldLink RX5 59 "VisitVansModel" "told" "[I") (List.mem_of_getElem? (i := 1) rfl)) (fun _ h => h) rfl dX5_does_164 ?_
        refine lv_iload_n hx hb dX5_does_167 rfl (lv_at hl 1 rfl) ?_
        refine lv_iconst (v := J 1) hx hb dX5_does_168 rfl ?_
        refine jv_iadd hx hb dX5_does_169 ?_
        obtain ⟨v20, qv20, hf⟩ := bnd_some hf
        obtain ⟨bv20, ev20⟩ := rd_some qv20
        have rv20 : inR v20 := by rw [ev20]; exact hR _ _
        refine jx_iald hx hb hK hP 17 0 (by decide) gY_17 rfl (by decide) bv20 ev20 dX5_does_170 ?_
        obtain ⟨v21, M22, qv21, hf⟩ := bnd2_some hf
        refine jc_i (va_runV (As := [.int (J v20)]) (rest := []) ⟨hx, hb, hml, hown, hts⟩ (kX5_dropsVisit l D ca ad hI M hR v20 rv20 v21 M22 qv21) (cwV 1 hts gX5_does_X5_dropsVisit rfl rfl rfl (by decide +kernel) ⟨Nat.le_of_ble_eq_true rfl, Nat.le_of_ble_eq_true rfl⟩) (pvY hK hP [.int (J v20)]) rfl rfl hl.1 rfl (lv_room (Nat.le_of_ble_eq_true rfl)) dX5_does_171 ⟨Nat.zero_le _, Nat.zero_le _⟩) hS (fun H locs t ht hφ hO hS => ?_)
        obtain ⟨rv21, hRM22⟩ := hφ
        have hP : va_P D vwCl (wY ca ad M22) H := by rw [← ht]; exact hO
        refine lv_pop hx hb dX5_does_174 rfl ?_
        cases hf
        exact K3 _ _ _ hRM22 hP hS (lv_sub hl [] rfl)
def fX5_carryOut_L28 : Nat → Int → MM → Option (Int × MM)
  | 0, _, _ => none
  | n + 1, x1_8, M_8 => if (M_8 0 22) ≤ x1_8 then some ((M_8 0 22), M_8) else gd (inR (7 * x1_8)) (bnd (fX5_refusesOrder (7 * x1_8) M_8) (fun v11 => if v11 = 0 then bnd (fX5_does (7 * x1_8) M_8) (fun M15 => gd (inR (x1_8 + 1)) (fX5_carryOut_L28 n (x1_8 + 1) M15)) else some (x1_8, M_8)))
def fX5_carryOut (M : MM) : Option (Int × MM) := bnd (some (stM M 0 0 0)) (fun M1 => bnd2 (fX5_reads M1) (fun v2 M3 => if v2 = (-6) then bnd (fX5_records M3) (fun M6 => bnd (some (stM M6 0 7 0)) (fun M7 => fX5_carryOut_L28 4000 0 M7)) else some ((-3), M3)))
set_option maxHeartbeats 4000000 in
set_option maxRecDepth 100000 in
theorem kX5_carryOut (l : Launch) (D : va_G) (ca : Nat → ClassId) (ad : Nat → Nat) (hI : aInj 18 ad) (M : MM) (hR : RR M) (res : Int) (M' : MM) (hf : fX5_carryOut M = some (res, M')) : CI l yX5_carryOut wsX5_carryOut 6 130 [.ref (ad 0)] (PY D ca ad M) res (inR res ∧ RR M') (OY D ca ad M') (aS 18 ad) := by
  refine Met.ofW (cc := cX5_carryOut) (maxL := 2) (ret := (some .int)) (by decide) rfl ?_
  intro p e s m args below meth c s₁ B hml hv
  obtain ⟨rfl, hP, hK⟩ := hv
  have hx := B.exec
  have hb := B.bytes
  have hr := B.returns
  have hts := atoms_spec (ws := wsX5_carryOut) B.pre
  have hown : s.vm.findClass RX5 = some m.cls := findClass_of_methodNamed B.named
  have hlocks := B.notSynchronized
  have hS : va_S (aS 18 ad) s.heap s.heap [] := va_S.rf
  have hinX5 : ∀ w ∈ wsX50, w ∈ wsX5_carryOut := by decide +kernel
  have hl := lv_entry ([.ref (ad 0)]) (n := 2) (Nat.le_of_ble_eq_true rfl)
  rw [lg_entry_eq]
  generalize (lg_sl ([.ref (ad 0)]) ++ List.replicate (2 - (lg_sl ([.ref (ad 0)])).length) Slot.unset).toArray = ls at hl ⊢
  have hl : lv_has ls 2 [(0, .ref (ad 0))] := hl
  unfold fX5_carryOut at hf
  refine lv_aload_n hx hb dX5_carryOut_0 rfl (lv_at hl 0 rfl) ?_
  refine lv_iconst (v := J 0) hx hb dX5_carryOut_1 rfl ?_
  obtain ⟨M1, eM1, hf⟩ := bnd_some hf
  have eM1 := Option.some.inj eM1
  have hRM1 : RR M1 := by rw [← eM1]; exact RR_st hR 0 0 (by decide : inR 0)
  refine va_put (D := D) (ci := 5) (v := .int (J 0)) (ty := .int) (C := RX5) (T := TX5) (N := 23) hx hb hts hinX5 tyX5 tyX5_ok nmX5 hown hK hP (wL_D hI M) hS 0 (wL_get (by decide) (gY_0 _)) rfl 0 (by decide) (hts (.fieldLink RX5 62 "VisitVansModel" "thrown" "I") (List.mem_of_getElem? (i := 1) rfl)) (fun _ h => h) rfl rfl rfl rfl (Nat.le_of_ble_eq_true rfl) dX5_carryOut_2 (fun H locs hP hD hS => ?_)
  have hP : va_P D vwCl (wY ca ad M1) H := by rw [← eM1]; exact hPset (gY_0_s0) stM_o hP
  refine lv_aload_n hx hb dX5_carryOut_5 rfl (lv_at hl 0 rfl) ?_
  obtain ⟨v2, M3, qv2, hf⟩ := bnd2_some hf
  refine jc_i (va_runV (As := []) (rest := []) ⟨hx, hb, hml, hown, hts⟩ (kX5_reads l D ca ad hI M1 hRM1 v2 M3 qv2) (cwV 0 hts gX5_carryOut_X5_reads rfl rfl rfl (by decide +kernel) ⟨Nat.le_of_ble_eq_true rfl, Nat.le_of_ble_eq_true rfl⟩) (pvY hK hP []) rfl rfl hl.1 rfl (lv_room (Nat.le_of_ble_eq_true rfl)) dX5_carryOut_6 ⟨Nat.zero_le _, Nat.zero_le _⟩) hS (fun H locs t ht hφ hO hS => ?_)
  obtain ⟨rv2, hRM3⟩ := hφ
  have hP : va_P D vwCl (wY ca ad M3) H := by rw [← ht]; exact hO
  refine lv_bipush (v := J (-6)) hx hb dX5_carryOut_9 (by decide +kernel) ?_
  refine jv_icmp_eq (tgt := 17) hx hb dX5_carryOut_11 (by decide) rv2 (by decide : inR (-6)) (fun c4 => ?_) (fun c4 => ?_)
  · have hf := itep hf c4
    refine lv_aload_n hx hb dX5_carryOut_17 rfl (lv_at hl 0 rfl) ?_
    obtain ⟨M6, qM6, hf⟩ := bnd_some hf
    refine jc_v (va_runV (As := []) (rest := []) ⟨hx, hb, hml, hown, hts⟩ (kX5_records l D ca ad hI M3 hRM3 M6 qM6) (cwV 0 hts gX5_carryOut_X5_records rfl rfl rfl (by decide +kernel) ⟨Nat.le_of_ble_eq_true rfl, Nat.le_of_ble_eq_true rfl⟩) (pvY hK hP []) rfl rfl hl.1 rfl (lv_room (Nat.le_of_ble_eq_true rfl)) dX5_carryOut_18 ⟨Nat.zero_le _, Nat.zero_le _⟩) hS (fun H locs t ht hφ hO hS => ?_)
    have hRM6 := hφ
    have hP : va_P D vwCl (wY ca ad M6) H := by rw [← ht]; exact hO
    refine lv_aload_n hx hb dX5_carryOut_21 rfl (lv_at hl 0 rfl) ?_
    refine lv_iconst (v := J 0) hx hb dX5_carryOut_22 rfl ?_
    obtain ⟨M7, eM7, hf⟩ := bnd_some hf
    have eM7 := Option.some.inj eM7
    have hRM7 : RR M7 := by rw [← eM7]; exact RR_st hRM6 0 7 (by decide : inR 0)
    refine va_put (D := D) (ci := 5) (v := .int (J 0)) (ty := .int) (C := RX5) (T := TX5) (N := 23) hx hb hts hinX5 tyX5 tyX5_ok nmX5 hown hK hP (wL_D hI M6) hS 0 (wL_get (by decide) (gY_0 _)) rfl 7 (by decide) (hts (.fieldLink RX5 168 "VisitVansModel" "length" "I") (List.mem_of_getElem? (i := 2) rfl)) (fun _ h => h) rfl rfl rfl rfl (Nat.le_of_ble_eq_true rfl) dX5_carryOut_23 (fun H locs hP hD hS => ?_)
    have hP : va_P D vwCl (wY ca ad M7) H := by rw [← eM7]; exact hPset (gY_0_s7) stM_o hP
    refine lv_iconst (v := J 0) hx hb dX5_carryOut_26 rfl ?_
    refine lv_istore_n (lv' := [(1, .int (J 0)), (0, .ref (ad 0))]) hx hb dX5_carryOut_27 rfl hl (by decide) rfl (fun ls hl => ?_)
    have hL8 : ∀ (n : Nat) (x1_8 : Int) (M_8 : MM) (H : Heap) (locs : List Loc) (ls : Array Slot), inR x1_8 → RR M_8 → va_P D vwCl (wY ca ad M_8) H → va_S (aS 18 ad) s.heap H locs → lv_has ls 2 [(0, .ref (ad 0)), (1, .int (J x1_8))] → fX5_carryOut_L28 n x1_8 M_8 = some (res, M') → W p l e (headSpec wsX5_carryOut (RmC 6 130)).room s m ([.ref (ad 0)] : List Value).toArray below meth c H locs 0 0 (MQ below (va_Qi (fun x (_ : Unit) => x = J res ∧ (inR res ∧ RR M')) (fun _ => (OY D ca ad M')) (aS 18 ad)) ([.ref (ad 0)] : List Value).toArray s 0 0 (aS 18 ad)) (F0 m 28 ls []) := by
      intro n
      induction n with
      | zero =>
        intro x1_8 M_8 H locs ls rx1_8 hRM_8 hP hS hl hf
        rw [fX5_carryOut_L28] at hf
        cases hf
      | succ n ih =>
        intro x1_8 M_8 H locs ls rx1_8 hRM_8 hP hS hl hf
        rw [fX5_carryOut_L28] at hf
        refine lv_iload_n hx hb dX5_carryOut_28 rfl (lv_at hl 1 rfl) ?_
        refine lv_aload_n hx hb dX5_carryOut_29 rfl (lv_at hl 0 rfl) ?_
        refine va_get (D := D) (ci := 5) (v := .int (J (M_8 0 22))) (C := RX5) (T := TX5) (N := 23) hx hb hts hinX5 hown hK hP 0 (wL_get (by decide) (gY_0 _)) rfl 22 (by decide) (hts (.fieldLink RX5 211 "VisitVansModel" "toldMany" "I") (List.mem_of_getElem? (i := 3) rfl)) (fun _ h => h) rfl dX5_carryOut_30 ?_
        refine jv_icmp_ge (tgt := 63) hx hb dX5_carryOut_33 (by decide) rx1_8 (hRM_8 0 22) (fun c9 => ?_) (fun c9 => ?_)
        · have hf := itep hf c9
          refine lv_aload_n hx hb dX5_carryOut_63 rfl (lv_at hl 0 rfl) ?_
          refine va_get (D := D) (ci := 5) (v := .int (J (M_8 0 22))) (C := RX5) (T := TX5) (N := 23) hx hb hts hinX5 hown hK hP 0 (wL_get (by decide) (gY_0 _)) rfl 22 (by decide) (hts (.fieldLink RX5 211 "VisitVansModel" "toldMany" "I") (List.mem_of_getElem? (i := 3) rfl)) (fun _ h => h) rfl dX5_carryOut_64 ?_
          obtain ⟨e1, e2⟩ := Prod.mk.inj (Option.some.inj hf)
          exact jend_i hx hb hr rfl hS e1 ⟨by rw [← e1]; exact (hRM_8 0 22), by rw [← e2]; exact hRM_8⟩ (oY e2 hP) dX5_carryOut_67 hlocks
        · have hf := iten hf c9
          refine lv_aload_n hx hb dX5_carryOut_36 rfl (lv_at hl 0 rfl) ?_
          refine lv_bipush (v := J 7) hx hb dX5_carryOut_37 (by decide +kernel) ?_
          refine lv_iload_n hx hb dX5_carryOut_39 rfl (lv_at hl 1 rfl) ?_
          refine jv_imul hx hb dX5_carryOut_40 ?_
          obtain ⟨g10, hf⟩ := gd_some hf
          obtain ⟨v11, qv11, hf⟩ := bnd_some hf
          refine jc_i (va_runV (As := [.int (J (7 * x1_8))]) (rest := []) ⟨hx, hb, hml, hown, hts⟩ (kX5_refusesOrder l D ca ad hI M_8 hRM_8 (7 * x1_8) g10 v11 qv11) (cwV 1 hts gX5_carryOut_X5_refusesOrder rfl rfl rfl (by decide +kernel) ⟨Nat.le_of_ble_eq_true rfl, Nat.le_of_ble_eq_true rfl⟩) (pvY hK hP [.int (J (7 * x1_8))]) rfl rfl hl.1 rfl (lv_room (Nat.le_of_ble_eq_true rfl)) dX5_carryOut_41 ⟨Nat.zero_le _, Nat.zero_le _⟩) hS (fun H locs t ht hφ hO hS => ?_)
          have rv11 := hφ
          have hP : va_P D vwCl (wY ca ad M_8) H := by rw [← ht]; exact hO
          refine jv_if_eq (tgt := 49) hx hb dX5_carryOut_44 (by decide) rv11 (fun c13 => ?_) (fun c13 => ?_)
          · have hf := itep hf c13
            refine lv_aload_n hx hb dX5_carryOut_49 rfl (lv_at hl 0 rfl) ?_
            refine lv_bipush (v := J 7) hx hb dX5_carryOut_50 (by decide +kernel) ?_
            refine lv_iload_n hx hb dX5_carryOut_52 rfl (lv_at hl 1 rfl) ?_
            refine jv_imul hx hb dX5_carryOut_53 ?_
            obtain ⟨M15, qM15, hf⟩ := bnd_some hf
            refine jc_v (va_runV (As := [.int (J (7 * x1_8))]) (rest := []) ⟨hx, hb, hml, hown, hts⟩ (kX5_does l D ca ad hI M_8 hRM_8 (7 * x1_8) g10 M15 qM15) (cwV 1 hts gX5_carryOut_X5_does rfl rfl rfl (by decide +kernel) ⟨Nat.le_of_ble_eq_true rfl, Nat.le_of_ble_eq_true rfl⟩) (pvY hK hP [.int (J (7 * x1_8))]) rfl rfl hl.1 rfl (lv_room (Nat.le_of_ble_eq_true rfl)) dX5_carryOut_54 ⟨Nat.zero_le _, Nat.zero_le _⟩) hS (fun H locs t ht hφ hO hS => ?_)
            have hRM15 := hφ
            have hP : va_P D vwCl (wY ca ad M15) H := by rw [← ht]; exact hO
            refine lv_iinc (v := J (x1_8 + 1)) (lv' := [(1, .int (J (x1_8 + 1))), (0, .ref (ad 0))]) hx hb dX5_carryOut_57 hl (k := 1) rfl (J_add _ _) (by decide) rfl (fun ls hl => ?_)
            refine lv_goto (tgt := 28) hx hb dX5_carryOut_60 (by decide) ?_
            obtain ⟨g16, hf⟩ := gd_some hf
            exact ih _ _ _ _ _ g16 hRM15 hP hS (lv_sub hl [1, 0] rfl) hf
          · have hf := iten hf c13
            refine lv_iload_n hx hb dX5_carryOut_47 rfl (lv_at hl 1 rfl) ?_
            obtain ⟨e1, e2⟩ := Prod.mk.inj (Option.some.inj hf)
            exact jend_i hx hb hr rfl hS e1 ⟨by rw [← e1]; exact rx1_8, by rw [← e2]; exact hRM_8⟩ (oY e2 hP) dX5_carryOut_48 hlocks
    exact hL8 4000 _ _ _ _ _ (by decide : inR 0) hRM7 hP hS (lv_sub hl [1, 0] rfl) hf
  · have hf := iten hf c4
    refine lv_bipush (v := J (-3)) hx hb dX5_carryOut_14 (by decide +kernel) ?_
    obtain ⟨e1, e2⟩ := Prod.mk.inj (Option.some.inj hf)
    exact jend_i hx hb hr rfl hS e1 ⟨by rw [← e1]; exact (by decide : inR (-3)), by rw [← e2]; exact hRM3⟩ (oY e2 hP) dX5_carryOut_16 hlocks
def fX5_undo_L27 : Nat → Int → MM → Option (MM)
  | 0, _, _ => none
  | n + 1, x1_5, M_5 => if 153 ≤ x1_5 then some M_5 else bnd (rd M_5 2 918 ((153 * (M_5 0 3)) + x1_5)) (fun v7 => bnd (wr M_5 1 160 x1_5 v7) (fun M8 => gd (inR (x1_5 + 1)) (fX5_undo_L27 n (x1_5 + 1) M8)))
def fX5_undo (M : MM) : Option (Int × MM) := bnd (some (stM M 0 0 0)) (fun M1 => if (M1 0 3) = 0 then some ((-5), M1) else gd (inR ((M1 0 3) - 1)) (bnd (some (stM M1 0 3 ((M1 0 3) - 1))) (fun M4 => bnd (fX5_undo_L27 4000 0 M4) (fun N_5 => some ((N_5 0 3), N_5)))))
set_option maxHeartbeats 4000000 in
set_option maxRecDepth 100000 in
theorem kX5_undo (l : Launch) (D : va_G) (ca : Nat → ClassId) (ad : Nat → Nat) (hI : aInj 18 ad) (M : MM) (hR : RR M) (res : Int) (M' : MM) (hf : fX5_undo M = some (res, M')) : CI l yX5_undo wsX5_undo 0 0 [.ref (ad 0)] (PY D ca ad M) res (inR res ∧ RR M') (OY D ca ad M') (aS 18 ad) := by
  refine Met.ofW (cc := cX5_undo) (maxL := 2) (ret := (some .int)) (by decide) rfl ?_
  intro p e s m args below meth c s₁ B hml hv
  obtain ⟨rfl, hP, hK⟩ := hv
  have hx := B.exec
  have hb := B.bytes
  have hr := B.returns
  have hts := atoms_spec (ws := wsX5_undo) B.pre
  have hown : s.vm.findClass RX5 = some m.cls := findClass_of_methodNamed B.named
  have hlocks := B.notSynchronized
  have hS : va_S (aS 18 ad) s.heap s.heap [] := va_S.rf
  have hinX5 : ∀ w ∈ wsX50, w ∈ wsX5_undo := by decide +kernel
  have hl := lv_entry ([.ref (ad 0)]) (n := 2) (Nat.le_of_ble_eq_true rfl)
  rw [lg_entry_eq]
  generalize (lg_sl ([.ref (ad 0)]) ++ List.replicate (2 - (lg_sl ([.ref (ad 0)])).length) Slot.unset).toArray = ls at hl ⊢
  have hl : lv_has ls 2 [(0, .ref (ad 0))] := hl
  unfold fX5_undo at hf
  refine lv_aload_n hx hb dX5_undo_0 rfl (lv_at hl 0 rfl) ?_
  refine lv_iconst (v := J 0) hx hb dX5_undo_1 rfl ?_
  obtain ⟨M1, eM1, hf⟩ := bnd_some hf
  have eM1 := Option.some.inj eM1
  have hRM1 : RR M1 := by rw [← eM1]; exact RR_st hR 0 0 (by decide : inR 0)
  refine va_put (D := D) (ci := 5) (v := .int (J 0)) (ty := .int) (C := RX5) (T := TX5) (N := 23) hx hb hts hinX5 tyX5 tyX5_ok nmX5 hown hK hP (wL_D hI M) hS 0 (wL_get (by decide) (gY_0 _)) rfl 0 (by decide) (hts (.fieldLink RX5 62 "VisitVansModel" "thrown" "I") (List.mem_of_getElem? (i := 1) rfl)) (fun _ h => h) rfl rfl rfl rfl (Nat.le_of_ble_eq_true rfl) dX5_undo_2 (fun H locs hP hD hS => ?_)
  have hP : va_P D vwCl (wY ca ad M1) H := by rw [← eM1]; exact hPset (gY_0_s0) stM_o hP
  refine lv_aload_n hx hb dX5_undo_5 rfl (lv_at hl 0 rfl) ?_
  refine va_get (D := D) (ci := 5) (v := .int (J (M1 0 3))) (C := RX5) (T := TX5) (N := 23) hx hb hts hinX5 hown hK hP 0 (wL_get (by decide) (gY_0 _)) rfl 3 (by decide) (hts (.fieldLink RX5 66 "VisitVansModel" "undoMany" "I") (List.mem_of_getElem? (i := 2) rfl)) (fun _ h => h) rfl dX5_undo_6 ?_
  refine jv_if_ne (tgt := 15) hx hb dX5_undo_9 (by decide) (hRM1 0 3) (fun c2 => ?_) (fun c2 => ?_)
  · have hf := iten hf c2
    refine lv_aload_n hx hb dX5_undo_15 rfl (lv_at hl 0 rfl) ?_
    refine lv_dup hx hb dX5_undo_16 rfl ?_
    refine va_get (D := D) (ci := 5) (v := .int (J (M1 0 3))) (C := RX5) (T := TX5) (N := 23) hx hb hts hinX5 hown hK hP 0 (wL_get (by decide) (gY_0 _)) rfl 3 (by decide) (hts (.fieldLink RX5 66 "VisitVansModel" "undoMany" "I") (List.mem_of_getElem? (i := 2) rfl)) (fun _ h => h) rfl dX5_undo_17 ?_
    refine lv_iconst (v := J 1) hx hb dX5_undo_20 rfl ?_
    refine jv_isub hx hb dX5_undo_21 ?_
    obtain ⟨g3, hf⟩ := gd_some hf
    obtain ⟨M4, eM4, hf⟩ := bnd_some hf
    have eM4 := Option.some.inj eM4
    have hRM4 : RR M4 := by rw [← eM4]; exact RR_st hRM1 0 3 g3
    refine va_put (D := D) (ci := 5) (v := .int (J ((M1 0 3) - 1))) (ty := .int) (C := RX5) (T := TX5) (N := 23) hx hb hts hinX5 tyX5 tyX5_ok nmX5 hown hK hP (wL_D hI M1) hS 0 (wL_get (by decide) (gY_0 _)) rfl 3 (by decide) (hts (.fieldLink RX5 66 "VisitVansModel" "undoMany" "I") (List.mem_of_getElem? (i := 2) rfl)) (fun _ h => h) rfl rfl rfl rfl (Nat.le_of_ble_eq_true rfl) dX5_undo_22 (fun H locs hP hD hS => ?_)
    have hP : va_P D vwCl (wY ca ad M4) H := by rw [← eM4]; exact hPset (gY_0_s3) stM_o hP
    refine lv_iconst (v := J 0) hx hb dX5_undo_25 rfl ?_
    refine lv_istore_n (lv' := [(1, .int (J 0)), (0, .ref (ad 0))]) hx hb dX5_undo_26 rfl hl (by decide) rfl (fun ls hl => ?_)
    obtain ⟨N_5, h5, hf⟩ := bnd_some hf
    have K5 : ∀ (H : Heap) (locs : List Loc) (ls : Array Slot), RR N_5 → va_P D vwCl (wY ca ad N_5) H → va_S (aS 18 ad) s.heap H locs → lv_has ls 2 [(0, .ref (ad 0))] → W p l e (headSpec wsX5_undo (RmC 0 0)).room s m ([.ref (ad 0)] : List Value).toArray below meth c H locs 0 0 (MQ below (va_Qi (fun x (_ : Unit) => x = J res ∧ (inR res ∧ RR M')) (fun _ => (OY D ca ad M')) (aS 18 ad)) ([.ref (ad 0)] : List Value).toArray s 0 0 (aS 18 ad)) (F0 m 61 ls []) := by
      intro H locs ls hRN_5 hP hS hl
      refine lv_aload_n hx hb dX5_undo_61 rfl (lv_at hl 0 rfl) ?_
      refine va_get (D := D) (ci := 5) (v := .int (J (N_5 0 3))) (C := RX5) (T := TX5) (N := 23) hx hb hts hinX5 hown hK hP 0 (wL_get (by decide) (gY_0 _)) rfl 3 (by decide) (hts (.fieldLink RX5 66 "VisitVansModel" "undoMany" "I") (List.mem_of_getElem? (i := 2) rfl)) (fun _ h => h) rfl dX5_undo_62 ?_
      obtain ⟨e1, e2⟩ := Prod.mk.inj (Option.some.inj hf)
      exact jend_i hx hb hr rfl hS e1 ⟨by rw [← e1]; exact (hRN_5 0 3), by rw [← e2]; exact hRN_5⟩ (oY e2 hP) dX5_undo_65 hlocks
    have hL5 : ∀ (n : Nat) (x1_5 : Int) (M_5 : MM) (H : Heap) (locs : List Loc) (ls : Array Slot), inR x1_5 → RR M_5 → va_P D vwCl (wY ca ad M_5) H → va_S (aS 18 ad) s.heap H locs → lv_has ls 2 [(0, .ref (ad 0)), (1, .int (J x1_5))] → fX5_undo_L27 n x1_5 M_5 = some N_5 → W p l e (headSpec wsX5_undo (RmC 0 0)).room s m ([.ref (ad 0)] : List Value).toArray below meth c H locs 0 0 (MQ below (va_Qi (fun x (_ : Unit) => x = J res ∧ (inR res ∧ RR M')) (fun _ => (OY D ca ad M')) (aS 18 ad)) ([.ref (ad 0)] : List Value).toArray s 0 0 (aS 18 ad)) (F0 m 27 ls []) := by
      intro n
      induction n with
      | zero =>
        intro x1_5 M_5 H locs ls rx1_5 hRM_5 hP hS hl hf
        rw [fX5_undo_L27] at hf
        cases hf
      | succ n ih =>
        intro x1_5 M_5 H locs ls rx1_5 hRM_5 hP hS hl hf
        rw [fX5_undo_L27] at hf
        refine lv_iload_n hx hb dX5_undo_27 rfl (lv_at hl 1 rfl) ?_
        refine lv_sipush (v := J 153) hx hb dX5_undo_28 (by decide +kernel) ?_
        refine jv_icmp_ge (tgt := 61) hx hb dX5_undo_31 (by decide) rx1_5 (by decide : inR 153) (fun c6 => ?_) (fun c6 => ?_)
        · have hf := itep hf c6
          cases hf
          exact K5 _ _ _ hRM_5 hP hS (lv_sub hl [0] rfl)
        · have hf := iten hf c6
          refine lv_aload_n hx hb dX5_undo_34 rfl (lv_at hl 0 rfl) ?_
          refine va_get (D := D) (ci := 5) (v := .ref (ad 1)) (C := RX5) (T := TX5) (N := 23) hx hb hts hinX5 hown hK hP 0 (wL_get (by decide) (gY_0 _)) rfl 1 (by decide) (hts (.fieldLink RX5 7 "VisitVansModel" "s" "[I") (List.mem_of_getElem? (i := 3) rfl)) (fun _ h => h) rfl dX5_undo_35 ?_
          refine lv_iload_n hx hb dX5_undo_38 rfl (lv_at hl 1 rfl) ?_
          refine lv_aload_n hx hb dX5_undo_39 rfl (lv_at hl 0 rfl) ?_
          refine va_get (D := D) (ci := 5) (v := .ref (ad 2)) (C := RX5) (T := TX5) (N := 23) hx hb hts hinX5 hown hK hP 0 (wL_get (by decide) (gY_0 _)) rfl 2 (by decide) (hts (.fieldLink RX5 13 "VisitVansModel" "undos" "[I") (List.mem_of_getElem? (i := 4) rfl)) (fun _ h => h) rfl dX5_undo_40 ?_
          refine lv_sipush (v := J 153) hx hb dX5_undo_43 (by decide +kernel) ?_
          refine lv_aload_n hx hb dX5_undo_46 rfl (lv_at hl 0 rfl) ?_
          refine va_get (D := D) (ci := 5) (v := .int (J (M_5 0 3))) (C := RX5) (T := TX5) (N := 23) hx hb hts hinX5 hown hK hP 0 (wL_get (by decide) (gY_0 _)) rfl 3 (by decide) (hts (.fieldLink RX5 66 "VisitVansModel" "undoMany" "I") (List.mem_of_getElem? (i := 2) rfl)) (fun _ h => h) rfl dX5_undo_47 ?_
          refine jv_imul hx hb dX5_undo_50 ?_
          refine lv_iload_n hx hb dX5_undo_51 rfl (lv_at hl 1 rfl) ?_
          refine jv_iadd hx hb dX5_undo_52 ?_
          obtain ⟨v7, qv7, hf⟩ := bnd_some hf
          obtain ⟨bv7, ev7⟩ := rd_some qv7
          have rv7 : inR v7 := by rw [ev7]; exact hRM_5 _ _
          refine jx_iald hx hb hK hP 2 0 (by decide) gY_2 rfl (by decide) bv7 ev7 dX5_undo_53 ?_
          obtain ⟨M8, qM8, hf⟩ := bnd_some hf
          obtain ⟨bM8, zM8, eM8⟩ := wr_some qM8
          have hRM8 : RR M8 := by rw [eM8]; exact RR_st hRM_5 _ _ zM8
          refine jx_iast hx hb hK hP hI hS 1 0 (by decide) gY_1 rfl (by decide) bM8 zM8 dX5_undo_54 (fun H locs hP hS => ?_)
          rw [← eM8] at hP
          refine lv_iinc (v := J (x1_5 + 1)) (lv' := [(1, .int (J (x1_5 + 1))), (0, .ref (ad 0))]) hx hb dX5_undo_55 hl (k := 1) rfl (J_add _ _) (by decide) rfl (fun ls hl => ?_)
          refine lv_goto (tgt := 27) hx hb dX5_undo_58 (by decide) ?_
          obtain ⟨g9, hf⟩ := gd_some hf
          exact ih _ _ _ _ _ g9 hRM8 hP hS (lv_sub hl [1, 0] rfl) hf
    exact hL5 4000 _ _ _ _ _ (by decide : inR 0) hRM4 hP hS (lv_sub hl [1, 0] rfl) h5
  · have hf := itep hf c2
    refine lv_bipush (v := J (-5)) hx hb dX5_undo_12 (by decide +kernel) ?_
    obtain ⟨e1, e2⟩ := Prod.mk.inj (Option.some.inj hf)
    exact jend_i hx hb hr rfl hS e1 ⟨by rw [← e1]; exact (by decide : inR (-5)), by rw [← e2]; exact hRM1⟩ (oY e2 hP) dX5_undo_14 hlocks
def fX5_save_L19 : Nat → Int → Int → MM → Option (MM)
  | 0, _, _, _ => none
  | n + 1, x1_5, x2_5, M_5 => if 153 ≤ x2_5 then some M_5 else bnd (rd M_5 1 160 x2_5) (fun v7 => bnd (wr M_5 3 306 ((153 * x1_5) + x2_5) v7) (fun M8 => gd (inR (x2_5 + 1)) (fX5_save_L19 n x1_5 (x2_5 + 1) M8)))
def fX5_save (a1 : Int) (M : MM) : Option (Int × MM) := bnd (some (stM M 0 0 0)) (fun M1 => bnd (fX5_in a1 0 1) (fun v2 => if v2 = 0 then some ((-2), M1) else bnd (fX5_save_L19 4000 a1 0 M1) (fun N_5 => bnd (wrZ N_5 4 2 a1 1) (fun M10 => bnd (rd M10 1 160 3) (fun v11 => some (v11, M10))))))
set_option maxHeartbeats 4000000 in
set_option maxRecDepth 100000 in
theorem kX5_save (l : Launch) (D : va_G) (ca : Nat → ClassId) (ad : Nat → Nat) (hI : aInj 18 ad) (M : MM) (hR : RR M) (a1 : Int) (i1 : inR a1) (res : Int) (M' : MM) (hf : fX5_save a1 M = some (res, M')) : CI l yX5_save wsX5_save 1 22 [.ref (ad 0), .int (J a1)] (PY D ca ad M) res (inR res ∧ RR M') (OY D ca ad M') (aS 18 ad) := by
  refine Met.ofW (cc := cX5_save) (maxL := 3) (ret := (some .int)) (by decide) rfl ?_
  intro p e s m args below meth c s₁ B hml hv
  obtain ⟨rfl, hP, hK⟩ := hv
  have hx := B.exec
  have hb := B.bytes
  have hr := B.returns
  have hts := atoms_spec (ws := wsX5_save) B.pre
  have hown : s.vm.findClass RX5 = some m.cls := findClass_of_methodNamed B.named
  have hlocks := B.notSynchronized
  have hS : va_S (aS 18 ad) s.heap s.heap [] := va_S.rf
  have hinX5 : ∀ w ∈ wsX50, w ∈ wsX5_save := by decide +kernel
  have hl := lv_entry ([.ref (ad 0), .int (J a1)]) (n := 3) (Nat.le_of_ble_eq_true rfl)
  rw [lg_entry_eq]
  generalize (lg_sl ([.ref (ad 0), .int (J a1)]) ++ List.replicate (3 - (lg_sl ([.ref (ad 0), .int (J a1)])).length) Slot.unset).toArray = ls at hl ⊢
  have hl : lv_has ls 3 [(0, .ref (ad 0)), (1, .int (J a1))] := hl
  unfold fX5_save at hf
  refine lv_aload_n hx hb dX5_save_0 rfl (lv_at hl 0 rfl) ?_
  refine lv_iconst (v := J 0) hx hb dX5_save_1 rfl ?_
  obtain ⟨M1, eM1, hf⟩ := bnd_some hf
  have eM1 := Option.some.inj eM1
  have hRM1 : RR M1 := by rw [← eM1]; exact RR_st hR 0 0 (by decide : inR 0)
  refine va_put (D := D) (ci := 5) (v := .int (J 0)) (ty := .int) (C := RX5) (T := TX5) (N := 23) hx hb hts hinX5 tyX5 tyX5_ok nmX5 hown hK hP (wL_D hI M) hS 0 (wL_get (by decide) (gY_0 _)) rfl 0 (by decide) (hts (.fieldLink RX5 62 "VisitVansModel" "thrown" "I") (List.mem_of_getElem? (i := 1) rfl)) (fun _ h => h) rfl rfl rfl rfl (Nat.le_of_ble_eq_true rfl) dX5_save_2 (fun H locs hP hD hS => ?_)
  have hP : va_P D vwCl (wY ca ad M1) H := by rw [← eM1]; exact hPset (gY_0_s0) stM_o hP
  refine lv_iload_n hx hb dX5_save_5 rfl (lv_at hl 1 rfl) ?_
  refine lv_iconst (v := J 0) hx hb dX5_save_6 rfl ?_
  refine lv_iconst (v := J 1) hx hb dX5_save_7 rfl ?_
  obtain ⟨v2, qv2, hf⟩ := bnd_some hf
  refine jc_i (va_runS (As := [.int (J a1), .int (J 0), .int (J 1)]) (rest := []) ⟨hx, hb, hml, hown, hts⟩ (kX5_in l D ca ad hI M1 hRM1 a1 0 1 i1 (by decide : inR 0) (by decide : inR 1) v2 qv2) (va_cwS 3 hts gX5_save_X5_in rfl rfl rfl (by decide +kernel) ⟨Nat.le_of_ble_eq_true rfl, Nat.le_of_ble_eq_true rfl⟩) (psY hK hP [.int (J a1), .int (J 0), .int (J 1)]) rfl rfl hl.1 rfl (lv_room (Nat.le_of_ble_eq_true rfl)) dX5_save_8 ⟨Nat.zero_le _, Nat.zero_le _⟩) hS (fun H locs t ht hφ hO hS => ?_)
  have rv2 := hφ
  have hP : va_P D vwCl (wY ca ad M1) H := by rw [← ht]; exact hO
  refine jv_if_ne (tgt := 17) hx hb dX5_save_11 (by decide) rv2 (fun c4 => ?_) (fun c4 => ?_)
  · have hf := iten hf c4
    refine lv_iconst (v := J 0) hx hb dX5_save_17 rfl ?_
    refine lv_istore_n (lv' := [(2, .int (J 0)), (0, .ref (ad 0)), (1, .int (J a1))]) hx hb dX5_save_18 rfl hl (by decide) rfl (fun ls hl => ?_)
    obtain ⟨N_5, h5, hf⟩ := bnd_some hf
    have K5 : ∀ (H : Heap) (locs : List Loc) (ls : Array Slot), RR N_5 → va_P D vwCl (wY ca ad N_5) H → va_S (aS 18 ad) s.heap H locs → lv_has ls 3 [(0, .ref (ad 0)), (1, .int (J a1))] → W p l e (headSpec wsX5_save (RmC 1 22)).room s m ([.ref (ad 0), .int (J a1)] : List Value).toArray below meth c H locs 0 0 (MQ below (va_Qi (fun x (_ : Unit) => x = J res ∧ (inR res ∧ RR M')) (fun _ => (OY D ca ad M')) (aS 18 ad)) ([.ref (ad 0), .int (J a1)] : List Value).toArray s 0 0 (aS 18 ad)) (F0 m 50 ls []) := by
      intro H locs ls hRN_5 hP hS hl
      refine lv_aload_n hx hb dX5_save_50 rfl (lv_at hl 0 rfl) ?_
      refine va_get (D := D) (ci := 5) (v := .ref (ad 4)) (C := RX5) (T := TX5) (N := 23) hx hb hts hinX5 hown hK hP 0 (wL_get (by decide) (gY_0 _)) rfl 5 (by decide) (hts (.fieldLink RX5 19 "VisitVansModel" "hasSlot" "[Z") (List.mem_of_getElem? (i := 4) rfl)) (fun _ h => h) rfl dX5_save_51 ?_
      refine lv_iload_n hx hb dX5_save_54 rfl (lv_at hl 1 rfl) ?_
      refine lv_iconst (v := J 1) hx hb dX5_save_55 rfl ?_
      obtain ⟨M10, qM10, hf⟩ := bnd_some hf
      obtain ⟨bM10, zM10, eM10⟩ := wrZ_some qM10
      have hRM10 : RR M10 := by rw [eM10]; exact RR_st hRN_5 _ _ (J_bR zM10)
      refine jx_zast hx hb hK hP hI hS 4 2 (by decide) gY_4 rfl (by decide) bM10 zM10 dX5_save_56 (fun H locs hP hS => ?_)
      rw [← eM10] at hP
      refine lv_aload_n hx hb dX5_save_57 rfl (lv_at hl 0 rfl) ?_
      refine va_get (D := D) (ci := 5) (v := .ref (ad 1)) (C := RX5) (T := TX5) (N := 23) hx hb hts hinX5 hown hK hP 0 (wL_get (by decide) (gY_0 _)) rfl 1 (by decide) (hts (.fieldLink RX5 7 "VisitVansModel" "s" "[I") (List.mem_of_getElem? (i := 3) rfl)) (fun _ h => h) rfl dX5_save_58 ?_
      refine lv_iconst (v := J 3) hx hb dX5_save_61 rfl ?_
      obtain ⟨v11, qv11, hf⟩ := bnd_some hf
      obtain ⟨bv11, ev11⟩ := rd_some qv11
      have rv11 : inR v11 := by rw [ev11]; exact hRM10 _ _
      refine jx_iald hx hb hK hP 1 0 (by decide) gY_1 rfl (by decide) bv11 ev11 dX5_save_62 ?_
      obtain ⟨e1, e2⟩ := Prod.mk.inj (Option.some.inj hf)
      exact jend_i hx hb hr rfl hS e1 ⟨by rw [← e1]; exact rv11, by rw [← e2]; exact hRM10⟩ (oY e2 hP) dX5_save_63 hlocks
    have hL5 : ∀ (n : Nat) (x1_5 : Int) (x2_5 : Int) (M_5 : MM) (H : Heap) (locs : List Loc) (ls : Array Slot), inR x1_5 → inR x2_5 → RR M_5 → x1_5 = a1 → va_P D vwCl (wY ca ad M_5) H → va_S (aS 18 ad) s.heap H locs → lv_has ls 3 [(0, .ref (ad 0)), (1, .int (J x1_5)), (2, .int (J x2_5))] → fX5_save_L19 n x1_5 x2_5 M_5 = some N_5 → W p l e (headSpec wsX5_save (RmC 1 22)).room s m ([.ref (ad 0), .int (J a1)] : List Value).toArray below meth c H locs 0 0 (MQ below (va_Qi (fun x (_ : Unit) => x = J res ∧ (inR res ∧ RR M')) (fun _ => (OY D ca ad M')) (aS 18 ad)) ([.ref (ad 0), .int (J a1)] : List Value).toArray s 0 0 (aS 18 ad)) (F0 m 19 ls []) := by
      intro n
      induction n with
      | zero =>
        intro x1_5 x2_5 M_5 H locs ls rx1_5 rx2_5 hRM_5 e_x1_5 hP hS hl hf
        rw [fX5_save_L19] at hf
        cases hf
      | succ n ih =>
        intro x1_5 x2_5 M_5 H locs ls rx1_5 rx2_5 hRM_5 e_x1_5 hP hS hl hf
        rw [fX5_save_L19] at hf
        refine lv_iload_n hx hb dX5_save_19 rfl (lv_at hl 2 rfl) ?_
        refine lv_sipush (v := J 153) hx hb dX5_save_20 (by decide +kernel) ?_
        refine jv_icmp_ge (tgt := 50) hx hb dX5_save_23 (by decide) rx2_5 (by decide : inR 153) (fun c6 => ?_) (fun c6 => ?_)
        · have hf := itep hf c6
          cases hf
          exact K5 _ _ _ hRM_5 hP hS (lv_sub hl [0, 1] (by subst e_x1_5; rfl))
        · have hf := iten hf c6
          refine lv_aload_n hx hb dX5_save_26 rfl (lv_at hl 0 rfl) ?_
          refine va_get (D := D) (ci := 5) (v := .ref (ad 3)) (C := RX5) (T := TX5) (N := 23) hx hb hts hinX5 hown hK hP 0 (wL_get (by decide) (gY_0 _)) rfl 4 (by decide) (hts (.fieldLink RX5 16 "VisitVansModel" "slots" "[I") (List.mem_of_getElem? (i := 2) rfl)) (fun _ h => h) rfl dX5_save_27 ?_
          refine lv_sipush (v := J 153) hx hb dX5_save_30 (by decide +kernel) ?_
          refine lv_iload_n hx hb dX5_save_33 rfl (lv_at hl 1 rfl) ?_
          refine jv_imul hx hb dX5_save_34 ?_
          refine lv_iload_n hx hb dX5_save_35 rfl (lv_at hl 2 rfl) ?_
          refine jv_iadd hx hb dX5_save_36 ?_
          refine lv_aload_n hx hb dX5_save_37 rfl (lv_at hl 0 rfl) ?_
          refine va_get (D := D) (ci := 5) (v := .ref (ad 1)) (C := RX5) (T := TX5) (N := 23) hx hb hts hinX5 hown hK hP 0 (wL_get (by decide) (gY_0 _)) rfl 1 (by decide) (hts (.fieldLink RX5 7 "VisitVansModel" "s" "[I") (List.mem_of_getElem? (i := 3) rfl)) (fun _ h => h) rfl dX5_save_38 ?_
          refine lv_iload_n hx hb dX5_save_41 rfl (lv_at hl 2 rfl) ?_
          obtain ⟨v7, qv7, hf⟩ := bnd_some hf
          obtain ⟨bv7, ev7⟩ := rd_some qv7
          have rv7 : inR v7 := by rw [ev7]; exact hRM_5 _ _
          refine jx_iald hx hb hK hP 1 0 (by decide) gY_1 rfl (by decide) bv7 ev7 dX5_save_42 ?_
          obtain ⟨M8, qM8, hf⟩ := bnd_some hf
          obtain ⟨bM8, zM8, eM8⟩ := wr_some qM8
          have hRM8 : RR M8 := by rw [eM8]; exact RR_st hRM_5 _ _ zM8
          refine jx_iast hx hb hK hP hI hS 3 0 (by decide) gY_3 rfl (by decide) bM8 zM8 dX5_save_43 (fun H locs hP hS => ?_)
          rw [← eM8] at hP
          refine lv_iinc (v := J (x2_5 + 1)) (lv' := [(2, .int (J (x2_5 + 1))), (0, .ref (ad 0)), (1, .int (J x1_5))]) hx hb dX5_save_44 hl (k := 2) rfl (J_add _ _) (by decide) rfl (fun ls hl => ?_)
          refine lv_goto (tgt := 19) hx hb dX5_save_47 (by decide) ?_
          obtain ⟨g9, hf⟩ := gd_some hf
          exact ih _ _ _ _ _ _ rx1_5 g9 hRM8 e_x1_5 hP hS (lv_sub hl [1, 2, 0] rfl) hf
    exact hL5 4000 _ _ _ _ _ _ i1 (by decide : inR 0) hRM1 rfl hP hS (lv_sub hl [1, 2, 0] rfl) h5
  · have hf := itep hf c4
    refine lv_bipush (v := J (-2)) hx hb dX5_save_14 (by decide +kernel) ?_
    obtain ⟨e1, e2⟩ := Prod.mk.inj (Option.some.inj hf)
    exact jend_i hx hb hr rfl hS e1 ⟨by rw [← e1]; exact (by decide : inR (-2)), by rw [← e2]; exact hRM1⟩ (oY e2 hP) dX5_save_16 hlocks
def fX5_restore_L35 : Nat → Int → Int → MM → Option (MM)
  | 0, _, _, _ => none
  | n + 1, x1_9, x2_9, M_9 => if 153 ≤ x2_9 then some M_9 else bnd (rd M_9 3 306 ((153 * x1_9) + x2_9)) (fun v11 => bnd (wr M_9 1 160 x2_9 v11) (fun M12 => gd (inR (x2_9 + 1)) (fX5_restore_L35 n x1_9 (x2_9 + 1) M12)))
def fX5_restore (a1 : Int) (M : MM) : Option (Int × MM) := bnd (some (stM M 0 0 0)) (fun M1 => bnd (fX5_in a1 0 1) (fun v2 => if v2 = 0 then some ((-2), M1) else bnd (rd M1 4 2 a1) (fun v5 => if v5 = 0 then some ((-5), M1) else bnd (fX5_records M1) (fun M8 => bnd (fX5_restore_L35 4000 a1 0 M8) (fun N_9 => bnd (rd N_9 1 160 3) (fun v14 => some (v14, N_9)))))))
set_option maxHeartbeats 4000000 in
set_option maxRecDepth 100000 in
theorem kX5_restore (l : Launch) (D : va_G) (ca : Nat → ClassId) (ad : Nat → Nat) (hI : aInj 18 ad) (M : MM) (hR : RR M) (a1 : Int) (i1 : inR a1) (res : Int) (M' : MM) (hf : fX5_restore a1 M = some (res, M')) : CI l yX5_restore wsX5_restore 1 22 [.ref (ad 0), .int (J a1)] (PY D ca ad M) res (inR res ∧ RR M') (OY D ca ad M') (aS 18 ad) := by
  refine Met.ofW (cc := cX5_restore) (maxL := 3) (ret := (some .int)) (by decide) rfl ?_
  intro p e s m args below meth c s₁ B hml hv
  obtain ⟨rfl, hP, hK⟩ := hv
  have hx := B.exec
  have hb := B.bytes
  have hr := B.returns
  have hts := atoms_spec (ws := wsX5_restore) B.pre
  have hown : s.vm.findClass RX5 = some m.cls := findClass_of_methodNamed B.named
  have hlocks := B.notSynchronized
  have hS : va_S (aS 18 ad) s.heap s.heap [] := va_S.rf
  have hinX5 : ∀ w ∈ wsX50, w ∈ wsX5_restore := by decide +kernel
  have hl := lv_entry ([.ref (ad 0), .int (J a1)]) (n := 3) (Nat.le_of_ble_eq_true rfl)
  rw [lg_entry_eq]
  generalize (lg_sl ([.ref (ad 0), .int (J a1)]) ++ List.replicate (3 - (lg_sl ([.ref (ad 0), .int (J a1)])).length) Slot.unset).toArray = ls at hl ⊢
  have hl : lv_has ls 3 [(0, .ref (ad 0)), (1, .int (J a1))] := hl
  unfold fX5_restore at hf
  refine lv_aload_n hx hb dX5_restore_0 rfl (lv_at hl 0 rfl) ?_
  refine lv_iconst (v := J 0) hx hb dX5_restore_1 rfl ?_
  obtain ⟨M1, eM1, hf⟩ := bnd_some hf
  have eM1 := Option.some.inj eM1
  have hRM1 : RR M1 := by rw [← eM1]; exact RR_st hR 0 0 (by decide : inR 0)
  refine va_put (D := D) (ci := 5) (v := .int (J 0)) (ty := .int) (C := RX5) (T := TX5) (N := 23) hx hb hts hinX5 tyX5 tyX5_ok nmX5 hown hK hP (wL_D hI M) hS 0 (wL_get (by decide) (gY_0 _)) rfl 0 (by decide) (hts (.fieldLink RX5 62 "VisitVansModel" "thrown" "I") (List.mem_of_getElem? (i := 1) rfl)) (fun _ h => h) rfl rfl rfl rfl (Nat.le_of_ble_eq_true rfl) dX5_restore_2 (fun H locs hP hD hS => ?_)
  have hP : va_P D vwCl (wY ca ad M1) H := by rw [← eM1]; exact hPset (gY_0_s0) stM_o hP
  refine lv_iload_n hx hb dX5_restore_5 rfl (lv_at hl 1 rfl) ?_
  refine lv_iconst (v := J 0) hx hb dX5_restore_6 rfl ?_
  refine lv_iconst (v := J 1) hx hb dX5_restore_7 rfl ?_
  obtain ⟨v2, qv2, hf⟩ := bnd_some hf
  refine jc_i (va_runS (As := [.int (J a1), .int (J 0), .int (J 1)]) (rest := []) ⟨hx, hb, hml, hown, hts⟩ (kX5_in l D ca ad hI M1 hRM1 a1 0 1 i1 (by decide : inR 0) (by decide : inR 1) v2 qv2) (va_cwS 3 hts gX5_restore_X5_in rfl rfl rfl (by decide +kernel) ⟨Nat.le_of_ble_eq_true rfl, Nat.le_of_ble_eq_true rfl⟩) (psY hK hP [.int (J a1), .int (J 0), .int (J 1)]) rfl rfl hl.1 rfl (lv_room (Nat.le_of_ble_eq_true rfl)) dX5_restore_8 ⟨Nat.zero_le _, Nat.zero_le _⟩) hS (fun H locs t ht hφ hO hS => ?_)
  have rv2 := hφ
  have hP : va_P D vwCl (wY ca ad M1) H := by rw [← ht]; exact hO
  refine jv_if_ne (tgt := 17) hx hb dX5_restore_11 (by decide) rv2 (fun c4 => ?_) (fun c4 => ?_)
  · have hf := iten hf c4
    refine lv_aload_n hx hb dX5_restore_17 rfl (lv_at hl 0 rfl) ?_
    refine va_get (D := D) (ci := 5) (v := .ref (ad 4)) (C := RX5) (T := TX5) (N := 23) hx hb hts hinX5 hown hK hP 0 (wL_get (by decide) (gY_0 _)) rfl 5 (by decide) (hts (.fieldLink RX5 19 "VisitVansModel" "hasSlot" "[Z") (List.mem_of_getElem? (i := 2) rfl)) (fun _ h => h) rfl dX5_restore_18 ?_
    refine lv_iload_n hx hb dX5_restore_21 rfl (lv_at hl 1 rfl) ?_
    obtain ⟨v5, qv5, hf⟩ := bnd_some hf
    obtain ⟨bv5, ev5⟩ := rd_some qv5
    have rv5 : inR v5 := by rw [ev5]; exact hRM1 _ _
    refine jx_zald hx hb hK hP 4 2 (by decide) gY_4 rfl (by decide) bv5 ev5 dX5_restore_22 ?_
    refine jv_if_ne (tgt := 29) hx hb dX5_restore_23 (by decide) rv5 (fun c6 => ?_) (fun c6 => ?_)
    · have hf := iten hf c6
      refine lv_aload_n hx hb dX5_restore_29 rfl (lv_at hl 0 rfl) ?_
      obtain ⟨M8, qM8, hf⟩ := bnd_some hf
      refine jc_v (va_runV (As := []) (rest := []) ⟨hx, hb, hml, hown, hts⟩ (kX5_records l D ca ad hI M1 hRM1 M8 qM8) (cwV 0 hts gX5_restore_X5_records rfl rfl rfl (by decide +kernel) ⟨Nat.le_of_ble_eq_true rfl, Nat.le_of_ble_eq_true rfl⟩) (pvY hK hP []) rfl rfl hl.1 rfl (lv_room (Nat.le_of_ble_eq_true rfl)) dX5_restore_30 ⟨Nat.zero_le _, Nat.zero_le _⟩) hS (fun H locs t ht hφ hO hS => ?_)
      have hRM8 := hφ
      have hP : va_P D vwCl (wY ca ad M8) H := by rw [← ht]; exact hO
      refine lv_iconst (v := J 0) hx hb dX5_restore_33 rfl ?_
      refine lv_istore_n (lv' := [(2, .int (J 0)), (0, .ref (ad 0)), (1, .int (J a1))]) hx hb dX5_restore_34 rfl hl (by decide) rfl (fun ls hl => ?_)
      obtain ⟨N_9, h9, hf⟩ := bnd_some hf
      have K9 : ∀ (H : Heap) (locs : List Loc) (ls : Array Slot), RR N_9 → va_P D vwCl (wY ca ad N_9) H → va_S (aS 18 ad) s.heap H locs → lv_has ls 3 [(0, .ref (ad 0))] → W p l e (headSpec wsX5_restore (RmC 1 22)).room s m ([.ref (ad 0), .int (J a1)] : List Value).toArray below meth c H locs 0 0 (MQ below (va_Qi (fun x (_ : Unit) => x = J res ∧ (inR res ∧ RR M')) (fun _ => (OY D ca ad M')) (aS 18 ad)) ([.ref (ad 0), .int (J a1)] : List Value).toArray s 0 0 (aS 18 ad)) (F0 m 66 ls []) := by
        intro H locs ls hRN_9 hP hS hl
        refine lv_aload_n hx hb dX5_restore_66 rfl (lv_at hl 0 rfl) ?_
        refine va_get (D := D) (ci := 5) (v := .ref (ad 1)) (C := RX5) (T := TX5) (N := 23) hx hb hts hinX5 hown hK hP 0 (wL_get (by decide) (gY_0 _)) rfl 1 (by decide) (hts (.fieldLink RX5 7 "VisitVansModel" "s" "[I") (List.mem_of_getElem? (i := 3) rfl)) (fun _ h => h) rfl dX5_restore_67 ?_
        refine lv_iconst (v := J 3) hx hb dX5_restore_70 rfl ?_
        obtain ⟨v14, qv14, hf⟩ := bnd_some hf
        obtain ⟨bv14, ev14⟩ := rd_some qv14
        have rv14 : inR v14 := by rw [ev14]; exact hRN_9 _ _
        refine jx_iald hx hb hK hP 1 0 (by decide) gY_1 rfl (by decide) bv14 ev14 dX5_restore_71 ?_
        obtain ⟨e1, e2⟩ := Prod.mk.inj (Option.some.inj hf)
        exact jend_i hx hb hr rfl hS e1 ⟨by rw [← e1]; exact rv14, by rw [← e2]; exact hRN_9⟩ (oY e2 hP) dX5_restore_72 hlocks
      have hL9 : ∀ (n : Nat) (x1_9 : Int) (x2_9 : Int) (M_9 : MM) (H : Heap) (locs : List Loc) (ls : Array Slot), inR x1_9 → inR x2_9 → RR M_9 → x1_9 = a1 → va_P D vwCl (wY ca ad M_9) H → va_S (aS 18 ad) s.heap H locs → lv_has ls 3 [(0, .ref (ad 0)), (1, .int (J x1_9)), (2, .int (J x2_9))] → fX5_restore_L35 n x1_9 x2_9 M_9 = some N_9 → W p l e (headSpec wsX5_restore (RmC 1 22)).room s m ([.ref (ad 0), .int (J a1)] : List Value).toArray below meth c H locs 0 0 (MQ below (va_Qi (fun x (_ : Unit) => x = J res ∧ (inR res ∧ RR M')) (fun _ => (OY D ca ad M')) (aS 18 ad)) ([.ref (ad 0), .int (J a1)] : List Value).toArray s 0 0 (aS 18 ad)) (F0 m 35 ls []) := by
        intro n
        induction n with
        | zero =>
          intro x1_9 x2_9 M_9 H locs ls rx1_9 rx2_9 hRM_9 e_x1_9 hP hS hl hf
          rw [fX5_restore_L35] at hf
          cases hf
        | succ n ih =>
          intro x1_9 x2_9 M_9 H locs ls rx1_9 rx2_9 hRM_9 e_x1_9 hP hS hl hf
          rw [fX5_restore_L35] at hf
          refine lv_iload_n hx hb dX5_restore_35 rfl (lv_at hl 2 rfl) ?_
          refine lv_sipush (v := J 153) hx hb dX5_restore_36 (by decide +kernel) ?_
          refine jv_icmp_ge (tgt := 66) hx hb dX5_restore_39 (by decide) rx2_9 (by decide : inR 153) (fun c10 => ?_) (fun c10 => ?_)
          · have hf := itep hf c10
            cases hf
            exact K9 _ _ _ hRM_9 hP hS (lv_sub hl [0] (by subst e_x1_9; rfl))
          · have hf := iten hf c10
            refine lv_aload_n hx hb dX5_restore_42 rfl (lv_at hl 0 rfl) ?_
            refine va_get (D := D) (ci := 5) (v := .ref (ad 1)) (C := RX5) (T := TX5) (N := 23) hx hb hts hinX5 hown hK hP 0 (wL_get (by decide) (gY_0 _)) rfl 1 (by decide) (hts (.fieldLink RX5 7 "VisitVansModel" "s" "[I") (List.mem_of_getElem? (i := 3) rfl)) (fun _ h => h) rfl dX5_restore_43 ?_
            refine lv_iload_n hx hb dX5_restore_46 rfl (lv_at hl 2 rfl) ?_
            refine lv_aload_n hx hb dX5_restore_47 rfl (lv_at hl 0 rfl) ?_
            refine va_get (D := D) (ci := 5) (v := .ref (ad 3)) (C := RX5) (T := TX5) (N := 23) hx hb hts hinX5 hown hK hP 0 (wL_get (by decide) (gY_0 _)) rfl 4 (by decide) (hts (.fieldLink RX5 16 "VisitVansModel" "slots" "[I") (List.mem_of_getElem? (i := 4) rfl)) (fun _ h => h) rfl dX5_restore_48 ?_
            refine lv_sipush (v := J 153) hx hb dX5_restore_51 (by decide +kernel) ?_
            refine lv_iload_n hx hb dX5_restore_54 rfl (lv_at hl 1 rfl) ?_
            refine jv_imul hx hb dX5_restore_55 ?_
            refine lv_iload_n hx hb dX5_restore_56 rfl (lv_at hl 2 rfl) ?_
            refine jv_iadd hx hb dX5_restore_57 ?_
            obtain ⟨v11, qv11, hf⟩ := bnd_some hf
            obtain ⟨bv11, ev11⟩ := rd_some qv11
            have rv11 : inR v11 := by rw [ev11]; exact hRM_9 _ _
            refine jx_iald hx hb hK hP 3 0 (by decide) gY_3 rfl (by decide) bv11 ev11 dX5_restore_58 ?_
            obtain ⟨M12, qM12, hf⟩ := bnd_some hf
            obtain ⟨bM12, zM12, eM12⟩ := wr_some qM12
            have hRM12 : RR M12 := by rw [eM12]; exact RR_st hRM_9 _ _ zM12
            refine jx_iast hx hb hK hP hI hS 1 0 (by decide) gY_1 rfl (by decide) bM12 zM12 dX5_restore_59 (fun H locs hP hS => ?_)
            rw [← eM12] at hP
            refine lv_iinc (v := J (x2_9 + 1)) (lv' := [(2, .int (J (x2_9 + 1))), (0, .ref (ad 0)), (1, .int (J x1_9))]) hx hb dX5_restore_60 hl (k := 2) rfl (J_add _ _) (by decide) rfl (fun ls hl => ?_)
            refine lv_goto (tgt := 35) hx hb dX5_restore_63 (by decide) ?_
            obtain ⟨g13, hf⟩ := gd_some hf
            exact ih _ _ _ _ _ _ rx1_9 g13 hRM12 e_x1_9 hP hS (lv_sub hl [1, 2, 0] rfl) hf
      exact hL9 4000 _ _ _ _ _ _ i1 (by decide : inR 0) hRM8 rfl hP hS (lv_sub hl [1, 2, 0] rfl) h9
    · have hf := itep hf c6
      refine lv_bipush (v := J (-5)) hx hb dX5_restore_26 (by decide +kernel) ?_
      obtain ⟨e1, e2⟩ := Prod.mk.inj (Option.some.inj hf)
      exact jend_i hx hb hr rfl hS e1 ⟨by rw [← e1]; exact (by decide : inR (-5)), by rw [← e2]; exact hRM1⟩ (oY e2 hP) dX5_restore_28 hlocks
  · have hf := itep hf c4
    refine lv_bipush (v := J (-2)) hx hb dX5_restore_14 (by decide +kernel) ?_
    obtain ⟨e1, e2⟩ := Prod.mk.inj (Option.some.inj hf)
    exact jend_i hx hb hr rfl hS e1 ⟨by rw [← e1]; exact (by decide : inR (-2)), by rw [← e2]; exact hRM1⟩ (oY e2 hP) dX5_restore_16 hlocks
