/-! METHODS: pure functions and the walks of their bytecode, laid by program (wip/whole): X1_append X1_start X1_nextSign X1_readSign X1_formOf J0_isEmpty_aae02 J0_coder_7d493 J0_length_8abf5 J0_isLatin1_aae02 J3_checkIndex_8e157 J0_checkIndex_df160 J1_charAt_3b067 J0_charAt_5068e X1_nextDigit X1_tell X1_readNumber X1_readDigit X1_readSkills X1_readPiece X1_readOrder X1_hasMore X1_firstFault -/
def fX1_append_L75 : Nat → Int64 → Int → Int → MM → Option (MM)
  | 0, _, _, _, _ => none
  | n + 1, x1_6, x3_6, x4_6, M_6 => if x3_6 ≤ x4_6 then some M_6 else bnd (wrC M_6 72 80 ((((M_6 71 1) + x3_6) - 1) - x4_6) (i2c (l2i ((lushr x1_6 (8 * x4_6)) &&& (255 : Int64))))) (fun M8 => gd (inR (x4_6 + 1)) (fX1_append_L75 n x1_6 x3_6 (x4_6 + 1) M8))
def fX1_append_L75b : Nat → Int64 → Int → Int → MM → Option (MM)
  | 0, _, _, _, _ => none
  | n + 1, x1_16, x3_16, x4_16, M_16 => if x3_16 ≤ x4_16 then some M_16 else bnd (wrC M_16 72 80 ((((M_16 71 1) + x3_16) - 1) - x4_16) (i2c (l2i ((lushr x1_16 (8 * x4_16)) &&& (255 : Int64))))) (fun M18 => gd (inR (x4_16 + 1)) (fX1_append_L75b n x1_16 x3_16 (x4_16 + 1) M18))
def fX1_append_L5 : Nat → Int64 → Int → Int64 → MM → Option (Int × MM)
  | 0, _, _, _, _ => none
  | n + 1, x1_1, x3_1, x4_1, M_1 => if ((lg_cmp x4_1 (0 : Int64)).toInt) = 0 then if x3_1 = 0 then some ((-2), M_1) else gd (inR ((M_1 71 1) + x3_1)) (if ((M_1 71 1) + x3_1) ≤ 80 then bnd (fX1_append_L75 4000 x1_1 x3_1 0 M_1) (fun N_6 => gd (inR ((N_6 71 1) + x3_1)) (bnd (some (stM N_6 71 1 ((N_6 71 1) + x3_1))) (fun M11 => some ((M11 71 1), M11)))) else some ((-4), M_1)) else if 8 ≤ x3_1 then if x3_1 = 0 then some ((-2), M_1) else gd (inR ((M_1 71 1) + x3_1)) (if ((M_1 71 1) + x3_1) ≤ 80 then bnd (fX1_append_L75b 4000 x1_1 x3_1 0 M_1) (fun N_16 => gd (inR ((N_16 71 1) + x3_1)) (bnd (some (stM N_16 71 1 ((N_16 71 1) + x3_1))) (fun M21 => some ((M21 71 1), M21)))) else some ((-4), M_1)) else bnd (fX4_within (l2i (x4_1 &&& (255 : Int64))) 33 126) (fun v22 => if v22 = 0 then some ((-2), M_1) else gd (inR (x3_1 + 1)) (fX1_append_L5 n x1_1 (x3_1 + 1) (lushr x4_1 8) M_1))
def fX1_append (a1 : Int64) (M : MM) : Option (Int × MM) := fX1_append_L5 4000 a1 0 a1 M
set_option maxHeartbeats 4000000 in
set_option maxRecDepth 100000 in
theorem kX1_append (l : Launch) (D : va_G) (ca : Nat → ClassId) (v : EV) (ad : Nat → Nat) (hI : aInj 75 ad) (M : MM) (hR : RR M) (a1 : Int64) (res : Int) (M' : MM) (hf : fX1_append a1 M = some (res, M')) : CI l yX1_append wsX1_append 1 22 [.ref (ad 71), .long a1] (PX D ca v ad M) res (inR res ∧ RR M') (OX D ca ad M') (aS 75 ad) := by
  refine Met.ofW (cc := cX1_append) (maxL := 6) (ret := (some .int)) (by decide) rfl ?_
  intro p e s m args below meth c s₁ B hml hv
  obtain ⟨rfl, hP, hK, hE⟩ := hv
  have hx := B.exec
  have hb := B.bytes
  have hr := B.returns
  have hts := atoms_spec (ws := wsX1_append) B.pre
  have hown : s.vm.findClass RX1 = some m.cls := findClass_of_methodNamed B.named
  have hlocks := B.notSynchronized
  have hS : va_S (aS 75 ad) s.heap s.heap [] := va_S.rf
  have hinX1 : ∀ w ∈ wsX10, w ∈ wsX1_append := by decide +kernel
  have hl := lv_entry ([.ref (ad 71), .long a1]) (n := 6) (Nat.le_of_ble_eq_true rfl)
  rw [lg_entry_eq]
  generalize (lg_sl ([.ref (ad 71), .long a1]) ++ List.replicate (6 - (lg_sl ([.ref (ad 71), .long a1])).length) Slot.unset).toArray = ls at hl ⊢
  have hl : lv_has ls 6 [(0, .ref (ad 71)), (1, .long a1)] := hl
  unfold fX1_append at hf
  refine lv_iconst (v := J 0) hx hb dX1_append_0 rfl ?_
  refine lv_istore_n (lv' := [(3, .int (J 0)), (0, .ref (ad 71)), (1, .long a1)]) hx hb dX1_append_1 rfl hl (by decide) rfl (fun ls hl => ?_)
  refine lv_lload_n hx hb dX1_append_2 rfl (lv_at hl 2 rfl) ?_
  refine lv_lstore (lv' := [(4, .long a1), (3, .int (J 0)), (0, .ref (ad 71)), (1, .long a1)]) hx hb dX1_append_3 hl (by decide) rfl (fun ls hl => ?_)
  have hL1 : ∀ (n : Nat) (x1_1 : Int64) (x3_1 : Int) (x4_1 : Int64) (M_1 : MM) (H : Heap) (locs : List Loc) (ls : Array Slot), inR x3_1 → RR M_1 → x1_1 = a1 → M_1 = M → va_P D vwCl (wX ca ad M_1) H → va_S (aS 75 ad) s.heap H locs → lv_has ls 6 [(0, .ref (ad 71)), (1, .long x1_1), (3, .int (J x3_1)), (4, .long x4_1)] → fX1_append_L5 n x1_1 x3_1 x4_1 M_1 = some (res, M') → W p l e (headSpec wsX1_append (RmC 1 22)).room s m ([.ref (ad 71), .long a1] : List Value).toArray below meth c H locs 0 0 (MQ below (va_Qi (fun x (_ : Unit) => x = J res ∧ (inR res ∧ RR M')) (fun _ => (OX D ca ad M')) (aS 75 ad)) ([.ref (ad 71), .long a1] : List Value).toArray s 0 0 (aS 75 ad)) (F0 m 5 ls []) := by
    intro n
    induction n with
    | zero =>
      intro x1_1 x3_1 x4_1 M_1 H locs ls rx3_1 hRM_1 e_x1_1 e_M_1 hP hS hl hf
      rw [fX1_append_L5] at hf
      cases hf
    | succ n ih =>
      intro x1_1 x3_1 x4_1 M_1 H locs ls rx3_1 hRM_1 e_x1_1 e_M_1 hP hS hl hf
      rw [fX1_append_L5] at hf
      refine lv_lload hx hb dX1_append_5 (lv_at hl 3 rfl) ?_
      refine lv_lconst (v := 0) hx hb dX1_append_7 rfl ?_
      refine jv_lcmp hx hb dX1_append_8 ?_
      refine jv_if_eq (tgt := 51) hx hb dX1_append_9 (by decide) (J_inR _) (fun c2 => ?_) (fun c2 => ?_)
      · have hf := itep hf c2
        refine lv_iload_n hx hb dX1_append_51 rfl (lv_at hl 2 rfl) ?_
        refine jv_if_ne (tgt := 58) hx hb dX1_append_52 (by decide) rx3_1 (fun c3 => ?_) (fun c3 => ?_)
        · have hf := iten hf c3
          refine lv_aload_n hx hb dX1_append_58 rfl (lv_at hl 0 rfl) ?_
          refine va_get (D := D) (ci := 1) (v := .int (J (M_1 71 1))) (C := RX1) (T := TX1) (N := 6) hx hb hts hinX1 hown hK hP 71 (wL_get (by decide) (gX_d0 _)) rfl 1 (by decide) (hts (.fieldLink RX1 25 "VisitVans$Pad" "length" "I") (List.mem_of_getElem? (i := 2) rfl)) (fun _ h => h) rfl dX1_append_59 ?_
          refine lv_iload_n hx hb dX1_append_62 rfl (lv_at hl 2 rfl) ?_
          refine jv_iadd hx hb dX1_append_63 ?_
          refine lv_bipush (v := J 80) hx hb dX1_append_64 (by decide +kernel) ?_
          obtain ⟨g4, hf⟩ := gd_some hf
          refine jv_icmp_le (tgt := 72) hx hb dX1_append_66 (by decide) g4 (by decide : inR 80) (fun c5 => ?_) (fun c5 => ?_)
          · have hf := itep hf c5
            refine lv_iconst (v := J 0) hx hb dX1_append_72 rfl ?_
            refine lv_istore (lv' := [(4, .int (J 0)), (0, .ref (ad 71)), (1, .long x1_1), (3, .int (J x3_1))]) hx hb dX1_append_73 hl (by decide) rfl (fun ls hl => ?_)
            obtain ⟨N_6, h6, hf⟩ := bnd_some hf
            have K6 : ∀ (H : Heap) (locs : List Loc) (ls : Array Slot), RR N_6 → va_P D vwCl (wX ca ad N_6) H → va_S (aS 75 ad) s.heap H locs → lv_has ls 6 [(0, .ref (ad 71)), (3, .int (J x3_1))] → W p l e (headSpec wsX1_append (RmC 1 22)).room s m ([.ref (ad 71), .long a1] : List Value).toArray below meth c H locs 0 0 (MQ below (va_Qi (fun x (_ : Unit) => x = J res ∧ (inR res ∧ RR M')) (fun _ => (OX D ca ad M')) (aS 75 ad)) ([.ref (ad 71), .long a1] : List Value).toArray s 0 0 (aS 75 ad)) (F0 m 116 ls []) := by
              intro H locs ls hRN_6 hP hS hl
              refine lv_aload_n hx hb dX1_append_116 rfl (lv_at hl 0 rfl) ?_
              refine lv_dup hx hb dX1_append_117 rfl ?_
              refine va_get (D := D) (ci := 1) (v := .int (J (N_6 71 1))) (C := RX1) (T := TX1) (N := 6) hx hb hts hinX1 hown hK hP 71 (wL_get (by decide) (gX_d0 _)) rfl 1 (by decide) (hts (.fieldLink RX1 25 "VisitVans$Pad" "length" "I") (List.mem_of_getElem? (i := 2) rfl)) (fun _ h => h) rfl dX1_append_118 ?_
              refine lv_iload_n hx hb dX1_append_121 rfl (lv_at hl 1 rfl) ?_
              refine jv_iadd hx hb dX1_append_122 ?_
              obtain ⟨g10, hf⟩ := gd_some hf
              obtain ⟨M11, eM11, hf⟩ := bnd_some hf
              have eM11 := Option.some.inj eM11
              have hRM11 : RR M11 := by rw [← eM11]; exact RR_st hRN_6 71 1 g10
              refine va_put (D := D) (ci := 1) (v := .int (J ((N_6 71 1) + x3_1))) (ty := .int) (C := RX1) (T := TX1) (N := 6) hx hb hts hinX1 tyX1 tyX1_ok nmX1 hown hK hP (wL_D hI N_6) hS 71 (wL_get (by decide) (gX_d0 _)) rfl 1 (by decide) (hts (.fieldLink RX1 25 "VisitVans$Pad" "length" "I") (List.mem_of_getElem? (i := 2) rfl)) (fun _ h => h) rfl rfl rfl rfl (Nat.le_of_ble_eq_true rfl) dX1_append_123 (fun H locs hP hD hS => ?_)
              have hP : va_P D vwCl (wX ca ad M11) H := by rw [← eM11]; exact hPset (gX_d0_s1) stM_o hP
              refine lv_aload_n hx hb dX1_append_126 rfl (lv_at hl 0 rfl) ?_
              refine va_get (D := D) (ci := 1) (v := .int (J (M11 71 1))) (C := RX1) (T := TX1) (N := 6) hx hb hts hinX1 hown hK hP 71 (wL_get (by decide) (gX_d0 _)) rfl 1 (by decide) (hts (.fieldLink RX1 25 "VisitVans$Pad" "length" "I") (List.mem_of_getElem? (i := 2) rfl)) (fun _ h => h) rfl dX1_append_127 ?_
              obtain ⟨e1, e2⟩ := Prod.mk.inj (Option.some.inj hf)
              exact jend_i hx hb hr rfl hS e1 ⟨by rw [← e1]; exact (hRM11 71 1), by rw [← e2]; exact hRM11⟩ (oX e2 hP) dX1_append_130 hlocks
            have hL6 : ∀ (n : Nat) (x1_6 : Int64) (x3_6 : Int) (x4_6 : Int) (M_6 : MM) (H : Heap) (locs : List Loc) (ls : Array Slot), inR x3_6 → inR x4_6 → RR M_6 → x1_6 = x1_1 → x3_6 = x3_1 → va_P D vwCl (wX ca ad M_6) H → va_S (aS 75 ad) s.heap H locs → lv_has ls 6 [(0, .ref (ad 71)), (1, .long x1_6), (3, .int (J x3_6)), (4, .int (J x4_6))] → fX1_append_L75 n x1_6 x3_6 x4_6 M_6 = some N_6 → W p l e (headSpec wsX1_append (RmC 1 22)).room s m ([.ref (ad 71), .long a1] : List Value).toArray below meth c H locs 0 0 (MQ below (va_Qi (fun x (_ : Unit) => x = J res ∧ (inR res ∧ RR M')) (fun _ => (OX D ca ad M')) (aS 75 ad)) ([.ref (ad 71), .long a1] : List Value).toArray s 0 0 (aS 75 ad)) (F0 m 75 ls []) := by
              intro n
              induction n with
              | zero =>
                intro x1_6 x3_6 x4_6 M_6 H locs ls rx3_6 rx4_6 hRM_6 e_x1_6 e_x3_6 hP hS hl hf
                rw [fX1_append_L75] at hf
                cases hf
              | succ n ih =>
                intro x1_6 x3_6 x4_6 M_6 H locs ls rx3_6 rx4_6 hRM_6 e_x1_6 e_x3_6 hP hS hl hf
                rw [fX1_append_L75] at hf
                refine lv_iload hx hb dX1_append_75 (lv_at hl 3 rfl) ?_
                refine lv_iload_n hx hb dX1_append_77 rfl (lv_at hl 2 rfl) ?_
                refine jv_icmp_ge (tgt := 116) hx hb dX1_append_78 (by decide) rx4_6 rx3_6 (fun c7 => ?_) (fun c7 => ?_)
                · have hf := itep hf c7
                  cases hf
                  exact K6 _ _ _ hRM_6 hP hS (lv_sub hl [0, 2] (by subst e_x1_6; subst e_x3_6; rfl))
                · have hf := iten hf c7
                  refine lv_aload_n hx hb dX1_append_81 rfl (lv_at hl 0 rfl) ?_
                  refine va_get (D := D) (ci := 1) (v := .ref (ad 72)) (C := RX1) (T := TX1) (N := 6) hx hb hts hinX1 hown hK hP 71 (wL_get (by decide) (gX_d0 _)) rfl 0 (by decide) (hts (.fieldLink RX1 9 "VisitVans$Pad" "signs" "[C") (List.mem_of_getElem? (i := 3) rfl)) (fun _ h => h) rfl dX1_append_82 ?_
                  refine lv_aload_n hx hb dX1_append_85 rfl (lv_at hl 0 rfl) ?_
                  refine va_get (D := D) (ci := 1) (v := .int (J (M_6 71 1))) (C := RX1) (T := TX1) (N := 6) hx hb hts hinX1 hown hK hP 71 (wL_get (by decide) (gX_d0 _)) rfl 1 (by decide) (hts (.fieldLink RX1 25 "VisitVans$Pad" "length" "I") (List.mem_of_getElem? (i := 2) rfl)) (fun _ h => h) rfl dX1_append_86 ?_
                  refine lv_iload_n hx hb dX1_append_89 rfl (lv_at hl 2 rfl) ?_
                  refine jv_iadd hx hb dX1_append_90 ?_
                  refine lv_iconst (v := J 1) hx hb dX1_append_91 rfl ?_
                  refine jv_isub hx hb dX1_append_92 ?_
                  refine lv_iload hx hb dX1_append_93 (lv_at hl 3 rfl) ?_
                  refine jv_isub hx hb dX1_append_95 ?_
                  refine lv_lload_n hx hb dX1_append_96 rfl (lv_at hl 1 rfl) ?_
                  refine lv_bipush (v := J 8) hx hb dX1_append_97 (by decide +kernel) ?_
                  refine lv_iload hx hb dX1_append_99 (lv_at hl 3 rfl) ?_
                  refine jv_imul hx hb dX1_append_101 ?_
                  refine jv_lushr hx hb dX1_append_102 ?_
                  refine lv_ldc2 (v := (255 : Int64)) hx hb hown (hts (.constantLong RX1 19 (255)) (List.mem_of_getElem? (i := 1) rfl)) dX1_append_103 ?_
                  refine lv_land hx hb dX1_append_106 ?_
                  refine jv_l2i hx hb dX1_append_107 ?_
                  refine jv_i2c hx hb dX1_append_108 ?_
                  obtain ⟨M8, qM8, hf⟩ := bnd_some hf
                  obtain ⟨bM8, zM8, eM8⟩ := wrC_some qM8
                  have hRM8 : RR M8 := by rw [eM8]; exact RR_st hRM_6 _ _ ⟨by omega, by omega⟩
                  refine jx_cast hx hb hK hP hI hS 72 1 (by decide) gX_d1 rfl (by decide) bM8 zM8 dX1_append_109 (fun H locs hP hS => ?_)
                  rw [← eM8] at hP
                  refine lv_iinc (v := J (x4_6 + 1)) (lv' := [(4, .int (J (x4_6 + 1))), (0, .ref (ad 71)), (1, .long x1_6), (3, .int (J x3_6))]) hx hb dX1_append_110 hl (k := 3) rfl (J_add _ _) (by decide) rfl (fun ls hl => ?_)
                  refine lv_goto (tgt := 75) hx hb dX1_append_113 (by decide) ?_
                  obtain ⟨g9, hf⟩ := gd_some hf
                  exact ih _ _ _ _ _ _ _ rx3_6 g9 hRM8 e_x1_6 e_x3_6 hP hS (lv_sub hl [1, 2, 3, 0] rfl) hf
            exact hL6 4000 _ _ _ _ _ _ _ rx3_1 (by decide : inR 0) hRM_1 rfl rfl hP hS (lv_sub hl [1, 2, 3, 0] rfl) h6
          · have hf := iten hf c5
            refine lv_bipush (v := J (-4)) hx hb dX1_append_69 (by decide +kernel) ?_
            obtain ⟨e1, e2⟩ := Prod.mk.inj (Option.some.inj hf)
            exact jend_i hx hb hr rfl hS e1 ⟨by rw [← e1]; exact (by decide : inR (-4)), by rw [← e2]; exact hRM_1⟩ (oX e2 hP) dX1_append_71 hlocks
        · have hf := itep hf c3
          refine lv_bipush (v := J (-2)) hx hb dX1_append_55 (by decide +kernel) ?_
          obtain ⟨e1, e2⟩ := Prod.mk.inj (Option.some.inj hf)
          exact jend_i hx hb hr rfl hS e1 ⟨by rw [← e1]; exact (by decide : inR (-2)), by rw [← e2]; exact hRM_1⟩ (oX e2 hP) dX1_append_57 hlocks
      · have hf := iten hf c2
        refine lv_iload_n hx hb dX1_append_12 rfl (lv_at hl 2 rfl) ?_
        refine lv_bipush (v := J 8) hx hb dX1_append_13 (by decide +kernel) ?_
        refine jv_icmp_ge (tgt := 51) hx hb dX1_append_15 (by decide) rx3_1 (by decide : inR 8) (fun c12 => ?_) (fun c12 => ?_)
        · have hf := itep hf c12
          refine lv_iload_n hx hb dX1_append_51 rfl (lv_at hl 2 rfl) ?_
          refine jv_if_ne (tgt := 58) hx hb dX1_append_52 (by decide) rx3_1 (fun c13 => ?_) (fun c13 => ?_)
          · have hf := iten hf c13
            refine lv_aload_n hx hb dX1_append_58 rfl (lv_at hl 0 rfl) ?_
            refine va_get (D := D) (ci := 1) (v := .int (J (M_1 71 1))) (C := RX1) (T := TX1) (N := 6) hx hb hts hinX1 hown hK hP 71 (wL_get (by decide) (gX_d0 _)) rfl 1 (by decide) (hts (.fieldLink RX1 25 "VisitVans$Pad" "length" "I") (List.mem_of_getElem? (i := 2) rfl)) (fun _ h => h) rfl dX1_append_59 ?_
            refine lv_iload_n hx hb dX1_append_62 rfl (lv_at hl 2 rfl) ?_
            refine jv_iadd hx hb dX1_append_63 ?_
            refine lv_bipush (v := J 80) hx hb dX1_append_64 (by decide +kernel) ?_
            obtain ⟨g14, hf⟩ := gd_some hf
            refine jv_icmp_le (tgt := 72) hx hb dX1_append_66 (by decide) g14 (by decide : inR 80) (fun c15 => ?_) (fun c15 => ?_)
            · have hf := itep hf c15
              refine lv_iconst (v := J 0) hx hb dX1_append_72 rfl ?_
              refine lv_istore (lv' := [(4, .int (J 0)), (0, .ref (ad 71)), (1, .long x1_1), (3, .int (J x3_1))]) hx hb dX1_append_73 hl (by decide) rfl (fun ls hl => ?_)
              obtain ⟨N_16, h16, hf⟩ := bnd_some hf
              have K16 : ∀ (H : Heap) (locs : List Loc) (ls : Array Slot), RR N_16 → va_P D vwCl (wX ca ad N_16) H → va_S (aS 75 ad) s.heap H locs → lv_has ls 6 [(0, .ref (ad 71)), (3, .int (J x3_1))] → W p l e (headSpec wsX1_append (RmC 1 22)).room s m ([.ref (ad 71), .long a1] : List Value).toArray below meth c H locs 0 0 (MQ below (va_Qi (fun x (_ : Unit) => x = J res ∧ (inR res ∧ RR M')) (fun _ => (OX D ca ad M')) (aS 75 ad)) ([.ref (ad 71), .long a1] : List Value).toArray s 0 0 (aS 75 ad)) (F0 m 116 ls []) := by
                intro H locs ls hRN_16 hP hS hl
                refine lv_aload_n hx hb dX1_append_116 rfl (lv_at hl 0 rfl) ?_
                refine lv_dup hx hb dX1_append_117 rfl ?_
                refine va_get (D := D) (ci := 1) (v := .int (J (N_16 71 1))) (C := RX1) (T := TX1) (N := 6) hx hb hts hinX1 hown hK hP 71 (wL_get (by decide) (gX_d0 _)) rfl 1 (by decide) (hts (.fieldLink RX1 25 "VisitVans$Pad" "length" "I") (List.mem_of_getElem? (i := 2) rfl)) (fun _ h => h) rfl dX1_append_118 ?_
                refine lv_iload_n hx hb dX1_append_121 rfl (lv_at hl 1 rfl) ?_
                refine jv_iadd hx hb dX1_append_122 ?_
                obtain ⟨g20, hf⟩ := gd_some hf
                obtain ⟨M21, eM21, hf⟩ := bnd_some hf
                have eM21 := Option.some.inj eM21
                have hRM21 : RR M21 := by rw [← eM21]; exact RR_st hRN_16 71 1 g20
                refine va_put (D := D) (ci := 1) (v := .int (J ((N_16 71 1) + x3_1))) (ty := .int) (C := RX1) (T := TX1) (N := 6) hx hb hts hinX1 tyX1 tyX1_ok nmX1 hown hK hP (wL_D hI N_16) hS 71 (wL_get (by decide) (gX_d0 _)) rfl 1 (by decide) (hts (.fieldLink RX1 25 "VisitVans$Pad" "length" "I") (List.mem_of_getElem? (i := 2) rfl)) (fun _ h => h) rfl rfl rfl rfl (Nat.le_of_ble_eq_true rfl) dX1_append_123 (fun H locs hP hD hS => ?_)
                have hP : va_P D vwCl (wX ca ad M21) H := by rw [← eM21]; exact hPset (gX_d0_s1) stM_o hP
                refine lv_aload_n hx hb dX1_append_126 rfl (lv_at hl 0 rfl) ?_
                refine va_get (D := D) (ci := 1) (v := .int (J (M21 71 1))) (C := RX1) (T := TX1) (N := 6) hx hb hts hinX1 hown hK hP 71 (wL_get (by decide) (gX_d0 _)) rfl 1 (by decide) (hts (.fieldLink RX1 25 "VisitVans$Pad" "length" "I") (List.mem_of_getElem? (i := 2) rfl)) (fun _ h => h) rfl dX1_append_127 ?_
                obtain ⟨e1, e2⟩ := Prod.mk.inj (Option.some.inj hf)
                exact jend_i hx hb hr rfl hS e1 ⟨by rw [← e1]; exact (hRM21 71 1), by rw [← e2]; exact hRM21⟩ (oX e2 hP) dX1_append_130 hlocks
              have hL16 : ∀ (n : Nat) (x1_16 : Int64) (x3_16 : Int) (x4_16 : Int) (M_16 : MM) (H : Heap) (locs : List Loc) (ls : Array Slot), inR x3_16 → inR x4_16 → RR M_16 → x1_16 = x1_1 → x3_16 = x3_1 → va_P D vwCl (wX ca ad M_16) H → va_S (aS 75 ad) s.heap H locs → lv_has ls 6 [(0, .ref (ad 71)), (1, .long x1_16), (3, .int (J x3_16)), (4, .int (J x4_16))] → fX1_append_L75b n x1_16 x3_16 x4_16 M_16 = some N_16 → W p l e (headSpec wsX1_append (RmC 1 22)).room s m ([.ref (ad 71), .long a1] : List Value).toArray below meth c H locs 0 0 (MQ below (va_Qi (fun x (_ : Unit) => x = J res ∧ (inR res ∧ RR M')) (fun _ => (OX D ca ad M')) (aS 75 ad)) ([.ref (ad 71), .long a1] : List Value).toArray s 0 0 (aS 75 ad)) (F0 m 75 ls []) := by
                intro n
                induction n with
                | zero =>
                  intro x1_16 x3_16 x4_16 M_16 H locs ls rx3_16 rx4_16 hRM_16 e_x1_16 e_x3_16 hP hS hl hf
                  rw [fX1_append_L75b] at hf
                  cases hf
                | succ n ih =>
                  intro x1_16 x3_16 x4_16 M_16 H locs ls rx3_16 rx4_16 hRM_16 e_x1_16 e_x3_16 hP hS hl hf
                  rw [fX1_append_L75b] at hf
                  refine lv_iload hx hb dX1_append_75 (lv_at hl 3 rfl) ?_
                  refine lv_iload_n hx hb dX1_append_77 rfl (lv_at hl 2 rfl) ?_
                  refine jv_icmp_ge (tgt := 116) hx hb dX1_append_78 (by decide) rx4_16 rx3_16 (fun c17 => ?_) (fun c17 => ?_)
                  · have hf := itep hf c17
                    cases hf
                    exact K16 _ _ _ hRM_16 hP hS (lv_sub hl [0, 2] (by subst e_x1_16; subst e_x3_16; rfl))
                  · have hf := iten hf c17
                    refine lv_aload_n hx hb dX1_append_81 rfl (lv_at hl 0 rfl) ?_
                    refine va_get (D := D) (ci := 1) (v := .ref (ad 72)) (C := RX1) (T := TX1) (N := 6) hx hb hts hinX1 hown hK hP 71 (wL_get (by decide) (gX_d0 _)) rfl 0 (by decide) (hts (.fieldLink RX1 9 "VisitVans$Pad" "signs" "[C") (List.mem_of_getElem? (i := 3) rfl)) (fun _ h => h) rfl dX1_append_82 ?_
                    refine lv_aload_n hx hb dX1_append_85 rfl (lv_at hl 0 rfl) ?_
                    refine va_get (D := D) (ci := 1) (v := .int (J (M_16 71 1))) (C := RX1) (T := TX1) (N := 6) hx hb hts hinX1 hown hK hP 71 (wL_get (by decide) (gX_d0 _)) rfl 1 (by decide) (hts (.fieldLink RX1 25 "VisitVans$Pad" "length" "I") (List.mem_of_getElem? (i := 2) rfl)) (fun _ h => h) rfl dX1_append_86 ?_
                    refine lv_iload_n hx hb dX1_append_89 rfl (lv_at hl 2 rfl) ?_
                    refine jv_iadd hx hb dX1_append_90 ?_
                    refine lv_iconst (v := J 1) hx hb dX1_append_91 rfl ?_
                    refine jv_isub hx hb dX1_append_92 ?_
                    refine lv_iload hx hb dX1_append_93 (lv_at hl 3 rfl) ?_
                    refine jv_isub hx hb dX1_append_95 ?_
                    refine lv_lload_n hx hb dX1_append_96 rfl (lv_at hl 1 rfl) ?_
                    refine lv_bipush (v := J 8) hx hb dX1_append_97 (by decide +kernel) ?_
                    refine lv_iload hx hb dX1_append_99 (lv_at hl 3 rfl) ?_
                    refine jv_imul hx hb dX1_append_101 ?_
                    refine jv_lushr hx hb dX1_append_102 ?_
                    refine lv_ldc2 (v := (255 : Int64)) hx hb hown (hts (.constantLong RX1 19 (255)) (List.mem_of_getElem? (i := 1) rfl)) dX1_append_103 ?_
                    refine lv_land hx hb dX1_append_106 ?_
                    refine jv_l2i hx hb dX1_append_107 ?_
                    refine jv_i2c hx hb dX1_append_108 ?_
                    obtain ⟨M18, qM18, hf⟩ := bnd_some hf
                    obtain ⟨bM18, zM18, eM18⟩ := wrC_some qM18
                    have hRM18 : RR M18 := by rw [eM18]; exact RR_st hRM_16 _ _ ⟨by omega, by omega⟩
                    refine jx_cast hx hb hK hP hI hS 72 1 (by decide) gX_d1 rfl (by decide) bM18 zM18 dX1_append_109 (fun H locs hP hS => ?_)
                    rw [← eM18] at hP
                    refine lv_iinc (v := J (x4_16 + 1)) (lv' := [(4, .int (J (x4_16 + 1))), (0, .ref (ad 71)), (1, .long x1_16), (3, .int (J x3_16))]) hx hb dX1_append_110 hl (k := 3) rfl (J_add _ _) (by decide) rfl (fun ls hl => ?_)
                    refine lv_goto (tgt := 75) hx hb dX1_append_113 (by decide) ?_
                    obtain ⟨g19, hf⟩ := gd_some hf
                    exact ih _ _ _ _ _ _ _ rx3_16 g19 hRM18 e_x1_16 e_x3_16 hP hS (lv_sub hl [1, 2, 3, 0] rfl) hf
              exact hL16 4000 _ _ _ _ _ _ _ rx3_1 (by decide : inR 0) hRM_1 rfl rfl hP hS (lv_sub hl [1, 2, 3, 0] rfl) h16
            · have hf := iten hf c15
              refine lv_bipush (v := J (-4)) hx hb dX1_append_69 (by decide +kernel) ?_
              obtain ⟨e1, e2⟩ := Prod.mk.inj (Option.some.inj hf)
              exact jend_i hx hb hr rfl hS e1 ⟨by rw [← e1]; exact (by decide : inR (-4)), by rw [← e2]; exact hRM_1⟩ (oX e2 hP) dX1_append_71 hlocks
          · have hf := itep hf c13
            refine lv_bipush (v := J (-2)) hx hb dX1_append_55 (by decide +kernel) ?_
            obtain ⟨e1, e2⟩ := Prod.mk.inj (Option.some.inj hf)
            exact jend_i hx hb hr rfl hS e1 ⟨by rw [← e1]; exact (by decide : inR (-2)), by rw [← e2]; exact hRM_1⟩ (oX e2 hP) dX1_append_57 hlocks
        · have hf := iten hf c12
          refine lv_lload hx hb dX1_append_18 (lv_at hl 3 rfl) ?_
          refine lv_ldc2 (v := (255 : Int64)) hx hb hown (hts (.constantLong RX1 19 (255)) (List.mem_of_getElem? (i := 1) rfl)) dX1_append_20 ?_
          refine lv_land hx hb dX1_append_23 ?_
          refine jv_l2i hx hb dX1_append_24 ?_
          refine lv_bipush (v := J 33) hx hb dX1_append_25 (by decide +kernel) ?_
          refine lv_bipush (v := J 126) hx hb dX1_append_27 (by decide +kernel) ?_
          obtain ⟨v22, qv22, hf⟩ := bnd_some hf
          refine jc_i (va_runSN (As := [.int (J (l2i (x4_1 &&& (255 : Int64)))), .int (J 33), .int (J 126)]) (rest := []) ⟨hx, hb, hml, hown, hts⟩ (kX4_within l D ca v ad hI M_1 hRM_1 (l2i (x4_1 &&& (255 : Int64))) 33 126 (J_inR _) (by decide : inR 33) (by decide : inR 126) v22 qv22) ⟨va_cnB 3 hts gX1_append_X4_within_n21 rfl rfl rfl hE.1.2.2.2.1 (hts (.initialized RX4) (List.mem_of_getElem? (i := 5) rfl)) (by decide +kernel) ⟨Nat.le_of_ble_eq_true rfl, Nat.le_of_ble_eq_true rfl⟩, (hts (.static yX4_within) (List.mem_of_getElem? (i := 4) rfl)), trivial⟩ (psX hK hE hP hS [.int (J (l2i (x4_1 &&& (255 : Int64)))), .int (J 33), .int (J 126)]) rfl rfl hl.1 rfl (lv_room (Nat.le_of_ble_eq_true rfl)) dX1_append_29 ⟨Nat.zero_le _, Nat.zero_le _⟩) hS (fun H locs t ht hφ hO hS => ?_)
          have rv22 := hφ
          have hP : va_P D vwCl (wX ca ad M_1) H := by rw [← ht]; exact hO
          refine jv_if_ne (tgt := 38) hx hb dX1_append_32 (by decide) rv22 (fun c24 => ?_) (fun c24 => ?_)
          · have hf := iten hf c24
            refine lv_iinc (v := J (x3_1 + 1)) (lv' := [(3, .int (J (x3_1 + 1))), (0, .ref (ad 71)), (1, .long x1_1), (4, .long x4_1)]) hx hb dX1_append_38 hl (k := 2) rfl (J_add _ _) (by decide) rfl (fun ls hl => ?_)
            refine lv_lload hx hb dX1_append_41 (lv_at hl 3 rfl) ?_
            refine lv_bipush (v := J 8) hx hb dX1_append_43 (by decide +kernel) ?_
            refine jv_lushr hx hb dX1_append_45 ?_
            refine lv_lstore (lv' := [(4, .long (lushr x4_1 8)), (3, .int (J (x3_1 + 1))), (0, .ref (ad 71)), (1, .long x1_1)]) hx hb dX1_append_46 hl (by decide) rfl (fun ls hl => ?_)
            refine lv_goto (tgt := 5) hx hb dX1_append_48 (by decide) ?_
            obtain ⟨g25, hf⟩ := gd_some hf
            exact ih _ _ _ _ _ _ _ g25 hRM_1 e_x1_1 e_M_1 hP hS (lv_sub hl [2, 3, 1, 0] rfl) hf
          · have hf := itep hf c24
            refine lv_bipush (v := J (-2)) hx hb dX1_append_35 (by decide +kernel) ?_
            obtain ⟨e1, e2⟩ := Prod.mk.inj (Option.some.inj hf)
            exact jend_i hx hb hr rfl hS e1 ⟨by rw [← e1]; exact (by decide : inR (-2)), by rw [← e2]; exact hRM_1⟩ (oX e2 hP) dX1_append_37 hlocks
  exact hL1 4000 _ _ _ _ _ _ _ (by decide : inR 0) hR rfl rfl hP hS (lv_sub hl [2, 3, 1, 0] rfl) hf
def fX1_start (M : MM) : Option (MM) := bnd (some (stM M 71 2 0)) (fun M1 => some M1)
set_option maxHeartbeats 4000000 in
set_option maxRecDepth 100000 in
theorem kX1_start (l : Launch) (D : va_G) (ca : Nat → ClassId) (v : EV) (ad : Nat → Nat) (hI : aInj 75 ad) (M : MM) (hR : RR M) (M' : MM) (hf : fX1_start M = some M') : CV l yX1_start wsX1_start 0 0 [.ref (ad 71)] (PX D ca v ad M) (RR M') (OX D ca ad M') (aS 75 ad) := by
  refine Met.ofW (cc := cX1_start) (maxL := 1) (ret := none) (by decide) rfl ?_
  intro p e s m args below meth c s₁ B hml hv
  obtain ⟨rfl, hP, hK, hE⟩ := hv
  have hx := B.exec
  have hb := B.bytes
  have hr := B.returns
  have hts := atoms_spec (ws := wsX1_start) B.pre
  have hown : s.vm.findClass RX1 = some m.cls := findClass_of_methodNamed B.named
  have hlocks := B.notSynchronized
  have hS : va_S (aS 75 ad) s.heap s.heap [] := va_S.rf
  have hinX1 : ∀ w ∈ wsX10, w ∈ wsX1_start := by decide +kernel
  have hl := lv_entry ([.ref (ad 71)]) (n := 1) (Nat.le_of_ble_eq_true rfl)
  rw [lg_entry_eq]
  generalize (lg_sl ([.ref (ad 71)]) ++ List.replicate (1 - (lg_sl ([.ref (ad 71)])).length) Slot.unset).toArray = ls at hl ⊢
  have hl : lv_has ls 1 [(0, .ref (ad 71))] := hl
  unfold fX1_start at hf
  refine lv_aload_n hx hb dX1_start_0 rfl (lv_at hl 0 rfl) ?_
  refine lv_iconst (v := J 0) hx hb dX1_start_1 rfl ?_
  obtain ⟨M1, eM1, hf⟩ := bnd_some hf
  have eM1 := Option.some.inj eM1
  have hRM1 : RR M1 := by rw [← eM1]; exact RR_st hR 71 2 (by decide : inR 0)
  refine va_put (D := D) (ci := 1) (v := .int (J 0)) (ty := .int) (C := RX1) (T := TX1) (N := 6) hx hb hts hinX1 tyX1 tyX1_ok nmX1 hown hK hP (wL_D hI M) hS 71 (wL_get (by decide) (gX_d0 _)) rfl 2 (by decide) (hts (.fieldLink RX1 29 "VisitVans$Pad" "at" "I") (List.mem_of_getElem? (i := 1) rfl)) (fun _ h => h) rfl rfl rfl rfl (Nat.le_of_ble_eq_true rfl) dX1_start_2 (fun H locs hP hD hS => ?_)
  have hP : va_P D vwCl (wX ca ad M1) H := by rw [← eM1]; exact hPset (gX_d0_s2) stM_o hP
  have e2 := Option.some.inj hf
  exact jend_v hx hb hr hS (by rw [← e2]; exact hRM1) (oX e2 hP) dX1_start_5 hlocks
def fX1_nextSign (M : MM) : Option (Int) := bnd (if (M 71 2) < 0 then some ((0 : Int)) else if (M 71 1) ≤ (M 71 2) then some ((0 : Int)) else bnd (rd M 72 80 (M 71 2)) (fun v4 => some (v4))) (fun y2_0 => gd (0 ≤ y2_0 ∧ y2_0 ≤ 65535) (some y2_0))
set_option maxHeartbeats 4000000 in
set_option maxRecDepth 100000 in
theorem kX1_nextSign (l : Launch) (D : va_G) (ca : Nat → ClassId) (v : EV) (ad : Nat → Nat) (hI : aInj 75 ad) (M : MM) (hR : RR M) (res : Int) (hf : fX1_nextSign M = some res) : CI l yX1_nextSign wsX1_nextSign 0 0 [.ref (ad 71)] (PX D ca v ad M) res (inR res) (OX D ca ad M) (aS 75 ad) := by
  refine Met.ofW (cc := cX1_nextSign) (maxL := 1) (ret := (some .char)) (by decide) rfl ?_
  intro p e s m args below meth c s₁ B hml hv
  obtain ⟨rfl, hP, hK, hE⟩ := hv
  have hx := B.exec
  have hb := B.bytes
  have hr := B.returns
  have hts := atoms_spec (ws := wsX1_nextSign) B.pre
  have hown : s.vm.findClass RX1 = some m.cls := findClass_of_methodNamed B.named
  have hlocks := B.notSynchronized
  have hS : va_S (aS 75 ad) s.heap s.heap [] := va_S.rf
  have hinX1 : ∀ w ∈ wsX10, w ∈ wsX1_nextSign := by decide +kernel
  have hl := lv_entry ([.ref (ad 71)]) (n := 1) (Nat.le_of_ble_eq_true rfl)
  rw [lg_entry_eq]
  generalize (lg_sl ([.ref (ad 71)]) ++ List.replicate (1 - (lg_sl ([.ref (ad 71)])).length) Slot.unset).toArray = ls at hl ⊢
  have hl : lv_has ls 1 [(0, .ref (ad 71))] := hl
  unfold fX1_nextSign at hf
  refine lv_aload_n hx hb dX1_nextSign_0 rfl (lv_at hl 0 rfl) ?_
  refine va_get (D := D) (ci := 1) (v := .int (J (M 71 2))) (C := RX1) (T := TX1) (N := 6) hx hb hts hinX1 hown hK hP 71 (wL_get (by decide) (gX_d0 _)) rfl 2 (by decide) (hts (.fieldLink RX1 29 "VisitVans$Pad" "at" "I") (List.mem_of_getElem? (i := 1) rfl)) (fun _ h => h) rfl dX1_nextSign_1 ?_
  obtain ⟨y2_0, h2, hf⟩ := bnd_some hf
  have K2 : ∀ (H : Heap) (locs : List Loc) (ls : Array Slot), inR y2_0 → va_P D vwCl (wX ca ad M) H → va_S (aS 75 ad) s.heap H locs → lv_has ls 1 [] → W p l e (headSpec wsX1_nextSign (RmC 0 0)).room s m ([.ref (ad 71)] : List Value).toArray below meth c H locs 0 0 (MQ below (va_Qi (fun x (_ : Unit) => x = J res ∧ (inR res)) (fun _ => (OX D ca ad M)) (aS 75 ad)) ([.ref (ad 71)] : List Value).toArray s 0 0 (aS 75 ad)) (F0 m 31 ls [.int (J y2_0)]) := by
    intro H locs ls ry2_0  hP hS hl
    obtain ⟨g5, hf⟩ := gd_some hf
    have e1 := Option.some.inj hf
    exact jend_i hx hb hr (J_wC g5).1 hS e1 (by rw [← e1]; exact ry2_0) (oX rfl hP) dX1_nextSign_31 hlocks
  have hf := h2
  clear h2
  refine jv_if_lt (tgt := 30) hx hb dX1_nextSign_4 (by decide) (hR 71 2) (fun c1 => ?_) (fun c1 => ?_)
  · have hf := itep hf c1
    refine lv_iconst (v := J 0) hx hb dX1_nextSign_30 rfl ?_
    cases hf
    exact K2 _ _ _ (by decide : inR 0)  hP hS (lv_sub hl [] rfl)
  · have hf := iten hf c1
    refine lv_aload_n hx hb dX1_nextSign_7 rfl (lv_at hl 0 rfl) ?_
    refine va_get (D := D) (ci := 1) (v := .int (J (M 71 2))) (C := RX1) (T := TX1) (N := 6) hx hb hts hinX1 hown hK hP 71 (wL_get (by decide) (gX_d0 _)) rfl 2 (by decide) (hts (.fieldLink RX1 29 "VisitVans$Pad" "at" "I") (List.mem_of_getElem? (i := 1) rfl)) (fun _ h => h) rfl dX1_nextSign_8 ?_
    refine lv_aload_n hx hb dX1_nextSign_11 rfl (lv_at hl 0 rfl) ?_
    refine va_get (D := D) (ci := 1) (v := .int (J (M 71 1))) (C := RX1) (T := TX1) (N := 6) hx hb hts hinX1 hown hK hP 71 (wL_get (by decide) (gX_d0 _)) rfl 1 (by decide) (hts (.fieldLink RX1 25 "VisitVans$Pad" "length" "I") (List.mem_of_getElem? (i := 2) rfl)) (fun _ h => h) rfl dX1_nextSign_12 ?_
    refine jv_icmp_ge (tgt := 30) hx hb dX1_nextSign_15 (by decide) (hR 71 2) (hR 71 1) (fun c3 => ?_) (fun c3 => ?_)
    · have hf := itep hf c3
      refine lv_iconst (v := J 0) hx hb dX1_nextSign_30 rfl ?_
      cases hf
      exact K2 _ _ _ (by decide : inR 0)  hP hS (lv_sub hl [] rfl)
    · have hf := iten hf c3
      refine lv_aload_n hx hb dX1_nextSign_18 rfl (lv_at hl 0 rfl) ?_
      refine va_get (D := D) (ci := 1) (v := .ref (ad 72)) (C := RX1) (T := TX1) (N := 6) hx hb hts hinX1 hown hK hP 71 (wL_get (by decide) (gX_d0 _)) rfl 0 (by decide) (hts (.fieldLink RX1 9 "VisitVans$Pad" "signs" "[C") (List.mem_of_getElem? (i := 3) rfl)) (fun _ h => h) rfl dX1_nextSign_19 ?_
      refine lv_aload_n hx hb dX1_nextSign_22 rfl (lv_at hl 0 rfl) ?_
      refine va_get (D := D) (ci := 1) (v := .int (J (M 71 2))) (C := RX1) (T := TX1) (N := 6) hx hb hts hinX1 hown hK hP 71 (wL_get (by decide) (gX_d0 _)) rfl 2 (by decide) (hts (.fieldLink RX1 29 "VisitVans$Pad" "at" "I") (List.mem_of_getElem? (i := 1) rfl)) (fun _ h => h) rfl dX1_nextSign_23 ?_
      obtain ⟨v4, qv4, hf⟩ := bnd_some hf
      obtain ⟨bv4, ev4⟩ := rd_some qv4
      have rv4 : inR v4 := by rw [ev4]; exact hR _ _
      refine jx_cald hx hb hK hP 72 1 (by decide) gX_d1 rfl (by decide) bv4 ev4 dX1_nextSign_26 ?_
      refine lv_goto (tgt := 31) hx hb dX1_nextSign_27 (by decide) ?_
      cases hf
      exact K2 _ _ _ rv4  hP hS (lv_sub hl [] rfl)
def fX1_readSign (a1 : Int) (M : MM) : Option (Int × MM) := bnd (fX1_nextSign M) (fun v1 => if v1 = a1 then gd (inR ((M 71 2) + 1)) (bnd (some (stM M 71 2 ((M 71 2) + 1))) (fun M5 => some (1, M5))) else some (0, M))
set_option maxHeartbeats 4000000 in
set_option maxRecDepth 100000 in
theorem kX1_readSign (l : Launch) (D : va_G) (ca : Nat → ClassId) (v : EV) (ad : Nat → Nat) (hI : aInj 75 ad) (M : MM) (hR : RR M) (a1 : Int) (i1 : inR a1) (res : Int) (M' : MM) (hf : fX1_readSign a1 M = some (res, M')) : CI l yX1_readSign wsX1_readSign 1 20 [.ref (ad 71), .int (J a1)] (PX D ca v ad M) res (inR res ∧ RR M') (OX D ca ad M') (aS 75 ad) := by
  refine Met.ofW (cc := cX1_readSign) (maxL := 2) (ret := (some .boolean)) (by decide) rfl ?_
  intro p e s m args below meth c s₁ B hml hv
  obtain ⟨rfl, hP, hK, hE⟩ := hv
  have hx := B.exec
  have hb := B.bytes
  have hr := B.returns
  have hts := atoms_spec (ws := wsX1_readSign) B.pre
  have hown : s.vm.findClass RX1 = some m.cls := findClass_of_methodNamed B.named
  have hlocks := B.notSynchronized
  have hS : va_S (aS 75 ad) s.heap s.heap [] := va_S.rf
  have hinX1 : ∀ w ∈ wsX10, w ∈ wsX1_readSign := by decide +kernel
  have hl := lv_entry ([.ref (ad 71), .int (J a1)]) (n := 2) (Nat.le_of_ble_eq_true rfl)
  rw [lg_entry_eq]
  generalize (lg_sl ([.ref (ad 71), .int (J a1)]) ++ List.replicate (2 - (lg_sl ([.ref (ad 71), .int (J a1)])).length) Slot.unset).toArray = ls at hl ⊢
  have hl : lv_has ls 2 [(0, .ref (ad 71)), (1, .int (J a1))] := hl
  unfold fX1_readSign at hf
  refine lv_aload_n hx hb dX1_readSign_0 rfl (lv_at hl 0 rfl) ?_
  obtain ⟨v1, qv1, hf⟩ := bnd_some hf
  refine jc_i (va_runV (As := []) (rest := []) ⟨hx, hb, hml, hown, hts⟩ (kX1_nextSign l D ca v ad hI M hR v1 qv1) (cwV 0 hts gX1_readSign_X1_nextSign rfl rfl rfl (by decide +kernel) ⟨Nat.le_of_ble_eq_true rfl, Nat.le_of_ble_eq_true rfl⟩) (pvX hK hE hP hS [] (by decide) (gX_d0 _) rfl) rfl rfl hl.1 rfl (lv_room (Nat.le_of_ble_eq_true rfl)) dX1_readSign_1 ⟨Nat.zero_le _, Nat.zero_le _⟩) hS (fun H locs t ht hφ hO hS => ?_)
  have rv1 := hφ
  have hP : va_P D vwCl (wX ca ad M) H := by rw [← ht]; exact hO
  refine lv_iload_n hx hb dX1_readSign_4 rfl (lv_at hl 1 rfl) ?_
  refine jv_icmp_eq (tgt := 10) hx hb dX1_readSign_5 (by decide) rv1 i1 (fun c3 => ?_) (fun c3 => ?_)
  · have hf := itep hf c3
    refine lv_aload_n hx hb dX1_readSign_10 rfl (lv_at hl 0 rfl) ?_
    refine lv_dup hx hb dX1_readSign_11 rfl ?_
    refine va_get (D := D) (ci := 1) (v := .int (J (M 71 2))) (C := RX1) (T := TX1) (N := 6) hx hb hts hinX1 hown hK hP 71 (wL_get (by decide) (gX_d0 _)) rfl 2 (by decide) (hts (.fieldLink RX1 29 "VisitVans$Pad" "at" "I") (List.mem_of_getElem? (i := 1) rfl)) (fun _ h => h) rfl dX1_readSign_12 ?_
    refine lv_iconst (v := J 1) hx hb dX1_readSign_15 rfl ?_
    refine jv_iadd hx hb dX1_readSign_16 ?_
    obtain ⟨g4, hf⟩ := gd_some hf
    obtain ⟨M5, eM5, hf⟩ := bnd_some hf
    have eM5 := Option.some.inj eM5
    have hRM5 : RR M5 := by rw [← eM5]; exact RR_st hR 71 2 g4
    refine va_put (D := D) (ci := 1) (v := .int (J ((M 71 2) + 1))) (ty := .int) (C := RX1) (T := TX1) (N := 6) hx hb hts hinX1 tyX1 tyX1_ok nmX1 hown hK hP (wL_D hI M) hS 71 (wL_get (by decide) (gX_d0 _)) rfl 2 (by decide) (hts (.fieldLink RX1 29 "VisitVans$Pad" "at" "I") (List.mem_of_getElem? (i := 1) rfl)) (fun _ h => h) rfl rfl rfl rfl (Nat.le_of_ble_eq_true rfl) dX1_readSign_17 (fun H locs hP hD hS => ?_)
    have hP : va_P D vwCl (wX ca ad M5) H := by rw [← eM5]; exact hPset (gX_d0_s2) stM_o hP
    refine lv_iconst (v := J 1) hx hb dX1_readSign_20 rfl ?_
    obtain ⟨e1, e2⟩ := Prod.mk.inj (Option.some.inj hf)
    exact jend_i hx hb hr (by decide) hS e1 ⟨by rw [← e1]; exact (by decide : inR 1), by rw [← e2]; exact hRM5⟩ (oX e2 hP) dX1_readSign_21 hlocks
  · have hf := iten hf c3
    refine lv_iconst (v := J 0) hx hb dX1_readSign_8 rfl ?_
    obtain ⟨e1, e2⟩ := Prod.mk.inj (Option.some.inj hf)
    exact jend_i hx hb hr (by decide) hS e1 ⟨by rw [← e1]; exact (by decide : inR 0), by rw [← e2]; exact hR⟩ (oX e2 hP) dX1_readSign_9 hlocks
def fX1_formOf (a1 : Int) : Option (Nat) := if a1 = 108 then some 2 else if a1 = 118 then some 0 else if a1 = 119 then some 1 else if a1 = 120 then some 3 else some 4
set_option maxHeartbeats 4000000 in
set_option maxRecDepth 100000 in
theorem kX1_formOf (l : Launch) (D : va_G) (ca : Nat → ClassId) (v : EV) (ad : Nat → Nat) (hI : aInj 75 ad) (M : MM) (hR : RR M) (a1 : Int) (i1 : inR a1) (res : Nat) (hf : fX1_formOf a1 = some res) : CS l yX1_formOf wsX1_formOf 0 0 [.int (J a1)] (PX D ca v ad M) v.2.1 res (res < 5) (OX D ca ad M) (aS 75 ad) := by
  refine Met.ofW (cc := cX1_formOf) (maxL := 1) (ret := (some (.object "java/lang/String"))) (by decide) rfl ?_
  intro p e s m args below meth c s₁ B hml hv
  obtain ⟨rfl, hP, hK, hE⟩ := hv
  have hx := B.exec
  have hb := B.bytes
  have hr := B.returns
  have hts := atoms_spec (ws := wsX1_formOf) B.pre
  have hown : s.vm.findClass RX1 = some m.cls := findClass_of_methodNamed B.named
  have hlocks := B.notSynchronized
  have hS : va_S (aS 75 ad) s.heap s.heap [] := va_S.rf
  have hl := lv_entry ([.int (J a1)]) (n := 1) (Nat.le_of_ble_eq_true rfl)
  rw [lg_entry_eq]
  generalize (lg_sl ([.int (J a1)]) ++ List.replicate (1 - (lg_sl ([.int (J a1)])).length) Slot.unset).toArray = ls at hl ⊢
  have hl : lv_has ls 1 [(0, .int (J a1))] := hl
  unfold fX1_formOf at hf
  refine lv_iload_n hx hb dX1_formOf_0 rfl (lv_at hl 0 rfl) ?_
  by_cases c1_0 : a1 = 108
  · have hf := itep hf c1_0
    refine jv_look (off := 49) (tgt := 50) hx hb dX1_formOf_1 i1 (by decide) (by rw [c1_0]; rfl) (by decide) ?_
    refine va_ldcS hx hb hown hE.2.2.1.2.2.1 dX1_formOf_50 ?_
    have e1 := Option.some.inj hf
    exact jend_s (q := v.2.1) hx hb hr hS e1 (by rw [← e1]; exact (by decide : 2 < 5)) (oX rfl hP) dX1_formOf_52 hlocks
  · have hf := iten hf c1_0
    by_cases c1_1 : a1 = 118
    · have hf := itep hf c1_1
      refine jv_look (off := 43) (tgt := 44) hx hb dX1_formOf_1 i1 (by decide) (by rw [c1_1]; rfl) (by decide) ?_
      refine va_ldcS hx hb hown hE.2.2.1.1 dX1_formOf_44 ?_
      have e1 := Option.some.inj hf
      exact jend_s (q := v.2.1) hx hb hr hS e1 (by rw [← e1]; exact (by decide : 0 < 5)) (oX rfl hP) dX1_formOf_46 hlocks
    · have hf := iten hf c1_1
      by_cases c1_2 : a1 = 119
      · have hf := itep hf c1_2
        refine jv_look (off := 46) (tgt := 47) hx hb dX1_formOf_1 i1 (by decide) (by rw [c1_2]; rfl) (by decide) ?_
        refine va_ldcS hx hb hown hE.2.2.1.2.1 dX1_formOf_47 ?_
        have e1 := Option.some.inj hf
        exact jend_s (q := v.2.1) hx hb hr hS e1 (by rw [← e1]; exact (by decide : 1 < 5)) (oX rfl hP) dX1_formOf_49 hlocks
      · have hf := iten hf c1_2
        by_cases c1_3 : a1 = 120
        · have hf := itep hf c1_3
          refine jv_look (off := 52) (tgt := 53) hx hb dX1_formOf_1 i1 (by decide) (by rw [c1_3]; rfl) (by decide) ?_
          refine va_ldcS hx hb hown hE.2.2.1.2.2.2.1 dX1_formOf_53 ?_
          have e1 := Option.some.inj hf
          exact jend_s (q := v.2.1) hx hb hr hS e1 (by rw [← e1]; exact (by decide : 3 < 5)) (oX rfl hP) dX1_formOf_55 hlocks
        · have hf := iten hf c1_3
          refine jv_look (off := 55) (tgt := 56) hx hb dX1_formOf_1 i1 (by decide) (by show Op.lookupswitch.offset [(108, 49), (118, 43), (119, 46), (120, 52)] _ _ = _; rw [Op.lookupswitch.offset_cons, if_neg (by omega), Op.lookupswitch.offset_cons, if_neg (by omega), Op.lookupswitch.offset_cons, if_neg (by omega), Op.lookupswitch.offset_cons, if_neg (by omega)]; rfl) (by decide) ?_
          refine va_ldcS hx hb hown hE.2.2.1.2.2.2.2 dX1_formOf_56 ?_
          have e1 := Option.some.inj hf
          exact jend_s (q := v.2.1) hx hb hr hS e1 (by rw [← e1]; exact (by decide : 4 < 5)) (oX rfl hP) dX1_formOf_58 hlocks
def fJ0_isEmpty_aae02 (s0 : Nat) : Option (Int) := bnd (if (lenI s0) = 0 then some ((1 : Int)) else some ((0 : Int))) (fun y2_0 => gd (y2_0 = 0 ∨ y2_0 = 1) (some y2_0))
set_option maxHeartbeats 4000000 in
set_option maxRecDepth 100000 in
theorem kJ0_isEmpty_aae02 (l : Launch) (D : va_G) (ca : Nat → ClassId) (v : EV) (ad : Nat → Nat) (hI : aInj 75 ad) (M : MM) (hR : RR M) (s0 : Nat) (hs0 : s0 < 5) (res : Int) (hf : fJ0_isEmpty_aae02 s0 = some res) : CI l yJ0_isEmpty_aae02 wsJ0_isEmpty_aae02 0 0 [.ref (v.2.1 s0)] (PX D ca v ad M) res (inR res) (OX D ca ad M) (aS 75 ad) := by
  refine Met.ofW (cc := cJ0_isEmpty_aae02) (maxL := 1) (ret := (some .boolean)) (by decide) rfl ?_
  intro p e s m args below meth c s₁ B hml hv
  obtain ⟨rfl, hP, hK, hE⟩ := hv
  have hx := B.exec
  have hb := B.bytes
  have hr := B.returns
  have hts := atoms_spec (ws := wsJ0_isEmpty_aae02) B.pre
  have hown : s.vm.findClass RJ0 = some m.cls := findClass_of_methodNamed B.named
  have hlocks := B.notSynchronized
  have hS : va_S (aS 75 ad) s.heap s.heap [] := va_S.rf
  have hl := lv_entry ([.ref (v.2.1 s0)]) (n := 1) (Nat.le_of_ble_eq_true rfl)
  rw [lg_entry_eq]
  generalize (lg_sl ([.ref (v.2.1 s0)]) ++ List.replicate (1 - (lg_sl ([.ref (v.2.1 s0)])).length) Slot.unset).toArray = ls at hl ⊢
  have hl : lv_has ls 1 [(0, .ref (v.2.1 s0))] := hl
  unfold fJ0_isEmpty_aae02 at hf
  refine lv_aload_n hx hb dJ0_isEmpty_aae02_0 rfl (lv_at hl 0 rfl) ?_
  refine va_getX (i := s0) hx hb (eX_val hE) hs0 hS hown (hts (.fieldLink RJ0 9 "java/lang/String" "value" "[B") (List.mem_of_getElem? (i := 1) rfl)) (fun _ h => h) dJ0_isEmpty_aae02_1 ?_
  refine va_tlen (v := J (lenI s0)) hx hb (eX_byt hE hs0) hS rfl dJ0_isEmpty_aae02_4 ?_
  obtain ⟨y2_0, h2, hf⟩ := bnd_some hf
  have K2 : ∀ (H : Heap) (locs : List Loc) (ls : Array Slot), inR y2_0 → va_P D vwCl (wX ca ad M) H → va_S (aS 75 ad) s.heap H locs → lv_has ls 1 [] → W p l e (headSpec wsJ0_isEmpty_aae02 (RmC 0 0)).room s m ([.ref (v.2.1 s0)] : List Value).toArray below meth c H locs 0 0 (MQ below (va_Qi (fun x (_ : Unit) => x = J res ∧ (inR res)) (fun _ => (OX D ca ad M)) (aS 75 ad)) ([.ref (v.2.1 s0)] : List Value).toArray s 0 0 (aS 75 ad)) (F0 m 13 ls [.int (J y2_0)]) := by
    intro H locs ls ry2_0  hP hS hl
    obtain ⟨g3, hf⟩ := gd_some hf
    have e1 := Option.some.inj hf
    exact jend_i hx hb hr (J_wZ g3).1 hS e1 (by rw [← e1]; exact ry2_0) (oX rfl hP) dJ0_isEmpty_aae02_13 hlocks
  have hf := h2
  clear h2
  refine jv_if_ne (tgt := 12) hx hb dJ0_isEmpty_aae02_5 (by decide) (lenI_R s0) (fun c1 => ?_) (fun c1 => ?_)
  · have hf := iten hf c1
    refine lv_iconst (v := J 0) hx hb dJ0_isEmpty_aae02_12 rfl ?_
    cases hf
    exact K2 _ _ _ (by decide : inR 0)  hP hS (lv_sub hl [] rfl)
  · have hf := itep hf c1
    refine lv_iconst (v := J 1) hx hb dJ0_isEmpty_aae02_8 rfl ?_
    refine lv_goto (tgt := 13) hx hb dJ0_isEmpty_aae02_9 (by decide) ?_
    cases hf
    exact K2 _ _ _ (by decide : inR 1)  hP hS (lv_sub hl [] rfl)
def fJ0_coder_7d493 (s0 : Nat) : Option (Int) := bnd (if (1 : Int) = 0 then some ((1 : Int)) else some ((0 : Int))) (fun y2_0 => gd (y2_0 = 0 ∨ y2_0 = 1) (some y2_0))
set_option maxHeartbeats 4000000 in
set_option maxRecDepth 100000 in
theorem kJ0_coder_7d493 (l : Launch) (D : va_G) (ca : Nat → ClassId) (v : EV) (ad : Nat → Nat) (hI : aInj 75 ad) (M : MM) (hR : RR M) (s0 : Nat) (hs0 : s0 < 5) (res : Int) (hf : fJ0_coder_7d493 s0 = some res) : CI l yJ0_coder_7d493 wsJ0_coder_7d493 0 0 [.ref (v.2.1 s0)] (PX D ca v ad M) res (inR res) (OX D ca ad M) (aS 75 ad) := by
  refine Met.ofW (cc := cJ0_coder_7d493) (maxL := 1) (ret := (some .byte)) (by decide) rfl ?_
  intro p e s m args below meth c s₁ B hml hv
  obtain ⟨rfl, hP, hK, hE⟩ := hv
  have hx := B.exec
  have hb := B.bytes
  have hr := B.returns
  have hts := atoms_spec (ws := wsJ0_coder_7d493) B.pre
  have hown : s.vm.findClass RJ0 = some m.cls := findClass_of_methodNamed B.named
  have hlocks := B.notSynchronized
  have hS : va_S (aS 75 ad) s.heap s.heap [] := va_S.rf
  have hl := lv_entry ([.ref (v.2.1 s0)]) (n := 1) (Nat.le_of_ble_eq_true rfl)
  rw [lg_entry_eq]
  generalize (lg_sl ([.ref (v.2.1 s0)]) ++ List.replicate (1 - (lg_sl ([.ref (v.2.1 s0)])).length) Slot.unset).toArray = ls at hl ⊢
  have hl : lv_has ls 1 [(0, .ref (v.2.1 s0))] := hl
  unfold fJ0_coder_7d493 at hf
  refine va_gets hx hb hE.2.2.2.2.1 hS hown (hts (.fieldLink RJ0 38 "java/lang/String" "COMPACT_STRINGS" "Z") (List.mem_of_getElem? (i := 1) rfl)) (fun _ h => h) dJ0_coder_7d493_0 ?_
  obtain ⟨y2_0, h2, hf⟩ := bnd_some hf
  have K2 : ∀ (H : Heap) (locs : List Loc) (ls : Array Slot), inR y2_0 → va_P D vwCl (wX ca ad M) H → va_S (aS 75 ad) s.heap H locs → lv_has ls 1 [] → W p l e (headSpec wsJ0_coder_7d493 (RmC 0 0)).room s m ([.ref (v.2.1 s0)] : List Value).toArray below meth c H locs 0 0 (MQ below (va_Qi (fun x (_ : Unit) => x = J res ∧ (inR res)) (fun _ => (OX D ca ad M)) (aS 75 ad)) ([.ref (v.2.1 s0)] : List Value).toArray s 0 0 (aS 75 ad)) (F0 m 14 ls [.int (J y2_0)]) := by
    intro H locs ls ry2_0  hP hS hl
    obtain ⟨g3, hf⟩ := gd_some hf
    have e1 := Option.some.inj hf
    exact jend_i hx hb hr (J_wB g3) hS e1 (by rw [← e1]; exact ry2_0) (oX rfl hP) dJ0_coder_7d493_14 hlocks
  have hf := h2
  clear h2
  refine jv_if_eq (tgt := 13) hx hb dJ0_coder_7d493_3 (by decide) (by decide : inR 1) (fun c1 => ?_) (fun c1 => ?_)
  · have hf := itep hf c1
    refine lv_iconst (v := J 1) hx hb dJ0_coder_7d493_13 rfl ?_
    cases hf
    exact K2 _ _ _ (by decide : inR 1)  hP hS (lv_sub hl [] rfl)
  · have hf := iten hf c1
    refine lv_aload_n hx hb dJ0_coder_7d493_6 rfl (lv_at hl 0 rfl) ?_
    refine va_getX (i := s0) hx hb (eX_cod hE) hs0 hS hown (hts (.fieldLink RJ0 15 "java/lang/String" "coder" "B") (List.mem_of_getElem? (i := 2) rfl)) (fun _ h => h) dJ0_coder_7d493_7 ?_
    refine lv_goto (tgt := 14) hx hb dJ0_coder_7d493_10 (by decide) ?_
    cases hf
    exact K2 _ _ _ (by decide : inR 0)  hP hS (lv_sub hl [] rfl)
def fJ0_length_8abf5 (s0 : Nat) : Option (Int) := bnd (fJ0_coder_7d493 s0) (fun v1 => some (ishr (lenI s0) v1))
set_option maxHeartbeats 4000000 in
set_option maxRecDepth 100000 in
theorem kJ0_length_8abf5 (l : Launch) (D : va_G) (ca : Nat → ClassId) (v : EV) (ad : Nat → Nat) (hI : aInj 75 ad) (M : MM) (hR : RR M) (s0 : Nat) (hs0 : s0 < 5) (res : Int) (hf : fJ0_length_8abf5 s0 = some res) : CI l yJ0_length_8abf5 wsJ0_length_8abf5 1 20 [.ref (v.2.1 s0)] (PX D ca v ad M) res (inR res) (OX D ca ad M) (aS 75 ad) := by
  refine Met.ofW (cc := cJ0_length_8abf5) (maxL := 1) (ret := (some .int)) (by decide) rfl ?_
  intro p e s m args below meth c s₁ B hml hv
  obtain ⟨rfl, hP, hK, hE⟩ := hv
  have hx := B.exec
  have hb := B.bytes
  have hr := B.returns
  have hts := atoms_spec (ws := wsJ0_length_8abf5) B.pre
  have hown : s.vm.findClass RJ0 = some m.cls := findClass_of_methodNamed B.named
  have hlocks := B.notSynchronized
  have hS : va_S (aS 75 ad) s.heap s.heap [] := va_S.rf
  have hl := lv_entry ([.ref (v.2.1 s0)]) (n := 1) (Nat.le_of_ble_eq_true rfl)
  rw [lg_entry_eq]
  generalize (lg_sl ([.ref (v.2.1 s0)]) ++ List.replicate (1 - (lg_sl ([.ref (v.2.1 s0)])).length) Slot.unset).toArray = ls at hl ⊢
  have hl : lv_has ls 1 [(0, .ref (v.2.1 s0))] := hl
  unfold fJ0_length_8abf5 at hf
  refine lv_aload_n hx hb dJ0_length_8abf5_0 rfl (lv_at hl 0 rfl) ?_
  refine va_getX (i := s0) hx hb (eX_val hE) hs0 hS hown (hts (.fieldLink RJ0 9 "java/lang/String" "value" "[B") (List.mem_of_getElem? (i := 1) rfl)) (fun _ h => h) dJ0_length_8abf5_1 ?_
  refine va_tlen (v := J (lenI s0)) hx hb (eX_byt hE hs0) hS rfl dJ0_length_8abf5_4 ?_
  refine lv_aload_n hx hb dJ0_length_8abf5_5 rfl (lv_at hl 0 rfl) ?_
  obtain ⟨v1, qv1, hf⟩ := bnd_some hf
  refine jc_i (va_runV (As := []) (rest := [.int (J (lenI s0))]) ⟨hx, hb, hml, hown, hts⟩ (kJ0_coder_7d493 l D ca v ad hI M hR s0 hs0 v1 qv1) (cwV 0 hts gJ0_length_8abf5_J0_coder_7d493 rfl rfl rfl (by decide +kernel) ⟨Nat.le_of_ble_eq_true rfl, Nat.le_of_ble_eq_true rfl⟩) (pvS hK hE hP hS [] hs0) rfl rfl hl.1 rfl (lv_room (Nat.le_of_ble_eq_true rfl)) dJ0_length_8abf5_6 ⟨Nat.zero_le _, Nat.zero_le _⟩) hS (fun H locs t ht hφ hO hS => ?_)
  have rv1 := hφ
  have hP : va_P D vwCl (wX ca ad M) H := by rw [← ht]; exact hO
  refine jv_ishr hx hb dJ0_length_8abf5_9 ?_
  have e1 := Option.some.inj hf
  exact jend_i hx hb hr rfl hS e1 (by rw [← e1]; exact (J_inR _)) (oX rfl hP) dJ0_length_8abf5_10 hlocks
def fJ0_isLatin1_aae02 (s0 : Nat) : Option (Int) := bnd (if (1 : Int) = 0 then some ((0 : Int)) else if (0 : Int) = 0 then some ((1 : Int)) else some ((0 : Int))) (fun y2_0 => gd (y2_0 = 0 ∨ y2_0 = 1) (some y2_0))
set_option maxHeartbeats 4000000 in
set_option maxRecDepth 100000 in
theorem kJ0_isLatin1_aae02 (l : Launch) (D : va_G) (ca : Nat → ClassId) (v : EV) (ad : Nat → Nat) (hI : aInj 75 ad) (M : MM) (hR : RR M) (s0 : Nat) (hs0 : s0 < 5) (res : Int) (hf : fJ0_isLatin1_aae02 s0 = some res) : CI l yJ0_isLatin1_aae02 wsJ0_isLatin1_aae02 0 0 [.ref (v.2.1 s0)] (PX D ca v ad M) res (inR res) (OX D ca ad M) (aS 75 ad) := by
  refine Met.ofW (cc := cJ0_isLatin1_aae02) (maxL := 1) (ret := (some .boolean)) (by decide) rfl ?_
  intro p e s m args below meth c s₁ B hml hv
  obtain ⟨rfl, hP, hK, hE⟩ := hv
  have hx := B.exec
  have hb := B.bytes
  have hr := B.returns
  have hts := atoms_spec (ws := wsJ0_isLatin1_aae02) B.pre
  have hown : s.vm.findClass RJ0 = some m.cls := findClass_of_methodNamed B.named
  have hlocks := B.notSynchronized
  have hS : va_S (aS 75 ad) s.heap s.heap [] := va_S.rf
  have hl := lv_entry ([.ref (v.2.1 s0)]) (n := 1) (Nat.le_of_ble_eq_true rfl)
  rw [lg_entry_eq]
  generalize (lg_sl ([.ref (v.2.1 s0)]) ++ List.replicate (1 - (lg_sl ([.ref (v.2.1 s0)])).length) Slot.unset).toArray = ls at hl ⊢
  have hl : lv_has ls 1 [(0, .ref (v.2.1 s0))] := hl
  unfold fJ0_isLatin1_aae02 at hf
  refine va_gets hx hb hE.2.2.2.2.1 hS hown (hts (.fieldLink RJ0 38 "java/lang/String" "COMPACT_STRINGS" "Z") (List.mem_of_getElem? (i := 1) rfl)) (fun _ h => h) dJ0_isLatin1_aae02_0 ?_
  obtain ⟨y2_0, h2, hf⟩ := bnd_some hf
  have K2 : ∀ (H : Heap) (locs : List Loc) (ls : Array Slot), inR y2_0 → va_P D vwCl (wX ca ad M) H → va_S (aS 75 ad) s.heap H locs → lv_has ls 1 [] → W p l e (headSpec wsJ0_isLatin1_aae02 (RmC 0 0)).room s m ([.ref (v.2.1 s0)] : List Value).toArray below meth c H locs 0 0 (MQ below (va_Qi (fun x (_ : Unit) => x = J res ∧ (inR res)) (fun _ => (OX D ca ad M)) (aS 75 ad)) ([.ref (v.2.1 s0)] : List Value).toArray s 0 0 (aS 75 ad)) (F0 m 18 ls [.int (J y2_0)]) := by
    intro H locs ls ry2_0  hP hS hl
    obtain ⟨g4, hf⟩ := gd_some hf
    have e1 := Option.some.inj hf
    exact jend_i hx hb hr (J_wZ g4).1 hS e1 (by rw [← e1]; exact ry2_0) (oX rfl hP) dJ0_isLatin1_aae02_18 hlocks
  have hf := h2
  clear h2
  refine jv_if_eq (tgt := 17) hx hb dJ0_isLatin1_aae02_3 (by decide) (by decide : inR 1) (fun c1 => ?_) (fun c1 => ?_)
  · have hf := itep hf c1
    refine lv_iconst (v := J 0) hx hb dJ0_isLatin1_aae02_17 rfl ?_
    cases hf
    exact K2 _ _ _ (by decide : inR 0)  hP hS (lv_sub hl [] rfl)
  · have hf := iten hf c1
    refine lv_aload_n hx hb dJ0_isLatin1_aae02_6 rfl (lv_at hl 0 rfl) ?_
    refine va_getX (i := s0) hx hb (eX_cod hE) hs0 hS hown (hts (.fieldLink RJ0 15 "java/lang/String" "coder" "B") (List.mem_of_getElem? (i := 2) rfl)) (fun _ h => h) dJ0_isLatin1_aae02_7 ?_
    refine jv_if_ne (tgt := 17) hx hb dJ0_isLatin1_aae02_10 (by decide) (by decide : inR 0) (fun c3 => ?_) (fun c3 => ?_)
    · have hf := iten hf c3
      refine lv_iconst (v := J 0) hx hb dJ0_isLatin1_aae02_17 rfl ?_
      cases hf
      exact K2 _ _ _ (by decide : inR 0)  hP hS (lv_sub hl [] rfl)
    · have hf := itep hf c3
      refine lv_iconst (v := J 1) hx hb dJ0_isLatin1_aae02_13 rfl ?_
      refine lv_goto (tgt := 18) hx hb dJ0_isLatin1_aae02_14 (by decide) ?_
      cases hf
      exact K2 _ _ _ (by decide : inR 1)  hP hS (lv_sub hl [] rfl)
def fJ3_checkIndex_8e157 (a1 : Int) (a2 : Int) : Option (Int) := if a1 < 0 then none else if a1 < a2 then some a1 else none
set_option maxHeartbeats 4000000 in
set_option maxRecDepth 100000 in
theorem kJ3_checkIndex_8e157 (l : Launch) (D : va_G) (ca : Nat → ClassId) (v : EV) (ad : Nat → Nat) (hI : aInj 75 ad) (M : MM) (hR : RR M) (w3 : Nat) (a1 : Int) (a2 : Int) (i1 : inR a1) (i2 : inR a2) (res : Int) (hf : fJ3_checkIndex_8e157 a1 a2 = some res) : CI l yJ3_checkIndex_8e157 wsJ3_checkIndex_8e157 0 0 [.int (J a1), .int (J a2), .ref w3] (PX D ca v ad M) res (inR res) (OX D ca ad M) (aS 75 ad) := by
  refine Met.ofW (cc := cJ3_checkIndex_8e157) (maxL := 3) (ret := (some .int)) (by decide) rfl ?_
  intro p e s m args below meth c s₁ B hml hv
  obtain ⟨rfl, hP, hK, hE⟩ := hv
  have hx := B.exec
  have hb := B.bytes
  have hr := B.returns
  have hts := atoms_spec (ws := wsJ3_checkIndex_8e157) B.pre
  have hown : s.vm.findClass RJ3 = some m.cls := findClass_of_methodNamed B.named
  have hlocks := B.notSynchronized
  have hS : va_S (aS 75 ad) s.heap s.heap [] := va_S.rf
  have hl := lv_entry ([.int (J a1), .int (J a2), .ref w3]) (n := 3) (Nat.le_of_ble_eq_true rfl)
  rw [lg_entry_eq]
  generalize (lg_sl ([.int (J a1), .int (J a2), .ref w3]) ++ List.replicate (3 - (lg_sl ([.int (J a1), .int (J a2), .ref w3])).length) Slot.unset).toArray = ls at hl ⊢
  have hl : lv_has ls 3 [(0, .int (J a1)), (1, .int (J a2)), (2, .ref w3)] := hl
  unfold fJ3_checkIndex_8e157 at hf
  refine lv_iload_n hx hb dJ3_checkIndex_8e157_0 rfl (lv_at hl 0 rfl) ?_
  refine jv_if_lt (tgt := 9) hx hb dJ3_checkIndex_8e157_1 (by decide) i1 (fun c1 => ?_) (fun c1 => ?_)
  · have hf := itep hf c1
    cases hf
  · have hf := iten hf c1
    refine lv_iload_n hx hb dJ3_checkIndex_8e157_4 rfl (lv_at hl 0 rfl) ?_
    refine lv_iload_n hx hb dJ3_checkIndex_8e157_5 rfl (lv_at hl 1 rfl) ?_
    refine jv_icmp_lt (tgt := 16) hx hb dJ3_checkIndex_8e157_6 (by decide) i1 i2 (fun c2 => ?_) (fun c2 => ?_)
    · have hf := itep hf c2
      refine lv_iload_n hx hb dJ3_checkIndex_8e157_16 rfl (lv_at hl 0 rfl) ?_
      have e1 := Option.some.inj hf
      exact jend_i hx hb hr rfl hS e1 (by rw [← e1]; exact i1) (oX rfl hP) dJ3_checkIndex_8e157_17 hlocks
    · have hf := iten hf c2
      cases hf
set_option maxHeartbeats 4000000 in
set_option maxRecDepth 100000 in
theorem kJ3_checkIndex_8e157_N (l : Launch) (D : va_G) (ca : Nat → ClassId) (v : EV) (ad : Nat → Nat) (hI : aInj 75 ad) (M : MM) (hR : RR M) (a1 : Int) (a2 : Int) (i1 : inR a1) (i2 : inR a2) (res : Int) (hf : fJ3_checkIndex_8e157 a1 a2 = some res) : CI l yJ3_checkIndex_8e157 wsJ3_checkIndex_8e157 0 0 [.int (J a1), .int (J a2), .null] (PX D ca v ad M) res (inR res) (OX D ca ad M) (aS 75 ad) := by
  refine Met.ofW (cc := cJ3_checkIndex_8e157) (maxL := 3) (ret := (some .int)) (by decide) rfl ?_
  intro p e s m args below meth c s₁ B hml hv
  obtain ⟨rfl, hP, hK, hE⟩ := hv
  have hx := B.exec
  have hb := B.bytes
  have hr := B.returns
  have hts := atoms_spec (ws := wsJ3_checkIndex_8e157) B.pre
  have hown : s.vm.findClass RJ3 = some m.cls := findClass_of_methodNamed B.named
  have hlocks := B.notSynchronized
  have hS : va_S (aS 75 ad) s.heap s.heap [] := va_S.rf
  have hl := lv_entry ([.int (J a1), .int (J a2), .null]) (n := 3) (Nat.le_of_ble_eq_true rfl)
  rw [lg_entry_eq]
  generalize (lg_sl ([.int (J a1), .int (J a2), .null]) ++ List.replicate (3 - (lg_sl ([.int (J a1), .int (J a2), .null])).length) Slot.unset).toArray = ls at hl ⊢
  have hl : lv_has ls 3 [(0, .int (J a1)), (1, .int (J a2)), (2, .null)] := hl
  unfold fJ3_checkIndex_8e157 at hf
  refine lv_iload_n hx hb dJ3_checkIndex_8e157_0 rfl (lv_at hl 0 rfl) ?_
  refine jv_if_lt (tgt := 9) hx hb dJ3_checkIndex_8e157_1 (by decide) i1 (fun c1 => ?_) (fun c1 => ?_)
  · have hf := itep hf c1
    cases hf
  · have hf := iten hf c1
    refine lv_iload_n hx hb dJ3_checkIndex_8e157_4 rfl (lv_at hl 0 rfl) ?_
    refine lv_iload_n hx hb dJ3_checkIndex_8e157_5 rfl (lv_at hl 1 rfl) ?_
    refine jv_icmp_lt (tgt := 16) hx hb dJ3_checkIndex_8e157_6 (by decide) i1 i2 (fun c2 => ?_) (fun c2 => ?_)
    · have hf := itep hf c2
      refine lv_iload_n hx hb dJ3_checkIndex_8e157_16 rfl (lv_at hl 0 rfl) ?_
      have e1 := Option.some.inj hf
      exact jend_i hx hb hr rfl hS e1 (by rw [← e1]; exact i1) (oX rfl hP) dJ3_checkIndex_8e157_17 hlocks
    · have hf := iten hf c2
      cases hf
def fJ0_checkIndex_df160 (a1 : Int) (a2 : Int) : Option (Unit) := bnd (fJ3_checkIndex_8e157 a1 a2) (fun v1 => some ())
set_option maxHeartbeats 4000000 in
set_option maxRecDepth 100000 in
theorem kJ0_checkIndex_df160 (l : Launch) (D : va_G) (ca : Nat → ClassId) (v : EV) (ad : Nat → Nat) (hI : aInj 75 ad) (M : MM) (hR : RR M) (a1 : Int) (a2 : Int) (i1 : inR a1) (i2 : inR a2) (hf : fJ0_checkIndex_df160 a1 a2 = some ()) : CV l yJ0_checkIndex_df160 wsJ0_checkIndex_df160 1 22 [.int (J a1), .int (J a2)] (PX D ca v ad M) True (OX D ca ad M) (aS 75 ad) := by
  refine Met.ofW (cc := cJ0_checkIndex_df160) (maxL := 2) (ret := none) (by decide) rfl ?_
  intro p e s m args below meth c s₁ B hml hv
  obtain ⟨rfl, hP, hK, hE⟩ := hv
  have hx := B.exec
  have hb := B.bytes
  have hr := B.returns
  have hts := atoms_spec (ws := wsJ0_checkIndex_df160) B.pre
  have hown : s.vm.findClass RJ0 = some m.cls := findClass_of_methodNamed B.named
  have hlocks := B.notSynchronized
  have hS : va_S (aS 75 ad) s.heap s.heap [] := va_S.rf
  have hl := lv_entry ([.int (J a1), .int (J a2)]) (n := 2) (Nat.le_of_ble_eq_true rfl)
  rw [lg_entry_eq]
  generalize (lg_sl ([.int (J a1), .int (J a2)]) ++ List.replicate (2 - (lg_sl ([.int (J a1), .int (J a2)])).length) Slot.unset).toArray = ls at hl ⊢
  have hl : lv_has ls 2 [(0, .int (J a1)), (1, .int (J a2))] := hl
  unfold fJ0_checkIndex_df160 at hf
  refine lv_iload_n hx hb dJ0_checkIndex_df160_0 rfl (lv_at hl 0 rfl) ?_
  refine lv_iload_n hx hb dJ0_checkIndex_df160_1 rfl (lv_at hl 1 rfl) ?_
  rcases hE.2.2.2.2.2 with hZ | ⟨tq, hZ⟩
  · refine va_gets hx hb hZ hS hown (hts (.fieldLink RJ0 1053 "jdk/internal/util/Preconditions" "SIOOBE_FORMATTER" "Ljava/util/function/BiFunction;") (List.mem_of_getElem? (i := 1) rfl)) (fun _ h => h) dJ0_checkIndex_df160_2 ?_
    obtain ⟨v1, qv1, hf⟩ := bnd_some hf
    refine jc_i (va_runS (As := [.int (J a1), .int (J a2), .null]) (rest := []) ⟨hx, hb, hml, hown, hts⟩ (kJ3_checkIndex_8e157_N l D ca v ad hI M hR a1 a2 i1 i2 v1 qv1) (va_cwS 3 hts gJ0_checkIndex_df160_J3_checkIndex_8e157 rfl rfl rfl (by decide +kernel) ⟨Nat.le_of_ble_eq_true rfl, Nat.le_of_ble_eq_true rfl⟩) (psX hK hE hP hS [.int (J a1), .int (J a2), .null]) rfl rfl hl.1 rfl (lv_room (Nat.le_of_ble_eq_true rfl)) dJ0_checkIndex_df160_5 ⟨Nat.zero_le _, Nat.zero_le _⟩) hS (fun H locs t ht hφ hO hS => ?_)
    have rv1 := hφ
    have hP : va_P D vwCl (wX ca ad M) H := by rw [← ht]; exact hO
    refine lv_pop hx hb dJ0_checkIndex_df160_8 rfl ?_
    exact jend_v hx hb hr hS trivial (oX rfl hP) dJ0_checkIndex_df160_9 hlocks
  · refine va_gets hx hb hZ hS hown (hts (.fieldLink RJ0 1053 "jdk/internal/util/Preconditions" "SIOOBE_FORMATTER" "Ljava/util/function/BiFunction;") (List.mem_of_getElem? (i := 1) rfl)) (fun _ h => h) dJ0_checkIndex_df160_2 ?_
    obtain ⟨v1, qv1, hf⟩ := bnd_some hf
    refine jc_i (va_runS (As := [.int (J a1), .int (J a2), .ref tq]) (rest := []) ⟨hx, hb, hml, hown, hts⟩ (kJ3_checkIndex_8e157 l D ca v ad hI M hR tq a1 a2 i1 i2 v1 qv1) (va_cwS 3 hts gJ0_checkIndex_df160_J3_checkIndex_8e157 rfl rfl rfl (by decide +kernel) ⟨Nat.le_of_ble_eq_true rfl, Nat.le_of_ble_eq_true rfl⟩) (psX hK hE hP hS [.int (J a1), .int (J a2), .ref tq]) rfl rfl hl.1 rfl (lv_room (Nat.le_of_ble_eq_true rfl)) dJ0_checkIndex_df160_5 ⟨Nat.zero_le _, Nat.zero_le _⟩) hS (fun H locs t ht hφ hO hS => ?_)
    have rv1 := hφ
    have hP : va_P D vwCl (wX ca ad M) H := by rw [← ht]; exact hO
    refine lv_pop hx hb dJ0_checkIndex_df160_8 rfl ?_
    exact jend_v hx hb hr hS trivial (oX rfl hP) dJ0_checkIndex_df160_9 hlocks
def fJ1_charAt_3b067 (s1 : Nat) (a2 : Int) : Option (Int) := bnd (fJ0_checkIndex_df160 a2 (lenI s1)) (fun _ => gd (0 ≤ a2 ∧ a2 < lenI s1) (gd (0 ≤ (i2c (iand (byI s1 (a2).toNat) 255)) ∧ (i2c (iand (byI s1 (a2).toNat) 255)) ≤ 65535) (some (i2c (iand (byI s1 (a2).toNat) 255)))))
set_option maxHeartbeats 4000000 in
set_option maxRecDepth 100000 in
theorem kJ1_charAt_3b067 (l : Launch) (D : va_G) (ca : Nat → ClassId) (v : EV) (ad : Nat → Nat) (hI : aInj 75 ad) (M : MM) (hR : RR M) (s1 : Nat) (hs1 : s1 < 5) (a2 : Int) (i2 : inR a2) (res : Int) (hf : fJ1_charAt_3b067 s1 a2 = some res) : CI l yJ1_charAt_3b067 wsJ1_charAt_3b067 2 43 [.ref (v.2.2 s1), .int (J a2)] (PX D ca v ad M) res (inR res) (OX D ca ad M) (aS 75 ad) := by
  refine Met.ofW (cc := cJ1_charAt_3b067) (maxL := 2) (ret := (some .char)) (by decide) rfl ?_
  intro p e s m args below meth c s₁ B hml hv
  obtain ⟨rfl, hP, hK, hE⟩ := hv
  have hx := B.exec
  have hb := B.bytes
  have hr := B.returns
  have hts := atoms_spec (ws := wsJ1_charAt_3b067) B.pre
  have hown : s.vm.findClass RJ1 = some m.cls := findClass_of_methodNamed B.named
  have hlocks := B.notSynchronized
  have hS : va_S (aS 75 ad) s.heap s.heap [] := va_S.rf
  have hl := lv_entry ([.ref (v.2.2 s1), .int (J a2)]) (n := 2) (Nat.le_of_ble_eq_true rfl)
  rw [lg_entry_eq]
  generalize (lg_sl ([.ref (v.2.2 s1), .int (J a2)]) ++ List.replicate (2 - (lg_sl ([.ref (v.2.2 s1), .int (J a2)])).length) Slot.unset).toArray = ls at hl ⊢
  have hl : lv_has ls 2 [(0, .ref (v.2.2 s1)), (1, .int (J a2))] := hl
  unfold fJ1_charAt_3b067 at hf
  refine lv_iload_n hx hb dJ1_charAt_3b067_0 rfl (lv_at hl 1 rfl) ?_
  refine lv_aload_n hx hb dJ1_charAt_3b067_1 rfl (lv_at hl 0 rfl) ?_
  refine va_tlen (v := J (lenI s1)) hx hb (eX_byt hE hs1) hS rfl dJ1_charAt_3b067_2 ?_
  obtain ⟨u3, qu3, hf⟩ := bnd_some hf
  refine jc_v (va_runS (As := [.int (J a2), .int (J (lenI s1))]) (rest := []) ⟨hx, hb, hml, hown, hts⟩ (kJ0_checkIndex_df160 l D ca v ad hI M hR a2 (lenI s1) i2 (lenI_R s1) qu3) (va_cwS 2 hts gJ1_charAt_3b067_J0_checkIndex_df160 rfl rfl rfl (by decide +kernel) ⟨Nat.le_of_ble_eq_true rfl, Nat.le_of_ble_eq_true rfl⟩) (psX hK hE hP hS [.int (J a2), .int (J (lenI s1))]) rfl rfl hl.1 rfl (lv_room (Nat.le_of_ble_eq_true rfl)) dJ1_charAt_3b067_3 ⟨Nat.zero_le _, Nat.zero_le _⟩) hS (fun H locs t ht hφ hO hS => ?_)
  have htu3 := hφ
  have hP : va_P D vwCl (wX ca ad M) H := by rw [← ht]; exact hO
  refine lv_aload_n hx hb dJ1_charAt_3b067_6 rfl (lv_at hl 0 rfl) ?_
  refine lv_iload_n hx hb dJ1_charAt_3b067_7 rfl (lv_at hl 1 rfl) ?_
  obtain ⟨g4, hf⟩ := gd_some hf
  refine va_tb hx hb (eX_byt hE hs1) hS (J_in (lenK_le s1) g4) (v := .int (J (byI s1 (a2).toNat))) (byI_v g4 (lenK_le s1)) dJ1_charAt_3b067_8 ?_
  refine lv_sipush (v := J 255) hx hb dJ1_charAt_3b067_9 (by decide +kernel) ?_
  refine jv_iand hx hb dJ1_charAt_3b067_12 ?_
  refine jv_i2c hx hb dJ1_charAt_3b067_13 ?_
  obtain ⟨g5, hf⟩ := gd_some hf
  have e1 := Option.some.inj hf
  exact jend_i hx hb hr (J_wC g5).1 hS e1 (by rw [← e1]; exact (J_inR _)) (oX rfl hP) dJ1_charAt_3b067_14 hlocks
def fJ0_charAt_5068e (s0 : Nat) (a1 : Int) : Option (Int) := bnd (fJ0_isLatin1_aae02 s0) (fun v1 => if v1 = 0 then none else bnd (fJ1_charAt_3b067 s0 a1) (fun v4 => gd (0 ≤ v4 ∧ v4 ≤ 65535) (some v4)))
set_option maxHeartbeats 4000000 in
set_option maxRecDepth 100000 in
theorem kJ0_charAt_5068e (l : Launch) (D : va_G) (ca : Nat → ClassId) (v : EV) (ad : Nat → Nat) (hI : aInj 75 ad) (M : MM) (hR : RR M) (s0 : Nat) (hs0 : s0 < 5) (a1 : Int) (i1 : inR a1) (res : Int) (hf : fJ0_charAt_5068e s0 a1 = some res) : CI l yJ0_charAt_5068e wsJ0_charAt_5068e 4 85 [.ref (v.2.1 s0), .int (J a1)] (PX D ca v ad M) res (inR res) (OX D ca ad M) (aS 75 ad) := by
  refine Met.ofW (cc := cJ0_charAt_5068e) (maxL := 2) (ret := (some .char)) (by decide) rfl ?_
  intro p e s m args below meth c s₁ B hml hv
  obtain ⟨rfl, hP, hK, hE⟩ := hv
  have hx := B.exec
  have hb := B.bytes
  have hr := B.returns
  have hts := atoms_spec (ws := wsJ0_charAt_5068e) B.pre
  have hown : s.vm.findClass RJ0 = some m.cls := findClass_of_methodNamed B.named
  have hlocks := B.notSynchronized
  have hS : va_S (aS 75 ad) s.heap s.heap [] := va_S.rf
  have hl := lv_entry ([.ref (v.2.1 s0), .int (J a1)]) (n := 2) (Nat.le_of_ble_eq_true rfl)
  rw [lg_entry_eq]
  generalize (lg_sl ([.ref (v.2.1 s0), .int (J a1)]) ++ List.replicate (2 - (lg_sl ([.ref (v.2.1 s0), .int (J a1)])).length) Slot.unset).toArray = ls at hl ⊢
  have hl : lv_has ls 2 [(0, .ref (v.2.1 s0)), (1, .int (J a1))] := hl
  unfold fJ0_charAt_5068e at hf
  refine lv_aload_n hx hb dJ0_charAt_5068e_0 rfl (lv_at hl 0 rfl) ?_
  obtain ⟨v1, qv1, hf⟩ := bnd_some hf
  refine jc_i (va_runV (As := []) (rest := []) ⟨hx, hb, hml, hown, hts⟩ (kJ0_isLatin1_aae02 l D ca v ad hI M hR s0 hs0 v1 qv1) (cwV 0 hts gJ0_charAt_5068e_J0_isLatin1_aae02 rfl rfl rfl (by decide +kernel) ⟨Nat.le_of_ble_eq_true rfl, Nat.le_of_ble_eq_true rfl⟩) (pvS hK hE hP hS [] hs0) rfl rfl hl.1 rfl (lv_room (Nat.le_of_ble_eq_true rfl)) dJ0_charAt_5068e_1 ⟨Nat.zero_le _, Nat.zero_le _⟩) hS (fun H locs t ht hφ hO hS => ?_)
  have rv1 := hφ
  have hP : va_P D vwCl (wX ca ad M) H := by rw [← ht]; exact hO
  refine jv_if_eq (tgt := 16) hx hb dJ0_charAt_5068e_4 (by decide) rv1 (fun c3 => ?_) (fun c3 => ?_)
  · have hf := itep hf c3
    cases hf
  · have hf := iten hf c3
    refine lv_aload_n hx hb dJ0_charAt_5068e_7 rfl (lv_at hl 0 rfl) ?_
    refine va_getX (i := s0) hx hb (eX_val hE) hs0 hS hown (hts (.fieldLink RJ0 9 "java/lang/String" "value" "[B") (List.mem_of_getElem? (i := 1) rfl)) (fun _ h => h) dJ0_charAt_5068e_8 ?_
    refine lv_iload_n hx hb dJ0_charAt_5068e_11 rfl (lv_at hl 1 rfl) ?_
    obtain ⟨v4, qv4, hf⟩ := bnd_some hf
    refine jc_i (va_runS (As := [.ref (v.2.2 s0), .int (J a1)]) (rest := []) ⟨hx, hb, hml, hown, hts⟩ (kJ1_charAt_3b067 l D ca v ad hI M hR s0 hs0 a1 i1 v4 qv4) (va_cwS 2 hts gJ0_charAt_5068e_J1_charAt_3b067 rfl rfl rfl (by decide +kernel) ⟨Nat.le_of_ble_eq_true rfl, Nat.le_of_ble_eq_true rfl⟩) (psX hK hE hP hS [.ref (v.2.2 s0), .int (J a1)]) rfl rfl hl.1 rfl (lv_room (Nat.le_of_ble_eq_true rfl)) dJ0_charAt_5068e_12 ⟨Nat.zero_le _, Nat.zero_le _⟩) hS (fun H locs t ht hφ hO hS => ?_)
    have rv4 := hφ
    have hP : va_P D vwCl (wX ca ad M) H := by rw [← ht]; exact hO
    obtain ⟨g6, hf⟩ := gd_some hf
    have e1 := Option.some.inj hf
    exact jend_i hx hb hr (J_wC g6).1 hS e1 (by rw [← e1]; exact rv4) (oX rfl hP) dJ0_charAt_5068e_15 hlocks
def fX1_nextDigit (M : MM) : Option (Int) := bnd (fX1_nextSign M) (fun v1 => gd (inR (v1 - 48)) (bnd (fX4_within (v1 - 48) 0 9) (fun v4 => bnd (if v4 = 0 then some (((-6) : Int)) else some ((v1 - 48))) (fun y7_0 => some y7_0))))
set_option maxHeartbeats 4000000 in
set_option maxRecDepth 100000 in
theorem kX1_nextDigit (l : Launch) (D : va_G) (ca : Nat → ClassId) (v : EV) (ad : Nat → Nat) (hI : aInj 75 ad) (M : MM) (hR : RR M) (res : Int) (hf : fX1_nextDigit M = some res) : CI l yX1_nextDigit wsX1_nextDigit 1 22 [.ref (ad 71)] (PX D ca v ad M) res (inR res) (OX D ca ad M) (aS 75 ad) := by
  refine Met.ofW (cc := cX1_nextDigit) (maxL := 2) (ret := (some .int)) (by decide) rfl ?_
  intro p e s m args below meth c s₁ B hml hv
  obtain ⟨rfl, hP, hK, hE⟩ := hv
  have hx := B.exec
  have hb := B.bytes
  have hr := B.returns
  have hts := atoms_spec (ws := wsX1_nextDigit) B.pre
  have hown : s.vm.findClass RX1 = some m.cls := findClass_of_methodNamed B.named
  have hlocks := B.notSynchronized
  have hS : va_S (aS 75 ad) s.heap s.heap [] := va_S.rf
  have hl := lv_entry ([.ref (ad 71)]) (n := 2) (Nat.le_of_ble_eq_true rfl)
  rw [lg_entry_eq]
  generalize (lg_sl ([.ref (ad 71)]) ++ List.replicate (2 - (lg_sl ([.ref (ad 71)])).length) Slot.unset).toArray = ls at hl ⊢
  have hl : lv_has ls 2 [(0, .ref (ad 71))] := hl
  unfold fX1_nextDigit at hf
  refine lv_aload_n hx hb dX1_nextDigit_0 rfl (lv_at hl 0 rfl) ?_
  obtain ⟨v1, qv1, hf⟩ := bnd_some hf
  refine jc_i (va_runV (As := []) (rest := []) ⟨hx, hb, hml, hown, hts⟩ (kX1_nextSign l D ca v ad hI M hR v1 qv1) (cwV 0 hts gX1_nextDigit_X1_nextSign rfl rfl rfl (by decide +kernel) ⟨Nat.le_of_ble_eq_true rfl, Nat.le_of_ble_eq_true rfl⟩) (pvX hK hE hP hS [] (by decide) (gX_d0 _) rfl) rfl rfl hl.1 rfl (lv_room (Nat.le_of_ble_eq_true rfl)) dX1_nextDigit_1 ⟨Nat.zero_le _, Nat.zero_le _⟩) hS (fun H locs t ht hφ hO hS => ?_)
  have rv1 := hφ
  have hP : va_P D vwCl (wX ca ad M) H := by rw [← ht]; exact hO
  refine lv_bipush (v := J 48) hx hb dX1_nextDigit_4 (by decide +kernel) ?_
  refine jv_isub hx hb dX1_nextDigit_6 ?_
  refine lv_istore_n (lv' := [(1, .int (J (v1 - 48))), (0, .ref (ad 71))]) hx hb dX1_nextDigit_7 rfl hl (by decide) rfl (fun ls hl => ?_)
  refine lv_iload_n hx hb dX1_nextDigit_8 rfl (lv_at hl 0 rfl) ?_
  refine lv_iconst (v := J 0) hx hb dX1_nextDigit_9 rfl ?_
  refine lv_bipush (v := J 9) hx hb dX1_nextDigit_10 (by decide +kernel) ?_
  obtain ⟨g3, hf⟩ := gd_some hf
  obtain ⟨v4, qv4, hf⟩ := bnd_some hf
  refine jc_i (va_runSN (As := [.int (J (v1 - 48)), .int (J 0), .int (J 9)]) (rest := []) ⟨hx, hb, hml, hown, hts⟩ (kX4_within l D ca v ad hI M hR (v1 - 48) 0 9 g3 (by decide : inR 0) (by decide : inR 9) v4 qv4) ⟨va_cnB 3 hts gX1_nextDigit_X4_within_n21 rfl rfl rfl hE.1.2.2.2.1 (hts (.initialized RX4) (List.mem_of_getElem? (i := 10) rfl)) (by decide +kernel) ⟨Nat.le_of_ble_eq_true rfl, Nat.le_of_ble_eq_true rfl⟩, (hts (.static yX4_within) (List.mem_of_getElem? (i := 9) rfl)), trivial⟩ (psX hK hE hP hS [.int (J (v1 - 48)), .int (J 0), .int (J 9)]) rfl rfl hl.1 rfl (lv_room (Nat.le_of_ble_eq_true rfl)) dX1_nextDigit_12 ⟨Nat.zero_le _, Nat.zero_le _⟩) hS (fun H locs t ht hφ hO hS => ?_)
  have rv4 := hφ
  have hP : va_P D vwCl (wX ca ad M) H := by rw [← ht]; exact hO
  obtain ⟨y7_0, h7, hf⟩ := bnd_some hf
  have K7 : ∀ (H : Heap) (locs : List Loc) (ls : Array Slot), inR y7_0 → va_P D vwCl (wX ca ad M) H → va_S (aS 75 ad) s.heap H locs → lv_has ls 2 [] → W p l e (headSpec wsX1_nextDigit (RmC 1 22)).room s m ([.ref (ad 71)] : List Value).toArray below meth c H locs 0 0 (MQ below (va_Qi (fun x (_ : Unit) => x = J res ∧ (inR res)) (fun _ => (OX D ca ad M)) (aS 75 ad)) ([.ref (ad 71)] : List Value).toArray s 0 0 (aS 75 ad)) (F0 m 24 ls [.int (J y7_0)]) := by
    intro H locs ls ry7_0  hP hS hl
    have e1 := Option.some.inj hf
    exact jend_i hx hb hr rfl hS e1 (by rw [← e1]; exact ry7_0) (oX rfl hP) dX1_nextDigit_24 hlocks
  have hf := h7
  clear h7
  refine jv_if_eq (tgt := 22) hx hb dX1_nextDigit_15 (by decide) rv4 (fun c6 => ?_) (fun c6 => ?_)
  · have hf := itep hf c6
    refine lv_bipush (v := J (-6)) hx hb dX1_nextDigit_22 (by decide +kernel) ?_
    cases hf
    exact K7 _ _ _ (by decide : inR (-6))  hP hS (lv_sub hl [] rfl)
  · have hf := iten hf c6
    refine lv_iload_n hx hb dX1_nextDigit_18 rfl (lv_at hl 0 rfl) ?_
    refine lv_goto (tgt := 24) hx hb dX1_nextDigit_19 (by decide) ?_
    cases hf
    exact K7 _ _ _ g3  hP hS (lv_sub hl [] rfl)
def fX1_tell (a1 : Int) (M : MM) : Option (MM) := bnd (if 6 ≤ (M 71 3) then some (M) else bnd (wr M 73 6 (M 71 3) a1) (fun M3 => gd (inR ((M3 71 3) + 1)) (bnd (some (stM M3 71 3 ((M3 71 3) + 1))) (fun M5 => some (M5))))) (fun M_2 => some M_2)
set_option maxHeartbeats 4000000 in
set_option maxRecDepth 100000 in
theorem kX1_tell (l : Launch) (D : va_G) (ca : Nat → ClassId) (v : EV) (ad : Nat → Nat) (hI : aInj 75 ad) (M : MM) (hR : RR M) (a1 : Int) (i1 : inR a1) (M' : MM) (hf : fX1_tell a1 M = some M') : CV l yX1_tell wsX1_tell 0 0 [.ref (ad 71), .int (J a1)] (PX D ca v ad M) (RR M') (OX D ca ad M') (aS 75 ad) := by
  refine Met.ofW (cc := cX1_tell) (maxL := 2) (ret := none) (by decide) rfl ?_
  intro p e s m args below meth c s₁ B hml hv
  obtain ⟨rfl, hP, hK, hE⟩ := hv
  have hx := B.exec
  have hb := B.bytes
  have hr := B.returns
  have hts := atoms_spec (ws := wsX1_tell) B.pre
  have hown : s.vm.findClass RX1 = some m.cls := findClass_of_methodNamed B.named
  have hlocks := B.notSynchronized
  have hS : va_S (aS 75 ad) s.heap s.heap [] := va_S.rf
  have hinX1 : ∀ w ∈ wsX10, w ∈ wsX1_tell := by decide +kernel
  have hl := lv_entry ([.ref (ad 71), .int (J a1)]) (n := 2) (Nat.le_of_ble_eq_true rfl)
  rw [lg_entry_eq]
  generalize (lg_sl ([.ref (ad 71), .int (J a1)]) ++ List.replicate (2 - (lg_sl ([.ref (ad 71), .int (J a1)])).length) Slot.unset).toArray = ls at hl ⊢
  have hl : lv_has ls 2 [(0, .ref (ad 71)), (1, .int (J a1))] := hl
  unfold fX1_tell at hf
  refine lv_aload_n hx hb dX1_tell_0 rfl (lv_at hl 0 rfl) ?_
  refine va_get (D := D) (ci := 1) (v := .int (J (M 71 3))) (C := RX1) (T := TX1) (N := 6) hx hb hts hinX1 hown hK hP 71 (wL_get (by decide) (gX_d0 _)) rfl 3 (by decide) (hts (.fieldLink RX1 63 "VisitVans$Pad" "toldCount" "I") (List.mem_of_getElem? (i := 1) rfl)) (fun _ h => h) rfl dX1_tell_1 ?_
  refine lv_bipush (v := J 6) hx hb dX1_tell_4 (by decide +kernel) ?_
  obtain ⟨M_2, h2, hf⟩ := bnd_some hf
  have K2 : ∀ (H : Heap) (locs : List Loc) (ls : Array Slot), RR M_2 → va_P D vwCl (wX ca ad M_2) H → va_S (aS 75 ad) s.heap H locs → lv_has ls 2 [] → W p l e (headSpec wsX1_tell (RmC 0 0)).room s m ([.ref (ad 71), .int (J a1)] : List Value).toArray below meth c H locs 0 0 (MQ below (va_Qv (fun (_ : Unit) => (RR M')) (fun _ => (OX D ca ad M')) (aS 75 ad)) ([.ref (ad 71), .int (J a1)] : List Value).toArray s 0 0 (aS 75 ad)) (F0 m 29 ls []) := by
    intro H locs ls hRM_2  hP hS hl
    have e2 := Option.some.inj hf
    exact jend_v hx hb hr hS (by rw [← e2]; exact hRM_2) (oX e2 hP) dX1_tell_29 hlocks
  have hf := h2
  clear h2
  refine jv_icmp_ge (tgt := 29) hx hb dX1_tell_6 (by decide) (hR 71 3) (by decide : inR 6) (fun c1 => ?_) (fun c1 => ?_)
  · have hf := itep hf c1
    cases hf
    exact K2 _ _ _ hR hP hS (lv_sub hl [] rfl)
  · have hf := iten hf c1
    refine lv_aload_n hx hb dX1_tell_9 rfl (lv_at hl 0 rfl) ?_
    refine va_get (D := D) (ci := 1) (v := .ref (ad 73)) (C := RX1) (T := TX1) (N := 6) hx hb hts hinX1 hown hK hP 71 (wL_get (by decide) (gX_d0 _)) rfl 4 (by decide) (hts (.fieldLink RX1 15 "VisitVans$Pad" "told" "[I") (List.mem_of_getElem? (i := 2) rfl)) (fun _ h => h) rfl dX1_tell_10 ?_
    refine lv_aload_n hx hb dX1_tell_13 rfl (lv_at hl 0 rfl) ?_
    refine va_get (D := D) (ci := 1) (v := .int (J (M 71 3))) (C := RX1) (T := TX1) (N := 6) hx hb hts hinX1 hown hK hP 71 (wL_get (by decide) (gX_d0 _)) rfl 3 (by decide) (hts (.fieldLink RX1 63 "VisitVans$Pad" "toldCount" "I") (List.mem_of_getElem? (i := 1) rfl)) (fun _ h => h) rfl dX1_tell_14 ?_
    refine lv_iload_n hx hb dX1_tell_17 rfl (lv_at hl 1 rfl) ?_
    obtain ⟨M3, qM3, hf⟩ := bnd_some hf
    obtain ⟨bM3, zM3, eM3⟩ := wr_some qM3
    have hRM3 : RR M3 := by rw [eM3]; exact RR_st hR _ _ zM3
    refine jx_iast hx hb hK hP hI hS 73 0 (by decide) gX_d2 rfl (by decide) bM3 zM3 dX1_tell_18 (fun H locs hP hS => ?_)
    rw [← eM3] at hP
    refine lv_aload_n hx hb dX1_tell_19 rfl (lv_at hl 0 rfl) ?_
    refine lv_dup hx hb dX1_tell_20 rfl ?_
    refine va_get (D := D) (ci := 1) (v := .int (J (M3 71 3))) (C := RX1) (T := TX1) (N := 6) hx hb hts hinX1 hown hK hP 71 (wL_get (by decide) (gX_d0 _)) rfl 3 (by decide) (hts (.fieldLink RX1 63 "VisitVans$Pad" "toldCount" "I") (List.mem_of_getElem? (i := 1) rfl)) (fun _ h => h) rfl dX1_tell_21 ?_
    refine lv_iconst (v := J 1) hx hb dX1_tell_24 rfl ?_
    refine jv_iadd hx hb dX1_tell_25 ?_
    obtain ⟨g4, hf⟩ := gd_some hf
    obtain ⟨M5, eM5, hf⟩ := bnd_some hf
    have eM5 := Option.some.inj eM5
    have hRM5 : RR M5 := by rw [← eM5]; exact RR_st hRM3 71 3 g4
    refine va_put (D := D) (ci := 1) (v := .int (J ((M3 71 3) + 1))) (ty := .int) (C := RX1) (T := TX1) (N := 6) hx hb hts hinX1 tyX1 tyX1_ok nmX1 hown hK hP (wL_D hI M3) hS 71 (wL_get (by decide) (gX_d0 _)) rfl 3 (by decide) (hts (.fieldLink RX1 63 "VisitVans$Pad" "toldCount" "I") (List.mem_of_getElem? (i := 1) rfl)) (fun _ h => h) rfl rfl rfl rfl (Nat.le_of_ble_eq_true rfl) dX1_tell_26 (fun H locs hP hD hS => ?_)
    have hP : va_P D vwCl (wX ca ad M5) H := by rw [← eM5]; exact hPset (gX_d0_s3) stM_o hP
    cases hf
    exact K2 _ _ _ hRM5 hP hS (lv_sub hl [] rfl)
def fX1_readNumber_L25 : Nat → Int → Int → MM → Option (Int × MM)
  | 0, _, _, _ => none
  | n + 1, x1_6, x2_6, M_6 => if 3 ≤ x2_6 then some (x1_6, M_6) else if x1_6 ≤ 0 then some (x1_6, M_6) else bnd (fX1_nextDigit M_6) (fun v9 => if v9 = (-6) then some (x1_6, M_6) else bnd (fX1_nextDigit M_6) (fun v12 => gd (inR ((M_6 71 2) + 1)) (bnd (some (stM M_6 71 2 ((M_6 71 2) + 1))) (fun M15 => gd (inR ((x1_6 * 10) + v12)) (gd (inR (x2_6 + 1)) (fX1_readNumber_L25 n ((x1_6 * 10) + v12) (x2_6 + 1) M15))))))
def fX1_readNumber (M : MM) : Option (Int × MM) := bnd (fX1_nextDigit M) (fun v1 => if v1 = (-6) then some (0, M) else gd (inR ((M 71 2) + 1)) (bnd (some (stM M 71 2 ((M 71 2) + 1))) (fun M5 => bnd2 (fX1_readNumber_L25 4000 v1 1 M5) (fun y6_0 N_6 => bnd (fX1_tell y6_0 N_6) (fun M19 => some (1, M19))))))
set_option maxHeartbeats 4000000 in
set_option maxRecDepth 100000 in
theorem kX1_readNumber (l : Launch) (D : va_G) (ca : Nat → ClassId) (v : EV) (ad : Nat → Nat) (hI : aInj 75 ad) (M : MM) (hR : RR M) (res : Int) (M' : MM) (hf : fX1_readNumber M = some (res, M')) : CI l yX1_readNumber wsX1_readNumber 2 43 [.ref (ad 71)] (PX D ca v ad M) res (inR res ∧ RR M') (OX D ca ad M') (aS 75 ad) := by
  refine Met.ofW (cc := cX1_readNumber) (maxL := 3) (ret := (some .boolean)) (by decide) rfl ?_
  intro p e s m args below meth c s₁ B hml hv
  obtain ⟨rfl, hP, hK, hE⟩ := hv
  have hx := B.exec
  have hb := B.bytes
  have hr := B.returns
  have hts := atoms_spec (ws := wsX1_readNumber) B.pre
  have hown : s.vm.findClass RX1 = some m.cls := findClass_of_methodNamed B.named
  have hlocks := B.notSynchronized
  have hS : va_S (aS 75 ad) s.heap s.heap [] := va_S.rf
  have hinX1 : ∀ w ∈ wsX10, w ∈ wsX1_readNumber := by decide +kernel
  have hl := lv_entry ([.ref (ad 71)]) (n := 3) (Nat.le_of_ble_eq_true rfl)
  rw [lg_entry_eq]
  generalize (lg_sl ([.ref (ad 71)]) ++ List.replicate (3 - (lg_sl ([.ref (ad 71)])).length) Slot.unset).toArray = ls at hl ⊢
  have hl : lv_has ls 3 [(0, .ref (ad 71))] := hl
  unfold fX1_readNumber at hf
  refine lv_aload_n hx hb dX1_readNumber_0 rfl (lv_at hl 0 rfl) ?_
  obtain ⟨v1, qv1, hf⟩ := bnd_some hf
  refine jc_i (va_runV (As := []) (rest := []) ⟨hx, hb, hml, hown, hts⟩ (kX1_nextDigit l D ca v ad hI M hR v1 qv1) (cwV 0 hts gX1_readNumber_X1_nextDigit rfl rfl rfl (by decide +kernel) ⟨Nat.le_of_ble_eq_true rfl, Nat.le_of_ble_eq_true rfl⟩) (pvX hK hE hP hS [] (by decide) (gX_d0 _) rfl) rfl rfl hl.1 rfl (lv_room (Nat.le_of_ble_eq_true rfl)) dX1_readNumber_1 ⟨Nat.zero_le _, Nat.zero_le _⟩) hS (fun H locs t ht hφ hO hS => ?_)
  have rv1 := hφ
  have hP : va_P D vwCl (wX ca ad M) H := by rw [← ht]; exact hO
  refine lv_istore_n (lv' := [(1, .int (J v1)), (0, .ref (ad 71))]) hx hb dX1_readNumber_4 rfl hl (by decide) rfl (fun ls hl => ?_)
  refine lv_iload_n hx hb dX1_readNumber_5 rfl (lv_at hl 0 rfl) ?_
  refine lv_bipush (v := J (-6)) hx hb dX1_readNumber_6 (by decide +kernel) ?_
  refine jv_icmp_ne (tgt := 13) hx hb dX1_readNumber_8 (by decide) rv1 (by decide : inR (-6)) (fun c3 => ?_) (fun c3 => ?_)
  · have hf := iten hf c3
    refine lv_aload_n hx hb dX1_readNumber_13 rfl (lv_at hl 1 rfl) ?_
    refine lv_dup hx hb dX1_readNumber_14 rfl ?_
    refine va_get (D := D) (ci := 1) (v := .int (J (M 71 2))) (C := RX1) (T := TX1) (N := 6) hx hb hts hinX1 hown hK hP 71 (wL_get (by decide) (gX_d0 _)) rfl 2 (by decide) (hts (.fieldLink RX1 29 "VisitVans$Pad" "at" "I") (List.mem_of_getElem? (i := 1) rfl)) (fun _ h => h) rfl dX1_readNumber_15 ?_
    refine lv_iconst (v := J 1) hx hb dX1_readNumber_18 rfl ?_
    refine jv_iadd hx hb dX1_readNumber_19 ?_
    obtain ⟨g4, hf⟩ := gd_some hf
    obtain ⟨M5, eM5, hf⟩ := bnd_some hf
    have eM5 := Option.some.inj eM5
    have hRM5 : RR M5 := by rw [← eM5]; exact RR_st hR 71 2 g4
    refine va_put (D := D) (ci := 1) (v := .int (J ((M 71 2) + 1))) (ty := .int) (C := RX1) (T := TX1) (N := 6) hx hb hts hinX1 tyX1 tyX1_ok nmX1 hown hK hP (wL_D hI M) hS 71 (wL_get (by decide) (gX_d0 _)) rfl 2 (by decide) (hts (.fieldLink RX1 29 "VisitVans$Pad" "at" "I") (List.mem_of_getElem? (i := 1) rfl)) (fun _ h => h) rfl rfl rfl rfl (Nat.le_of_ble_eq_true rfl) dX1_readNumber_20 (fun H locs hP hD hS => ?_)
    have hP : va_P D vwCl (wX ca ad M5) H := by rw [← eM5]; exact hPset (gX_d0_s2) stM_o hP
    refine lv_iconst (v := J 1) hx hb dX1_readNumber_23 rfl ?_
    refine lv_istore_n (lv' := [(2, .int (J 1)), (1, .int (J v1)), (0, .ref (ad 71))]) hx hb dX1_readNumber_24 rfl hl (by decide) rfl (fun ls hl => ?_)
    obtain ⟨y6_0, N_6, h6, hf⟩ := bnd2_some hf
    have K6 : ∀ (H : Heap) (locs : List Loc) (ls : Array Slot), inR y6_0 → RR N_6 → va_P D vwCl (wX ca ad N_6) H → va_S (aS 75 ad) s.heap H locs → lv_has ls 3 [(0, .ref (ad 71)), (1, .int (J y6_0))] → W p l e (headSpec wsX1_readNumber (RmC 2 43)).room s m ([.ref (ad 71)] : List Value).toArray below meth c H locs 0 0 (MQ below (va_Qi (fun x (_ : Unit) => x = J res ∧ (inR res ∧ RR M')) (fun _ => (OX D ca ad M')) (aS 75 ad)) ([.ref (ad 71)] : List Value).toArray s 0 0 (aS 75 ad)) (F0 m 69 ls []) := by
      intro H locs ls ry6_0 hRN_6 hP hS hl
      refine lv_aload_n hx hb dX1_readNumber_69 rfl (lv_at hl 0 rfl) ?_
      refine lv_iload_n hx hb dX1_readNumber_70 rfl (lv_at hl 1 rfl) ?_
      obtain ⟨M19, qM19, hf⟩ := bnd_some hf
      refine jc_v (va_runV (As := [.int (J y6_0)]) (rest := []) ⟨hx, hb, hml, hown, hts⟩ (kX1_tell l D ca v ad hI N_6 hRN_6 y6_0 ry6_0 M19 qM19) (cwV 1 hts gX1_readNumber_X1_tell rfl rfl rfl (by decide +kernel) ⟨Nat.le_of_ble_eq_true rfl, Nat.le_of_ble_eq_true rfl⟩) (pvX hK hE hP hS [.int (J y6_0)] (by decide) (gX_d0 _) rfl) rfl rfl hl.1 rfl (lv_room (Nat.le_of_ble_eq_true rfl)) dX1_readNumber_71 ⟨Nat.zero_le _, Nat.zero_le _⟩) hS (fun H locs t ht hφ hO hS => ?_)
      have hRM19 := hφ
      have hP : va_P D vwCl (wX ca ad M19) H := by rw [← ht]; exact hO
      refine lv_iconst (v := J 1) hx hb dX1_readNumber_74 rfl ?_
      obtain ⟨e1, e2⟩ := Prod.mk.inj (Option.some.inj hf)
      exact jend_i hx hb hr (by decide) hS e1 ⟨by rw [← e1]; exact (by decide : inR 1), by rw [← e2]; exact hRM19⟩ (oX e2 hP) dX1_readNumber_75 hlocks
    have hL6 : ∀ (n : Nat) (x1_6 : Int) (x2_6 : Int) (M_6 : MM) (H : Heap) (locs : List Loc) (ls : Array Slot), inR x1_6 → inR x2_6 → RR M_6 → va_P D vwCl (wX ca ad M_6) H → va_S (aS 75 ad) s.heap H locs → lv_has ls 3 [(0, .ref (ad 71)), (1, .int (J x1_6)), (2, .int (J x2_6))] → fX1_readNumber_L25 n x1_6 x2_6 M_6 = some (y6_0, N_6) → W p l e (headSpec wsX1_readNumber (RmC 2 43)).room s m ([.ref (ad 71)] : List Value).toArray below meth c H locs 0 0 (MQ below (va_Qi (fun x (_ : Unit) => x = J res ∧ (inR res ∧ RR M')) (fun _ => (OX D ca ad M')) (aS 75 ad)) ([.ref (ad 71)] : List Value).toArray s 0 0 (aS 75 ad)) (F0 m 25 ls []) := by
      intro n
      induction n with
      | zero =>
        intro x1_6 x2_6 M_6 H locs ls rx1_6 rx2_6 hRM_6 hP hS hl hf
        rw [fX1_readNumber_L25] at hf
        cases hf
      | succ n ih =>
        intro x1_6 x2_6 M_6 H locs ls rx1_6 rx2_6 hRM_6 hP hS hl hf
        rw [fX1_readNumber_L25] at hf
        refine lv_iload_n hx hb dX1_readNumber_25 rfl (lv_at hl 2 rfl) ?_
        refine lv_iconst (v := J 3) hx hb dX1_readNumber_26 rfl ?_
        refine jv_icmp_ge (tgt := 69) hx hb dX1_readNumber_27 (by decide) rx2_6 (by decide : inR 3) (fun c7 => ?_) (fun c7 => ?_)
        · have hf := itep hf c7
          cases hf
          exact K6 _ _ _ rx1_6 hRM_6 hP hS (lv_sub hl [0, 1] rfl)
        · have hf := iten hf c7
          refine lv_iload_n hx hb dX1_readNumber_30 rfl (lv_at hl 1 rfl) ?_
          refine jv_if_le (tgt := 69) hx hb dX1_readNumber_31 (by decide) rx1_6 (fun c8 => ?_) (fun c8 => ?_)
          · have hf := itep hf c8
            cases hf
            exact K6 _ _ _ rx1_6 hRM_6 hP hS (lv_sub hl [0, 1] rfl)
          · have hf := iten hf c8
            refine lv_aload_n hx hb dX1_readNumber_34 rfl (lv_at hl 0 rfl) ?_
            obtain ⟨v9, qv9, hf⟩ := bnd_some hf
            refine jc_i (va_runV (As := []) (rest := []) ⟨hx, hb, hml, hown, hts⟩ (kX1_nextDigit l D ca v ad hI M_6 hRM_6 v9 qv9) (cwV 0 hts gX1_readNumber_X1_nextDigit rfl rfl rfl (by decide +kernel) ⟨Nat.le_of_ble_eq_true rfl, Nat.le_of_ble_eq_true rfl⟩) (pvX hK hE hP hS [] (by decide) (gX_d0 _) rfl) rfl rfl hl.1 rfl (lv_room (Nat.le_of_ble_eq_true rfl)) dX1_readNumber_35 ⟨Nat.zero_le _, Nat.zero_le _⟩) hS (fun H locs t ht hφ hO hS => ?_)
            have rv9 := hφ
            have hP : va_P D vwCl (wX ca ad M_6) H := by rw [← ht]; exact hO
            refine lv_bipush (v := J (-6)) hx hb dX1_readNumber_38 (by decide +kernel) ?_
            refine jv_icmp_eq (tgt := 69) hx hb dX1_readNumber_40 (by decide) rv9 (by decide : inR (-6)) (fun c11 => ?_) (fun c11 => ?_)
            · have hf := itep hf c11
              cases hf
              exact K6 _ _ _ rx1_6 hRM_6 hP hS (lv_sub hl [0, 1] rfl)
            · have hf := iten hf c11
              refine lv_iload_n hx hb dX1_readNumber_43 rfl (lv_at hl 1 rfl) ?_
              refine lv_bipush (v := J 10) hx hb dX1_readNumber_44 (by decide +kernel) ?_
              refine jv_imul hx hb dX1_readNumber_46 ?_
              refine lv_aload_n hx hb dX1_readNumber_47 rfl (lv_at hl 0 rfl) ?_
              obtain ⟨v12, qv12, hf⟩ := bnd_some hf
              refine jc_i (va_runV (As := []) (rest := [.int (J (x1_6 * 10))]) ⟨hx, hb, hml, hown, hts⟩ (kX1_nextDigit l D ca v ad hI M_6 hRM_6 v12 qv12) (cwV 0 hts gX1_readNumber_X1_nextDigit rfl rfl rfl (by decide +kernel) ⟨Nat.le_of_ble_eq_true rfl, Nat.le_of_ble_eq_true rfl⟩) (pvX hK hE hP hS [] (by decide) (gX_d0 _) rfl) rfl rfl hl.1 rfl (lv_room (Nat.le_of_ble_eq_true rfl)) dX1_readNumber_48 ⟨Nat.zero_le _, Nat.zero_le _⟩) hS (fun H locs t ht hφ hO hS => ?_)
              have rv12 := hφ
              have hP : va_P D vwCl (wX ca ad M_6) H := by rw [← ht]; exact hO
              refine jv_iadd hx hb dX1_readNumber_51 ?_
              refine lv_istore_n (lv' := [(1, .int (J ((x1_6 * 10) + v12))), (0, .ref (ad 71)), (2, .int (J x2_6))]) hx hb dX1_readNumber_52 rfl hl (by decide) rfl (fun ls hl => ?_)
              refine lv_aload_n hx hb dX1_readNumber_53 rfl (lv_at hl 1 rfl) ?_
              refine lv_dup hx hb dX1_readNumber_54 rfl ?_
              refine va_get (D := D) (ci := 1) (v := .int (J (M_6 71 2))) (C := RX1) (T := TX1) (N := 6) hx hb hts hinX1 hown hK hP 71 (wL_get (by decide) (gX_d0 _)) rfl 2 (by decide) (hts (.fieldLink RX1 29 "VisitVans$Pad" "at" "I") (List.mem_of_getElem? (i := 1) rfl)) (fun _ h => h) rfl dX1_readNumber_55 ?_
              refine lv_iconst (v := J 1) hx hb dX1_readNumber_58 rfl ?_
              refine jv_iadd hx hb dX1_readNumber_59 ?_
              obtain ⟨g14, hf⟩ := gd_some hf
              obtain ⟨M15, eM15, hf⟩ := bnd_some hf
              have eM15 := Option.some.inj eM15
              have hRM15 : RR M15 := by rw [← eM15]; exact RR_st hRM_6 71 2 g14
              refine va_put (D := D) (ci := 1) (v := .int (J ((M_6 71 2) + 1))) (ty := .int) (C := RX1) (T := TX1) (N := 6) hx hb hts hinX1 tyX1 tyX1_ok nmX1 hown hK hP (wL_D hI M_6) hS 71 (wL_get (by decide) (gX_d0 _)) rfl 2 (by decide) (hts (.fieldLink RX1 29 "VisitVans$Pad" "at" "I") (List.mem_of_getElem? (i := 1) rfl)) (fun _ h => h) rfl rfl rfl rfl (Nat.le_of_ble_eq_true rfl) dX1_readNumber_60 (fun H locs hP hD hS => ?_)
              have hP : va_P D vwCl (wX ca ad M15) H := by rw [← eM15]; exact hPset (gX_d0_s2) stM_o hP
              refine lv_iinc (v := J (x2_6 + 1)) (lv' := [(2, .int (J (x2_6 + 1))), (1, .int (J ((x1_6 * 10) + v12))), (0, .ref (ad 71))]) hx hb dX1_readNumber_63 hl (k := 2) rfl (J_add _ _) (by decide) rfl (fun ls hl => ?_)
              refine lv_goto (tgt := 25) hx hb dX1_readNumber_66 (by decide) ?_
              obtain ⟨g16, hf⟩ := gd_some hf
              obtain ⟨g17, hf⟩ := gd_some hf
              exact ih _ _ _ _ _ _ g16 g17 hRM15 hP hS (lv_sub hl [2, 1, 0] rfl) hf
    exact hL6 4000 _ _ _ _ _ _ rv1 (by decide : inR 1) hRM5 hP hS (lv_sub hl [2, 1, 0] rfl) h6
  · have hf := itep hf c3
    refine lv_iconst (v := J 0) hx hb dX1_readNumber_11 rfl ?_
    obtain ⟨e1, e2⟩ := Prod.mk.inj (Option.some.inj hf)
    exact jend_i hx hb hr (by decide) hS e1 ⟨by rw [← e1]; exact (by decide : inR 0), by rw [← e2]; exact hR⟩ (oX e2 hP) dX1_readNumber_12 hlocks
def fX1_readDigit (M : MM) : Option (Int × MM) := bnd (fX1_nextDigit M) (fun v1 => if v1 = (-6) then some (0, M) else gd (inR ((M 71 2) + 1)) (bnd (some (stM M 71 2 ((M 71 2) + 1))) (fun M5 => bnd (fX1_tell v1 M5) (fun M7 => some (1, M7)))))
set_option maxHeartbeats 4000000 in
set_option maxRecDepth 100000 in
theorem kX1_readDigit (l : Launch) (D : va_G) (ca : Nat → ClassId) (v : EV) (ad : Nat → Nat) (hI : aInj 75 ad) (M : MM) (hR : RR M) (res : Int) (M' : MM) (hf : fX1_readDigit M = some (res, M')) : CI l yX1_readDigit wsX1_readDigit 2 43 [.ref (ad 71)] (PX D ca v ad M) res (inR res ∧ RR M') (OX D ca ad M') (aS 75 ad) := by
  refine Met.ofW (cc := cX1_readDigit) (maxL := 2) (ret := (some .boolean)) (by decide) rfl ?_
  intro p e s m args below meth c s₁ B hml hv
  obtain ⟨rfl, hP, hK, hE⟩ := hv
  have hx := B.exec
  have hb := B.bytes
  have hr := B.returns
  have hts := atoms_spec (ws := wsX1_readDigit) B.pre
  have hown : s.vm.findClass RX1 = some m.cls := findClass_of_methodNamed B.named
  have hlocks := B.notSynchronized
  have hS : va_S (aS 75 ad) s.heap s.heap [] := va_S.rf
  have hinX1 : ∀ w ∈ wsX10, w ∈ wsX1_readDigit := by decide +kernel
  have hl := lv_entry ([.ref (ad 71)]) (n := 2) (Nat.le_of_ble_eq_true rfl)
  rw [lg_entry_eq]
  generalize (lg_sl ([.ref (ad 71)]) ++ List.replicate (2 - (lg_sl ([.ref (ad 71)])).length) Slot.unset).toArray = ls at hl ⊢
  have hl : lv_has ls 2 [(0, .ref (ad 71))] := hl
  unfold fX1_readDigit at hf
  refine lv_aload_n hx hb dX1_readDigit_0 rfl (lv_at hl 0 rfl) ?_
  obtain ⟨v1, qv1, hf⟩ := bnd_some hf
  refine jc_i (va_runV (As := []) (rest := []) ⟨hx, hb, hml, hown, hts⟩ (kX1_nextDigit l D ca v ad hI M hR v1 qv1) (cwV 0 hts gX1_readDigit_X1_nextDigit rfl rfl rfl (by decide +kernel) ⟨Nat.le_of_ble_eq_true rfl, Nat.le_of_ble_eq_true rfl⟩) (pvX hK hE hP hS [] (by decide) (gX_d0 _) rfl) rfl rfl hl.1 rfl (lv_room (Nat.le_of_ble_eq_true rfl)) dX1_readDigit_1 ⟨Nat.zero_le _, Nat.zero_le _⟩) hS (fun H locs t ht hφ hO hS => ?_)
  have rv1 := hφ
  have hP : va_P D vwCl (wX ca ad M) H := by rw [← ht]; exact hO
  refine lv_istore_n (lv' := [(1, .int (J v1)), (0, .ref (ad 71))]) hx hb dX1_readDigit_4 rfl hl (by decide) rfl (fun ls hl => ?_)
  refine lv_iload_n hx hb dX1_readDigit_5 rfl (lv_at hl 0 rfl) ?_
  refine lv_bipush (v := J (-6)) hx hb dX1_readDigit_6 (by decide +kernel) ?_
  refine jv_icmp_ne (tgt := 13) hx hb dX1_readDigit_8 (by decide) rv1 (by decide : inR (-6)) (fun c3 => ?_) (fun c3 => ?_)
  · have hf := iten hf c3
    refine lv_aload_n hx hb dX1_readDigit_13 rfl (lv_at hl 1 rfl) ?_
    refine lv_dup hx hb dX1_readDigit_14 rfl ?_
    refine va_get (D := D) (ci := 1) (v := .int (J (M 71 2))) (C := RX1) (T := TX1) (N := 6) hx hb hts hinX1 hown hK hP 71 (wL_get (by decide) (gX_d0 _)) rfl 2 (by decide) (hts (.fieldLink RX1 29 "VisitVans$Pad" "at" "I") (List.mem_of_getElem? (i := 1) rfl)) (fun _ h => h) rfl dX1_readDigit_15 ?_
    refine lv_iconst (v := J 1) hx hb dX1_readDigit_18 rfl ?_
    refine jv_iadd hx hb dX1_readDigit_19 ?_
    obtain ⟨g4, hf⟩ := gd_some hf
    obtain ⟨M5, eM5, hf⟩ := bnd_some hf
    have eM5 := Option.some.inj eM5
    have hRM5 : RR M5 := by rw [← eM5]; exact RR_st hR 71 2 g4
    refine va_put (D := D) (ci := 1) (v := .int (J ((M 71 2) + 1))) (ty := .int) (C := RX1) (T := TX1) (N := 6) hx hb hts hinX1 tyX1 tyX1_ok nmX1 hown hK hP (wL_D hI M) hS 71 (wL_get (by decide) (gX_d0 _)) rfl 2 (by decide) (hts (.fieldLink RX1 29 "VisitVans$Pad" "at" "I") (List.mem_of_getElem? (i := 1) rfl)) (fun _ h => h) rfl rfl rfl rfl (Nat.le_of_ble_eq_true rfl) dX1_readDigit_20 (fun H locs hP hD hS => ?_)
    have hP : va_P D vwCl (wX ca ad M5) H := by rw [← eM5]; exact hPset (gX_d0_s2) stM_o hP
    refine lv_aload_n hx hb dX1_readDigit_23 rfl (lv_at hl 1 rfl) ?_
    refine lv_iload_n hx hb dX1_readDigit_24 rfl (lv_at hl 0 rfl) ?_
    obtain ⟨M7, qM7, hf⟩ := bnd_some hf
    refine jc_v (va_runV (As := [.int (J v1)]) (rest := []) ⟨hx, hb, hml, hown, hts⟩ (kX1_tell l D ca v ad hI M5 hRM5 v1 rv1 M7 qM7) (cwV 1 hts gX1_readDigit_X1_tell rfl rfl rfl (by decide +kernel) ⟨Nat.le_of_ble_eq_true rfl, Nat.le_of_ble_eq_true rfl⟩) (pvX hK hE hP hS [.int (J v1)] (by decide) (gX_d0 _) rfl) rfl rfl hl.1 rfl (lv_room (Nat.le_of_ble_eq_true rfl)) dX1_readDigit_25 ⟨Nat.zero_le _, Nat.zero_le _⟩) hS (fun H locs t ht hφ hO hS => ?_)
    have hRM7 := hφ
    have hP : va_P D vwCl (wX ca ad M7) H := by rw [← ht]; exact hO
    refine lv_iconst (v := J 1) hx hb dX1_readDigit_28 rfl ?_
    obtain ⟨e1, e2⟩ := Prod.mk.inj (Option.some.inj hf)
    exact jend_i hx hb hr (by decide) hS e1 ⟨by rw [← e1]; exact (by decide : inR 1), by rw [← e2]; exact hRM7⟩ (oX e2 hP) dX1_readDigit_29 hlocks
  · have hf := itep hf c3
    refine lv_iconst (v := J 0) hx hb dX1_readDigit_11 rfl ?_
    obtain ⟨e1, e2⟩ := Prod.mk.inj (Option.some.inj hf)
    exact jend_i hx hb hr (by decide) hS e1 ⟨by rw [← e1]; exact (by decide : inR 0), by rw [← e2]; exact hR⟩ (oX e2 hP) dX1_readDigit_12 hlocks
def fX1_readSkills_L4 : Nat → Int → Int → MM → Option (Int × MM)
  | 0, _, _, _ => none
  | n + 1, x1_1, x2_1, M_1 => if 80 ≤ x2_1 then some (x1_1, M_1) else bnd (fX1_nextDigit M_1) (fun v3 => bnd (fX4_within v3 0 3) (fun v5 => if v5 = 0 then some (x1_1, M_1) else bnd (fX1_nextDigit M_1) (fun v8 => gd (inR ((M_1 71 2) + 1)) (bnd (some (stM M_1 71 2 ((M_1 71 2) + 1))) (fun M11 => gd (inR (x2_1 + 1)) (fX1_readSkills_L4 n (ior x1_1 (ishl 1 v8)) (x2_1 + 1) M11))))))
def fX1_readSkills (M : MM) : Option (Int × MM) := bnd2 (fX1_readSkills_L4 4000 0 0 M) (fun y1_0 N_1 => bnd (fX1_tell y1_0 N_1) (fun M14 => bnd (if y1_0 = 0 then some ((0 : Int)) else some ((1 : Int))) (fun y16_0 => gd (y16_0 = 0 ∨ y16_0 = 1) (some (y16_0, M14)))))
set_option maxHeartbeats 4000000 in
set_option maxRecDepth 100000 in
theorem kX1_readSkills (l : Launch) (D : va_G) (ca : Nat → ClassId) (v : EV) (ad : Nat → Nat) (hI : aInj 75 ad) (M : MM) (hR : RR M) (res : Int) (M' : MM) (hf : fX1_readSkills M = some (res, M')) : CI l yX1_readSkills wsX1_readSkills 2 43 [.ref (ad 71)] (PX D ca v ad M) res (inR res ∧ RR M') (OX D ca ad M') (aS 75 ad) := by
  refine Met.ofW (cc := cX1_readSkills) (maxL := 3) (ret := (some .boolean)) (by decide) rfl ?_
  intro p e s m args below meth c s₁ B hml hv
  obtain ⟨rfl, hP, hK, hE⟩ := hv
  have hx := B.exec
  have hb := B.bytes
  have hr := B.returns
  have hts := atoms_spec (ws := wsX1_readSkills) B.pre
  have hown : s.vm.findClass RX1 = some m.cls := findClass_of_methodNamed B.named
  have hlocks := B.notSynchronized
  have hS : va_S (aS 75 ad) s.heap s.heap [] := va_S.rf
  have hinX1 : ∀ w ∈ wsX10, w ∈ wsX1_readSkills := by decide +kernel
  have hl := lv_entry ([.ref (ad 71)]) (n := 3) (Nat.le_of_ble_eq_true rfl)
  rw [lg_entry_eq]
  generalize (lg_sl ([.ref (ad 71)]) ++ List.replicate (3 - (lg_sl ([.ref (ad 71)])).length) Slot.unset).toArray = ls at hl ⊢
  have hl : lv_has ls 3 [(0, .ref (ad 71))] := hl
  unfold fX1_readSkills at hf
  refine lv_iconst (v := J 0) hx hb dX1_readSkills_0 rfl ?_
  refine lv_istore_n (lv' := [(1, .int (J 0)), (0, .ref (ad 71))]) hx hb dX1_readSkills_1 rfl hl (by decide) rfl (fun ls hl => ?_)
  refine lv_iconst (v := J 0) hx hb dX1_readSkills_2 rfl ?_
  refine lv_istore_n (lv' := [(2, .int (J 0)), (1, .int (J 0)), (0, .ref (ad 71))]) hx hb dX1_readSkills_3 rfl hl (by decide) rfl (fun ls hl => ?_)
  obtain ⟨y1_0, N_1, h1, hf⟩ := bnd2_some hf
  have K1 : ∀ (H : Heap) (locs : List Loc) (ls : Array Slot), inR y1_0 → RR N_1 → va_P D vwCl (wX ca ad N_1) H → va_S (aS 75 ad) s.heap H locs → lv_has ls 3 [(0, .ref (ad 71)), (1, .int (J y1_0))] → W p l e (headSpec wsX1_readSkills (RmC 2 43)).room s m ([.ref (ad 71)] : List Value).toArray below meth c H locs 0 0 (MQ below (va_Qi (fun x (_ : Unit) => x = J res ∧ (inR res ∧ RR M')) (fun _ => (OX D ca ad M')) (aS 75 ad)) ([.ref (ad 71)] : List Value).toArray s 0 0 (aS 75 ad)) (F0 m 47 ls []) := by
    intro H locs ls ry1_0 hRN_1 hP hS hl
    refine lv_aload_n hx hb dX1_readSkills_47 rfl (lv_at hl 0 rfl) ?_
    refine lv_iload_n hx hb dX1_readSkills_48 rfl (lv_at hl 1 rfl) ?_
    obtain ⟨M14, qM14, hf⟩ := bnd_some hf
    refine jc_v (va_runV (As := [.int (J y1_0)]) (rest := []) ⟨hx, hb, hml, hown, hts⟩ (kX1_tell l D ca v ad hI N_1 hRN_1 y1_0 ry1_0 M14 qM14) (cwV 1 hts gX1_readSkills_X1_tell rfl rfl rfl (by decide +kernel) ⟨Nat.le_of_ble_eq_true rfl, Nat.le_of_ble_eq_true rfl⟩) (pvX hK hE hP hS [.int (J y1_0)] (by decide) (gX_d0 _) rfl) rfl rfl hl.1 rfl (lv_room (Nat.le_of_ble_eq_true rfl)) dX1_readSkills_49 ⟨Nat.zero_le _, Nat.zero_le _⟩) hS (fun H locs t ht hφ hO hS => ?_)
    have hRM14 := hφ
    have hP : va_P D vwCl (wX ca ad M14) H := by rw [← ht]; exact hO
    refine lv_iload_n hx hb dX1_readSkills_52 rfl (lv_at hl 1 rfl) ?_
    obtain ⟨y16_0, h16, hf⟩ := bnd_some hf
    have K16 : ∀ (H : Heap) (locs : List Loc) (ls : Array Slot), inR y16_0 → va_P D vwCl (wX ca ad M14) H → va_S (aS 75 ad) s.heap H locs → lv_has ls 3 [] → W p l e (headSpec wsX1_readSkills (RmC 2 43)).room s m ([.ref (ad 71)] : List Value).toArray below meth c H locs 0 0 (MQ below (va_Qi (fun x (_ : Unit) => x = J res ∧ (inR res ∧ RR M')) (fun _ => (OX D ca ad M')) (aS 75 ad)) ([.ref (ad 71)] : List Value).toArray s 0 0 (aS 75 ad)) (F0 m 61 ls [.int (J y16_0)]) := by
      intro H locs ls ry16_0  hP hS hl
      obtain ⟨g17, hf⟩ := gd_some hf
      obtain ⟨e1, e2⟩ := Prod.mk.inj (Option.some.inj hf)
      exact jend_i hx hb hr (J_wZ g17).1 hS e1 ⟨by rw [← e1]; exact ry16_0, by rw [← e2]; exact hRM14⟩ (oX e2 hP) dX1_readSkills_61 hlocks
    have hf := h16
    clear h16
    refine jv_if_eq (tgt := 60) hx hb dX1_readSkills_53 (by decide) ry1_0 (fun c15 => ?_) (fun c15 => ?_)
    · have hf := itep hf c15
      refine lv_iconst (v := J 0) hx hb dX1_readSkills_60 rfl ?_
      cases hf
      exact K16 _ _ _ (by decide : inR 0)  hP hS (lv_sub hl [] rfl)
    · have hf := iten hf c15
      refine lv_iconst (v := J 1) hx hb dX1_readSkills_56 rfl ?_
      refine lv_goto (tgt := 61) hx hb dX1_readSkills_57 (by decide) ?_
      cases hf
      exact K16 _ _ _ (by decide : inR 1)  hP hS (lv_sub hl [] rfl)
  have hL1 : ∀ (n : Nat) (x1_1 : Int) (x2_1 : Int) (M_1 : MM) (H : Heap) (locs : List Loc) (ls : Array Slot), inR x1_1 → inR x2_1 → RR M_1 → va_P D vwCl (wX ca ad M_1) H → va_S (aS 75 ad) s.heap H locs → lv_has ls 3 [(0, .ref (ad 71)), (1, .int (J x1_1)), (2, .int (J x2_1))] → fX1_readSkills_L4 n x1_1 x2_1 M_1 = some (y1_0, N_1) → W p l e (headSpec wsX1_readSkills (RmC 2 43)).room s m ([.ref (ad 71)] : List Value).toArray below meth c H locs 0 0 (MQ below (va_Qi (fun x (_ : Unit) => x = J res ∧ (inR res ∧ RR M')) (fun _ => (OX D ca ad M')) (aS 75 ad)) ([.ref (ad 71)] : List Value).toArray s 0 0 (aS 75 ad)) (F0 m 4 ls []) := by
    intro n
    induction n with
    | zero =>
      intro x1_1 x2_1 M_1 H locs ls rx1_1 rx2_1 hRM_1 hP hS hl hf
      rw [fX1_readSkills_L4] at hf
      cases hf
    | succ n ih =>
      intro x1_1 x2_1 M_1 H locs ls rx1_1 rx2_1 hRM_1 hP hS hl hf
      rw [fX1_readSkills_L4] at hf
      refine lv_iload_n hx hb dX1_readSkills_4 rfl (lv_at hl 2 rfl) ?_
      refine lv_bipush (v := J 80) hx hb dX1_readSkills_5 (by decide +kernel) ?_
      refine jv_icmp_ge (tgt := 47) hx hb dX1_readSkills_7 (by decide) rx2_1 (by decide : inR 80) (fun c2 => ?_) (fun c2 => ?_)
      · have hf := itep hf c2
        cases hf
        exact K1 _ _ _ rx1_1 hRM_1 hP hS (lv_sub hl [0, 1] rfl)
      · have hf := iten hf c2
        refine lv_aload_n hx hb dX1_readSkills_10 rfl (lv_at hl 0 rfl) ?_
        obtain ⟨v3, qv3, hf⟩ := bnd_some hf
        refine jc_i (va_runV (As := []) (rest := []) ⟨hx, hb, hml, hown, hts⟩ (kX1_nextDigit l D ca v ad hI M_1 hRM_1 v3 qv3) (cwV 0 hts gX1_readSkills_X1_nextDigit rfl rfl rfl (by decide +kernel) ⟨Nat.le_of_ble_eq_true rfl, Nat.le_of_ble_eq_true rfl⟩) (pvX hK hE hP hS [] (by decide) (gX_d0 _) rfl) rfl rfl hl.1 rfl (lv_room (Nat.le_of_ble_eq_true rfl)) dX1_readSkills_11 ⟨Nat.zero_le _, Nat.zero_le _⟩) hS (fun H locs t ht hφ hO hS => ?_)
        have rv3 := hφ
        have hP : va_P D vwCl (wX ca ad M_1) H := by rw [← ht]; exact hO
        refine lv_iconst (v := J 0) hx hb dX1_readSkills_14 rfl ?_
        refine lv_iconst (v := J 3) hx hb dX1_readSkills_15 rfl ?_
        obtain ⟨v5, qv5, hf⟩ := bnd_some hf
        refine jc_i (va_runSN (As := [.int (J v3), .int (J 0), .int (J 3)]) (rest := []) ⟨hx, hb, hml, hown, hts⟩ (kX4_within l D ca v ad hI M_1 hRM_1 v3 0 3 rv3 (by decide : inR 0) (by decide : inR 3) v5 qv5) ⟨va_cnB 3 hts gX1_readSkills_X4_within_n21 rfl rfl rfl hE.1.2.2.2.1 (hts (.initialized RX4) (List.mem_of_getElem? (i := 14) rfl)) (by decide +kernel) ⟨Nat.le_of_ble_eq_true rfl, Nat.le_of_ble_eq_true rfl⟩, (hts (.static yX4_within) (List.mem_of_getElem? (i := 13) rfl)), trivial⟩ (psX hK hE hP hS [.int (J v3), .int (J 0), .int (J 3)]) rfl rfl hl.1 rfl (lv_room (Nat.le_of_ble_eq_true rfl)) dX1_readSkills_16 ⟨Nat.zero_le _, Nat.zero_le _⟩) hS (fun H locs t ht hφ hO hS => ?_)
        have rv5 := hφ
        have hP : va_P D vwCl (wX ca ad M_1) H := by rw [← ht]; exact hO
        refine jv_if_eq (tgt := 47) hx hb dX1_readSkills_19 (by decide) rv5 (fun c7 => ?_) (fun c7 => ?_)
        · have hf := itep hf c7
          cases hf
          exact K1 _ _ _ rx1_1 hRM_1 hP hS (lv_sub hl [0, 1] rfl)
        · have hf := iten hf c7
          refine lv_iload_n hx hb dX1_readSkills_22 rfl (lv_at hl 1 rfl) ?_
          refine lv_iconst (v := J 1) hx hb dX1_readSkills_23 rfl ?_
          refine lv_aload_n hx hb dX1_readSkills_24 rfl (lv_at hl 0 rfl) ?_
          obtain ⟨v8, qv8, hf⟩ := bnd_some hf
          refine jc_i (va_runV (As := []) (rest := [.int (J 1), .int (J x1_1)]) ⟨hx, hb, hml, hown, hts⟩ (kX1_nextDigit l D ca v ad hI M_1 hRM_1 v8 qv8) (cwV 0 hts gX1_readSkills_X1_nextDigit rfl rfl rfl (by decide +kernel) ⟨Nat.le_of_ble_eq_true rfl, Nat.le_of_ble_eq_true rfl⟩) (pvX hK hE hP hS [] (by decide) (gX_d0 _) rfl) rfl rfl hl.1 rfl (lv_room (Nat.le_of_ble_eq_true rfl)) dX1_readSkills_25 ⟨Nat.zero_le _, Nat.zero_le _⟩) hS (fun H locs t ht hφ hO hS => ?_)
          have rv8 := hφ
          have hP : va_P D vwCl (wX ca ad M_1) H := by rw [← ht]; exact hO
          refine jv_ishl hx hb dX1_readSkills_28 ?_
          refine jv_ior hx hb dX1_readSkills_29 ?_
          refine lv_istore_n (lv' := [(1, .int (J (ior x1_1 (ishl 1 v8)))), (0, .ref (ad 71)), (2, .int (J x2_1))]) hx hb dX1_readSkills_30 rfl hl (by decide) rfl (fun ls hl => ?_)
          refine lv_aload_n hx hb dX1_readSkills_31 rfl (lv_at hl 1 rfl) ?_
          refine lv_dup hx hb dX1_readSkills_32 rfl ?_
          refine va_get (D := D) (ci := 1) (v := .int (J (M_1 71 2))) (C := RX1) (T := TX1) (N := 6) hx hb hts hinX1 hown hK hP 71 (wL_get (by decide) (gX_d0 _)) rfl 2 (by decide) (hts (.fieldLink RX1 29 "VisitVans$Pad" "at" "I") (List.mem_of_getElem? (i := 1) rfl)) (fun _ h => h) rfl dX1_readSkills_33 ?_
          refine lv_iconst (v := J 1) hx hb dX1_readSkills_36 rfl ?_
          refine jv_iadd hx hb dX1_readSkills_37 ?_
          obtain ⟨g10, hf⟩ := gd_some hf
          obtain ⟨M11, eM11, hf⟩ := bnd_some hf
          have eM11 := Option.some.inj eM11
          have hRM11 : RR M11 := by rw [← eM11]; exact RR_st hRM_1 71 2 g10
          refine va_put (D := D) (ci := 1) (v := .int (J ((M_1 71 2) + 1))) (ty := .int) (C := RX1) (T := TX1) (N := 6) hx hb hts hinX1 tyX1 tyX1_ok nmX1 hown hK hP (wL_D hI M_1) hS 71 (wL_get (by decide) (gX_d0 _)) rfl 2 (by decide) (hts (.fieldLink RX1 29 "VisitVans$Pad" "at" "I") (List.mem_of_getElem? (i := 1) rfl)) (fun _ h => h) rfl rfl rfl rfl (Nat.le_of_ble_eq_true rfl) dX1_readSkills_38 (fun H locs hP hD hS => ?_)
          have hP : va_P D vwCl (wX ca ad M11) H := by rw [← eM11]; exact hPset (gX_d0_s2) stM_o hP
          refine lv_iinc (v := J (x2_1 + 1)) (lv' := [(2, .int (J (x2_1 + 1))), (1, .int (J (ior x1_1 (ishl 1 v8)))), (0, .ref (ad 71))]) hx hb dX1_readSkills_41 hl (k := 2) rfl (J_add _ _) (by decide) rfl (fun ls hl => ?_)
          refine lv_goto (tgt := 4) hx hb dX1_readSkills_44 (by decide) ?_
          obtain ⟨g12, hf⟩ := gd_some hf
          exact ih _ _ _ _ _ _ (J_inR _) g12 hRM11 hP hS (lv_sub hl [2, 1, 0] rfl) hf
  exact hL1 4000 _ _ _ _ _ _ (by decide : inR 0) (by decide : inR 0) hR hP hS (lv_sub hl [2, 1, 0] rfl) h1
def fX1_readPiece (a1 : Int) (M : MM) : Option (Int × MM) := if a1 = 100 then bnd2 (fX1_readDigit M) (fun v2 M3 => gd (v2 = 0 ∨ v2 = 1) (some (v2, M3))) else if a1 = 110 then bnd2 (fX1_readNumber M) (fun v5 M6 => gd (v5 = 0 ∨ v5 = 1) (some (v5, M6))) else if a1 = 115 then bnd2 (fX1_readSkills M) (fun v8 M9 => gd (v8 = 0 ∨ v8 = 1) (some (v8, M9))) else bnd2 (fX1_readSign a1 M) (fun v11 M12 => gd (v11 = 0 ∨ v11 = 1) (some (v11, M12)))
set_option maxHeartbeats 4000000 in
set_option maxRecDepth 100000 in
theorem kX1_readPiece (l : Launch) (D : va_G) (ca : Nat → ClassId) (v : EV) (ad : Nat → Nat) (hI : aInj 75 ad) (M : MM) (hR : RR M) (a1 : Int) (i1 : inR a1) (res : Int) (M' : MM) (hf : fX1_readPiece a1 M = some (res, M')) : CI l yX1_readPiece wsX1_readPiece 3 65 [.ref (ad 71), .int (J a1)] (PX D ca v ad M) res (inR res ∧ RR M') (OX D ca ad M') (aS 75 ad) := by
  refine Met.ofW (cc := cX1_readPiece) (maxL := 2) (ret := (some .boolean)) (by decide) rfl ?_
  intro p e s m args below meth c s₁ B hml hv
  obtain ⟨rfl, hP, hK, hE⟩ := hv
  have hx := B.exec
  have hb := B.bytes
  have hr := B.returns
  have hts := atoms_spec (ws := wsX1_readPiece) B.pre
  have hown : s.vm.findClass RX1 = some m.cls := findClass_of_methodNamed B.named
  have hlocks := B.notSynchronized
  have hS : va_S (aS 75 ad) s.heap s.heap [] := va_S.rf
  have hl := lv_entry ([.ref (ad 71), .int (J a1)]) (n := 2) (Nat.le_of_ble_eq_true rfl)
  rw [lg_entry_eq]
  generalize (lg_sl ([.ref (ad 71), .int (J a1)]) ++ List.replicate (2 - (lg_sl ([.ref (ad 71), .int (J a1)])).length) Slot.unset).toArray = ls at hl ⊢
  have hl : lv_has ls 2 [(0, .ref (ad 71)), (1, .int (J a1))] := hl
  unfold fX1_readPiece at hf
  refine lv_iload_n hx hb dX1_readPiece_0 rfl (lv_at hl 1 rfl) ?_
  by_cases c1_0 : a1 = 100
  · have hf := itep hf c1_0
    refine jv_look (off := 40) (tgt := 41) hx hb dX1_readPiece_1 i1 (by decide) (by rw [c1_0]; rfl) (by decide) ?_
    refine lv_aload_n hx hb dX1_readPiece_41 rfl (lv_at hl 0 rfl) ?_
    obtain ⟨v2, M3, qv2, hf⟩ := bnd2_some hf
    refine jc_i (va_runV (As := []) (rest := []) ⟨hx, hb, hml, hown, hts⟩ (kX1_readDigit l D ca v ad hI M hR v2 M3 qv2) (cwV 0 hts gX1_readPiece_X1_readDigit rfl rfl rfl (by decide +kernel) ⟨Nat.le_of_ble_eq_true rfl, Nat.le_of_ble_eq_true rfl⟩) (pvX hK hE hP hS [] (by decide) (gX_d0 _) rfl) rfl rfl hl.1 rfl (lv_room (Nat.le_of_ble_eq_true rfl)) dX1_readPiece_42 ⟨Nat.zero_le _, Nat.zero_le _⟩) hS (fun H locs t ht hφ hO hS => ?_)
    obtain ⟨rv2, hRM3⟩ := hφ
    have hP : va_P D vwCl (wX ca ad M3) H := by rw [← ht]; exact hO
    obtain ⟨g4, hf⟩ := gd_some hf
    obtain ⟨e1, e2⟩ := Prod.mk.inj (Option.some.inj hf)
    exact jend_i hx hb hr (J_wZ g4).1 hS e1 ⟨by rw [← e1]; exact rv2, by rw [← e2]; exact hRM3⟩ (oX e2 hP) dX1_readPiece_45 hlocks
  · have hf := iten hf c1_0
    by_cases c1_1 : a1 = 110
    · have hf := itep hf c1_1
      refine jv_look (off := 35) (tgt := 36) hx hb dX1_readPiece_1 i1 (by decide) (by rw [c1_1]; rfl) (by decide) ?_
      refine lv_aload_n hx hb dX1_readPiece_36 rfl (lv_at hl 0 rfl) ?_
      obtain ⟨v5, M6, qv5, hf⟩ := bnd2_some hf
      refine jc_i (va_runV (As := []) (rest := []) ⟨hx, hb, hml, hown, hts⟩ (kX1_readNumber l D ca v ad hI M hR v5 M6 qv5) (cwV 0 hts gX1_readPiece_X1_readNumber rfl rfl rfl (by decide +kernel) ⟨Nat.le_of_ble_eq_true rfl, Nat.le_of_ble_eq_true rfl⟩) (pvX hK hE hP hS [] (by decide) (gX_d0 _) rfl) rfl rfl hl.1 rfl (lv_room (Nat.le_of_ble_eq_true rfl)) dX1_readPiece_37 ⟨Nat.zero_le _, Nat.zero_le _⟩) hS (fun H locs t ht hφ hO hS => ?_)
      obtain ⟨rv5, hRM6⟩ := hφ
      have hP : va_P D vwCl (wX ca ad M6) H := by rw [← ht]; exact hO
      obtain ⟨g7, hf⟩ := gd_some hf
      obtain ⟨e1, e2⟩ := Prod.mk.inj (Option.some.inj hf)
      exact jend_i hx hb hr (J_wZ g7).1 hS e1 ⟨by rw [← e1]; exact rv5, by rw [← e2]; exact hRM6⟩ (oX e2 hP) dX1_readPiece_40 hlocks
    · have hf := iten hf c1_1
      by_cases c1_2 : a1 = 115
      · have hf := itep hf c1_2
        refine jv_look (off := 45) (tgt := 46) hx hb dX1_readPiece_1 i1 (by decide) (by rw [c1_2]; rfl) (by decide) ?_
        refine lv_aload_n hx hb dX1_readPiece_46 rfl (lv_at hl 0 rfl) ?_
        obtain ⟨v8, M9, qv8, hf⟩ := bnd2_some hf
        refine jc_i (va_runV (As := []) (rest := []) ⟨hx, hb, hml, hown, hts⟩ (kX1_readSkills l D ca v ad hI M hR v8 M9 qv8) (cwV 0 hts gX1_readPiece_X1_readSkills rfl rfl rfl (by decide +kernel) ⟨Nat.le_of_ble_eq_true rfl, Nat.le_of_ble_eq_true rfl⟩) (pvX hK hE hP hS [] (by decide) (gX_d0 _) rfl) rfl rfl hl.1 rfl (lv_room (Nat.le_of_ble_eq_true rfl)) dX1_readPiece_47 ⟨Nat.zero_le _, Nat.zero_le _⟩) hS (fun H locs t ht hφ hO hS => ?_)
        obtain ⟨rv8, hRM9⟩ := hφ
        have hP : va_P D vwCl (wX ca ad M9) H := by rw [← ht]; exact hO
        obtain ⟨g10, hf⟩ := gd_some hf
        obtain ⟨e1, e2⟩ := Prod.mk.inj (Option.some.inj hf)
        exact jend_i hx hb hr (J_wZ g10).1 hS e1 ⟨by rw [← e1]; exact rv8, by rw [← e2]; exact hRM9⟩ (oX e2 hP) dX1_readPiece_50 hlocks
      · have hf := iten hf c1_2
        refine jv_look (off := 50) (tgt := 51) hx hb dX1_readPiece_1 i1 (by decide) (by show Op.lookupswitch.offset [(100, 40), (110, 35), (115, 45)] _ _ = _; rw [Op.lookupswitch.offset_cons, if_neg (by omega), Op.lookupswitch.offset_cons, if_neg (by omega), Op.lookupswitch.offset_cons, if_neg (by omega)]; rfl) (by decide) ?_
        refine lv_aload_n hx hb dX1_readPiece_51 rfl (lv_at hl 0 rfl) ?_
        refine lv_iload_n hx hb dX1_readPiece_52 rfl (lv_at hl 1 rfl) ?_
        obtain ⟨v11, M12, qv11, hf⟩ := bnd2_some hf
        refine jc_i (va_runV (As := [.int (J a1)]) (rest := []) ⟨hx, hb, hml, hown, hts⟩ (kX1_readSign l D ca v ad hI M hR a1 i1 v11 M12 qv11) (cwV 1 hts gX1_readPiece_X1_readSign rfl rfl rfl (by decide +kernel) ⟨Nat.le_of_ble_eq_true rfl, Nat.le_of_ble_eq_true rfl⟩) (pvX hK hE hP hS [.int (J a1)] (by decide) (gX_d0 _) rfl) rfl rfl hl.1 rfl (lv_room (Nat.le_of_ble_eq_true rfl)) dX1_readPiece_53 ⟨Nat.zero_le _, Nat.zero_le _⟩) hS (fun H locs t ht hφ hO hS => ?_)
        obtain ⟨rv11, hRM12⟩ := hφ
        have hP : va_P D vwCl (wX ca ad M12) H := by rw [← ht]; exact hO
        obtain ⟨g13, hf⟩ := gd_some hf
        obtain ⟨e1, e2⟩ := Prod.mk.inj (Option.some.inj hf)
        exact jend_i hx hb hr (J_wZ g13).1 hS e1 ⟨by rw [← e1]; exact rv11, by rw [← e2]; exact hRM12⟩ (oX e2 hP) dX1_readPiece_56 hlocks
def fX1_readOrder_L65 : Nat → Nat → Int → Int → MM → Option (Int × MM)
  | 0, _, _, _, _ => none
  | n + 1, s8, x2_17, x3_17, M_17 => if x2_17 = 0 then some (x2_17, M_17) else bnd (fJ0_length_8abf5 s8) (fun v19 => if v19 ≤ x3_17 then some (x2_17, M_17) else bnd (fJ0_charAt_5068e s8 x3_17) (fun v22 => bnd2 (fX1_readPiece v22 M_17) (fun v24 M25 => gd (inR (x3_17 + 1)) (fX1_readOrder_L65 n s8 v24 (x3_17 + 1) M25))))
def fX1_readOrder_L65b : Nat → Nat → Int → Int → MM → Option (Int × MM)
  | 0, _, _, _, _ => none
  | n + 1, s37, x2_46, x3_46, M_46 => if x2_46 = 0 then some (x2_46, M_46) else bnd (fJ0_length_8abf5 s37) (fun v48 => if v48 ≤ x3_46 then some (x2_46, M_46) else bnd (fJ0_charAt_5068e s37 x3_46) (fun v51 => bnd2 (fX1_readPiece v51 M_46) (fun v53 M54 => gd (inR (x3_46 + 1)) (fX1_readOrder_L65b n s37 v53 (x3_46 + 1) M54))))
def fX1_readOrder (M : MM) : Option (Int × MM) := if (M 71 2) ≤ 0 then bnd (fX1_nextSign M) (fun v2 => gd (0 ≤ v2 ∧ v2 ≤ 65535) (bnd (some (stM M 71 5 v2)) (fun M5 => bnd (fX1_formOf (M5 71 5)) (fun s8 => bnd (fJ0_isEmpty_aae02 s8) (fun v9 => bnd2 (if v9 = 0 then bnd2 (fX1_readSign (M5 71 5) M5) (fun v13 M14 => if v13 = 0 then some ((0 : Int), M14) else some ((1 : Int), M14)) else some ((0 : Int), M5)) (fun y12_0 M_12 => bnd (some (stM M_12 71 3 0)) (fun M16 => bnd2 (fX1_readOrder_L65 4000 s8 y12_0 0 M16) (fun y17_0 N_17 => gd (y17_0 = 0 ∨ y17_0 = 1) (some (y17_0, N_17)))))))))) else bnd2 (fX1_readSign 59 M) (fun v28 M29 => if v28 = 0 then some (0, M29) else bnd (fX1_nextSign M29) (fun v31 => gd (0 ≤ v31 ∧ v31 ≤ 65535) (bnd (some (stM M29 71 5 v31)) (fun M34 => bnd (fX1_formOf (M34 71 5)) (fun s37 => bnd (fJ0_isEmpty_aae02 s37) (fun v38 => bnd2 (if v38 = 0 then bnd2 (fX1_readSign (M34 71 5) M34) (fun v42 M43 => if v42 = 0 then some ((0 : Int), M43) else some ((1 : Int), M43)) else some ((0 : Int), M34)) (fun y41_0 M_41 => bnd (some (stM M_41 71 3 0)) (fun M45 => bnd2 (fX1_readOrder_L65b 4000 s37 y41_0 0 M45) (fun y46_0 N_46 => gd (y46_0 = 0 ∨ y46_0 = 1) (some (y46_0, N_46)))))))))))
set_option maxHeartbeats 4000000 in
set_option maxRecDepth 100000 in
theorem kX1_readOrder (l : Launch) (D : va_G) (ca : Nat → ClassId) (v : EV) (ad : Nat → Nat) (hI : aInj 75 ad) (M : MM) (hR : RR M) (res : Int) (M' : MM) (hf : fX1_readOrder M = some (res, M')) : CI l yX1_readOrder wsX1_readOrder 5 106 [.ref (ad 71)] (PX D ca v ad M) res (inR res ∧ RR M') (OX D ca ad M') (aS 75 ad) := by
  refine Met.ofW (cc := cX1_readOrder) (maxL := 4) (ret := (some .boolean)) (by decide) rfl ?_
  intro p e s m args below meth c s₁ B hml hv
  obtain ⟨rfl, hP, hK, hE⟩ := hv
  have hx := B.exec
  have hb := B.bytes
  have hr := B.returns
  have hts := atoms_spec (ws := wsX1_readOrder) B.pre
  have hown : s.vm.findClass RX1 = some m.cls := findClass_of_methodNamed B.named
  have hlocks := B.notSynchronized
  have hS : va_S (aS 75 ad) s.heap s.heap [] := va_S.rf
  have hinX1 : ∀ w ∈ wsX10, w ∈ wsX1_readOrder := by decide +kernel
  have hl := lv_entry ([.ref (ad 71)]) (n := 4) (Nat.le_of_ble_eq_true rfl)
  rw [lg_entry_eq]
  generalize (lg_sl ([.ref (ad 71)]) ++ List.replicate (4 - (lg_sl ([.ref (ad 71)])).length) Slot.unset).toArray = ls at hl ⊢
  have hl : lv_has ls 4 [(0, .ref (ad 71))] := hl
  unfold fX1_readOrder at hf
  refine lv_aload_n hx hb dX1_readOrder_0 rfl (lv_at hl 0 rfl) ?_
  refine va_get (D := D) (ci := 1) (v := .int (J (M 71 2))) (C := RX1) (T := TX1) (N := 6) hx hb hts hinX1 hown hK hP 71 (wL_get (by decide) (gX_d0 _)) rfl 2 (by decide) (hts (.fieldLink RX1 29 "VisitVans$Pad" "at" "I") (List.mem_of_getElem? (i := 1) rfl)) (fun _ h => h) rfl dX1_readOrder_1 ?_
  refine jv_if_le (tgt := 18) hx hb dX1_readOrder_4 (by decide) (hR 71 2) (fun c1 => ?_) (fun c1 => ?_)
  · have hf := itep hf c1
    refine lv_aload_n hx hb dX1_readOrder_18 rfl (lv_at hl 0 rfl) ?_
    refine lv_aload_n hx hb dX1_readOrder_19 rfl (lv_at hl 0 rfl) ?_
    obtain ⟨v2, qv2, hf⟩ := bnd_some hf
    refine jc_i (va_runV (As := []) (rest := [.ref (ad 71)]) ⟨hx, hb, hml, hown, hts⟩ (kX1_nextSign l D ca v ad hI M hR v2 qv2) (cwV 0 hts gX1_readOrder_X1_nextSign rfl rfl rfl (by decide +kernel) ⟨Nat.le_of_ble_eq_true rfl, Nat.le_of_ble_eq_true rfl⟩) (pvX hK hE hP hS [] (by decide) (gX_d0 _) rfl) rfl rfl hl.1 rfl (lv_room (Nat.le_of_ble_eq_true rfl)) dX1_readOrder_20 ⟨Nat.zero_le _, Nat.zero_le _⟩) hS (fun H locs t ht hφ hO hS => ?_)
    have rv2 := hφ
    have hP : va_P D vwCl (wX ca ad M) H := by rw [← ht]; exact hO
    obtain ⟨g4, hf⟩ := gd_some hf
    obtain ⟨M5, eM5, hf⟩ := bnd_some hf
    have eM5 := Option.some.inj eM5
    have hRM5 : RR M5 := by rw [← eM5]; exact RR_st hR 71 5 ⟨by omega, by omega⟩
    refine va_put (D := D) (ci := 1) (v := .int (J v2)) (ty := .char) (C := RX1) (T := TX1) (N := 6) hx hb hts hinX1 tyX1 tyX1_ok nmX1 hown hK hP (wL_D hI M) hS 71 (wL_get (by decide) (gX_d0 _)) rfl 5 (by decide) (hts (.fieldLink RX1 50 "VisitVans$Pad" "kind" "C") (List.mem_of_getElem? (i := 2) rfl)) (fun _ h => h) rfl rfl (J_wC g4).1 (J_wC g4).2 (Nat.le_of_ble_eq_true rfl) dX1_readOrder_23 (fun H locs hP hD hS => ?_)
    have hP : va_P D vwCl (wX ca ad M5) H := by rw [← eM5]; exact hPset (gX_d0_s5) stM_o hP
    refine lv_aload_n hx hb dX1_readOrder_26 rfl (lv_at hl 0 rfl) ?_
    refine va_get (D := D) (ci := 1) (v := .int (J (M5 71 5))) (C := RX1) (T := TX1) (N := 6) hx hb hts hinX1 hown hK hP 71 (wL_get (by decide) (gX_d0 _)) rfl 5 (by decide) (hts (.fieldLink RX1 50 "VisitVans$Pad" "kind" "C") (List.mem_of_getElem? (i := 2) rfl)) (fun _ h => h) rfl dX1_readOrder_27 ?_
    obtain ⟨s8, qs8, hf⟩ := bnd_some hf
    refine jc_s (va_runS (As := [.int (J (M5 71 5))]) (rest := []) ⟨hx, hb, hml, hown, hts⟩ (kX1_formOf l D ca v ad hI M5 hRM5 (M5 71 5) (hRM5 71 5) s8 qs8) (va_cwS 1 hts gX1_readOrder_X1_formOf rfl rfl rfl (by decide +kernel) ⟨Nat.le_of_ble_eq_true rfl, Nat.le_of_ble_eq_true rfl⟩) (psX hK hE hP hS [.int (J (M5 71 5))]) rfl rfl hl.1 rfl (lv_room (Nat.le_of_ble_eq_true rfl)) dX1_readOrder_30 ⟨Nat.zero_le _, Nat.zero_le _⟩) hS (fun H locs t ht hφ hO hS => ?_)
    have hs8 := hφ
    have hP : va_P D vwCl (wX ca ad M5) H := by rw [← ht]; exact hO
    refine lv_astore_n (lv' := [(1, .ref (v.2.1 s8)), (0, .ref (ad 71))]) hx hb dX1_readOrder_33 rfl hl (by decide) rfl (fun ls hl => ?_)
    refine lv_aload_n hx hb dX1_readOrder_34 rfl (lv_at hl 0 rfl) ?_
    obtain ⟨v9, qv9, hf⟩ := bnd_some hf
    refine jc_i (va_runV (As := []) (rest := []) ⟨hx, hb, hml, hown, hts⟩ (kJ0_isEmpty_aae02 l D ca v ad hI M5 hRM5 s8 hs8 v9 qv9) (cwV 0 hts gX1_readOrder_J0_isEmpty_aae02 rfl rfl rfl (by decide +kernel) ⟨Nat.le_of_ble_eq_true rfl, Nat.le_of_ble_eq_true rfl⟩) (pvS hK hE hP hS [] hs8) rfl rfl hl.1 rfl (lv_room (Nat.le_of_ble_eq_true rfl)) dX1_readOrder_35 ⟨Nat.zero_le _, Nat.zero_le _⟩) hS (fun H locs t ht hφ hO hS => ?_)
    have rv9 := hφ
    have hP : va_P D vwCl (wX ca ad M5) H := by rw [← ht]; exact hO
    obtain ⟨y12_0, M_12, h12, hf⟩ := bnd2_some hf
    have K12 : ∀ (H : Heap) (locs : List Loc) (ls : Array Slot), inR y12_0 → RR M_12 → va_P D vwCl (wX ca ad M_12) H → va_S (aS 75 ad) s.heap H locs → lv_has ls 4 [(0, .ref (ad 71)), (1, .ref (v.2.1 s8))] → W p l e (headSpec wsX1_readOrder (RmC 5 106)).room s m ([.ref (ad 71)] : List Value).toArray below meth c H locs 0 0 (MQ below (va_Qi (fun x (_ : Unit) => x = J res ∧ (inR res ∧ RR M')) (fun _ => (OX D ca ad M')) (aS 75 ad)) ([.ref (ad 71)] : List Value).toArray s 0 0 (aS 75 ad)) (F0 m 57 ls [.int (J y12_0)]) := by
      intro H locs ls ry12_0 hRM_12  hP hS hl
      refine lv_istore_n (lv' := [(2, .int (J y12_0)), (0, .ref (ad 71)), (1, .ref (v.2.1 s8))]) hx hb dX1_readOrder_57 rfl hl (by decide) rfl (fun ls hl => ?_)
      refine lv_aload_n hx hb dX1_readOrder_58 rfl (lv_at hl 1 rfl) ?_
      refine lv_iconst (v := J 0) hx hb dX1_readOrder_59 rfl ?_
      obtain ⟨M16, eM16, hf⟩ := bnd_some hf
      have eM16 := Option.some.inj eM16
      have hRM16 : RR M16 := by rw [← eM16]; exact RR_st hRM_12 71 3 (by decide : inR 0)
      refine va_put (D := D) (ci := 1) (v := .int (J 0)) (ty := .int) (C := RX1) (T := TX1) (N := 6) hx hb hts hinX1 tyX1 tyX1_ok nmX1 hown hK hP (wL_D hI M_12) hS 71 (wL_get (by decide) (gX_d0 _)) rfl 3 (by decide) (hts (.fieldLink RX1 63 "VisitVans$Pad" "toldCount" "I") (List.mem_of_getElem? (i := 3) rfl)) (fun _ h => h) rfl rfl rfl rfl (Nat.le_of_ble_eq_true rfl) dX1_readOrder_60 (fun H locs hP hD hS => ?_)
      have hP : va_P D vwCl (wX ca ad M16) H := by rw [← eM16]; exact hPset (gX_d0_s3) stM_o hP
      refine lv_iconst (v := J 0) hx hb dX1_readOrder_63 rfl ?_
      refine lv_istore_n (lv' := [(3, .int (J 0)), (2, .int (J y12_0)), (0, .ref (ad 71)), (1, .ref (v.2.1 s8))]) hx hb dX1_readOrder_64 rfl hl (by decide) rfl (fun ls hl => ?_)
      obtain ⟨y17_0, N_17, h17, hf⟩ := bnd2_some hf
      have K17 : ∀ (H : Heap) (locs : List Loc) (ls : Array Slot), inR y17_0 → RR N_17 → va_P D vwCl (wX ca ad N_17) H → va_S (aS 75 ad) s.heap H locs → lv_has ls 4 [(2, .int (J y17_0))] → W p l e (headSpec wsX1_readOrder (RmC 5 106)).room s m ([.ref (ad 71)] : List Value).toArray below meth c H locs 0 0 (MQ below (va_Qi (fun x (_ : Unit) => x = J res ∧ (inR res ∧ RR M')) (fun _ => (OX D ca ad M')) (aS 75 ad)) ([.ref (ad 71)] : List Value).toArray s 0 0 (aS 75 ad)) (F0 m 93 ls []) := by
        intro H locs ls ry17_0 hRN_17 hP hS hl
        refine lv_iload_n hx hb dX1_readOrder_93 rfl (lv_at hl 0 rfl) ?_
        obtain ⟨g27, hf⟩ := gd_some hf
        obtain ⟨e1, e2⟩ := Prod.mk.inj (Option.some.inj hf)
        exact jend_i hx hb hr (J_wZ g27).1 hS e1 ⟨by rw [← e1]; exact ry17_0, by rw [← e2]; exact hRN_17⟩ (oX e2 hP) dX1_readOrder_94 hlocks
      have hL17 : ∀ (n : Nat) (x2_17 : Int) (x3_17 : Int) (M_17 : MM) (H : Heap) (locs : List Loc) (ls : Array Slot), inR x2_17 → inR x3_17 → RR M_17 → va_P D vwCl (wX ca ad M_17) H → va_S (aS 75 ad) s.heap H locs → lv_has ls 4 [(0, .ref (ad 71)), (1, .ref (v.2.1 s8)), (2, .int (J x2_17)), (3, .int (J x3_17))] → fX1_readOrder_L65 n s8 x2_17 x3_17 M_17 = some (y17_0, N_17) → W p l e (headSpec wsX1_readOrder (RmC 5 106)).room s m ([.ref (ad 71)] : List Value).toArray below meth c H locs 0 0 (MQ below (va_Qi (fun x (_ : Unit) => x = J res ∧ (inR res ∧ RR M')) (fun _ => (OX D ca ad M')) (aS 75 ad)) ([.ref (ad 71)] : List Value).toArray s 0 0 (aS 75 ad)) (F0 m 65 ls []) := by
        intro n
        induction n with
        | zero =>
          intro x2_17 x3_17 M_17 H locs ls rx2_17 rx3_17 hRM_17 hP hS hl hf
          rw [fX1_readOrder_L65] at hf
          cases hf
        | succ n ih =>
          intro x2_17 x3_17 M_17 H locs ls rx2_17 rx3_17 hRM_17 hP hS hl hf
          rw [fX1_readOrder_L65] at hf
          refine lv_iload_n hx hb dX1_readOrder_65 rfl (lv_at hl 2 rfl) ?_
          refine jv_if_eq (tgt := 93) hx hb dX1_readOrder_66 (by decide) rx2_17 (fun c18 => ?_) (fun c18 => ?_)
          · have hf := itep hf c18
            cases hf
            exact K17 _ _ _ rx2_17 hRM_17 hP hS (lv_sub hl [2] rfl)
          · have hf := iten hf c18
            refine lv_iload_n hx hb dX1_readOrder_69 rfl (lv_at hl 3 rfl) ?_
            refine lv_aload_n hx hb dX1_readOrder_70 rfl (lv_at hl 1 rfl) ?_
            obtain ⟨v19, qv19, hf⟩ := bnd_some hf
            refine jc_i (va_runV (As := []) (rest := [.int (J x3_17)]) ⟨hx, hb, hml, hown, hts⟩ (kJ0_length_8abf5 l D ca v ad hI M_17 hRM_17 s8 hs8 v19 qv19) (cwV 0 hts gX1_readOrder_J0_length_8abf5 rfl rfl rfl (by decide +kernel) ⟨Nat.le_of_ble_eq_true rfl, Nat.le_of_ble_eq_true rfl⟩) (pvS hK hE hP hS [] hs8) rfl rfl hl.1 rfl (lv_room (Nat.le_of_ble_eq_true rfl)) dX1_readOrder_71 ⟨Nat.zero_le _, Nat.zero_le _⟩) hS (fun H locs t ht hφ hO hS => ?_)
            have rv19 := hφ
            have hP : va_P D vwCl (wX ca ad M_17) H := by rw [← ht]; exact hO
            refine jv_icmp_ge (tgt := 93) hx hb dX1_readOrder_74 (by decide) rx3_17 rv19 (fun c21 => ?_) (fun c21 => ?_)
            · have hf := itep hf c21
              cases hf
              exact K17 _ _ _ rx2_17 hRM_17 hP hS (lv_sub hl [2] rfl)
            · have hf := iten hf c21
              refine lv_aload_n hx hb dX1_readOrder_77 rfl (lv_at hl 0 rfl) ?_
              refine lv_aload_n hx hb dX1_readOrder_78 rfl (lv_at hl 1 rfl) ?_
              refine lv_iload_n hx hb dX1_readOrder_79 rfl (lv_at hl 3 rfl) ?_
              obtain ⟨v22, qv22, hf⟩ := bnd_some hf
              refine jc_i (va_runV (As := [.int (J x3_17)]) (rest := [.ref (ad 71)]) ⟨hx, hb, hml, hown, hts⟩ (kJ0_charAt_5068e l D ca v ad hI M_17 hRM_17 s8 hs8 x3_17 rx3_17 v22 qv22) (cwV 1 hts gX1_readOrder_J0_charAt_5068e rfl rfl rfl (by decide +kernel) ⟨Nat.le_of_ble_eq_true rfl, Nat.le_of_ble_eq_true rfl⟩) (pvS hK hE hP hS [.int (J x3_17)] hs8) rfl rfl hl.1 rfl (lv_room (Nat.le_of_ble_eq_true rfl)) dX1_readOrder_80 ⟨Nat.zero_le _, Nat.zero_le _⟩) hS (fun H locs t ht hφ hO hS => ?_)
              have rv22 := hφ
              have hP : va_P D vwCl (wX ca ad M_17) H := by rw [← ht]; exact hO
              obtain ⟨v24, M25, qv24, hf⟩ := bnd2_some hf
              refine jc_i (va_runV (As := [.int (J v22)]) (rest := []) ⟨hx, hb, hml, hown, hts⟩ (kX1_readPiece l D ca v ad hI M_17 hRM_17 v22 rv22 v24 M25 qv24) (cwV 1 hts gX1_readOrder_X1_readPiece rfl rfl rfl (by decide +kernel) ⟨Nat.le_of_ble_eq_true rfl, Nat.le_of_ble_eq_true rfl⟩) (pvX hK hE hP hS [.int (J v22)] (by decide) (gX_d0 _) rfl) rfl rfl hl.1 rfl (lv_room (Nat.le_of_ble_eq_true rfl)) dX1_readOrder_83 ⟨Nat.zero_le _, Nat.zero_le _⟩) hS (fun H locs t ht hφ hO hS => ?_)
              obtain ⟨rv24, hRM25⟩ := hφ
              have hP : va_P D vwCl (wX ca ad M25) H := by rw [← ht]; exact hO
              refine lv_istore_n (lv' := [(2, .int (J v24)), (0, .ref (ad 71)), (1, .ref (v.2.1 s8)), (3, .int (J x3_17))]) hx hb dX1_readOrder_86 rfl hl (by decide) rfl (fun ls hl => ?_)
              refine lv_iinc (v := J (x3_17 + 1)) (lv' := [(3, .int (J (x3_17 + 1))), (2, .int (J v24)), (0, .ref (ad 71)), (1, .ref (v.2.1 s8))]) hx hb dX1_readOrder_87 hl (k := 3) rfl (J_add _ _) (by decide) rfl (fun ls hl => ?_)
              refine lv_goto (tgt := 65) hx hb dX1_readOrder_90 (by decide) ?_
              obtain ⟨g26, hf⟩ := gd_some hf
              exact ih _ _ _ _ _ _ rv24 g26 hRM25 hP hS (lv_sub hl [2, 3, 1, 0] rfl) hf
      exact hL17 4000 _ _ _ _ _ _ ry12_0 (by decide : inR 0) hRM16 hP hS (lv_sub hl [2, 3, 1, 0] rfl) h17
    have hf := h12
    clear h12
    refine jv_if_ne (tgt := 56) hx hb dX1_readOrder_38 (by decide) rv9 (fun c11 => ?_) (fun c11 => ?_)
    · have hf := iten hf c11
      refine lv_iconst (v := J 0) hx hb dX1_readOrder_56 rfl ?_
      cases hf
      exact K12 _ _ _ (by decide : inR 0) hRM5 hP hS (lv_sub hl [1, 0] rfl)
    · have hf := itep hf c11
      refine lv_aload_n hx hb dX1_readOrder_41 rfl (lv_at hl 1 rfl) ?_
      refine lv_aload_n hx hb dX1_readOrder_42 rfl (lv_at hl 1 rfl) ?_
      refine va_get (D := D) (ci := 1) (v := .int (J (M5 71 5))) (C := RX1) (T := TX1) (N := 6) hx hb hts hinX1 hown hK hP 71 (wL_get (by decide) (gX_d0 _)) rfl 5 (by decide) (hts (.fieldLink RX1 50 "VisitVans$Pad" "kind" "C") (List.mem_of_getElem? (i := 2) rfl)) (fun _ h => h) rfl dX1_readOrder_43 ?_
      obtain ⟨v13, M14, qv13, hf⟩ := bnd2_some hf
      refine jc_i (va_runV (As := [.int (J (M5 71 5))]) (rest := []) ⟨hx, hb, hml, hown, hts⟩ (kX1_readSign l D ca v ad hI M5 hRM5 (M5 71 5) (hRM5 71 5) v13 M14 qv13) (cwV 1 hts gX1_readOrder_X1_readSign rfl rfl rfl (by decide +kernel) ⟨Nat.le_of_ble_eq_true rfl, Nat.le_of_ble_eq_true rfl⟩) (pvX hK hE hP hS [.int (J (M5 71 5))] (by decide) (gX_d0 _) rfl) rfl rfl hl.1 rfl (lv_room (Nat.le_of_ble_eq_true rfl)) dX1_readOrder_46 ⟨Nat.zero_le _, Nat.zero_le _⟩) hS (fun H locs t ht hφ hO hS => ?_)
      obtain ⟨rv13, hRM14⟩ := hφ
      have hP : va_P D vwCl (wX ca ad M14) H := by rw [← ht]; exact hO
      refine jv_if_eq (tgt := 56) hx hb dX1_readOrder_49 (by decide) rv13 (fun c15 => ?_) (fun c15 => ?_)
      · have hf := itep hf c15
        refine lv_iconst (v := J 0) hx hb dX1_readOrder_56 rfl ?_
        cases hf
        exact K12 _ _ _ (by decide : inR 0) hRM14 hP hS (lv_sub hl [1, 0] rfl)
      · have hf := iten hf c15
        refine lv_iconst (v := J 1) hx hb dX1_readOrder_52 rfl ?_
        refine lv_goto (tgt := 57) hx hb dX1_readOrder_53 (by decide) ?_
        cases hf
        exact K12 _ _ _ (by decide : inR 1) hRM14 hP hS (lv_sub hl [1, 0] rfl)
  · have hf := iten hf c1
    refine lv_aload_n hx hb dX1_readOrder_7 rfl (lv_at hl 0 rfl) ?_
    refine lv_bipush (v := J 59) hx hb dX1_readOrder_8 (by decide +kernel) ?_
    obtain ⟨v28, M29, qv28, hf⟩ := bnd2_some hf
    refine jc_i (va_runV (As := [.int (J 59)]) (rest := []) ⟨hx, hb, hml, hown, hts⟩ (kX1_readSign l D ca v ad hI M hR 59 (by decide : inR 59) v28 M29 qv28) (cwV 1 hts gX1_readOrder_X1_readSign rfl rfl rfl (by decide +kernel) ⟨Nat.le_of_ble_eq_true rfl, Nat.le_of_ble_eq_true rfl⟩) (pvX hK hE hP hS [.int (J 59)] (by decide) (gX_d0 _) rfl) rfl rfl hl.1 rfl (lv_room (Nat.le_of_ble_eq_true rfl)) dX1_readOrder_10 ⟨Nat.zero_le _, Nat.zero_le _⟩) hS (fun H locs t ht hφ hO hS => ?_)
    obtain ⟨rv28, hRM29⟩ := hφ
    have hP : va_P D vwCl (wX ca ad M29) H := by rw [← ht]; exact hO
    refine jv_if_ne (tgt := 18) hx hb dX1_readOrder_13 (by decide) rv28 (fun c30 => ?_) (fun c30 => ?_)
    · have hf := iten hf c30
      refine lv_aload_n hx hb dX1_readOrder_18 rfl (lv_at hl 0 rfl) ?_
      refine lv_aload_n hx hb dX1_readOrder_19 rfl (lv_at hl 0 rfl) ?_
      obtain ⟨v31, qv31, hf⟩ := bnd_some hf
      refine jc_i (va_runV (As := []) (rest := [.ref (ad 71)]) ⟨hx, hb, hml, hown, hts⟩ (kX1_nextSign l D ca v ad hI M29 hRM29 v31 qv31) (cwV 0 hts gX1_readOrder_X1_nextSign rfl rfl rfl (by decide +kernel) ⟨Nat.le_of_ble_eq_true rfl, Nat.le_of_ble_eq_true rfl⟩) (pvX hK hE hP hS [] (by decide) (gX_d0 _) rfl) rfl rfl hl.1 rfl (lv_room (Nat.le_of_ble_eq_true rfl)) dX1_readOrder_20 ⟨Nat.zero_le _, Nat.zero_le _⟩) hS (fun H locs t ht hφ hO hS => ?_)
      have rv31 := hφ
      have hP : va_P D vwCl (wX ca ad M29) H := by rw [← ht]; exact hO
      obtain ⟨g33, hf⟩ := gd_some hf
      obtain ⟨M34, eM34, hf⟩ := bnd_some hf
      have eM34 := Option.some.inj eM34
      have hRM34 : RR M34 := by rw [← eM34]; exact RR_st hRM29 71 5 ⟨by omega, by omega⟩
      refine va_put (D := D) (ci := 1) (v := .int (J v31)) (ty := .char) (C := RX1) (T := TX1) (N := 6) hx hb hts hinX1 tyX1 tyX1_ok nmX1 hown hK hP (wL_D hI M29) hS 71 (wL_get (by decide) (gX_d0 _)) rfl 5 (by decide) (hts (.fieldLink RX1 50 "VisitVans$Pad" "kind" "C") (List.mem_of_getElem? (i := 2) rfl)) (fun _ h => h) rfl rfl (J_wC g33).1 (J_wC g33).2 (Nat.le_of_ble_eq_true rfl) dX1_readOrder_23 (fun H locs hP hD hS => ?_)
      have hP : va_P D vwCl (wX ca ad M34) H := by rw [← eM34]; exact hPset (gX_d0_s5) stM_o hP
      refine lv_aload_n hx hb dX1_readOrder_26 rfl (lv_at hl 0 rfl) ?_
      refine va_get (D := D) (ci := 1) (v := .int (J (M34 71 5))) (C := RX1) (T := TX1) (N := 6) hx hb hts hinX1 hown hK hP 71 (wL_get (by decide) (gX_d0 _)) rfl 5 (by decide) (hts (.fieldLink RX1 50 "VisitVans$Pad" "kind" "C") (List.mem_of_getElem? (i := 2) rfl)) (fun _ h => h) rfl dX1_readOrder_27 ?_
      obtain ⟨s37, qs37, hf⟩ := bnd_some hf
      refine jc_s (va_runS (As := [.int (J (M34 71 5))]) (rest := []) ⟨hx, hb, hml, hown, hts⟩ (kX1_formOf l D ca v ad hI M34 hRM34 (M34 71 5) (hRM34 71 5) s37 qs37) (va_cwS 1 hts gX1_readOrder_X1_formOf rfl rfl rfl (by decide +kernel) ⟨Nat.le_of_ble_eq_true rfl, Nat.le_of_ble_eq_true rfl⟩) (psX hK hE hP hS [.int (J (M34 71 5))]) rfl rfl hl.1 rfl (lv_room (Nat.le_of_ble_eq_true rfl)) dX1_readOrder_30 ⟨Nat.zero_le _, Nat.zero_le _⟩) hS (fun H locs t ht hφ hO hS => ?_)
      have hs37 := hφ
      have hP : va_P D vwCl (wX ca ad M34) H := by rw [← ht]; exact hO
      refine lv_astore_n (lv' := [(1, .ref (v.2.1 s37)), (0, .ref (ad 71))]) hx hb dX1_readOrder_33 rfl hl (by decide) rfl (fun ls hl => ?_)
      refine lv_aload_n hx hb dX1_readOrder_34 rfl (lv_at hl 0 rfl) ?_
      obtain ⟨v38, qv38, hf⟩ := bnd_some hf
      refine jc_i (va_runV (As := []) (rest := []) ⟨hx, hb, hml, hown, hts⟩ (kJ0_isEmpty_aae02 l D ca v ad hI M34 hRM34 s37 hs37 v38 qv38) (cwV 0 hts gX1_readOrder_J0_isEmpty_aae02 rfl rfl rfl (by decide +kernel) ⟨Nat.le_of_ble_eq_true rfl, Nat.le_of_ble_eq_true rfl⟩) (pvS hK hE hP hS [] hs37) rfl rfl hl.1 rfl (lv_room (Nat.le_of_ble_eq_true rfl)) dX1_readOrder_35 ⟨Nat.zero_le _, Nat.zero_le _⟩) hS (fun H locs t ht hφ hO hS => ?_)
      have rv38 := hφ
      have hP : va_P D vwCl (wX ca ad M34) H := by rw [← ht]; exact hO
      obtain ⟨y41_0, M_41, h41, hf⟩ := bnd2_some hf
      have K41 : ∀ (H : Heap) (locs : List Loc) (ls : Array Slot), inR y41_0 → RR M_41 → va_P D vwCl (wX ca ad M_41) H → va_S (aS 75 ad) s.heap H locs → lv_has ls 4 [(0, .ref (ad 71)), (1, .ref (v.2.1 s37))] → W p l e (headSpec wsX1_readOrder (RmC 5 106)).room s m ([.ref (ad 71)] : List Value).toArray below meth c H locs 0 0 (MQ below (va_Qi (fun x (_ : Unit) => x = J res ∧ (inR res ∧ RR M')) (fun _ => (OX D ca ad M')) (aS 75 ad)) ([.ref (ad 71)] : List Value).toArray s 0 0 (aS 75 ad)) (F0 m 57 ls [.int (J y41_0)]) := by
        intro H locs ls ry41_0 hRM_41  hP hS hl
        refine lv_istore_n (lv' := [(2, .int (J y41_0)), (0, .ref (ad 71)), (1, .ref (v.2.1 s37))]) hx hb dX1_readOrder_57 rfl hl (by decide) rfl (fun ls hl => ?_)
        refine lv_aload_n hx hb dX1_readOrder_58 rfl (lv_at hl 1 rfl) ?_
        refine lv_iconst (v := J 0) hx hb dX1_readOrder_59 rfl ?_
        obtain ⟨M45, eM45, hf⟩ := bnd_some hf
        have eM45 := Option.some.inj eM45
        have hRM45 : RR M45 := by rw [← eM45]; exact RR_st hRM_41 71 3 (by decide : inR 0)
        refine va_put (D := D) (ci := 1) (v := .int (J 0)) (ty := .int) (C := RX1) (T := TX1) (N := 6) hx hb hts hinX1 tyX1 tyX1_ok nmX1 hown hK hP (wL_D hI M_41) hS 71 (wL_get (by decide) (gX_d0 _)) rfl 3 (by decide) (hts (.fieldLink RX1 63 "VisitVans$Pad" "toldCount" "I") (List.mem_of_getElem? (i := 3) rfl)) (fun _ h => h) rfl rfl rfl rfl (Nat.le_of_ble_eq_true rfl) dX1_readOrder_60 (fun H locs hP hD hS => ?_)
        have hP : va_P D vwCl (wX ca ad M45) H := by rw [← eM45]; exact hPset (gX_d0_s3) stM_o hP
        refine lv_iconst (v := J 0) hx hb dX1_readOrder_63 rfl ?_
        refine lv_istore_n (lv' := [(3, .int (J 0)), (2, .int (J y41_0)), (0, .ref (ad 71)), (1, .ref (v.2.1 s37))]) hx hb dX1_readOrder_64 rfl hl (by decide) rfl (fun ls hl => ?_)
        obtain ⟨y46_0, N_46, h46, hf⟩ := bnd2_some hf
        have K46 : ∀ (H : Heap) (locs : List Loc) (ls : Array Slot), inR y46_0 → RR N_46 → va_P D vwCl (wX ca ad N_46) H → va_S (aS 75 ad) s.heap H locs → lv_has ls 4 [(2, .int (J y46_0))] → W p l e (headSpec wsX1_readOrder (RmC 5 106)).room s m ([.ref (ad 71)] : List Value).toArray below meth c H locs 0 0 (MQ below (va_Qi (fun x (_ : Unit) => x = J res ∧ (inR res ∧ RR M')) (fun _ => (OX D ca ad M')) (aS 75 ad)) ([.ref (ad 71)] : List Value).toArray s 0 0 (aS 75 ad)) (F0 m 93 ls []) := by
          intro H locs ls ry46_0 hRN_46 hP hS hl
          refine lv_iload_n hx hb dX1_readOrder_93 rfl (lv_at hl 0 rfl) ?_
          obtain ⟨g56, hf⟩ := gd_some hf
          obtain ⟨e1, e2⟩ := Prod.mk.inj (Option.some.inj hf)
          exact jend_i hx hb hr (J_wZ g56).1 hS e1 ⟨by rw [← e1]; exact ry46_0, by rw [← e2]; exact hRN_46⟩ (oX e2 hP) dX1_readOrder_94 hlocks
        have hL46 : ∀ (n : Nat) (x2_46 : Int) (x3_46 : Int) (M_46 : MM) (H : Heap) (locs : List Loc) (ls : Array Slot), inR x2_46 → inR x3_46 → RR M_46 → va_P D vwCl (wX ca ad M_46) H → va_S (aS 75 ad) s.heap H locs → lv_has ls 4 [(0, .ref (ad 71)), (1, .ref (v.2.1 s37)), (2, .int (J x2_46)), (3, .int (J x3_46))] → fX1_readOrder_L65b n s37 x2_46 x3_46 M_46 = some (y46_0, N_46) → W p l e (headSpec wsX1_readOrder (RmC 5 106)).room s m ([.ref (ad 71)] : List Value).toArray below meth c H locs 0 0 (MQ below (va_Qi (fun x (_ : Unit) => x = J res ∧ (inR res ∧ RR M')) (fun _ => (OX D ca ad M')) (aS 75 ad)) ([.ref (ad 71)] : List Value).toArray s 0 0 (aS 75 ad)) (F0 m 65 ls []) := by
          intro n
          induction n with
          | zero =>
            intro x2_46 x3_46 M_46 H locs ls rx2_46 rx3_46 hRM_46 hP hS hl hf
            rw [fX1_readOrder_L65b] at hf
            cases hf
          | succ n ih =>
            intro x2_46 x3_46 M_46 H locs ls rx2_46 rx3_46 hRM_46 hP hS hl hf
            rw [fX1_readOrder_L65b] at hf
            refine lv_iload_n hx hb dX1_readOrder_65 rfl (lv_at hl 2 rfl) ?_
            refine jv_if_eq (tgt := 93) hx hb dX1_readOrder_66 (by decide) rx2_46 (fun c47 => ?_) (fun c47 => ?_)
            · have hf := itep hf c47
              cases hf
              exact K46 _ _ _ rx2_46 hRM_46 hP hS (lv_sub hl [2] rfl)
            · have hf := iten hf c47
              refine lv_iload_n hx hb dX1_readOrder_69 rfl (lv_at hl 3 rfl) ?_
              refine lv_aload_n hx hb dX1_readOrder_70 rfl (lv_at hl 1 rfl) ?_
              obtain ⟨v48, qv48, hf⟩ := bnd_some hf
              refine jc_i (va_runV (As := []) (rest := [.int (J x3_46)]) ⟨hx, hb, hml, hown, hts⟩ (kJ0_length_8abf5 l D ca v ad hI M_46 hRM_46 s37 hs37 v48 qv48) (cwV 0 hts gX1_readOrder_J0_length_8abf5 rfl rfl rfl (by decide +kernel) ⟨Nat.le_of_ble_eq_true rfl, Nat.le_of_ble_eq_true rfl⟩) (pvS hK hE hP hS [] hs37) rfl rfl hl.1 rfl (lv_room (Nat.le_of_ble_eq_true rfl)) dX1_readOrder_71 ⟨Nat.zero_le _, Nat.zero_le _⟩) hS (fun H locs t ht hφ hO hS => ?_)
              have rv48 := hφ
              have hP : va_P D vwCl (wX ca ad M_46) H := by rw [← ht]; exact hO
              refine jv_icmp_ge (tgt := 93) hx hb dX1_readOrder_74 (by decide) rx3_46 rv48 (fun c50 => ?_) (fun c50 => ?_)
              · have hf := itep hf c50
                cases hf
                exact K46 _ _ _ rx2_46 hRM_46 hP hS (lv_sub hl [2] rfl)
              · have hf := iten hf c50
                refine lv_aload_n hx hb dX1_readOrder_77 rfl (lv_at hl 0 rfl) ?_
                refine lv_aload_n hx hb dX1_readOrder_78 rfl (lv_at hl 1 rfl) ?_
                refine lv_iload_n hx hb dX1_readOrder_79 rfl (lv_at hl 3 rfl) ?_
                obtain ⟨v51, qv51, hf⟩ := bnd_some hf
                refine jc_i (va_runV (As := [.int (J x3_46)]) (rest := [.ref (ad 71)]) ⟨hx, hb, hml, hown, hts⟩ (kJ0_charAt_5068e l D ca v ad hI M_46 hRM_46 s37 hs37 x3_46 rx3_46 v51 qv51) (cwV 1 hts gX1_readOrder_J0_charAt_5068e rfl rfl rfl (by decide +kernel) ⟨Nat.le_of_ble_eq_true rfl, Nat.le_of_ble_eq_true rfl⟩) (pvS hK hE hP hS [.int (J x3_46)] hs37) rfl rfl hl.1 rfl (lv_room (Nat.le_of_ble_eq_true rfl)) dX1_readOrder_80 ⟨Nat.zero_le _, Nat.zero_le _⟩) hS (fun H locs t ht hφ hO hS => ?_)
                have rv51 := hφ
                have hP : va_P D vwCl (wX ca ad M_46) H := by rw [← ht]; exact hO
                obtain ⟨v53, M54, qv53, hf⟩ := bnd2_some hf
                refine jc_i (va_runV (As := [.int (J v51)]) (rest := []) ⟨hx, hb, hml, hown, hts⟩ (kX1_readPiece l D ca v ad hI M_46 hRM_46 v51 rv51 v53 M54 qv53) (cwV 1 hts gX1_readOrder_X1_readPiece rfl rfl rfl (by decide +kernel) ⟨Nat.le_of_ble_eq_true rfl, Nat.le_of_ble_eq_true rfl⟩) (pvX hK hE hP hS [.int (J v51)] (by decide) (gX_d0 _) rfl) rfl rfl hl.1 rfl (lv_room (Nat.le_of_ble_eq_true rfl)) dX1_readOrder_83 ⟨Nat.zero_le _, Nat.zero_le _⟩) hS (fun H locs t ht hφ hO hS => ?_)
                obtain ⟨rv53, hRM54⟩ := hφ
                have hP : va_P D vwCl (wX ca ad M54) H := by rw [← ht]; exact hO
                refine lv_istore_n (lv' := [(2, .int (J v53)), (0, .ref (ad 71)), (1, .ref (v.2.1 s37)), (3, .int (J x3_46))]) hx hb dX1_readOrder_86 rfl hl (by decide) rfl (fun ls hl => ?_)
                refine lv_iinc (v := J (x3_46 + 1)) (lv' := [(3, .int (J (x3_46 + 1))), (2, .int (J v53)), (0, .ref (ad 71)), (1, .ref (v.2.1 s37))]) hx hb dX1_readOrder_87 hl (k := 3) rfl (J_add _ _) (by decide) rfl (fun ls hl => ?_)
                refine lv_goto (tgt := 65) hx hb dX1_readOrder_90 (by decide) ?_
                obtain ⟨g55, hf⟩ := gd_some hf
                exact ih _ _ _ _ _ _ rv53 g55 hRM54 hP hS (lv_sub hl [2, 3, 1, 0] rfl) hf
        exact hL46 4000 _ _ _ _ _ _ ry41_0 (by decide : inR 0) hRM45 hP hS (lv_sub hl [2, 3, 1, 0] rfl) h46
      have hf := h41
      clear h41
      refine jv_if_ne (tgt := 56) hx hb dX1_readOrder_38 (by decide) rv38 (fun c40 => ?_) (fun c40 => ?_)
      · have hf := iten hf c40
        refine lv_iconst (v := J 0) hx hb dX1_readOrder_56 rfl ?_
        cases hf
        exact K41 _ _ _ (by decide : inR 0) hRM34 hP hS (lv_sub hl [1, 0] rfl)
      · have hf := itep hf c40
        refine lv_aload_n hx hb dX1_readOrder_41 rfl (lv_at hl 1 rfl) ?_
        refine lv_aload_n hx hb dX1_readOrder_42 rfl (lv_at hl 1 rfl) ?_
        refine va_get (D := D) (ci := 1) (v := .int (J (M34 71 5))) (C := RX1) (T := TX1) (N := 6) hx hb hts hinX1 hown hK hP 71 (wL_get (by decide) (gX_d0 _)) rfl 5 (by decide) (hts (.fieldLink RX1 50 "VisitVans$Pad" "kind" "C") (List.mem_of_getElem? (i := 2) rfl)) (fun _ h => h) rfl dX1_readOrder_43 ?_
        obtain ⟨v42, M43, qv42, hf⟩ := bnd2_some hf
        refine jc_i (va_runV (As := [.int (J (M34 71 5))]) (rest := []) ⟨hx, hb, hml, hown, hts⟩ (kX1_readSign l D ca v ad hI M34 hRM34 (M34 71 5) (hRM34 71 5) v42 M43 qv42) (cwV 1 hts gX1_readOrder_X1_readSign rfl rfl rfl (by decide +kernel) ⟨Nat.le_of_ble_eq_true rfl, Nat.le_of_ble_eq_true rfl⟩) (pvX hK hE hP hS [.int (J (M34 71 5))] (by decide) (gX_d0 _) rfl) rfl rfl hl.1 rfl (lv_room (Nat.le_of_ble_eq_true rfl)) dX1_readOrder_46 ⟨Nat.zero_le _, Nat.zero_le _⟩) hS (fun H locs t ht hφ hO hS => ?_)
        obtain ⟨rv42, hRM43⟩ := hφ
        have hP : va_P D vwCl (wX ca ad M43) H := by rw [← ht]; exact hO
        refine jv_if_eq (tgt := 56) hx hb dX1_readOrder_49 (by decide) rv42 (fun c44 => ?_) (fun c44 => ?_)
        · have hf := itep hf c44
          refine lv_iconst (v := J 0) hx hb dX1_readOrder_56 rfl ?_
          cases hf
          exact K41 _ _ _ (by decide : inR 0) hRM43 hP hS (lv_sub hl [1, 0] rfl)
        · have hf := iten hf c44
          refine lv_iconst (v := J 1) hx hb dX1_readOrder_52 rfl ?_
          refine lv_goto (tgt := 57) hx hb dX1_readOrder_53 (by decide) ?_
          cases hf
          exact K41 _ _ _ (by decide : inR 1) hRM43 hP hS (lv_sub hl [1, 0] rfl)
    · have hf := itep hf c30
      refine lv_iconst (v := J 0) hx hb dX1_readOrder_16 rfl ?_
      obtain ⟨e1, e2⟩ := Prod.mk.inj (Option.some.inj hf)
      exact jend_i hx hb hr (by decide) hS e1 ⟨by rw [← e1]; exact (by decide : inR 0), by rw [← e2]; exact hRM29⟩ (oX e2 hP) dX1_readOrder_17 hlocks
def fX1_hasMore (M : MM) : Option (Int) := bnd (if (M 71 1) ≤ (M 71 2) then some ((0 : Int)) else some ((1 : Int))) (fun y2_0 => gd (y2_0 = 0 ∨ y2_0 = 1) (some y2_0))
set_option maxHeartbeats 4000000 in
set_option maxRecDepth 100000 in
theorem kX1_hasMore (l : Launch) (D : va_G) (ca : Nat → ClassId) (v : EV) (ad : Nat → Nat) (hI : aInj 75 ad) (M : MM) (hR : RR M) (res : Int) (hf : fX1_hasMore M = some res) : CI l yX1_hasMore wsX1_hasMore 0 0 [.ref (ad 71)] (PX D ca v ad M) res (inR res) (OX D ca ad M) (aS 75 ad) := by
  refine Met.ofW (cc := cX1_hasMore) (maxL := 1) (ret := (some .boolean)) (by decide) rfl ?_
  intro p e s m args below meth c s₁ B hml hv
  obtain ⟨rfl, hP, hK, hE⟩ := hv
  have hx := B.exec
  have hb := B.bytes
  have hr := B.returns
  have hts := atoms_spec (ws := wsX1_hasMore) B.pre
  have hown : s.vm.findClass RX1 = some m.cls := findClass_of_methodNamed B.named
  have hlocks := B.notSynchronized
  have hS : va_S (aS 75 ad) s.heap s.heap [] := va_S.rf
  have hinX1 : ∀ w ∈ wsX10, w ∈ wsX1_hasMore := by decide +kernel
  have hl := lv_entry ([.ref (ad 71)]) (n := 1) (Nat.le_of_ble_eq_true rfl)
  rw [lg_entry_eq]
  generalize (lg_sl ([.ref (ad 71)]) ++ List.replicate (1 - (lg_sl ([.ref (ad 71)])).length) Slot.unset).toArray = ls at hl ⊢
  have hl : lv_has ls 1 [(0, .ref (ad 71))] := hl
  unfold fX1_hasMore at hf
  refine lv_aload_n hx hb dX1_hasMore_0 rfl (lv_at hl 0 rfl) ?_
  refine va_get (D := D) (ci := 1) (v := .int (J (M 71 2))) (C := RX1) (T := TX1) (N := 6) hx hb hts hinX1 hown hK hP 71 (wL_get (by decide) (gX_d0 _)) rfl 2 (by decide) (hts (.fieldLink RX1 29 "VisitVans$Pad" "at" "I") (List.mem_of_getElem? (i := 1) rfl)) (fun _ h => h) rfl dX1_hasMore_1 ?_
  refine lv_aload_n hx hb dX1_hasMore_4 rfl (lv_at hl 0 rfl) ?_
  refine va_get (D := D) (ci := 1) (v := .int (J (M 71 1))) (C := RX1) (T := TX1) (N := 6) hx hb hts hinX1 hown hK hP 71 (wL_get (by decide) (gX_d0 _)) rfl 1 (by decide) (hts (.fieldLink RX1 25 "VisitVans$Pad" "length" "I") (List.mem_of_getElem? (i := 2) rfl)) (fun _ h => h) rfl dX1_hasMore_5 ?_
  obtain ⟨y2_0, h2, hf⟩ := bnd_some hf
  have K2 : ∀ (H : Heap) (locs : List Loc) (ls : Array Slot), inR y2_0 → va_P D vwCl (wX ca ad M) H → va_S (aS 75 ad) s.heap H locs → lv_has ls 1 [] → W p l e (headSpec wsX1_hasMore (RmC 0 0)).room s m ([.ref (ad 71)] : List Value).toArray below meth c H locs 0 0 (MQ below (va_Qi (fun x (_ : Unit) => x = J res ∧ (inR res)) (fun _ => (OX D ca ad M)) (aS 75 ad)) ([.ref (ad 71)] : List Value).toArray s 0 0 (aS 75 ad)) (F0 m 16 ls [.int (J y2_0)]) := by
    intro H locs ls ry2_0  hP hS hl
    obtain ⟨g3, hf⟩ := gd_some hf
    have e1 := Option.some.inj hf
    exact jend_i hx hb hr (J_wZ g3).1 hS e1 (by rw [← e1]; exact ry2_0) (oX rfl hP) dX1_hasMore_16 hlocks
  have hf := h2
  clear h2
  refine jv_icmp_ge (tgt := 15) hx hb dX1_hasMore_8 (by decide) (hR 71 2) (hR 71 1) (fun c1 => ?_) (fun c1 => ?_)
  · have hf := itep hf c1
    refine lv_iconst (v := J 0) hx hb dX1_hasMore_15 rfl ?_
    cases hf
    exact K2 _ _ _ (by decide : inR 0)  hP hS (lv_sub hl [] rfl)
  · have hf := iten hf c1
    refine lv_iconst (v := J 1) hx hb dX1_hasMore_11 rfl ?_
    refine lv_goto (tgt := 16) hx hb dX1_hasMore_12 (by decide) ?_
    cases hf
    exact K2 _ _ _ (by decide : inR 1)  hP hS (lv_sub hl [] rfl)
def fX1_firstFault_L11 : Nat → Int → Int → MM → Option (Int × MM)
  | 0, _, _, _ => none
  | n + 1, x1_5, x2_5, M_5 => if x1_5 = 0 then some (x1_5, M_5) else bnd (fX1_hasMore M_5) (fun v7 => if v7 = 0 then some (x1_5, M_5) else if 80 ≤ x2_5 then some (x1_5, M_5) else bnd2 (fX1_readOrder M_5) (fun v11 M12 => gd (inR (x2_5 + 1)) (fX1_firstFault_L11 n v11 (x2_5 + 1) M12)))
def fX1_firstFault (M : MM) : Option (Int × MM) := bnd (fX1_start M) (fun M2 => bnd2 (fX1_readOrder M2) (fun v3 M4 => bnd2 (fX1_firstFault_L11 4000 v3 1 M4) (fun y5_0 N_5 => bnd (if y5_0 = 0 then some ((N_5 71 2)) else some (((-6) : Int))) (fun y15_0 => some (y15_0, N_5)))))
set_option maxHeartbeats 4000000 in
set_option maxRecDepth 100000 in
theorem kX1_firstFault (l : Launch) (D : va_G) (ca : Nat → ClassId) (v : EV) (ad : Nat → Nat) (hI : aInj 75 ad) (M : MM) (hR : RR M) (res : Int) (M' : MM) (hf : fX1_firstFault M = some (res, M')) : CI l yX1_firstFault wsX1_firstFault 6 129 [.ref (ad 71)] (PX D ca v ad M) res (inR res ∧ RR M') (OX D ca ad M') (aS 75 ad) := by
  refine Met.ofW (cc := cX1_firstFault) (maxL := 3) (ret := (some .int)) (by decide) rfl ?_
  intro p e s m args below meth c s₁ B hml hv
  obtain ⟨rfl, hP, hK, hE⟩ := hv
  have hx := B.exec
  have hb := B.bytes
  have hr := B.returns
  have hts := atoms_spec (ws := wsX1_firstFault) B.pre
  have hown : s.vm.findClass RX1 = some m.cls := findClass_of_methodNamed B.named
  have hlocks := B.notSynchronized
  have hS : va_S (aS 75 ad) s.heap s.heap [] := va_S.rf
  have hinX1 : ∀ w ∈ wsX10, w ∈ wsX1_firstFault := by decide +kernel
  have hl := lv_entry ([.ref (ad 71)]) (n := 3) (Nat.le_of_ble_eq_true rfl)
  rw [lg_entry_eq]
  generalize (lg_sl ([.ref (ad 71)]) ++ List.replicate (3 - (lg_sl ([.ref (ad 71)])).length) Slot.unset).toArray = ls at hl ⊢
  have hl : lv_has ls 3 [(0, .ref (ad 71))] := hl
  unfold fX1_firstFault at hf
  refine lv_aload_n hx hb dX1_firstFault_0 rfl (lv_at hl 0 rfl) ?_
  obtain ⟨M2, qM2, hf⟩ := bnd_some hf
  refine jc_v (va_runV (As := []) (rest := []) ⟨hx, hb, hml, hown, hts⟩ (kX1_start l D ca v ad hI M hR M2 qM2) (cwV 0 hts gX1_firstFault_X1_start rfl rfl rfl (by decide +kernel) ⟨Nat.le_of_ble_eq_true rfl, Nat.le_of_ble_eq_true rfl⟩) (pvX hK hE hP hS [] (by decide) (gX_d0 _) rfl) rfl rfl hl.1 rfl (lv_room (Nat.le_of_ble_eq_true rfl)) dX1_firstFault_1 ⟨Nat.zero_le _, Nat.zero_le _⟩) hS (fun H locs t ht hφ hO hS => ?_)
  have hRM2 := hφ
  have hP : va_P D vwCl (wX ca ad M2) H := by rw [← ht]; exact hO
  refine lv_aload_n hx hb dX1_firstFault_4 rfl (lv_at hl 0 rfl) ?_
  obtain ⟨v3, M4, qv3, hf⟩ := bnd2_some hf
  refine jc_i (va_runV (As := []) (rest := []) ⟨hx, hb, hml, hown, hts⟩ (kX1_readOrder l D ca v ad hI M2 hRM2 v3 M4 qv3) (cwV 0 hts gX1_firstFault_X1_readOrder rfl rfl rfl (by decide +kernel) ⟨Nat.le_of_ble_eq_true rfl, Nat.le_of_ble_eq_true rfl⟩) (pvX hK hE hP hS [] (by decide) (gX_d0 _) rfl) rfl rfl hl.1 rfl (lv_room (Nat.le_of_ble_eq_true rfl)) dX1_firstFault_5 ⟨Nat.zero_le _, Nat.zero_le _⟩) hS (fun H locs t ht hφ hO hS => ?_)
  obtain ⟨rv3, hRM4⟩ := hφ
  have hP : va_P D vwCl (wX ca ad M4) H := by rw [← ht]; exact hO
  refine lv_istore_n (lv' := [(1, .int (J v3)), (0, .ref (ad 71))]) hx hb dX1_firstFault_8 rfl hl (by decide) rfl (fun ls hl => ?_)
  refine lv_iconst (v := J 1) hx hb dX1_firstFault_9 rfl ?_
  refine lv_istore_n (lv' := [(2, .int (J 1)), (1, .int (J v3)), (0, .ref (ad 71))]) hx hb dX1_firstFault_10 rfl hl (by decide) rfl (fun ls hl => ?_)
  obtain ⟨y5_0, N_5, h5, hf⟩ := bnd2_some hf
  have K5 : ∀ (H : Heap) (locs : List Loc) (ls : Array Slot), inR y5_0 → RR N_5 → va_P D vwCl (wX ca ad N_5) H → va_S (aS 75 ad) s.heap H locs → lv_has ls 3 [(0, .ref (ad 71)), (1, .int (J y5_0))] → W p l e (headSpec wsX1_firstFault (RmC 6 129)).room s m ([.ref (ad 71)] : List Value).toArray below meth c H locs 0 0 (MQ below (va_Qi (fun x (_ : Unit) => x = J res ∧ (inR res ∧ RR M')) (fun _ => (OX D ca ad M')) (aS 75 ad)) ([.ref (ad 71)] : List Value).toArray s 0 0 (aS 75 ad)) (F0 m 39 ls []) := by
    intro H locs ls ry5_0 hRN_5 hP hS hl
    refine lv_iload_n hx hb dX1_firstFault_39 rfl (lv_at hl 1 rfl) ?_
    obtain ⟨y15_0, h15, hf⟩ := bnd_some hf
    have K15 : ∀ (H : Heap) (locs : List Loc) (ls : Array Slot), inR y15_0 → va_P D vwCl (wX ca ad N_5) H → va_S (aS 75 ad) s.heap H locs → lv_has ls 3 [] → W p l e (headSpec wsX1_firstFault (RmC 6 129)).room s m ([.ref (ad 71)] : List Value).toArray below meth c H locs 0 0 (MQ below (va_Qi (fun x (_ : Unit) => x = J res ∧ (inR res ∧ RR M')) (fun _ => (OX D ca ad M')) (aS 75 ad)) ([.ref (ad 71)] : List Value).toArray s 0 0 (aS 75 ad)) (F0 m 52 ls [.int (J y15_0)]) := by
      intro H locs ls ry15_0  hP hS hl
      obtain ⟨e1, e2⟩ := Prod.mk.inj (Option.some.inj hf)
      exact jend_i hx hb hr rfl hS e1 ⟨by rw [← e1]; exact ry15_0, by rw [← e2]; exact hRN_5⟩ (oX e2 hP) dX1_firstFault_52 hlocks
    have hf := h15
    clear h15
    refine jv_if_eq (tgt := 48) hx hb dX1_firstFault_40 (by decide) ry5_0 (fun c14 => ?_) (fun c14 => ?_)
    · have hf := itep hf c14
      refine lv_aload_n hx hb dX1_firstFault_48 rfl (lv_at hl 0 rfl) ?_
      refine va_get (D := D) (ci := 1) (v := .int (J (N_5 71 2))) (C := RX1) (T := TX1) (N := 6) hx hb hts hinX1 hown hK hP 71 (wL_get (by decide) (gX_d0 _)) rfl 2 (by decide) (hts (.fieldLink RX1 29 "VisitVans$Pad" "at" "I") (List.mem_of_getElem? (i := 1) rfl)) (fun _ h => h) rfl dX1_firstFault_49 ?_
      cases hf
      exact K15 _ _ _ (hRN_5 71 2)  hP hS (lv_sub hl [] rfl)
    · have hf := iten hf c14
      refine lv_bipush (v := J (-6)) hx hb dX1_firstFault_43 (by decide +kernel) ?_
      refine lv_goto (tgt := 52) hx hb dX1_firstFault_45 (by decide) ?_
      cases hf
      exact K15 _ _ _ (by decide : inR (-6))  hP hS (lv_sub hl [] rfl)
  have hL5 : ∀ (n : Nat) (x1_5 : Int) (x2_5 : Int) (M_5 : MM) (H : Heap) (locs : List Loc) (ls : Array Slot), inR x1_5 → inR x2_5 → RR M_5 → va_P D vwCl (wX ca ad M_5) H → va_S (aS 75 ad) s.heap H locs → lv_has ls 3 [(0, .ref (ad 71)), (1, .int (J x1_5)), (2, .int (J x2_5))] → fX1_firstFault_L11 n x1_5 x2_5 M_5 = some (y5_0, N_5) → W p l e (headSpec wsX1_firstFault (RmC 6 129)).room s m ([.ref (ad 71)] : List Value).toArray below meth c H locs 0 0 (MQ below (va_Qi (fun x (_ : Unit) => x = J res ∧ (inR res ∧ RR M')) (fun _ => (OX D ca ad M')) (aS 75 ad)) ([.ref (ad 71)] : List Value).toArray s 0 0 (aS 75 ad)) (F0 m 11 ls []) := by
    intro n
    induction n with
    | zero =>
      intro x1_5 x2_5 M_5 H locs ls rx1_5 rx2_5 hRM_5 hP hS hl hf
      rw [fX1_firstFault_L11] at hf
      cases hf
    | succ n ih =>
      intro x1_5 x2_5 M_5 H locs ls rx1_5 rx2_5 hRM_5 hP hS hl hf
      rw [fX1_firstFault_L11] at hf
      refine lv_iload_n hx hb dX1_firstFault_11 rfl (lv_at hl 1 rfl) ?_
      refine jv_if_eq (tgt := 39) hx hb dX1_firstFault_12 (by decide) rx1_5 (fun c6 => ?_) (fun c6 => ?_)
      · have hf := itep hf c6
        cases hf
        exact K5 _ _ _ rx1_5 hRM_5 hP hS (lv_sub hl [0, 1] rfl)
      · have hf := iten hf c6
        refine lv_aload_n hx hb dX1_firstFault_15 rfl (lv_at hl 0 rfl) ?_
        obtain ⟨v7, qv7, hf⟩ := bnd_some hf
        refine jc_i (va_runV (As := []) (rest := []) ⟨hx, hb, hml, hown, hts⟩ (kX1_hasMore l D ca v ad hI M_5 hRM_5 v7 qv7) (cwV 0 hts gX1_firstFault_X1_hasMore rfl rfl rfl (by decide +kernel) ⟨Nat.le_of_ble_eq_true rfl, Nat.le_of_ble_eq_true rfl⟩) (pvX hK hE hP hS [] (by decide) (gX_d0 _) rfl) rfl rfl hl.1 rfl (lv_room (Nat.le_of_ble_eq_true rfl)) dX1_firstFault_16 ⟨Nat.zero_le _, Nat.zero_le _⟩) hS (fun H locs t ht hφ hO hS => ?_)
        have rv7 := hφ
        have hP : va_P D vwCl (wX ca ad M_5) H := by rw [← ht]; exact hO
        refine jv_if_eq (tgt := 39) hx hb dX1_firstFault_19 (by decide) rv7 (fun c9 => ?_) (fun c9 => ?_)
        · have hf := itep hf c9
          cases hf
          exact K5 _ _ _ rx1_5 hRM_5 hP hS (lv_sub hl [0, 1] rfl)
        · have hf := iten hf c9
          refine lv_iload_n hx hb dX1_firstFault_22 rfl (lv_at hl 2 rfl) ?_
          refine lv_bipush (v := J 80) hx hb dX1_firstFault_23 (by decide +kernel) ?_
          refine jv_icmp_ge (tgt := 39) hx hb dX1_firstFault_25 (by decide) rx2_5 (by decide : inR 80) (fun c10 => ?_) (fun c10 => ?_)
          · have hf := itep hf c10
            cases hf
            exact K5 _ _ _ rx1_5 hRM_5 hP hS (lv_sub hl [0, 1] rfl)
          · have hf := iten hf c10
            refine lv_aload_n hx hb dX1_firstFault_28 rfl (lv_at hl 0 rfl) ?_
            obtain ⟨v11, M12, qv11, hf⟩ := bnd2_some hf
            refine jc_i (va_runV (As := []) (rest := []) ⟨hx, hb, hml, hown, hts⟩ (kX1_readOrder l D ca v ad hI M_5 hRM_5 v11 M12 qv11) (cwV 0 hts gX1_firstFault_X1_readOrder rfl rfl rfl (by decide +kernel) ⟨Nat.le_of_ble_eq_true rfl, Nat.le_of_ble_eq_true rfl⟩) (pvX hK hE hP hS [] (by decide) (gX_d0 _) rfl) rfl rfl hl.1 rfl (lv_room (Nat.le_of_ble_eq_true rfl)) dX1_firstFault_29 ⟨Nat.zero_le _, Nat.zero_le _⟩) hS (fun H locs t ht hφ hO hS => ?_)
            obtain ⟨rv11, hRM12⟩ := hφ
            have hP : va_P D vwCl (wX ca ad M12) H := by rw [← ht]; exact hO
            refine lv_istore_n (lv' := [(1, .int (J v11)), (0, .ref (ad 71)), (2, .int (J x2_5))]) hx hb dX1_firstFault_32 rfl hl (by decide) rfl (fun ls hl => ?_)
            refine lv_iinc (v := J (x2_5 + 1)) (lv' := [(2, .int (J (x2_5 + 1))), (1, .int (J v11)), (0, .ref (ad 71))]) hx hb dX1_firstFault_33 hl (k := 2) rfl (J_add _ _) (by decide) rfl (fun ls hl => ?_)
            refine lv_goto (tgt := 11) hx hb dX1_firstFault_36 (by decide) ?_
            obtain ⟨g13, hf⟩ := gd_some hf
            exact ih _ _ _ _ _ _ rv11 g13 hRM12 hP hS (lv_sub hl [2, 1, 0] rfl) hf
  exact hL5 4000 _ _ _ _ _ _ rv3 (by decide : inR 1) hRM4 hP hS (lv_sub hl [2, 1, 0] rfl) h5
