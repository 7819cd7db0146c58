/-! THE LAW: its loop -/
section LL
variable {p : Program} {l : Launch} {e : Env} {s : State} {m : MethodId} {b L : Nat} {xs : Nat → Int32} {below : List Frame} {meth : Method} {c : Code}
variable {D : va_G} {ca : Nat → ClassId} {v : EV} {aX aY : Nat → Nat}
theorem iand_31 (x : Int) : 0 ≤ iand x 31 ∧ iand x 31 ≤ 31 := by
  have h : ((J x &&& J 31).toBitVec).toNat ≤ 31 := by
    rw [Int32.toBitVec_and, BitVec.toNat_and]
    exact Nat.le_trans Nat.and_le_right (by decide)
  have e : (J x &&& J 31).toInt = ((J x &&& J 31).toBitVec).toInt := rfl
  unfold iand
  rw [e, BitVec.toInt_eq_toNat_of_lt (by omega)]
  omega
set_option maxHeartbeats 4000000 in
set_option maxRecDepth 100000 in
theorem law_loop (C0 : lw_At p s m meth c b L xs) (hL : L ≤ 3584) (hC : lcC D ca v aX aY s) : ∀ (n i : Nat) (X Y : MM) (H : Heap) (ls : Array Slot), i ≤ L → L + 1 ≤ i + 7 * n → lcW D ca aX aY s X Y H → Sim X Y → RR X → RR Y → lv_has ls 4 (lvL b aX aY i) → LWW p l e s m b below meth c H (lw_Z below #[Value.ref b] s) 18 ls [] := by
  obtain ⟨hx, hb, hr, hml, hown, hts, hX, hbl, hlocks, hgv⟩ := id C0
  have hbA : ¬ a0H s b := Nat.not_le.mpr hbl
  intro n
  induction n with
  | zero =>
    intro i X Y H ls h1 h2
    exact absurd h2 (by omega)
  | succ n ih =>
    intro i X Y H ls hiL hin hW hS hRX hRY hl
    refine lv_iload_n hx hb dL_law_18 rfl (lv_at hl 0 rfl) ?_
    refine lv_aload_n hx hb dL_law_19 rfl (lv_at hl 3 rfl) ?_
    refine va_slen hx hb hX hbl hbA hW.2.2 dL_law_20 ?_
    refine W.eq (g2 := F0 m 21 ls [.int (J (L : Int)), .int (J (i : Int))]) rfl ?_
    refine lv_bipush (v := J 7) hx hb dL_law_21 (by decide +kernel) ?_
    refine jv_isub hx hb dL_law_23 ?_
    refine jv_icmp_gt (tgt := 860) hx hb dL_law_24 (by decide) ⟨by omega, by omega⟩ ⟨by omega, by omega⟩ (fun hgt => ?_) (fun hng => ?_)
    · refine lv_iconst (v := 1) hx hb dL_law_860 (by decide) ?_
      refine W.base ?_
      exact lw_ret (Drawn.sameBut.refl s.drawn lw_cs) hx hb hr hlocks dL_law_861
    · have hi : i + 7 ≤ L := by omega
      have kk : ∀ (X' Y' : MM) (H' : Heap), lcW D ca aX aY s X' Y' H' → Sim X' Y' → RR X' → RR Y' → LWW p l e s m b below meth c H' (lw_Z below #[Value.ref b] s) 854 ls [] := by
        intro X' Y' H' hW' hS' hRX' hRY'
        refine lv_iinc (v := J ((i + 7 : Nat) : Int)) (lv' := lvL b aX aY (i + 7)) hx hb dL_law_854 hl (k := 0) rfl (by rw [show Int32.ofInt 7 = J 7 from rfl, J_add]; exact congrArg J (by omega)) (by decide) rfl (fun ls hl => ?_)
        refine lv_goto (tgt := 18) hx hb dL_law_857 (by decide) ?_
        exact ih (i + 7) X' Y' H' ls (by omega) (by omega) hW' hS' hRX' hRY' hl
      refine lv_aload_n hx hb dL_law_27 rfl (lv_at hl 3 rfl) ?_
      refine lv_iload_n hx hb dL_law_28 rfl (lv_at hl 0 rfl) ?_
      refine va_sld hx hb hX hbl hbA hW.2.2 (J_in (by omega) (by omega)) dL_law_29 ?_
      rw [J_nat (by omega) (by omega), show ((i : Int)).toNat = i + 0 by omega, show xs (i + 0) = J (zz xs i 0) from (J_of _).symm]
      refine lv_bipush (v := J 31) hx hb dL_law_30 (by decide +kernel) ?_
      refine jv_iand hx hb dL_law_32 ?_
      obtain ⟨k0, k31⟩ := iand_31 (zz xs i 0)
      generalize iand (zz xs i 0) 31 = k at k0 k31 ⊢
      rcases (show k = 0 ∨ k = 1 ∨ k = 2 ∨ k = 3 ∨ k = 4 ∨ k = 5 ∨ k = 6 ∨ k = 7 ∨ k = 8 ∨ k = 9 ∨ k = 10 ∨ k = 11 ∨ k = 12 ∨ k = 13 ∨ k = 14 ∨ k = 15 ∨ k = 16 ∨ k = 17 ∨ k = 18 ∨ k = 19 ∨ k = 20 ∨ k = 21 ∨ k = 22 ∨ 22 < k by omega) with rfl | rfl | rfl | rfl | rfl | rfl | rfl | rfl | rfl | rfl | rfl | rfl | rfl | rfl | rfl | rfl | rfl | rfl | rfl | rfl | rfl | rfl | rfl | hk
      · exact jv_tIn (k := 0) (off := 107) (tgt := 140) hx hb dL_law_33 (by decide) rfl (by decide) (by decide) rfl (by decide) (lk_set C0 hL hC hW hS hRX hRY hi hl kk)
      · exact jv_tIn (k := 1) (off := 140) (tgt := 173) hx hb dL_law_33 (by decide) rfl (by decide) (by decide) rfl (by decide) (lk_visit C0 hL hC hW hS hRX hRY hi hl kk)
      · exact jv_tIn (k := 2) (off := 215) (tgt := 248) hx hb dL_law_33 (by decide) rfl (by decide) (by decide) rfl (by decide) (lk_drop C0 hL hC hW hS hRX hRY hi hl kk)
      · exact jv_tIn (k := 3) (off := 238) (tgt := 271) hx hb dL_law_33 (by decide) rfl (by decide) (by decide) rfl (by decide) (lk_van C0 hL hC hW hS hRX hRY hi hl kk)
      · exact jv_tIn (k := 4) (off := 271) (tgt := 304) hx hb dL_law_33 (by decide) rfl (by decide) (by decide) rfl (by decide) (lk_load C0 hL hC hW hS hRX hRY hi hl kk)
      · exact jv_tIn (k := 5) (off := 314) (tgt := 347) hx hb dL_law_33 (by decide) rfl (by decide) (by decide) rfl (by decide) (lk_ofVisit C0 hL hC hW hS hRX hRY hi hl kk)
      · exact jv_tIn (k := 6) (off := 347) (tgt := 380) hx hb dL_law_33 (by decide) rfl (by decide) (by decide) rfl (by decide) (lk_ofVan C0 hL hC hW hS hRX hRY hi hl kk)
      · exact jv_tIn (k := 7) (off := 380) (tgt := 413) hx hb dL_law_33 (by decide) rfl (by decide) (by decide) rfl (by decide) (lk_stock C0 hL hC hW hS hRX hRY hi hl kk)
      · exact jv_tIn (k := 8) (off := 423) (tgt := 456) hx hb dL_law_33 (by decide) rfl (by decide) (by decide) rfl (by decide) (lk_event C0 hL hC hW hS hRX hRY hi hl kk)
      · exact jv_tIn (k := 9) (off := 466) (tgt := 499) hx hb dL_law_33 (by decide) rfl (by decide) (by decide) rfl (by decide) (lk_count C0 hL hC hW hS hRX hRY hi hl kk)
      · exact jv_tIn (k := 10) (off := 489) (tgt := 522) hx hb dL_law_33 (by decide) rfl (by decide) (by decide) rfl (by decide) (lk_wanted C0 hL hC hW hS hRX hRY hi hl kk)
      · exact jv_tIn (k := 11) (off := 512) (tgt := 545) hx hb dL_law_33 (by decide) rfl (by decide) (by decide) rfl (by decide) (lk_share C0 hL hC hW hS hRX hRY hi hl kk)
      · exact jv_tIn (k := 12) (off := 525) (tgt := 558) hx hb dL_law_33 (by decide) rfl (by decide) (by decide) rfl (by decide) (lk_meanWay C0 hL hC hW hS hRX hRY hi hl kk)
      · exact jv_tIn (k := 13) (off := 549) (tgt := 582) hx hb dL_law_33 (by decide) rfl (by decide) (by decide) rfl (by decide) (lk_would C0 hL hC hW hS hRX hRY hi hl kk)
      · exact jv_tIn (k := 14) (off := 624) (tgt := 657) hx hb dL_law_33 (by decide) rfl (by decide) (by decide) rfl (by decide) (lk_withVan C0 hL hC hW hS hRX hRY hi hl kk)
      · exact jv_tIn (k := 15) (off := 657) (tgt := 690) hx hb dL_law_33 (by decide) rfl (by decide) (by decide) rfl (by decide) (lk_slowest C0 hL hC hW hS hRX hRY hi hl kk)
      · exact jv_tIn (k := 16) (off := 670) (tgt := 703) hx hb dL_law_33 (by decide) rfl (by decide) (by decide) rfl (by decide) (lk_put C0 hL hC hW hS hRX hRY hi hl kk)
      · exact jv_tIn (k := 17) (off := 723) (tgt := 756) hx hb dL_law_33 (by decide) rfl (by decide) (by decide) rfl (by decide) (lk_wipe C0 hL hC hW hS hRX hRY hi hl kk)
      · exact jv_tIn (k := 18) (off := 736) (tgt := 769) hx hb dL_law_33 (by decide) rfl (by decide) (by decide) rfl (by decide) (lk_fault C0 hL hC hW hS hRX hRY hi hl kk)
      · exact jv_tIn (k := 19) (off := 749) (tgt := 782) hx hb dL_law_33 (by decide) rfl (by decide) (by decide) rfl (by decide) (lk_carryOut C0 hL hC hW hS hRX hRY hi hl kk)
      · exact jv_tIn (k := 20) (off := 762) (tgt := 795) hx hb dL_law_33 (by decide) rfl (by decide) (by decide) rfl (by decide) (lk_undo C0 hL hC hW hS hRX hRY hi hl kk)
      · exact jv_tIn (k := 21) (off := 775) (tgt := 808) hx hb dL_law_33 (by decide) rfl (by decide) (by decide) rfl (by decide) (lk_save C0 hL hC hW hS hRX hRY hi hl kk)
      · exact jv_tIn (k := 22) (off := 798) (tgt := 831) hx hb dL_law_33 (by decide) rfl (by decide) (by decide) rfl (by decide) (lk_restore C0 hL hC hW hS hRX hRY hi hl kk)
      · exact jv_tOut (tgt := 854) hx hb dL_law_33 ⟨by omega, by omega⟩ (Or.inr hk) (by decide) (kk X Y H hW hS hRX hRY)
end LL
