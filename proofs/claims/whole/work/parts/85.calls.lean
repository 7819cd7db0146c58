/-! THE LAW: what holds at its loop; its calls -/
theorem s0_all {args : Array Value} {s : State} (hts : ∀ w ∈ lw_tbl, w.before args s = true) (hg : ∀ w ∈ nfl, w.before args s = true) : ∃ (D : va_G) (ca : Nat → ClassId) (v : EV) (tf : Nat), va_K D vwCl (tyX ca) s ∧ eX v (a0H s) s s.heap ∧ eC tf ca (a0H s) s s.heap := by
  obtain ⟨D, ca, hK, hI⟩ := s0_K hts
  have h0 : Cond.initialized RX4 ∈ lw_tbl := by decide +kernel
  obtain ⟨tf, f1, f2, f3⟩ := s0_row (n := "FIRST_SETTING") (f := fsM) hts hg (by decide +kernel) h0 (by decide +kernel) (by decide +kernel) (s0_3 (by decide +kernel) (by decide +kernel) (by decide +kernel))
  obtain ⟨tl, l1, l2, -⟩ := s0_row (n := "LEAST_SETTING") (f := lsM) hts hg (by decide +kernel) h0 (by decide +kernel) (by decide +kernel) (s0_3 (by decide +kernel) (by decide +kernel) (by decide +kernel))
  obtain ⟨tm, m1, m2, -⟩ := s0_row (n := "MOST_SETTING") (f := msM) hts hg (by decide +kernel) h0 (by decide +kernel) (by decide +kernel) (s0_3 (by decide +kernel) (by decide +kernel) (by decide +kernel))
  obtain ⟨aK, aV, hT⟩ := s0_eT hts hg
  obtain ⟨hc, hn⟩ := s0_exact hg f3 f2 (by decide +kernel) (by decide +kernel) hI
  exact ⟨D, ca, ((tl, tm), aK, aV), tf, hK, ⟨s0_eN hts, ⟨l1, l2, m1, m2⟩, hT⟩, ⟨va_Nw.of rfl (hts _ (by decide +kernel)), va_Nw.of rfl (hts _ (by decide +kernel)), va_Nw.of rfl (hts _ (by decide +kernel)), va_Nw.of rfl (hts _ (by decide +kernel)), va_Nw.of rfl (hts _ (by decide +kernel)), va_Nw.of rfl (hts _ (by decide +kernel)), va_AO.of (hts (.arrayOver (.object RX3)) (by decide +kernel)), hI⟩, f1, hc, hn⟩
theorem eX_narrow {v : EV} {A B : Nat → Prop} {U : State} {H : Heap} (h : eX v A U H) (hAB : ∀ q, B q → A q) : eX v B U H := by
  obtain ⟨hN, ⟨z1, z2, z3, z4⟩, ks, hs, hc, hq⟩ := h
  exact ⟨hN, ⟨z1.narrow hAB, z2.narrow hAB, z3.narrow hAB, z4.narrow hAB⟩, ks, hs.narrow hAB, hc.narrow hAB, hq.narrow hAB⟩
def lcC (D : va_G) (ca : Nat → ClassId) (v : EV) (aX aY : Nat → Nat) (s : State) : Prop := va_K D vwCl (tyX ca) s ∧ eX v (a0H s) s s.heap ∧ aInj 75 aX ∧ aInj 18 aY ∧ (∀ q, aS 75 aX q → a0H s q) ∧ (∀ q, aS 18 aY q → a0H s q) ∧ ∀ q, aS 75 aX q → ¬ aS 18 aY q
def lcW (D : va_G) (ca : Nat → ClassId) (aX aY : Nat → Nat) (s : State) (X Y : MM) (H : Heap) : Prop := va_P D vwCl (wX ca aX X) H ∧ va_P D vwCl (wY ca aY Y) H ∧ va_S (a0H s) s.heap H []
def zz (xs : Nat → Int32) (i k : Nat) : Int := (xs (i + k)).toInt
theorem zz_R (xs : Nat → Int32) (i k : Nat) : inR (zz xs i k) := J_inR _
abbrev lvL (b : Nat) (aX aY : Nat → Nat) (i : Nat) : List (Nat × Value) := [(3, .int (J (i : Int))), (2, .ref (aY 0)), (1, .ref (aX 74)), (0, .ref b)]
theorem va_S_nil {A : Nat → Prop} {H0 H : Heap} {locs : List Loc} (h : va_S A H0 H locs) : va_S A H0 H [] := ⟨h.1, h.2.1, fun _ z => by cases z⟩
section LC
variable {p : Program} {l : Launch} {e : Env} {s : State} {m : MethodId} {b L : Nat} {xs : Nat → Int32} {below : List Frame} {meth : Method} {c : Code} {H : Heap} {Q : State → Prop}
variable {pc : Nat} {ls : Array Slot} {rest st : List Value} {D : va_G} {ca : Nat → ClassId} {v : EV} {aX aY : Nat → Nat} {X Y X' Y' : MM} {i : Nat}
abbrev LWW (p : Program) (l : Launch) (e : Env) (s : State) (m : MethodId) (b : Nat) (below : List Frame) (meth : Method) (c : Code) (H : Heap) (Q : State → Prop) (pc : Nat) (ls : Array Slot) (st : List Value) : Prop := W p l e room_1 s m #[Value.ref b] below meth c H [] 600000 7302250 Q (F0 m pc ls st)
theorem lw_arg (C0 : lw_At p s m meth c b L xs) (hL : L ≤ 3584) (hS : va_S (a0H s) s.heap H []) {k : Nat} (hk : i + k < L) (hl : lv_has ls 4 (lvL b aX aY i)) (d0 : decode cL_law pc = .ok (.aload_n 0, 1)) (d1 : decode cL_law (pc + 1) = .ok (.iload_n 3, 1)) (d2 : decode cL_law (pc + 2) = .ok (.iconst (k : Int), 1)) (d3 : decode cL_law (pc + 3) = .ok (.iadd, 1)) (d4 : decode cL_law (pc + 4) = .ok (.iaload, 1))
    (kk : LWW p l e s m b below meth c H Q (pc + 5) ls (.int (J (zz xs i k)) :: rest)) : LWW p l e s m b below meth c H Q pc ls rest := by
  obtain ⟨hx, hb, hr, hml, hown, hts, hX, hbl, hlocks, hgv⟩ := C0
  have hbA : ¬ a0H s b := Nat.not_le.mpr hbl
  refine lv_aload_n hx hb d0 rfl (lv_at hl 3 rfl) ?_
  refine lv_iload_n hx hb d1 rfl (lv_at hl 0 rfl) ?_
  refine lv_iconst (v := J (k : Int)) hx hb d2 rfl ?_
  refine jv_iadd hx hb d3 ?_
  refine va_sld hx hb hX hbl hbA hS (J_in (by omega) (by omega)) d4 ?_
  rw [J_nat (by omega) (by omega), show ((i : Int) + (k : Int)).toNat = i + k by omega, show xs (i + k) = J (zz xs i k) from (J_of _).symm]
  exact kk
theorem lw_arg6 (C0 : lw_At p s m meth c b L xs) (hL : L ≤ 3584) (hS : va_S (a0H s) s.heap H []) {k : Nat} (hk : i + k < L) (hl : lv_has ls 4 (lvL b aX aY i)) (d0 : decode cL_law pc = .ok (.aload_n 0, 1)) (d1 : decode cL_law (pc + 1) = .ok (.iload_n 3, 1)) (d2 : decode cL_law (pc + 2) = .ok (.bipush (k : Int), 2)) (h8 : (Int8.ofInt (k : Int)).toInt32 = J (k : Int)) (d3 : decode cL_law (pc + 4) = .ok (.iadd, 1)) (d4 : decode cL_law (pc + 5) = .ok (.iaload, 1))
    (kk : LWW p l e s m b below meth c H Q (pc + 6) ls (.int (J (zz xs i k)) :: rest)) : LWW p l e s m b below meth c H Q pc ls rest := by
  obtain ⟨hx, hb, hr, hml, hown, hts, hX, hbl, hlocks, hgv⟩ := C0
  have hbA : ¬ a0H s b := Nat.not_le.mpr hbl
  refine lv_aload_n hx hb d0 rfl (lv_at hl 3 rfl) ?_
  refine lv_iload_n hx hb d1 rfl (lv_at hl 0 rfl) ?_
  refine lv_bipush (v := J (k : Int)) hx hb d2 h8 ?_
  refine jv_iadd hx hb d3 ?_
  refine va_sld hx hb hX hbl hbA hS (J_in (by omega) (by omega)) d4 ?_
  rw [J_nat (by omega) (by omega), show ((i : Int) + (k : Int)).toNat = i + k by omega, show xs (i + k) = J (zz xs i k) from (J_of _).symm]
  exact kk
theorem lc_pX (hC : lcC D ca v aX aY s) (hW : lcW D ca aX aY s X Y H) (As : List Value) : PreV s H RX4 (aX 74) (va_Pc (.ref (aX 74) :: As) (PX D ca v aX X)) As :=
  ⟨PX_blind, va_recv (q := (RX4, TX4, 8)) hC.1 hW.1 rfl (wL_get (by decide) (gX_x0 _)), fun U hU hWm => ⟨rfl, by rw [hU]; exact hW.1, va_K.moved hWm.alike hC.1, eX_narrow (eX_at hC.2.1 hW.2.2 hU hWm) hC.2.2.2.2.1⟩⟩
theorem lc_keepX (hC : lcC D ca v aX aY s) (hW : lcW D ca aX aY s X Y H) {H1 : Heap} {t : State} {locs : List Loc} (ht : t.heap = H1) (hB : OX D ca aX X' t) (hk : ∀ q : Nat, q < H.size → ¬ aS 75 aX q → H1[q]? = H[q]?) (hS : va_S (a0H s) s.heap H1 locs) : lcW D ca aX aY s X' Y H1 :=
  ⟨by rw [← ht]; exact hB, hW.2.1.kept (fun k q hq => hk q.1 (hW.2.1 k q hq).lt (fun z => hC.2.2.2.2.2.2 q.1 z ((wL_D hC.2.2.2.1 Y).2 k q hq))), va_S_nil hS⟩
theorem lc_keepY (hC : lcC D ca v aX aY s) (hW : lcW D ca aX aY s X Y H) {H1 : Heap} {t : State} {locs : List Loc} (ht : t.heap = H1) (hB : OY D ca aY Y' t) (hk : ∀ q : Nat, q < H.size → ¬ aS 18 aY q → H1[q]? = H[q]?) (hS : va_S (a0H s) s.heap H1 locs) : lcW D ca aX aY s X Y' H1 :=
  ⟨hW.1.kept (fun k q hq => hk q.1 (hW.1 k q hq).lt (fun z => hC.2.2.2.2.2.2 q.1 ((wL_D hC.2.2.1 X).2 k q hq) z)), by rw [← ht]; exact hB, va_S_nil hS⟩
variable {y : MethodName} {ws : List Cond} {fr lo idx n maxL : Nat} {bytes : ByteArray} {ret : Option FieldType} {As : List Value} {res : Int} {rl : Int64} {φ : Prop} {lv : List (Nat × Value)}
theorem lc_Xi (C0 : lw_At p s m meth c b L xs) (hC : lcC D ca v aX aY s) (hW : lcW D ca aX aY s X Y H) (hM : CI l y ws fr lo (.ref (aX 74) :: As) (PX D ca v aX X) res φ (OX D ca aX X') (aS 75 aX)) (cw : CallW room_1 s #[Value.ref b] R_law RX4 idx y bytes maxL ret ws (RmC fr lo) 0 0 n) (hn : As.length = n) (hl : lv_has ls 4 lv) (hr : (rest.map fun v => v.category).sum ≤ 8) (hdg : decode cL_law pc = .ok (.invokevirtual idx, 3)) (hst : st = As.reverse ++ .ref (aX 74) :: rest)
    (kk : ∀ H1 : Heap, lcW D ca aX aY s X' Y H1 → φ → LWW p l e s m b below meth c H1 Q (pc + 3) ls (.int (J res) :: rest)) : LWW p l e s m b below meth c H Q pc ls st := by
  obtain ⟨hx, hb, hrt, hml, hown, hts, hX, hbl, hlocks, hgv⟩ := C0
  refine va_calli (va_runV (As := As) (rest := rest) ⟨hx, hb, hml, hown, hts⟩ hM cw (lc_pX hC hW As) rfl hn hl.1 hst (lv_room hr) hdg ⟨Nat.le_refl _, Nat.le_refl _⟩) hW.2.2 (fun q _ h => hC.2.2.2.2.1 q h) (fun q h => hC.2.2.2.2.1 q h) (fun r' u t H1 locs ht hvm hw hB hz hk hS => ?_)
  refine va_forget (fun q hq => hS.2.2 q hq) ?_
  obtain ⟨e1, hφ⟩ := hw
  subst e1
  exact kk H1 (lc_keepX hC hW ht hB hk hS) hφ
theorem lc_Xl (C0 : lw_At p s m meth c b L xs) (hC : lcC D ca v aX aY s) (hW : lcW D ca aX aY s X Y H) (hM : CLg l y ws fr lo (.ref (aX 74) :: As) (PX D ca v aX X) rl φ (OX D ca aX X') (aS 75 aX)) (cw : CallW room_1 s #[Value.ref b] R_law RX4 idx y bytes maxL ret ws (RmC fr lo) 0 0 n) (hn : As.length = n) (hl : lv_has ls 4 lv) (hr : (rest.map fun v => v.category).sum ≤ 8) (hdg : decode cL_law pc = .ok (.invokevirtual idx, 3)) (hst : st = As.reverse ++ .ref (aX 74) :: rest)
    (kk : ∀ H1 : Heap, lcW D ca aX aY s X' Y H1 → φ → LWW p l e s m b below meth c H1 Q (pc + 3) ls (.long rl :: rest)) : LWW p l e s m b below meth c H Q pc ls st := by
  obtain ⟨hx, hb, hrt, hml, hown, hts, hX, hbl, hlocks, hgv⟩ := C0
  refine va_calll (va_runV (As := As) (rest := rest) ⟨hx, hb, hml, hown, hts⟩ hM cw (lc_pX hC hW As) rfl hn hl.1 hst (lv_room hr) hdg ⟨Nat.le_refl _, Nat.le_refl _⟩) hW.2.2 (fun q _ h => hC.2.2.2.2.1 q h) (fun q h => hC.2.2.2.2.1 q h) (fun r' u t H1 locs ht hvm hw hB hz hk hS => ?_)
  refine va_forget (fun q hq => hS.2.2 q hq) ?_
  obtain ⟨e1, hφ⟩ := hw
  subst e1
  exact kk H1 (lc_keepX hC hW ht hB hk hS) hφ
theorem lc_Yi (C0 : lw_At p s m meth c b L xs) (hC : lcC D ca v aX aY s) (hW : lcW D ca aX aY s X Y H) (hM : CI l y ws fr lo (.ref (aY 0) :: As) (PY D ca aY Y) res φ (OY D ca aY Y') (aS 18 aY)) (cw : CallW room_1 s #[Value.ref b] R_law RX5 idx y bytes maxL ret ws (RmC fr lo) 0 0 n) (hn : As.length = n) (hl : lv_has ls 4 lv) (hr : (rest.map fun v => v.category).sum ≤ 8) (hdg : decode cL_law pc = .ok (.invokevirtual idx, 3)) (hst : st = As.reverse ++ .ref (aY 0) :: rest)
    (kk : ∀ H1 : Heap, lcW D ca aX aY s X Y' H1 → φ → LWW p l e s m b below meth c H1 Q (pc + 3) ls (.int (J res) :: rest)) : LWW p l e s m b below meth c H Q pc ls st := by
  obtain ⟨hx, hb, hrt, hml, hown, hts, hX, hbl, hlocks, hgv⟩ := C0
  refine va_calli (va_runV (As := As) (rest := rest) ⟨hx, hb, hml, hown, hts⟩ hM cw (pvY hC.1 hW.2.1 As) rfl hn hl.1 hst (lv_room hr) hdg ⟨Nat.le_refl _, Nat.le_refl _⟩) hW.2.2 (fun q _ h => hC.2.2.2.2.2.1 q h) (fun q h => hC.2.2.2.2.2.1 q h) (fun r' u t H1 locs ht hvm hw hB hz hk hS => ?_)
  refine va_forget (fun q hq => hS.2.2 q hq) ?_
  obtain ⟨e1, hφ⟩ := hw
  subst e1
  exact kk H1 (lc_keepY hC hW ht hB hk hS) hφ
theorem lc_Yl (C0 : lw_At p s m meth c b L xs) (hC : lcC D ca v aX aY s) (hW : lcW D ca aX aY s X Y H) (hM : CLg l y ws fr lo (.ref (aY 0) :: As) (PY D ca aY Y) rl φ (OY D ca aY Y') (aS 18 aY)) (cw : CallW room_1 s #[Value.ref b] R_law RX5 idx y bytes maxL ret ws (RmC fr lo) 0 0 n) (hn : As.length = n) (hl : lv_has ls 4 lv) (hr : (rest.map fun v => v.category).sum ≤ 8) (hdg : decode cL_law pc = .ok (.invokevirtual idx, 3)) (hst : st = As.reverse ++ .ref (aY 0) :: rest)
    (kk : ∀ H1 : Heap, lcW D ca aX aY s X Y' H1 → φ → LWW p l e s m b below meth c H1 Q (pc + 3) ls (.long rl :: rest)) : LWW p l e s m b below meth c H Q pc ls st := by
  obtain ⟨hx, hb, hrt, hml, hown, hts, hX, hbl, hlocks, hgv⟩ := C0
  refine va_calll (va_runV (As := As) (rest := rest) ⟨hx, hb, hml, hown, hts⟩ hM cw (pvY hC.1 hW.2.1 As) rfl hn hl.1 hst (lv_room hr) hdg ⟨Nat.le_refl _, Nat.le_refl _⟩) hW.2.2 (fun q _ h => hC.2.2.2.2.2.1 q h) (fun q h => hC.2.2.2.2.2.1 q h) (fun r' u t H1 locs ht hvm hw hB hz hk hS => ?_)
  refine va_forget (fun q hq => hS.2.2 q hq) ?_
  obtain ⟨e1, hφ⟩ := hw
  subst e1
  exact kk H1 (lc_keepY hC hW ht hB hk hS) hφ
end LC
/-! the queries, by what both sides agree on -/
section SQ
variable {X Y : MM}
theorem Sim_hh (h : Sim X Y) : X 67 2 = Y 0 3 := by
  obtain ⟨-, -, ⟨o, k, -, -, -, h1, h2, -⟩, -, -⟩ := h
  rw [h1, h2]
theorem s_ofVisit (h : Sim X Y) (a1 a2 : Int) : ∃ (res : Int) (Y' : MM), fX4_ofVisit a1 a2 X = some res ∧ fX5_ofVisit a1 a2 Y = some (res, Y') ∧ Sim X Y' := by
  obtain ⟨res, Y', h1, h2, h3⟩ := q_ofVisit (RG_V h.1) (RG_S h.1) h.2.1 a1 a2
  exact ⟨res, Y', h1, h2, Sim_QY h h3⟩
theorem s_ofVan (h : Sim X Y) (a1 a2 : Int) : ∃ (res : Int) (Y' : MM), fX4_ofVan a1 a2 X = some res ∧ fX5_ofVan a1 a2 Y = some (res, Y') ∧ Sim X Y' := by
  obtain ⟨res, Y', h1, h2, h3⟩ := q_ofVan (RG_V h.1) (RG_S h.1) h.2.1 a1 a2
  exact ⟨res, Y', h1, h2, Sim_QY h h3⟩
theorem s_stock (h : Sim X Y) (a1 a2 a3 : Int) : ∃ (res : Int) (Y' : MM), fX4_stock a1 a2 a3 X = some res ∧ fX5_stock a1 a2 a3 Y = some (res, Y') ∧ Sim X Y' := by
  obtain ⟨res, Y', h1, h2, h3⟩ := q_stock (RG_V h.1) (RG_S h.1) h.2.1 a1 a2 a3
  exact ⟨res, Y', h1, h2, Sim_QY h h3⟩
theorem s_event (h : Sim X Y) (a1 a2 a3 : Int) : ∃ (res : Int) (Y' : MM), fX4_event a1 a2 a3 X = some res ∧ fX5_event a1 a2 a3 Y = some (res, Y') ∧ Sim X Y' := by
  obtain ⟨res, Y', h1, h2, h3⟩ := q_event (RG_V h.1) (RG_S h.1) h.2.1 a1 a2 a3
  exact ⟨res, Y', h1, h2, Sim_QY h h3⟩
theorem s_count (h : Sim X Y) (a1 : Int) : ∃ (res : Int) (Y' : MM), fX4_count a1 X = some res ∧ fX5_count a1 Y = some (res, Y') ∧ Sim X Y' := by
  obtain ⟨res, Y', h1, h2, h3⟩ := q_count (RG_V h.1) (RG_S h.1) h.2.1 h.2.2.2.2.1 (Sim_hh h) a1
  exact ⟨res, Y', h1, h2, Sim_QY h h3⟩
theorem s_wanted (h : Sim X Y) (a1 : Int) : ∃ (res : Int) (Y' : MM), fX4_wanted a1 X = some res ∧ fX5_wanted a1 Y = some (res, Y') ∧ Sim X Y' := by
  obtain ⟨res, Y', h1, h2, h3⟩ := q_wanted (RG_V h.1) (RG_S h.1) h.2.1 a1
  exact ⟨res, Y', h1, h2, Sim_QY h h3⟩
theorem s_share (h : Sim X Y) : ∃ (res : Int) (Y' : MM), fX4_share X = some res ∧ fX5_share Y = some (res, Y') ∧ Sim X Y' := by
  obtain ⟨res, Y', h1, h2, h3⟩ := q_share (RG_V h.1) (RG_S h.1) h.2.1
  exact ⟨res, Y', h1, h2, Sim_QY h h3⟩
theorem s_meanWay (h : Sim X Y) (a1 : Int) : ∃ (res : Int64) (Y' : MM), fX4_meanWay a1 X = some res ∧ fX5_meanWay a1 Y = some (res, Y') ∧ Sim X Y' := by
  obtain ⟨res, Y', h1, h2, h3⟩ := q_meanWay (RG_V h.1) (RG_S h.1) h.2.1 a1
  exact ⟨res, Y', h1, h2, Sim_QY h h3⟩
end SQ
