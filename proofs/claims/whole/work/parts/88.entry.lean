/-! THE LAW: from its entry -/
section L0
variable {A : Nat → Prop} {D : va_G} {cl : List vw_C} {w1 w2 : va_W} {H : Heap}
theorem va_P.tail (h : va_P D cl (w1 ++ w2) H) : va_P D cl w2 H := fun k x hk => h (w1.length + k) x (by
  rw [List.getElem?_append_right (by omega), Nat.add_sub_cancel_left]
  exact hk)
theorem va_P.head (h : va_P D cl (w1 ++ w2) H) : va_P D cl w1 H := fun k x hk => h k x (by
  rw [List.getElem?_append_left (List.getElem?_eq_some_iff.mp hk).1]
  exact hk)
theorem va_D.last {a : Nat} {e : va_E} (h : va_D A (w1 ++ [(a, e)])) : va_D A [(a, e)] ∧ ∀ (k : Nat) (x : Nat × va_E), w1[k]? = some x → x.1 ≠ a := by
  have hq : (w1 ++ [(a, e)])[w1.length]? = some (a, e) := by
    rw [List.getElem?_append_right (Nat.le_refl _), Nat.sub_self]
    rfl
  refine ⟨⟨fun i j x y hi hj _ => ?_, fun k x hk => ?_⟩, fun k x hk he => ?_⟩
  · have h1 := (List.getElem?_eq_some_iff.mp hi).1
    have h2 := (List.getElem?_eq_some_iff.mp hj).1
    simp at h1 h2
    omega
  · have hz : k = 0 := by have := (List.getElem?_eq_some_iff.mp hk).1; simpa using this
    subst hz
    cases hk
    exact h.2 _ _ hq
  · have hl := (List.getElem?_eq_some_iff.mp hk).1
    have e1 := h.1 k w1.length x (a, e) (by rw [List.getElem?_append_left hl]; exact hk) hq he
    omega
theorem va_A1 {a sz q : Nat} {e : va_E} (h : va_A [(a, e)] sz q) : q = a ∨ sz ≤ q := by
  rcases h with ⟨k, e', hk⟩ | h
  · have hz : k = 0 := by have := (List.getElem?_eq_some_iff.mp hk).1; simpa using this
    subst hz
    cases hk
    exact Or.inl rfl
  · exact Or.inr h
theorem va_P1 {a : Nat} {e : va_E} (h : va_P D cl [(a, e)] H) : a < H.size := (h 0 (a, e) rfl).lt
theorem wL_in {N : Nat} {g : Nat → (Nat → Int) → va_E} {ad : Nat → Nat} {M : MM} (hI : aInj N ad) {k : Nat} {x : Nat × va_E} (h : (wL N g ad M)[k]? = some x) : aS N ad x.1 := (wL_D hI M).2 k x h
end L0
set_option maxHeartbeats 4000000 in
set_option maxRecDepth 100000 in
theorem law_start {p : Program} {l : Launch} {e : Env} {s : State} {m : MethodId} {below : List Frame} {meth : Method} {c : Code} {b L : Nat} {xs : Nat → Int32} (hL : L ≤ 3584) (C0 : lw_At p s m meth c b L xs) : W p l e room_1 s m #[Value.ref b] below meth c s.heap [] 0 0 (lw_Z below #[Value.ref b] s) (entryFrame m ([Value.ref b] : List Value).toArray 4) := by
  obtain ⟨hx, hb, hr, hml, hown, hts, hX, hbl, hlocks, hgv⟩ := id C0
  obtain ⟨D, ca, v, tf, hK, hE, hC⟩ := s0_all hts (flat_of_before _ hgv)
  have hA : ∀ q : Nat, s.heap.size ≤ q → a0H s q := fun _ h => h
  have hS : va_S (a0H s) s.heap s.heap [] := va_S.rf
  have hP : va_P D vwCl [] s.heap := fun k q h => by simp at h
  have hD : va_D (a0H s) [] := ⟨fun i j p q h => by simp at h, fun k q h => by simp at h⟩
  have hl := lv_entry ([.ref b]) (n := 4) (Nat.le_of_ble_eq_true rfl)
  rw [lg_entry_eq]
  generalize (lg_sl ([.ref b]) ++ List.replicate (4 - (lg_sl ([.ref b])).length) Slot.unset).toArray = ls at hl ⊢
  have hl : lv_has ls 4 [(0, .ref b)] := hl
  refine va_new (ci := 4) (fs := [.null, .null, .null, .null, .null, .null, .null, .null]) (C := RX4) (T := TX4) (N := 8) hx hb hts inX4 tyX4 tyX4_ok hown (hts (.classLink R_law 7 RX4) (by decide +kernel)) (hts (.instantiable RX4 8) (by decide +kernel)) (hts (.initialized RX4) (by decide +kernel)) hK hP hD hS hA rfl (fun j hj => by rcases (show j = 0 ∨ j = 1 ∨ j = 2 ∨ j = 3 ∨ j = 4 ∨ j = 5 ∨ j = 6 ∨ j = 7 by omega) with rfl | rfl | rfl | rfl | rfl | rfl | rfl | rfl <;> rfl) (Nat.le_of_ble_eq_true rfl) (Nat.le_of_ble_eq_true rfl) dL_law_0 (fun q0 H hP hD hS => ?_)
  have hP : va_P D vwCl [(q0, .inr (4, [.null, .null, .null, .null, .null, .null, .null, .null]))] H := hP
  have hD : va_D (a0H s) [(q0, .inr (4, [.null, .null, .null, .null, .null, .null, .null, .null]))] := hD
  refine W.widen (k := 1) (n := 8) (Nat.le_of_ble_eq_true rfl) (Nat.le_of_ble_eq_true rfl) ?_
  refine lv_dup hx hb dL_law_3 rfl ?_
  have hFc := va_free (wc := [(q0, .inr (4, [.null, .null, .null, .null, .null, .null, .null, .null]))]) hD hS hA [0] rfl
  refine va_callv (va_runI (As := []) (rest := [.ref q0]) ⟨hx, hb, hml, hown, hts⟩ (kX4_init l D ca tf q0 H.size) (cwI 0 hts gL_law_X4_init rfl rfl rfl (hts (.initialized RX4) (by decide +kernel)) (hts (.methodLink R_law 9 yX4_init) (by decide +kernel)) (hts (.instanceMethod yX4_init) (by decide +kernel)) rfl (by decide +kernel) ⟨Nat.le_of_ble_eq_true rfl, Nat.le_of_ble_eq_true rfl⟩) (psC hK hC hS hP hD hA) rfl rfl hl.1 rfl (lv_room (Nat.le_of_ble_eq_true rfl)) dL_law_4 ⟨Nat.le_of_ble_eq_true rfl, Nat.le_of_ble_eq_true rfl⟩) hS (fun q _ h => hFc q h) hFc (fun aX t H1 locs ht hvm hw hB hz1 hk1 hS => ?_)
  obtain ⟨hP1, e74, hIX, hAX⟩ := hB
  rw [ht] at hP1
  subst e74
  have hXA : ∀ q, aS 75 aX q → a0H s q := fun q ⟨k, hk, hq⟩ => by rw [hq]; exact hFc _ (hAX k hk)
  clear hP hD hFc hk1 hz1 ht
  have hD1 : va_D (a0H s) (wX ca aX M0X) := (wL_D hIX M0X).weaken (fun _ _ _ h => hXA _ h)
  refine va_forget (fun q hq => hS.2.2 q hq) ?_
  have hS := va_S_nil hS
  refine W.widen (k := 75) (n := 4235) (Nat.le_of_ble_eq_true rfl) (Nat.le_of_ble_eq_true rfl) ?_
  refine lv_astore_n (lv' := [(1, .ref (aX 74)), (0, .ref b)]) hx hb dL_law_7 rfl hl (by decide) rfl (fun ls hl => ?_)
  refine va_new (ci := 5) (fs := [.int 0, .null, .null, .int 0, .null, .null, .null, .int 0, .null, .null, .null, .null, .null, .null, .null, .null, .null, .null, .null, .int 0, .int 0, .null, .int 0]) (C := RX5) (T := TX5) (N := 23) hx hb hts inX5 tyX5 tyX5_ok hown (hts (.classLink R_law 10 RX5) (by decide +kernel)) (hts (.instantiable RX5 23) (by decide +kernel)) (hts (.initialized RX5) (by decide +kernel)) hK hP1 hD1 hS hA rfl (fun j hj => by rcases (show j = 0 ∨ j = 1 ∨ j = 2 ∨ j = 3 ∨ j = 4 ∨ j = 5 ∨ j = 6 ∨ j = 7 ∨ j = 8 ∨ j = 9 ∨ j = 10 ∨ j = 11 ∨ j = 12 ∨ j = 13 ∨ j = 14 ∨ j = 15 ∨ j = 16 ∨ j = 17 ∨ j = 18 ∨ j = 19 ∨ j = 20 ∨ j = 21 ∨ j = 22 by omega) with rfl | rfl | rfl | rfl | rfl | rfl | rfl | rfl | rfl | rfl | rfl | rfl | rfl | rfl | rfl | rfl | rfl | rfl | rfl | rfl | rfl | rfl | rfl <;> rfl) (Nat.le_of_ble_eq_true rfl) (Nat.le_of_ble_eq_true rfl) dL_law_8 (fun q1 H hP hD hS => ?_)
  have hPx := hP.head
  have hPq := hP.tail
  obtain ⟨hDq, hne⟩ := hD.last
  clear hP hD hP1 hD1
  refine W.widen (k := 76) (n := 4258) (Nat.le_of_ble_eq_true rfl) (Nat.le_of_ble_eq_true rfl) ?_
  refine lv_dup hx hb dL_law_11 rfl ?_
  have hFc := va_free (wc := [(q1, .inr (5, [.int 0, .null, .null, .int 0, .null, .null, .null, .int 0, .null, .null, .null, .null, .null, .null, .null, .null, .null, .null, .null, .int 0, .int 0, .null, .int 0]))]) hDq hS hA [0] rfl
  refine va_callv (va_runI (As := []) (rest := [.ref q1]) ⟨hx, hb, hml, hown, hts⟩ (kX5_init l D ca tf q1 H.size) (cwI 0 hts gL_law_X5_init rfl rfl rfl (hts (.initialized RX5) (by decide +kernel)) (hts (.methodLink R_law 12 yX5_init) (by decide +kernel)) (hts (.instanceMethod yX5_init) (by decide +kernel)) rfl (by decide +kernel) ⟨Nat.le_of_ble_eq_true rfl, Nat.le_of_ble_eq_true rfl⟩) (psC hK hC hS hPq hDq hA) rfl rfl hl.1 rfl (lv_room (Nat.le_of_ble_eq_true rfl)) dL_law_12 ⟨Nat.le_of_ble_eq_true rfl, Nat.le_of_ble_eq_true rfl⟩) hS (fun q _ h => hFc q h) hFc (fun aY t H1 locs ht hvm hw hB hz1 hk1 hS => ?_)
  obtain ⟨hPy, e0, hIY, hAY⟩ := hB
  rw [ht] at hPy
  subst e0
  have hYA : ∀ q, aS 18 aY q → a0H s q := fun q ⟨k, hk, hq⟩ => by rw [hq]; exact hFc _ (hAY k hk)
  have hdis : ∀ q, aS 75 aX q → ¬ aS 18 aY q := fun q ⟨k, hk, hq⟩ ⟨j, hj, hq2⟩ => by
    have hkx : (wX ca aX M0X)[k]? = some (aX k, gX ca aX k (M0X k)) := wL_get hk rfl
    have h1 := (hPx k _ hkx).lt
    have h2 := hne k _ hkx
    rcases va_A1 (hAY j hj) with h3 | h3
    · exact h2 (by show aX k = aY 0; rw [← h3, ← hq2, hq])
    · rw [← hq2, hq] at h3
      exact absurd h1 (Nat.not_lt.mpr h3)
  have hPx1 : va_P D vwCl (wX ca aX M0X) H1 := hPx.kept (fun k x hk => hk1 x.1 (hPx k x hk).lt (fun z => by
    rcases va_A1 z with h3 | h3
    · exact hne k x hk h3
    · exact absurd (hPx k x hk).lt (Nat.not_lt.mpr h3)))
  refine va_forget (fun q hq => hS.2.2 q hq) ?_
  refine W.widen (k := 600000) (n := 7302250) (Nat.le_of_ble_eq_true rfl) (Nat.le_of_ble_eq_true rfl) ?_
  refine lv_astore_n (lv' := [(2, .ref (aY 0)), (1, .ref (aX 74)), (0, .ref b)]) hx hb dL_law_15 rfl hl (by decide) rfl (fun ls hl => ?_)
  refine lv_iconst (v := J ((0 : Nat) : Int)) hx hb dL_law_16 rfl ?_
  refine lv_istore_n (lv' := lvL b aX aY 0) hx hb dL_law_17 rfl hl (by decide) rfl (fun ls hl => ?_)
  exact law_loop C0 hL ⟨hK, hE, hIX, hIY, hXA, hYA, hdis⟩ (L + 1) 0 M0X M0Y H1 ls (Nat.zero_le L) (by omega) ⟨hPx1, hPy, va_S_nil hS⟩ sim_init RR_M0X RR_M0Y hl
