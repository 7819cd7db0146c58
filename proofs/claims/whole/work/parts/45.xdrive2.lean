/-! THE CLASS'S PLAN: a drive as a whole -/
theorem xS_frame {X X1 M : MM} {r : Nat} (hr : r < 11) (h : xS X M r) (hc : ∀ c, c < 55 → X1 c = X c) : xS X1 M r := by
  obtain ⟨h1, h2, h3, h4, h5, h6, h7, h8⟩ := h
  refine ⟨?_, ?_, ?_, ?_, ?_, fun v k a b => ?_, fun v q a b => ?_, fun i k a b => ?_⟩
  · rw [hc _ (by omega)]; exact h1
  · rw [hc _ (by omega)]; exact h2
  · rw [hc _ (by omega)]; exact h3
  · rw [hc _ (by omega)]; exact h4
  · rw [hc _ (by omega)]; exact h5
  · rw [hc _ (by omega)]; exact h6 v k a b
  · rw [hc _ (by omega)]; exact h7 v q a b
  · rw [hc _ (by omega)]; exact h8 i k a b
theorem len_if {α : Type} (P : Prop) [Decidable P] (L : List α) (q : α) : (if P then L else L ++ [q]).length ≤ L.length + 1 := by
  by_cases h : P
  · rw [if_pos h]; exact Nat.le_succ _
  · rw [if_neg h, List.length_append]; exact Nat.le_refl _
section XD
variable {X M : MM} {t : Int} {v i r p : Nat}
theorem x_drv (hV : ValS M) (hR : RunS M t) (ht : 0 ≤ t ∧ t ≤ 100) (hS : xS X M r) (hr : r < 11) (hP : xP X M p) (hv : (v : Int) < M 1 4) (hi : (i : Int) < M 1 3) {b e : Int} (hb : X (55 + 6 * p + 2) (4 * i + 2) = b) (he : X (55 + 6 * p + 2) (4 * i + 3) = e) (b0 : M 13 v + yway M v i ≤ b) (b1 : b ≤ 2310) (e0 : b ≤ e) (e1 : e ≤ 2430) (L : List EvT) (hL : EvIs X p v L) (h63 : L.length + 3 ≤ 63) :
    ∃ X1, fX2_drive p r v i X = some X1 ∧ EvIs X1 p v (L ++ evs (M 13 v) (M 13 v + yway M v i) b e i) ∧ (∀ c, c ≠ 55 + 6 * p + 3 → c ≠ 55 + 6 * p + 4 → c ≠ 55 + 6 * p + 5 → X1 c = X c) ∧ (∀ k, (k < 6 * v ∨ 6 * v + 6 ≤ k) → X1 (55 + 6 * p + 3) k = X (55 + 6 * p + 3) k) ∧
      X1 (55 + 6 * p + 3) (6 * v + 0) = ior (X (55 + 6 * p + 3) (6 * v + 0)) (ishl 1 i) ∧ X1 (55 + 6 * p + 3) (6 * v + 1) = M 15 v + yway M v i ∧ X1 (55 + 6 * p + 3) (6 * v + 2) = M 16 v + (b - (M 13 v + yway M v i)) ∧ X1 (55 + 6 * p + 3) (6 * v + 3) = e ∧ X1 (55 + 6 * p + 3) (6 * v + 4) = yvis M i 0 ∧
      (∀ k, X1 (55 + 6 * p + 4) k = if k = yq M v i then M 14 (yq M v i) - yvis M i 3 else X (55 + 6 * p + 4) k) ∧ (∀ u n k, u ≠ v → n < 63 → k < 4 → X1 (55 + 6 * p + 5) (4 * (63 * u + n) + k) = X (55 + 6 * p + 5) (4 * (63 * u + n) + k)) := by
  have hw := yway_b hV hR hv hi
  have hco := x_comes hV hR hS hP hv hi
  have hi3 := hV.2.2.2.1
  have hv4 := hV.2.2.2.2.1
  obtain ⟨⟨p1, p2⟩, -, ⟨p3, p4⟩, ⟨p5, p6⟩, -, -⟩ := hV.2.2.2.2.2.2 i hi
  obtain ⟨⟨q1, q2⟩, ⟨q3, q4⟩, ⟨q5, q6⟩, ⟨q7, q8⟩, hq⟩ := hR v hv
  obtain ⟨f1, f2, f3, f4, f5⟩ := hP.2.2 v hv
  obtain ⟨r1, r2⟩ := hq (yvis M i 2).toNat (by omega)
  have hqe : M 14 (5 * v + (yvis M i 2).toNat) = M 14 (yq M v i) := rfl
  rw [hqe] at r1 r2
  have hqi : (((v : Int) * 5) + yvis M i 2) = ((yq M v i : Nat) : Int) := by unfold yq; omega
  have hq20 : yq M v i < 20 := by unfold yq; omega
  have f6 : X (55 + 6 * p + 4) (yq M v i) = M 14 (yq M v i) := f5 _ (by omega)
  unfold fX2_drive
  have o2 : fX2_outcome p i 2 X = some b := by
    unfold fX2_outcome
    rw [rd_n (4 * i + 2) (by omega) (by omega), bnd_s, hb]
  have o3 : fX2_outcome p i 3 X = some e := by
    unfold fX2_outcome
    rw [rd_n (4 * i + 3) (by omega) (by omega), bnd_s, he]
  rw [rd_n (6 * v + 3) (by omega) (by omega), bnd_s, f3, hco, bnd_s, o2, bnd_s, o3, bnd_s]
  obtain ⟨A1, ea, la, ca, da, oa⟩ := x_add X p v (s := 0) (b := M 13 v) (e := M 13 v + yway M v i) i (by omega) L hL (by omega) (by decide) ⟨by omega, by omega⟩ ⟨by omega, by omega⟩ (by omega)
  rw [ea, bnd_s]
  obtain ⟨A2, eb, lb, cb, db, ob⟩ := x_add A1 p v (s := 1) (b := M 13 v + yway M v i) (e := b) i (by omega) _ la (Nat.lt_of_le_of_lt (len_if _ _ _) (by omega)) (by decide) ⟨by omega, by omega⟩ ⟨by omega, by omega⟩ (by omega)
  rw [eb, bnd_s]
  obtain ⟨A3, ec, lc, cc, dc, oc⟩ := x_add A2 p v (s := 2) (b := b) (e := e) i (by omega) _ lb (Nat.lt_of_le_of_lt (Nat.le_trans (len_if _ _ _) (Nat.succ_le_succ (len_if _ _ _))) (by omega)) (by decide) ⟨by omega, by omega⟩ ⟨by omega, by omega⟩ (by omega)
  rw [ec, bnd_s]
  rw [evs_app] at lc
  have D : ∀ k, k ≠ 6 * v + 5 → A3 (55 + 6 * p + 3) k = X (55 + 6 * p + 3) k := fun k hk => by rw [dc k hk, db k hk, da k hk]
  have C : ∀ c, c ≠ 55 + 6 * p + 3 → c ≠ 55 + 6 * p + 5 → A3 c = X c := fun c h1 h2 => by rw [cc c h1 h2, cb c h1 h2, ca c h1 h2]
  have O : ∀ u n k, u ≠ v → n < 63 → k < 4 → A3 (55 + 6 * p + 5) (4 * (63 * u + n) + k) = X (55 + 6 * p + 5) (4 * (63 * u + n) + k) := fun u n k h1 h2 h3 => by rw [oc u n k h1 h2 h3, ob u n k h1 h2 h3, oa u n k h1 h2 h3]
  have hS3 : ∀ Z : MM, (∀ c, c < 55 → Z c = A3 c) → xS Z M r := fun Z hZ => xS_frame hr hS (fun c hc => by rw [hZ c hc, C c (by omega) (by omega)])
  have hio : inR (ior (X (55 + 6 * p + 3) (6 * v + 0)) (ishl 1 i)) := J_inR _
  rw [rd_n (6 * v + 0) (by omega) (by omega), bnd_s, D _ (by omega), wr_n (6 * v + 0) (by omega) (by omega) hio, bnd_s]
  rw [rd_n (6 * v + 1) (by omega) (by omega), bnd_s, st_k (by omega), D _ (by omega), f1, wr_n (6 * v + 1) (by omega) (by omega) ⟨by omega, by omega⟩, bnd_s]
  rw [rd_n (6 * v + 2) (by omega) (by omega), bnd_s, st_k (by omega), st_k (by omega), D _ (by omega), f2, wr_n (6 * v + 2) (by omega) (by omega) ⟨by omega, by omega⟩, bnd_s]
  rw [wr_n (6 * v + 3) (by omega) (by omega) ⟨by omega, by omega⟩, bnd_s]
  rw [x_visitFact hV (hS3 _ (fun c hc => by rw [st_cell (by omega), st_cell (by omega), st_cell (by omega), st_cell (by omega)])) hi (k := 0) 0 rfl (by decide), bnd_s]
  rw [wr_n (6 * v + 4) (by omega) (by omega) ⟨by omega, by omega⟩, bnd_s]
  rw [x_visitFact hV (hS3 _ (fun c hc => by rw [st_cell (by omega), st_cell (by omega), st_cell (by omega), st_cell (by omega), st_cell (by omega)])) hi (k := 2) 2 rfl (by decide), bnd_s]
  rw [rd_n (yq M v i) hqi hq20, bnd_s, st_c (by omega), st_c (by omega), st_c (by omega), st_c (by omega), st_c (by omega), C (55 + 6 * p + 4) (by omega) (by omega), f6]
  rw [x_visitFact hV (hS3 _ (fun c hc => by rw [st_cell (by omega), st_cell (by omega), st_cell (by omega), st_cell (by omega), st_cell (by omega)])) hi (k := 3) 3 rfl (by decide), bnd_s]
  rw [wr_n (yq M v i) hqi hq20 ⟨by omega, by omega⟩, bnd_s]
  have e9 : M 13 v + yway M v i - M 13 v = yway M v i := by omega
  rw [e9]
  refine ⟨_, rfl, EvIs_of lc ?_ ?_ (fun n k hn hk => ?_), fun c h1 h2 h3 => ?_, fun k hk => ?_, ?_, ?_, ?_, ?_, ?_, fun k => ?_, fun u n k hu hn hk => ?_⟩
  · rw [List.length_append]; have := evs_len (M 13 v) (M 13 v + yway M v i) b e i; omega
  · rw [st_c (by omega), st_k (by omega), st_k (by omega), st_k (by omega), st_k (by omega), st_k (by omega)]
  · rw [st_c (by omega), st_c (by omega), st_c (by omega), st_c (by omega), st_c (by omega), st_c (by omega)]
  · rw [st_cell h2, st_cell h1, st_cell h1, st_cell h1, st_cell h1, st_cell h1, C c h1 h3]
  · rw [st_c (by omega), st_k (by omega), st_k (by omega), st_k (by omega), st_k (by omega), st_k (by omega), D k (by omega)]
  · rw [st_c (by omega), st_k (by omega), st_k (by omega), st_k (by omega), st_k (by omega), st_at]
  · rw [st_c (by omega), st_k (by omega), st_k (by omega), st_k (by omega), st_at]
  · rw [st_c (by omega), st_k (by omega), st_k (by omega), st_at]
  · rw [st_c (by omega), st_k (by omega), st_at]
  · rw [st_c (by omega), st_at]
  · rw [st_e]
    by_cases hk : k = yq M v i
    · rw [if_pos ⟨rfl, hk⟩, if_pos hk]
    · rw [if_neg (fun z => hk z.2), if_neg hk, st_c (by omega), st_c (by omega), st_c (by omega), st_c (by omega), st_c (by omega), C _ (by omega) (by omega)]
  · rw [st_c (by omega), st_c (by omega), st_c (by omega), st_c (by omega), st_c (by omega), st_c (by omega), O u n k hu hn hk]
end XD
