/-! A LOOK on both sides, whole -/
theorem yevn_le (Y : MM) (v : Nat) : ∀ (k j : Nat) (a : Int), yevn Y v k j a ≤ a + 3 * k := by
  intro k
  induction k with
  | zero => intro j a; rw [yevn]; omega
  | succ k ih =>
    intro j a
    rw [yevn]
    have := ih (j + 1) (a + (if Y 8 j = (v : Int) then 1 + (if Y 10 j ≤ Y 11 j then 0 else 1) + (if Y 9 j ≤ Y 10 j then 0 else 1) else 0))
    split at this
    · split at this <;> split at this <;> simp only [*, if_true, if_false] <;> omega
    · simp only [*, if_false]; omega
theorem yevn_lt (Y : MM) {v i : Nat} (h0 : ¬ Y 8 i = (v : Int)) : ∀ (k j : Nat) (a : Int), j ≤ i → i < j + k → yevn Y v k j a + 3 ≤ a + 3 * k := by
  intro k
  induction k with
  | zero => intro j a h1 h2; omega
  | succ k ih =>
    intro j a h1 h2
    rw [yevn]
    by_cases e : j = i
    · subst e
      rw [if_neg h0]
      have := yevn_le Y v k (j + 1) (a + 0)
      omega
    · have := ih (j + 1) (a + (if Y 8 j = (v : Int) then 1 + (if Y 10 j ≤ Y 11 j then 0 else 1) + (if Y 9 j ≤ Y 10 j then 0 else 1) else 0)) (by omega) (by omega)
      have hb : (if Y 8 j = (v : Int) then 1 + (if Y 10 j ≤ Y 11 j then (0 : Int) else 1) + (if Y 9 j ≤ Y 10 j then 0 else 1) else 0) ≤ 3 := by
        split
        · split <;> split <;> omega
        · omega
      omega
section LK
variable {X M : MM} {t : Int} {i r p : Nat}
theorem RunS_mono {s : Int} (h : RunS M t) (hs : t ≤ s) : RunS M s := fun v hv => by
  obtain ⟨h1, h2, ⟨h3, h4⟩, ⟨h5, h6⟩, h7⟩ := h v hv
  exact ⟨h1, h2, ⟨h3, by omega⟩, ⟨h5, by omega⟩, h7⟩
theorem RunS_mk (hV : ValS M) (hR : RunS M t) {u : Nat} (hu : (u : Int) < M 1 4) (hi : (i : Int) < M 1 3) {sh : Int} (h0 : 0 ≤ sh) (h1 : sh ≤ 300) (hc : ycan M u i sh) : RunS (ymk M u i sh) (t + 1) := by
  have hw := yway_b hV hR hu hi
  have hg := ybeg_b hV hR hu hi h0 h1
  obtain ⟨-, ⟨b1, b2⟩, -, -, ⟨d1, d2⟩, -, hvis⟩ := hV
  obtain ⟨⟨p1, p2⟩, -, ⟨p3, p4⟩, ⟨p5, p6⟩, ⟨p7, p8⟩, ⟨p9, p10⟩⟩ := hvis i hi
  obtain ⟨-, hc2, hc3⟩ := hc
  have hc2 : yvis M i 3 ≤ M 14 (yq M u i) := hc2
  intro v hv
  rw [ymk_c _ _ _ _ (by decide)] at hv
  obtain ⟨q1, ⟨q3, q4⟩, ⟨q5, q6⟩, ⟨q7, q8⟩, hq⟩ := hR v hv
  rw [ymk_12, ymk_13, ymk_15, ymk_16]
  refine ⟨?_, ?_, ?_, ?_, fun q hq5 => ?_⟩
  · by_cases e : v = u
    · rw [if_pos e]; exact ⟨p1, p2⟩
    · rw [if_neg e]; exact q1
  · by_cases e : v = u
    · rw [if_pos e]; omega
    · rw [if_neg e]; exact ⟨q3, q4⟩
  · by_cases e : v = u
    · subst e; rw [if_pos rfl]; omega
    · rw [if_neg e]; omega
  · by_cases e : v = u
    · subst e; rw [if_pos rfl]; omega
    · rw [if_neg e]; omega
  · have := hq q hq5
    rw [ymk_14]
    by_cases e : 5 * v + q = yq M u i
    · rw [if_pos e]
      rw [e] at this
      omega
    · rw [if_neg e]; exact this
/-- the outcome that the class keeps of a visit -/
def xO (X Y : MM) (p i : Nat) (w : Int) : Prop := X (55 + 6 * p + 2) (4 * i + 0) = w ∧ X (55 + 6 * p + 2) (4 * i + 1) = Y 8 i ∧ X (55 + 6 * p + 2) (4 * i + 2) = Y 9 i ∧ X (55 + 6 * p + 2) (4 * i + 3) = (if Y 9 i = -6 then -6 else Y 9 i + Y 1 1)
theorem xP_mk {X1 : MM} {u : Nat} {sh : Int} (hP : xP X M p) (hu4 : u < 4) (hq : (yvis M i 2).toNat < 5) (hc : ∀ c, c ≠ 55 + 6 * p + 2 → c ≠ 55 + 6 * p + 3 → c ≠ 55 + 6 * p + 4 → c ≠ 55 + 6 * p + 5 → X1 c = X c) (hk : ∀ k, (k < 6 * u ∨ 6 * u + 6 ≤ k) → X1 (55 + 6 * p + 3) k = X (55 + 6 * p + 3) k)
    (e1 : X1 (55 + 6 * p + 3) (6 * u + 1) = M 15 u + yway M u i) (e2 : X1 (55 + 6 * p + 3) (6 * u + 2) = M 16 u + (ybeg M u i sh - (M 13 u + yway M u i))) (e3 : X1 (55 + 6 * p + 3) (6 * u + 3) = ybeg M u i sh + M 1 1) (e4 : X1 (55 + 6 * p + 3) (6 * u + 4) = yvis M i 0)
    (e5 : ∀ k, X1 (55 + 6 * p + 4) k = if k = yq M u i then M 14 (yq M u i) - yvis M i 3 else X (55 + 6 * p + 4) k) : xP X1 (ymk M u i sh) p := by
  obtain ⟨a1, a2, a3⟩ := hP
  refine ⟨?_, ?_, fun v hv => ?_⟩
  · rw [hc _ (by omega) (by omega) (by omega) (by omega), ymk_c _ _ _ _ (by decide)]; exact a1
  · rw [hc _ (by omega) (by omega) (by omega) (by omega), ymk_c _ _ _ _ (by decide)]; exact a2
  · rw [ymk_c _ _ _ _ (by decide)] at hv
    obtain ⟨f1, f2, f3, f4, f5⟩ := a3 v hv
    rw [ymk_12, ymk_13, ymk_15, ymk_16]
    by_cases e : v = u
    · subst e
      rw [if_pos rfl, if_pos rfl, if_pos rfl, if_pos rfl]
      refine ⟨e1, e2, e3, e4, fun q hq5 => ?_⟩
      rw [e5, ymk_14, f5 q hq5]
    · rw [if_neg e, if_neg e, if_neg e, if_neg e, hk _ (by omega), hk _ (by omega), hk _ (by omega), hk _ (by omega)]
      refine ⟨f1, f2, f3, f4, fun q hq5 => ?_⟩
      rw [e5, ymk_14, f5 q hq5]
theorem evG_eq {Y Z : MM} (h1 : Z 1 = Y 1) : ∀ (G : List Nat), (∀ j, j ∈ G → Z 9 j = Y 9 j ∧ Z 10 j = Y 10 j ∧ Z 11 j = Y 11 j) → evG Z G = evG Y G := by
  intro G
  induction G with
  | nil => intro h; rfl
  | cons a G ih =>
    intro h
    obtain ⟨q1, q2, q3⟩ := h a List.mem_cons_self
    have := ih (fun j hj => h j (List.mem_cons_of_mem _ hj))
    unfold evG at this ⊢
    rw [List.flatMap_cons, List.flatMap_cons, this, q1, q2, q3, h1]
theorem evG_app (Y : MM) (G : List Nat) (i : Nat) : evG Y (G ++ [i]) = evG Y G ++ evs (Y 11 i) (Y 10 i) (Y 9 i) (Y 9 i + Y 1 1) i := by
  unfold evG
  rw [List.flatMap_append, List.flatMap_cons, List.flatMap_nil, List.append_nil]
/-- another van's visits stay as they are -/
theorem vanG_o {u v : Nat} {sh : Int} {G : List Nat} (hv : v ≠ u) (h8 : M 8 i = -6) (h : vanG M v G) : vanG (ymk M u i sh) v G ∧ evG (ymk M u i sh) G = evG M G := by
  obtain ⟨g1, g2, g3, g4⟩ := h
  have hin : ∀ j, j ∈ G → j ≠ i := fun j hj e => by
    have := ((g2 j).mp hj).2
    rw [e, h8] at this
    omega
  have h9 : ∀ j, j ∈ G → ymk M u i sh 9 j = M 9 j ∧ ymk M u i sh 10 j = M 10 j ∧ ymk M u i sh 11 j = M 11 j := fun j hj => by
    rw [ymk_9, ymk_10, ymk_11, if_neg (hin j hj), if_neg (hin j hj), if_neg (hin j hj)]
    exact ⟨rfl, rfl, rfl⟩
  refine ⟨⟨g1, fun j => ?_, fun j hj => ?_, ?_⟩, evG_eq (ymk_c _ _ _ _ (by decide)) G h9⟩
  · rw [ymk_c _ _ _ _ (by decide), ymk_8, g2]
    by_cases e : j = i
    · rw [if_pos e, e, h8]
      exact ⟨fun q => by omega, fun q => by omega⟩
    · rw [if_neg e]
  · obtain ⟨e1, e2, e3⟩ := h9 j hj
    rw [e1, e2, e3, ymk_c _ _ _ _ (by decide), ymk_13, if_neg hv]
    exact g3 j hj
  · refine List.Pairwise.imp_of_mem (fun {a b} ha hb hab => ?_) g4
    rw [(h9 a ha).1, (h9 b hb).1]
    exact hab
/-- the van's visits, one more -/
theorem vanG_u {u : Nat} {sh : Int} {G : List Nat} (hV : ValS M) (hR : RunS M t) (hu : (u : Int) < M 1 4) (hi : (i : Int) < M 1 3) (h0 : 0 ≤ sh) (h1 : sh ≤ 300) (h8 : M 8 i = -6) (h : vanG M u G) : vanG (ymk M u i sh) u (G ++ [i]) ∧ evG (ymk M u i sh) (G ++ [i]) = evG M G ++ evs (M 13 u) (M 13 u + yway M u i) (ybeg M u i sh) (ybeg M u i sh + M 1 1) i := by
  have hw := yway_b hV hR hu hi
  have hg := ybeg_b hV hR hu hi h0 h1
  have hl := hV.2.1
  have hr3 := (hR u hu).2.1
  obtain ⟨g1, g2, g3, g4⟩ := h
  have hin : ∀ j, j ∈ G → j ≠ i := fun j hj e => by
    have := ((g2 j).mp hj).2
    rw [e, h8] at this
    omega
  have h9 : ∀ j, j ∈ G → ymk M u i sh 9 j = M 9 j ∧ ymk M u i sh 10 j = M 10 j ∧ ymk M u i sh 11 j = M 11 j := fun j hj => by
    rw [ymk_9, ymk_10, ymk_11, if_neg (hin j hj), if_neg (hin j hj), if_neg (hin j hj)]
    exact ⟨rfl, rfl, rfl⟩
  refine ⟨⟨?_, fun j => ?_, fun j hj => ?_, ?_⟩, ?_⟩
  · rw [List.nodup_append]
    refine ⟨g1, List.nodup_cons.mpr ⟨List.not_mem_nil, List.nodup_nil⟩, fun a ha b hb => ?_⟩
    rw [List.mem_singleton] at hb
    rw [hb]
    exact hin a ha
  · rw [ymk_c _ _ _ _ (by decide), ymk_8, List.mem_append, List.mem_singleton]
    by_cases e : j = i
    · rw [if_pos e]
      exact ⟨fun _ => ⟨by rw [e]; exact hi, rfl⟩, fun _ => Or.inr e⟩
    · rw [if_neg e, g2]
      exact ⟨fun q => q.resolve_right e, Or.inl⟩
  · rw [ymk_9, ymk_10, ymk_11, ymk_c _ _ _ _ (by decide), ymk_13, if_pos rfl]
    by_cases e : j = i
    · rw [if_pos e, if_pos e, if_pos e]; omega
    · rw [if_neg e, if_neg e, if_neg e]
      have hj2 : j ∈ G := (List.mem_append.mp hj).resolve_right (fun q => e (List.mem_singleton.mp q))
      have := g3 j hj2
      omega
  · rw [List.pairwise_append]
    refine ⟨List.Pairwise.imp_of_mem (fun {a b} ha hb hab => ?_) g4, List.pairwise_singleton _ _, fun a ha b hb => ?_⟩
    · rw [(h9 a ha).1, (h9 b hb).1]; exact hab
    · rw [List.mem_singleton] at hb
      rw [hb, (h9 a ha).1, ymk_9, if_pos rfl]
      have := g3 a ha
      omega
  · rw [evG_app, evG_eq (ymk_c _ _ _ _ (by decide)) G h9, ymk_9, ymk_10, ymk_11, ymk_c _ _ _ _ (by decide), if_pos rfl, if_pos rfl, if_pos rfl]
end LK
