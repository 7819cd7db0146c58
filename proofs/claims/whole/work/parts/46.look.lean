/-! A LOOK on both sides: the same outcome, the same numbers behind it -/
section MKC
variable (M : MM) (v i : Nat) (sh : Int)
theorem ymk_c {c : Nat} (h : c < 8 ∨ 16 < c) : ymk M v i sh c = M c := by
  unfold ymk
  rw [st_cell (by omega), st_cell (by omega), st_cell (by omega), st_cell (by omega), st_cell (by omega), st_cell (by omega), st_cell (by omega), st_cell (by omega), st_cell (by omega)]
theorem ymk_8 (k : Nat) : ymk M v i sh 8 k = if k = i then (v : Int) else M 8 k := by
  unfold ymk
  rw [st_c (by decide), st_c (by decide), st_c (by decide), st_c (by decide), st_c (by decide), st_c (by decide), st_c (by decide), st_c (by decide), st_e]
  by_cases h : k = i
  · rw [if_pos ⟨rfl, h⟩, if_pos h]
  · rw [if_neg (fun q => h q.2), if_neg h]
theorem ymk_9 (k : Nat) : ymk M v i sh 9 k = if k = i then ybeg M v i sh else M 9 k := by
  unfold ymk
  rw [st_c (by decide), st_c (by decide), st_c (by decide), st_c (by decide), st_c (by decide), st_c (by decide), st_c (by decide), st_e, st_c (by decide)]
  by_cases h : k = i
  · rw [if_pos ⟨rfl, h⟩, if_pos h]
  · rw [if_neg (fun q => h q.2), if_neg h]
theorem ymk_11 (k : Nat) : ymk M v i sh 11 k = if k = i then M 13 v else M 11 k := by
  unfold ymk
  rw [st_c (by decide), st_c (by decide), st_c (by decide), st_c (by decide), st_c (by decide), st_c (by decide), st_e, st_c (by decide), st_c (by decide)]
  by_cases h : k = i
  · rw [if_pos ⟨rfl, h⟩, if_pos h]
  · rw [if_neg (fun q => h q.2), if_neg h]
theorem ymk_10 (k : Nat) : ymk M v i sh 10 k = if k = i then M 13 v + yway M v i else M 10 k := by
  unfold ymk
  rw [st_c (by decide), st_c (by decide), st_c (by decide), st_c (by decide), st_c (by decide), st_e, st_c (by decide), st_c (by decide), st_c (by decide)]
  by_cases h : k = i
  · rw [if_pos ⟨rfl, h⟩, if_pos h]
  · rw [if_neg (fun q => h q.2), if_neg h]
theorem ymk_15 (k : Nat) : ymk M v i sh 15 k = if k = v then M 15 v + yway M v i else M 15 k := by
  unfold ymk
  rw [st_c (by decide), st_c (by decide), st_c (by decide), st_c (by decide), st_e, st_c (by decide), st_c (by decide), st_c (by decide), st_c (by decide)]
  by_cases h : k = v
  · rw [if_pos ⟨rfl, h⟩, if_pos h]
  · rw [if_neg (fun q => h q.2), if_neg h]
theorem ymk_16 (k : Nat) : ymk M v i sh 16 k = if k = v then M 16 v + (ybeg M v i sh - (M 13 v + yway M v i)) else M 16 k := by
  unfold ymk
  rw [st_c (by decide), st_c (by decide), st_c (by decide), st_e, st_c (by decide), st_c (by decide), st_c (by decide), st_c (by decide), st_c (by decide)]
  by_cases h : k = v
  · rw [if_pos ⟨rfl, h⟩, if_pos h]
  · rw [if_neg (fun q => h q.2), if_neg h]
theorem ymk_13 (k : Nat) : ymk M v i sh 13 k = if k = v then ybeg M v i sh + M 1 1 else M 13 k := by
  unfold ymk
  rw [st_c (by decide), st_c (by decide), st_e, st_c (by decide), st_c (by decide), st_c (by decide), st_c (by decide), st_c (by decide), st_c (by decide)]
  by_cases h : k = v
  · rw [if_pos ⟨rfl, h⟩, if_pos h]
  · rw [if_neg (fun q => h q.2), if_neg h]
theorem ymk_12 (k : Nat) : ymk M v i sh 12 k = if k = v then yvis M i 0 else M 12 k := by
  unfold ymk
  rw [st_c (by decide), st_e, st_c (by decide), st_c (by decide), st_c (by decide), st_c (by decide), st_c (by decide), st_c (by decide), st_c (by decide)]
  by_cases h : k = v
  · rw [if_pos ⟨rfl, h⟩, if_pos h]
  · rw [if_neg (fun q => h q.2), if_neg h]
theorem ymk_14 (k : Nat) : ymk M v i sh 14 k = if k = yq M v i then M 14 (yq M v i) - yvis M i 3 else M 14 k := by
  unfold ymk
  rw [st_e]
  by_cases h : k = yq M v i
  · rw [if_pos ⟨rfl, h⟩, if_pos h]
  · rw [if_neg (fun q => h q.2), if_neg h, st_c (by decide), st_c (by decide), st_c (by decide), st_c (by decide), st_c (by decide), st_c (by decide), st_c (by decide), st_c (by decide)]
end MKC
theorem ValS_1 {M N : MM} (h : N 1 = M 1) (hV : ValS M) : ValS N := by
  unfold ValS yvan yvis
  rw [h]
  exact hV
theorem xS_1 {X M N : MM} {r : Nat} (h : N 1 = M 1) (hS : xS X M r) : xS X N r := by
  unfold xS yvan yvis
  rw [h]
  exact hS
/-- a van's visits in the order in which it makes them -/
def evG (Y : MM) (G : List Nat) : List EvT := G.flatMap (fun i => evs (Y 11 i) (Y 10 i) (Y 9 i) (Y 9 i + Y 1 1) i)
def vanG (Y : MM) (v : Nat) (G : List Nat) : Prop := G.Nodup ∧ (∀ i : Nat, i ∈ G ↔ ((i : Int) < Y 1 3 ∧ Y 8 i = (v : Int))) ∧ (∀ i, i ∈ G → 0 ≤ Y 9 i ∧ Y 9 i + Y 1 1 ≤ Y 13 v ∧ Y 11 i ≤ Y 10 i ∧ Y 10 i ≤ Y 9 i) ∧ G.Pairwise (fun a b => Y 9 a < Y 9 b)
/-- the mask of a van's visits: over k visits from j on -/
def ymask (Y : MM) (v : Nat) : Nat → Nat → Int → Int
  | 0, _, a => a
  | k + 1, j, a => ymask Y v k (j + 1) (ior a (if Y 8 j = (v : Int) then ishl 1 j else 0))
/-- how many events a van has: over k visits from j on -/
def yevn (Y : MM) (v : Nat) : Nat → Nat → Int → Int
  | 0, _, a => a
  | k + 1, j, a => yevn Y v k (j + 1) (a + (if Y 8 j = (v : Int) then 1 + (if Y 10 j ≤ Y 11 j then 0 else 1) + (if Y 9 j ≤ Y 10 j then 0 else 1) else 0))
def xE (X Y : MM) (p : Nat) : Prop := ∀ v : Nat, (v : Int) < Y 1 4 → (∃ G, vanG Y v G ∧ EvIs X p v (evG Y G)) ∧ X (55 + 6 * p + 3) (6 * v + 0) = ymask Y v (Y 1 3).toNat 0 0 ∧ X (55 + 6 * p + 3) (6 * v + 5) = yevn Y v (Y 1 3).toNat 0 0
theorem ior_c (a b c : Int) : ior (ior a b) c = ior (ior a c) b := by
  unfold ior
  rw [J_of, J_of, Int32.or_assoc, Int32.or_assoc, Int32.or_comm (J b)]
theorem ymask_ior (Y : MM) (v : Nat) (z : Int) : ∀ (k j : Nat) (a : Int), ymask Y v k j (ior a z) = ior (ymask Y v k j a) z := by
  intro k
  induction k with
  | zero => intro j a; rfl
  | succ k ih =>
    intro j a
    rw [ymask, ymask, ior_c, ih]
theorem ior_0 {x : Int} (h : inR x) : ior x 0 = x := by
  unfold ior
  rw [show J 0 = 0 from rfl, Int32.or_zero, J_toInt h]
theorem ior_R (x y : Int) : inR (ior x y) := J_inR _
theorem ymask_eq {Y Z : MM} {v : Nat} : ∀ (k j : Nat) (a : Int), (∀ i, j ≤ i → i < j + k → (Y 8 i = (v : Int) ↔ Z 8 i = (v : Int))) → ymask Y v k j a = ymask Z v k j a := by
  intro k
  induction k with
  | zero => intro j a h; rfl
  | succ k ih =>
    intro j a h
    rw [ymask, ymask, ih (j + 1) _ (fun i h1 h2 => h i (by omega) (by omega))]
    have := h j (Nat.le_refl _) (by omega)
    by_cases c : Y 8 j = (v : Int)
    · rw [if_pos c, if_pos (this.mp c)]
    · rw [if_neg c, if_neg (fun q => c (this.mpr q))]
/-- one visit more in the mask -/
theorem ymask_put {Y Z : MM} {v i : Nat} (h0 : ¬ Y 8 i = (v : Int)) (h1 : Z 8 i = (v : Int)) (hj : ∀ j, j ≠ i → Z 8 j = Y 8 j) : ∀ (k j : Nat) (a : Int), j ≤ i → i < j + k → inR a → ymask Z v k j a = ior (ymask Y v k j a) (ishl 1 i) := by
  intro k
  induction k with
  | zero => intro j a h2 h3; omega
  | succ k ih =>
    intro j a h2 h3 ha
    rw [ymask, ymask]
    by_cases e : j = i
    · subst e
      rw [if_pos h1, if_neg h0, ymask_ior, ior_0 ha, ymask_eq (Y := Z) (Z := Y) k (j + 1) a (fun i h4 h5 => by rw [hj i (by omega)])]
    · rw [hj j e, ih (j + 1) _ (by omega) (by omega) (ior_R _ _)]
theorem yevn_add (Y : MM) (v : Nat) : ∀ (k j : Nat) (a z : Int), yevn Y v k j (a + z) = yevn Y v k j a + z := by
  intro k
  induction k with
  | zero => intro j a z; rfl
  | succ k ih =>
    intro j a z
    rw [yevn, yevn, ← ih]
    congr 1
    omega
theorem yevn_eq {Y Z : MM} {v : Nat} : ∀ (k j : Nat) (a : Int), (∀ i, j ≤ i → i < j + k → (Y 8 i = (v : Int) ↔ Z 8 i = (v : Int)) ∧ (Y 8 i = (v : Int) → Y 9 i = Z 9 i ∧ Y 10 i = Z 10 i ∧ Y 11 i = Z 11 i)) → yevn Y v k j a = yevn Z v k j a := by
  intro k
  induction k with
  | zero => intro j a h; rfl
  | succ k ih =>
    intro j a h
    rw [yevn, yevn, ih (j + 1) _ (fun i h1 h2 => h i (by omega) (by omega))]
    obtain ⟨h1, h2⟩ := h j (Nat.le_refl _) (by omega)
    by_cases c : Y 8 j = (v : Int)
    · obtain ⟨e1, e2, e3⟩ := h2 c
      rw [if_pos c, if_pos (h1.mp c), e1, e2, e3]
    · rw [if_neg c, if_neg (fun q => c (h1.mpr q))]
theorem yevn_put {Y Z : MM} {v i : Nat} (h0 : ¬ Y 8 i = (v : Int)) (h1 : Z 8 i = (v : Int)) (hj : ∀ j, j ≠ i → Z 8 j = Y 8 j ∧ Z 9 j = Y 9 j ∧ Z 10 j = Y 10 j ∧ Z 11 j = Y 11 j) : ∀ (k j : Nat) (a : Int), j ≤ i → i < j + k → yevn Z v k j a = yevn Y v k j a + (1 + (if Z 10 i ≤ Z 11 i then 0 else 1) + (if Z 9 i ≤ Z 10 i then 0 else 1)) := by
  intro k
  induction k with
  | zero => intro j a h2 h3; omega
  | succ k ih =>
    intro j a h2 h3
    rw [yevn, yevn]
    by_cases e : j = i
    · subst e
      rw [if_pos h1, if_neg h0, yevn_add, yevn_add Y v k (j + 1) a 0, Int.add_zero, yevn_eq (Y := Z) (Z := Y) k (j + 1) a (fun i h4 h5 => by
        obtain ⟨q1, q2, q3, q4⟩ := hj i (by omega)
        rw [q1, q2, q3, q4]
        exact ⟨Iff.rfl, fun _ => ⟨rfl, rfl, rfl⟩⟩)]
    · obtain ⟨q1, q2, q3, q4⟩ := hj j e
      rw [q1, q2, q3, q4, ih (j + 1) _ (by omega) (by omega)]
theorem evs_cnt {f c b e : Int} (i : Nat) (h1 : f ≤ c) (h2 : c ≤ b) (h3 : b < e) : ((evs f c b e i).length : Int) = 1 + (if c ≤ f then 0 else 1) + (if b ≤ c then 0 else 1) := by
  unfold evs
  rw [if_neg (show ¬ b = e by omega), List.length_append, List.length_append]
  by_cases k1 : f = c
  · by_cases k2 : c = b
    · rw [if_pos k1, if_pos k2, if_pos (by omega), if_pos (by omega)]; rfl
    · rw [if_pos k1, if_neg k2, if_pos (by omega), if_neg (by omega)]; rfl
  · by_cases k2 : c = b
    · rw [if_neg k1, if_pos k2, if_neg (by omega), if_pos (by omega)]; rfl
    · rw [if_neg k1, if_neg k2, if_neg (by omega), if_neg (by omega)]; rfl
