/-! THE CLASS'S PLAN: an outcome, an event, a drive -/
def xput (X : MM) (p i : Nat) (a b c d : Int) : MM := stM (stM (stM (stM X (55 + 6 * p + 2) (4 * i + 0) a) (55 + 6 * p + 2) (4 * i + 1) b) (55 + 6 * p + 2) (4 * i + 2) c) (55 + 6 * p + 2) (4 * i + 3) d
theorem x_put (X : MM) (p i : Nat) {a b c d : Int} (hi : i < 21) (ha : inR a) (hb : inR b) (hc : inR c) (hd : inR d) : fX2_putOutcome p i a b c d X = some (xput X p i a b c d) := by
  unfold fX2_putOutcome
  rw [wr_n (4 * i + 0) (by omega) (by omega) ha, bnd_s, wr_n (4 * i + 1) (by omega) (by omega) hb, bnd_s, wr_n (4 * i + 2) (by omega) (by omega) hc, bnd_s, wr_n (4 * i + 3) (by omega) (by omega) hd, bnd_s]
  rfl
theorem xput_c {X : MM} {p i : Nat} {a b c d : Int} {e : Nat} (h : e ≠ 55 + 6 * p + 2) : xput X p i a b c d e = X e := by
  unfold xput
  rw [st_cell h, st_cell h, st_cell h, st_cell h]
theorem xput_o {X : MM} {p i j k : Nat} {a b c d : Int} (h : j ≠ i) (hk : k < 4) : xput X p i a b c d (55 + 6 * p + 2) (4 * j + k) = X (55 + 6 * p + 2) (4 * j + k) := by
  unfold xput
  rw [st_k (by omega), st_k (by omega), st_k (by omega), st_k (by omega)]
theorem xput_0 {X : MM} {p i : Nat} {a b c d : Int} : xput X p i a b c d (55 + 6 * p + 2) (4 * i + 0) = a := by
  unfold xput
  rw [st_k (by omega), st_k (by omega), st_k (by omega), st_at]
theorem xput_1 {X : MM} {p i : Nat} {a b c d : Int} : xput X p i a b c d (55 + 6 * p + 2) (4 * i + 1) = b := by
  unfold xput
  rw [st_k (by omega), st_k (by omega), st_at]
theorem xput_2 {X : MM} {p i : Nat} {a b c d : Int} : xput X p i a b c d (55 + 6 * p + 2) (4 * i + 2) = c := by
  unfold xput
  rw [st_k (by omega), st_at]
theorem xput_3 {X : MM} {p i : Nat} {a b c d : Int} : xput X p i a b c d (55 + 6 * p + 2) (4 * i + 3) = d := by
  unfold xput
  rw [st_at]
/-- the events of a van, told as a list of (sort, begins, ends, visit) -/
abbrev EvT : Type := Int × Int × Int × Int
def EvIs (X : MM) (p v : Nat) (L : List EvT) : Prop := X (55 + 6 * p + 3) (6 * v + 5) = L.length ∧ ∀ (n : Nat) (q : EvT), L[n]? = some q → X (55 + 6 * p + 5) (4 * (63 * v + n) + 0) = q.1 ∧ X (55 + 6 * p + 5) (4 * (63 * v + n) + 1) = q.2.1 ∧ X (55 + 6 * p + 5) (4 * (63 * v + n) + 2) = q.2.2.1 ∧ X (55 + 6 * p + 5) (4 * (63 * v + n) + 3) = q.2.2.2
/-- one event more: nothing else changes -/
theorem x_add (X : MM) (p v : Nat) {s b e : Int} (i : Nat) (hv : v < 4) (L : List EvT) (hL : EvIs X p v L) (h63 : L.length < 63) (hs : inR s) (hb : inR b) (he : inR e) (hi : i < 21) : ∃ X1, fX2_addEvent p v s b e i X = some X1 ∧ EvIs X1 p v (if b = e then L else L ++ [(s, b, e, (i : Int))]) ∧ (∀ c, c ≠ 55 + 6 * p + 3 → c ≠ 55 + 6 * p + 5 → X1 c = X c) ∧ (∀ k, k ≠ 6 * v + 5 → X1 (55 + 6 * p + 3) k = X (55 + 6 * p + 3) k) ∧ (∀ u n k, u ≠ v → n < 63 → k < 4 → X1 (55 + 6 * p + 5) (4 * (63 * u + n) + k) = X (55 + 6 * p + 5) (4 * (63 * u + n) + k)) := by
  unfold fX2_addEvent
  have e1 : fX2_driveFact p v 5 X = some (L.length : Int) := by
    unfold fX2_driveFact
    rw [rd_n (6 * v + 5) (by omega) (by omega), bnd_s, hL.1]
  rw [e1, bnd_s]
  by_cases hbe : b = e
  · rw [if_pos hbe, if_pos hbe]
    exact ⟨X, rfl, hL, fun _ _ _ => rfl, fun _ _ => rfl, fun _ _ _ _ _ _ => rfl⟩
  · rw [if_neg hbe, if_neg hbe, if_pos (by omega)]
    rw [wr_n (4 * (63 * v + L.length) + 0) (by omega) (by omega) hs, bnd_s, wr_n (4 * (63 * v + L.length) + 1) (by omega) (by omega) hb, bnd_s, wr_n (4 * (63 * v + L.length) + 2) (by omega) (by omega) he, bnd_s, wr_n (4 * (63 * v + L.length) + 3) (by omega) (by omega) ⟨by omega, by omega⟩, bnd_s, wr_n (6 * v + 5) (by omega) (by omega) ⟨by omega, by omega⟩, bnd_s]
    refine ⟨_, rfl, ⟨?_, fun n q hq => ?_⟩, fun c h1 h2 => ?_, fun k hk => ?_, fun u n k hu hn hk => ?_⟩
    · rw [st_at, List.length_append]; rfl
    · rcases Nat.lt_trichotomy n L.length with h | h | h
      · rw [List.getElem?_append_left h] at hq
        obtain ⟨a1, a2, a3, a4⟩ := hL.2 n q hq
        refine ⟨?_, ?_, ?_, ?_⟩
        · rw [st_c (by omega), st_k (by omega), st_k (by omega), st_k (by omega), st_k (by omega)]; exact a1
        · rw [st_c (by omega), st_k (by omega), st_k (by omega), st_k (by omega), st_k (by omega)]; exact a2
        · rw [st_c (by omega), st_k (by omega), st_k (by omega), st_k (by omega), st_k (by omega)]; exact a3
        · rw [st_c (by omega), st_k (by omega), st_k (by omega), st_k (by omega), st_k (by omega)]; exact a4
      · subst h
        rw [List.getElem?_append_right (Nat.le_refl _), Nat.sub_self] at hq
        cases hq
        refine ⟨?_, ?_, ?_, ?_⟩
        · rw [st_c (by omega), st_k (by omega), st_k (by omega), st_k (by omega), st_at]
        · rw [st_c (by omega), st_k (by omega), st_k (by omega), st_at]
        · rw [st_c (by omega), st_k (by omega), st_at]
        · rw [st_c (by omega), st_at]
      · rw [List.getElem?_eq_none (by simp; omega)] at hq
        cases hq
    · rw [st_cell h1, st_cell h2, st_cell h2, st_cell h2, st_cell h2]
    · rw [st_k hk, st_c (by omega), st_c (by omega), st_c (by omega), st_c (by omega)]
    · rw [st_c (by omega), st_k (by omega), st_k (by omega), st_k (by omega), st_k (by omega)]
theorem EvIs_of {X X1 : MM} {p v : Nat} {L : List EvT} (h : EvIs X p v L) (hn : L.length ≤ 63) (h1 : X1 (55 + 6 * p + 3) (6 * v + 5) = X (55 + 6 * p + 3) (6 * v + 5)) (h2 : ∀ n k, n < 63 → k < 4 → X1 (55 + 6 * p + 5) (4 * (63 * v + n) + k) = X (55 + 6 * p + 5) (4 * (63 * v + n) + k)) : EvIs X1 p v L := by
  refine ⟨by rw [h1]; exact h.1, fun n q hq => ?_⟩
  have hl : n < L.length := (List.getElem?_eq_some_iff.mp hq).1
  obtain ⟨a1, a2, a3, a4⟩ := h.2 n q hq
  exact ⟨by rw [h2 n 0 (by omega) (by omega)]; exact a1, by rw [h2 n 1 (by omega) (by omega)]; exact a2, by rw [h2 n 2 (by omega) (by omega)]; exact a3, by rw [h2 n 3 (by omega) (by omega)]; exact a4⟩
/-- the events of one visit -/
def evs (f c b e : Int) (i : Nat) : List EvT := (if f = c then [] else [((0 : Int), f, c, (i : Int))]) ++ ((if c = b then [] else [((1 : Int), c, b, (i : Int))]) ++ (if b = e then [] else [((2 : Int), b, e, (i : Int))]))
theorem evs_len (f c b e : Int) (i : Nat) : (evs f c b e i).length ≤ 3 := by
  have l1 : ∀ (P : Prop) [Decidable P] (q : EvT), (if P then ([] : List EvT) else [q]).length ≤ 1 := fun P _ q => by
    by_cases h : P
    · rw [if_pos h]; exact Nat.zero_le _
    · rw [if_neg h]; exact Nat.le_refl _
  unfold evs
  rw [List.length_append, List.length_append]
  have a1 := l1 (f = c) ((0 : Int), f, c, (i : Int))
  have a2 := l1 (c = b) ((1 : Int), c, b, (i : Int))
  have a3 := l1 (b = e) ((2 : Int), b, e, (i : Int))
  omega
theorem evs_app {L : List EvT} {f c b e : Int} {i : Nat} : (if b = e then (if c = b then (if f = c then L else L ++ [((0 : Int), f, c, (i : Int))]) else (if f = c then L else L ++ [((0 : Int), f, c, (i : Int))]) ++ [((1 : Int), c, b, (i : Int))]) else (if c = b then (if f = c then L else L ++ [((0 : Int), f, c, (i : Int))]) else (if f = c then L else L ++ [((0 : Int), f, c, (i : Int))]) ++ [((1 : Int), c, b, (i : Int))]) ++ [((2 : Int), b, e, (i : Int))]) = L ++ evs f c b e i := by
  unfold evs
  by_cases h1 : f = c
  · by_cases h2 : c = b
    · by_cases h3 : b = e
      · simp only [if_pos h1, if_pos h2, if_pos h3, List.append_nil]
      · simp only [if_pos h1, if_pos h2, if_neg h3, List.nil_append]
    · by_cases h3 : b = e
      · simp only [if_pos h1, if_neg h2, if_pos h3, List.append_nil, List.nil_append]
      · simp only [if_pos h1, if_neg h2, if_neg h3, List.nil_append, List.append_assoc]
  · by_cases h2 : c = b
    · by_cases h3 : b = e
      · simp only [if_neg h1, if_pos h2, if_pos h3, List.append_nil]
      · simp only [if_neg h1, if_pos h2, if_neg h3, List.nil_append, List.append_assoc]
    · by_cases h3 : b = e
      · simp only [if_neg h1, if_neg h2, if_pos h3, List.append_nil, List.append_assoc]
      · simp only [if_neg h1, if_neg h2, if_neg h3, List.append_assoc]
