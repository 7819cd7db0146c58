/-! TEXTS: the signs of the pad, and the pieces of an order, on the class's side -/
abbrev isD (g : Nat → Int) (p : Nat) : Prop := 48 ≤ g p ∧ g p ≤ 57
abbrev isS (g : Nat → Int) (p : Nat) : Prop := 48 ≤ g p ∧ g p ≤ 51
/-- what a pad says: its signs, 0 behind its L signs -/
def TG (g : Nat → Int) (L : Nat) : Prop := L ≤ 80 ∧ (∀ i, 0 ≤ g i ∧ g i ≤ 255) ∧ ∀ i, L ≤ i → g i = 0
def XG (X : MM) (g : Nat → Int) (L : Nat) : Prop := X 71 1 = L ∧ ∀ i, i < L → X 72 i = g i
def YG (Y : MM) (g : Nat → Int) (L : Nat) : Prop := Y 0 7 = L ∧ ∀ i, i < L → Y 5 i = g i
theorem PD_G {X Y : MM} (h : PD X Y) : ∃ g L, TG g L ∧ XG X g L ∧ YG Y g L := by
  obtain ⟨h1, h2, h3⟩ := h
  refine ⟨fun i => if (i : Int) < Y 0 7 then Y 5 i else 0, (Y 0 7).toNat, ⟨by omega, fun i => ?_, fun i hi => ?_⟩, ⟨by omega, fun i hi => ?_⟩, ⟨by omega, fun i hi => ?_⟩⟩
  · show 0 ≤ (if (i : Int) < Y 0 7 then Y 5 i else 0) ∧ (if (i : Int) < Y 0 7 then Y 5 i else 0) ≤ 255
    by_cases c : (i : Int) < Y 0 7
    · rw [if_pos c]; exact (h3 i c).2
    · rw [if_neg c]; decide
  · exact if_neg (by omega)
  · exact (h3 i (by omega)).1.trans (if_pos (by omega)).symm
  · exact (if_pos (by omega)).symm
/-- a number's further digits, at most k of them -/
def rnl (g : Nat → Int) : Nat → Int → Nat → Int × Nat
  | 0, v, p => (v, p)
  | k + 1, v, p => if v ≤ 0 then (v, p) else if isD g p then rnl g k (v * 10 + (g p - 48)) (p + 1) else (v, p)
/-- a set of skills, at most k digits -/
def rsk (g : Nat → Int) : Nat → Int → Nat → Int × Nat
  | 0, v, p => (v, p)
  | k + 1, v, p => if isS g p then rsk g k (ior v (ishl 1 (g p - 48))) (p + 1) else (v, p)
def tw (W : List Int) (v : Int) : List Int := if W.length < 6 then W ++ [v] else W
/-- a piece of an order: does it fit, where is the reading then, what is told -/
def pc (g : Nat → Int) (L : Nat) (ch : Int) (p : Nat) (W : List Int) : Int × Nat × List Int :=
  if ch = 100 then if isD g p then (1, p + 1, tw W (g p - 48)) else (0, p, W)
  else if ch = 110 then if isD g p then (1, (rnl g 2 (g p - 48) (p + 1)).2, tw W (rnl g 2 (g p - 48) (p + 1)).1) else (0, p, W)
  else if ch = 115 then (if (rsk g (L - p) 0 p).1 = 0 then 0 else 1, (rsk g (L - p) 0 p).2, tw W (rsk g (L - p) 0 p).1)
  else if g p = ch then (1, p + 1, W) else (0, p, W)
section TX
variable {g : Nat → Int} {L : Nat}
theorem g_lt (t : TG g L) {p : Nat} (h : g p ≠ 0) : p < L := by
  rcases Nat.lt_or_ge p L with q | q
  · exact q
  · exact absurd (t.2.2 p q) h
theorem rnl_p (t : TG g L) : ∀ (k : Nat) (v : Int) (p : Nat), p ≤ L → p ≤ (rnl g k v p).2 ∧ (rnl g k v p).2 ≤ L := by
  intro k
  induction k with
  | zero => intro v p hp; exact ⟨Nat.le_refl _, hp⟩
  | succ k ih =>
    intro v p hp
    rw [rnl]
    by_cases c : v ≤ 0
    · rw [if_pos c]; exact ⟨Nat.le_refl _, hp⟩
    · rw [if_neg c]
      by_cases d : isD g p
      · have := g_lt t (p := p) (by omega)
        rw [if_pos d]
        have := ih (v * 10 + (g p - 48)) (p + 1) (by omega)
        omega
      · rw [if_neg d]; exact ⟨Nat.le_refl _, hp⟩
theorem rnl_v : ∀ (k : Nat) (v : Int) (p : Nat), 0 ≤ v → k ≤ 2 → (k = 2 → v ≤ 9) → (k = 1 → v ≤ 99) → (k = 0 → v ≤ 999) → 0 ≤ (rnl g k v p).1 ∧ (rnl g k v p).1 ≤ 999 := by
  intro k
  induction k with
  | zero => intro v p h0 _ _ _ h; exact ⟨h0, h rfl⟩
  | succ k ih =>
    intro v p h0 hk h2 h1 _
    rw [rnl]
    by_cases c : v ≤ 0
    · rw [if_pos c]; show 0 ≤ v ∧ v ≤ 999; omega
    · rw [if_neg c]
      by_cases d : isD g p
      · rw [if_pos d]
        exact ih _ _ (by omega) (by omega) (fun q => by omega) (fun q => by omega) (fun q => by omega)
      · rw [if_neg d]; show 0 ≤ v ∧ v ≤ 999; omega
theorem rsk_p (t : TG g L) : ∀ (k : Nat) (v : Int) (p : Nat), p ≤ L → p ≤ (rsk g k v p).2 ∧ (rsk g k v p).2 ≤ L := by
  intro k
  induction k with
  | zero => intro v p hp; exact ⟨Nat.le_refl _, hp⟩
  | succ k ih =>
    intro v p hp
    rw [rsk]
    by_cases d : isS g p
    · have := g_lt t (p := p) (by omega)
      rw [if_pos d]
      have := ih (ior v (ishl 1 (g p - 48))) (p + 1) (by omega)
      omega
    · rw [if_neg d]; exact ⟨Nat.le_refl _, hp⟩
theorem or_sk : ∀ v : Nat, v < 16 → ∀ d : Nat, d < 4 → 1 ≤ ior (v : Int) (ishl 1 (d : Int)) ∧ ior (v : Int) (ishl 1 (d : Int)) ≤ 15 := by decide +kernel
theorem or_sk' {v d : Int} (h0 : 0 ≤ v) (h1 : v ≤ 15) (h2 : 0 ≤ d) (h3 : d ≤ 3) : 1 ≤ ior v (ishl 1 d) ∧ ior v (ishl 1 d) ≤ 15 := by
  obtain ⟨a, rfl⟩ : ∃ a : Nat, v = a := ⟨v.toNat, by omega⟩
  obtain ⟨b, rfl⟩ : ∃ b : Nat, d = b := ⟨d.toNat, by omega⟩
  exact or_sk a (by omega) b (by omega)
theorem rsk_v : ∀ (k : Nat) (v : Int) (p : Nat), 1 ≤ v → v ≤ 15 → 1 ≤ (rsk g k v p).1 ∧ (rsk g k v p).1 ≤ 15 := by
  intro k
  induction k with
  | zero => intro v p h1 h2; exact ⟨h1, h2⟩
  | succ k ih =>
    intro v p h1 h2
    rw [rsk]
    by_cases d : isS g p
    · rw [if_pos d]
      have := or_sk' (v := v) (d := g p - 48) (by omega) h2 (by omega) (by omega)
      exact ih _ _ this.1 this.2
    · rw [if_neg d]; exact ⟨h1, h2⟩
/-- the skills at p: none, or some -/
theorem rsk_0 (t : TG g L) {p : Nat} (hp : p ≤ L) : (isS g p ∧ p < (rsk g (L - p) 0 p).2 ∧ 1 ≤ (rsk g (L - p) 0 p).1 ∧ (rsk g (L - p) 0 p).1 ≤ 15) ∨ (¬ isS g p ∧ rsk g (L - p) 0 p = (0, p)) := by
  by_cases d : isS g p
  · have hl := g_lt t (p := p) (by omega)
    obtain ⟨k, hk⟩ : ∃ k, L - p = k + 1 := ⟨L - p - 1, by omega⟩
    rw [hk, rsk, if_pos d]
    have := or_sk' (v := 0) (d := g p - 48) (by omega) (by omega) (by omega) (by omega)
    have h1 := rsk_v (g := g) k (ior 0 (ishl 1 (g p - 48))) (p + 1) this.1 this.2
    have h2 := rsk_p t k (ior 0 (ishl 1 (g p - 48))) (p + 1) (by omega)
    exact Or.inl ⟨d, by omega, h1⟩
  · refine Or.inr ⟨d, ?_⟩
    cases L - p with
    | zero => rfl
    | succ k => rw [rsk, if_neg d]
theorem pc_b (t : TG g L) {ch : Int} (hc : ch ≠ 0) {p : Nat} (hp : p ≤ L) (W : List Int) : p ≤ (pc g L ch p W).2.1 ∧ (pc g L ch p W).2.1 ≤ L ∧ (((pc g L ch p W).1 = 0 ∧ (pc g L ch p W).2.1 = p) ∨ ((pc g L ch p W).1 = 1 ∧ p < (pc g L ch p W).2.1)) := by
  unfold pc
  by_cases c1 : ch = 100
  · rw [if_pos c1]
    by_cases d : isD g p
    · have := g_lt t (p := p) (by omega)
      rw [if_pos d]
      exact ⟨Nat.le_succ p, this, Or.inr ⟨rfl, Nat.lt_succ_self p⟩⟩
    · rw [if_neg d]
      exact ⟨Nat.le_refl p, hp, Or.inl ⟨rfl, rfl⟩⟩
  · rw [if_neg c1]
    by_cases c2 : ch = 110
    · rw [if_pos c2]
      by_cases d : isD g p
      · have := g_lt t (p := p) (by omega)
        have h := rnl_p t 2 (g p - 48) (p + 1) (by omega)
        rw [if_pos d]
        exact ⟨by show p ≤ (rnl g 2 (g p - 48) (p + 1)).2; omega, h.2, Or.inr ⟨rfl, by show p < (rnl g 2 (g p - 48) (p + 1)).2; omega⟩⟩
      · rw [if_neg d]
        exact ⟨Nat.le_refl p, hp, Or.inl ⟨rfl, rfl⟩⟩
    · rw [if_neg c2]
      by_cases c3 : ch = 115
      · rw [if_pos c3]
        have h := rsk_p t (L - p) 0 p hp
        rcases rsk_0 t hp with ⟨-, h1, h2, h3⟩ | ⟨-, h1⟩
        · exact ⟨h.1, h.2, Or.inr ⟨if_neg (by omega), h1⟩⟩
        · rw [h1]
          exact ⟨Nat.le_refl p, hp, Or.inl ⟨rfl, rfl⟩⟩
      · rw [if_neg c3]
        by_cases d : g p = ch
        · have := g_lt t (p := p) (by omega)
          rw [if_pos d]
          exact ⟨Nat.le_succ p, this, Or.inr ⟨rfl, Nat.lt_succ_self p⟩⟩
        · rw [if_neg d]
          exact ⟨Nat.le_refl p, hp, Or.inl ⟨rfl, rfl⟩⟩
/-- where the class's reading is, and what it told -/
def TX (X : MM) (p : Nat) (W : List Int) : Prop := X 71 2 = p ∧ X 71 3 = W.length ∧ ∀ (i : Nat) (v : Int), W[i]? = some v → X 73 i = v
def FX (X X' : MM) : Prop := (∀ c, c ≠ 71 → c ≠ 73 → X' c = X c) ∧ ∀ k, k ≠ 2 → k ≠ 3 → X' 71 k = X 71 k
theorem FX_rf (X : MM) : FX X X := ⟨fun _ _ _ => rfl, fun _ _ _ => rfl⟩
theorem FX_tr {X1 X2 X3 : MM} (h1 : FX X1 X2) (h2 : FX X2 X3) : FX X1 X3 := ⟨fun c a b => by rw [h2.1 c a b, h1.1 c a b], fun k a b => by rw [h2.2 k a b, h1.2 k a b]⟩
theorem XG_F {X X' : MM} (h : FX X X') (x : XG X g L) : XG X' g L := ⟨by rw [h.2 1 (by decide) (by decide)]; exact x.1, by rw [h.1 72 (by decide) (by decide)]; exact x.2⟩
/-- only the reading's place moves -/
theorem TX_mv {X : MM} {p q : Nat} {W : List Int} (h : TX X p W) : TX (stM X 71 2 q) q W := ⟨st_at _ _ _ _, by rw [st_k (by decide)]; exact h.2.1, fun i v hv => by rw [st_c (by decide)]; exact h.2.2 i v hv⟩
theorem FX_mv (X : MM) (z : Int) : FX X (stM X 71 2 z) := ⟨fun c h _ => st_cell h, fun k h _ => st_k h⟩
theorem x_sign {X : MM} {p : Nat} (t : TG g L) (x : XG X g L) (h : X 71 2 = p) : fX1_nextSign X = some (g p) := by
  have hb := t.2.1 p
  unfold fX1_nextSign
  rw [h, if_neg (by omega), x.1]
  by_cases c : p < L
  · have := t.1
    rw [if_neg (by omega), rd_n p rfl (by omega), bnd_s, bnd_s, x.2 p c, gd_s ⟨by omega, by omega⟩]
  · rw [if_pos (by omega), bnd_s, t.2.2 p (by omega), gd_s (by decide)]
theorem x_digit {X : MM} {p : Nat} (t : TG g L) (x : XG X g L) (h : X 71 2 = p) : fX1_nextDigit X = some (if isD g p then g p - 48 else -6) := by
  have hb := t.2.1 p
  unfold fX1_nextDigit
  rw [x_sign t x h, bnd_s, gd_R (by omega) (by omega), p_within, bnd_s]
  by_cases c : isD g p
  · rw [if_pos (show 0 ≤ g p - 48 ∧ g p - 48 ≤ 9 by omega), if_neg (show ¬ (1 : Int) = 0 by decide), bnd_s, if_pos c]
  · rw [if_neg (show ¬ (0 ≤ g p - 48 ∧ g p - 48 ≤ 9) by omega), if_pos rfl, bnd_s, if_neg c]
theorem x_readSign {X : MM} {p : Nat} (t : TG g L) (x : XG X g L) (h : X 71 2 = p) (hp : p ≤ L) (ch : Int) : fX1_readSign ch X = if g p = ch then some (1, stM X 71 2 ((p + 1 : Nat) : Int)) else some (0, X) := by
  have := t.1
  unfold fX1_readSign
  rw [x_sign t x h, bnd_s, h]
  by_cases c : g p = ch
  · rw [if_pos c, if_pos c, gd_R (by omega) (by omega), bnd_s, show (p : Int) + 1 = ((p + 1 : Nat) : Int) by omega]
  · rw [if_neg c, if_neg c]
theorem x_tell {X : MM} {p : Nat} {W : List Int} {v : Int} (h : TX X p W) (hv : inR v) : ∃ X', fX1_tell v X = some X' ∧ TX X' p (tw W v) ∧ FX X X' := by
  obtain ⟨h1, h2, h3⟩ := h
  unfold fX1_tell tw
  rw [h2]
  by_cases c : W.length < 6
  · rw [if_neg (by omega), if_pos c, wr_n W.length rfl (by omega) hv, bnd_s, st_c (by decide), h2, gd_R (by omega) (by omega), bnd_s, bnd_s]
    refine ⟨_, rfl, ⟨by rw [st_k (by decide), st_c (by decide)]; exact h1, ?_, fun i w hw => ?_⟩, fun a b d => by rw [st_cell b, st_cell d], fun k a b => by rw [st_k b, st_c (by decide)]⟩
    · rw [st_at, List.length_append]
      rfl
    · rw [st_c (by decide)]
      rcases Nat.lt_trichotomy i W.length with q | q | q
      · rw [List.getElem?_append_left q] at hw
        rw [st_k (by omega)]
        exact h3 i w hw
      · subst q
        rw [List.getElem?_append_right (Nat.le_refl _), Nat.sub_self] at hw
        cases hw
        exact st_at _ _ _ _
      · rw [List.getElem?_eq_none (by rw [List.length_append]; exact q)] at hw
        cases hw
  · rw [if_pos (by omega), if_neg c, bnd_s]
    exact ⟨X, rfl, ⟨h1, h2, h3⟩, FX_rf X⟩
theorem x_L25 (t : TG g L) : ∀ (k n c : Nat) (v : Int) (p : Nat) (X : MM) (W : List Int), c + k = 3 → k ≤ 2 → k < n → 0 ≤ v → (k = 2 → v ≤ 9) → (k = 1 → v ≤ 99) → p ≤ L → XG X g L → TX X p W → ∃ X', fX1_readNumber_L25 n v c X = some ((rnl g k v p).1, X') ∧ TX X' (rnl g k v p).2 W ∧ FX X X' := by
  intro k
  induction k with
  | zero =>
    intro n c v p X W hk hk2 hn h0 h2 h1 hp x h
    obtain ⟨n, rfl⟩ : ∃ q, n = q + 1 := ⟨n - 1, by omega⟩
    exact ⟨X, by rw [fX1_readNumber_L25, if_pos (by omega)]; rfl, h, FX_rf X⟩
  | succ k ih =>
    intro n c v p X W hk hk2 hn h0 h2 h1 hp x h
    obtain ⟨n, rfl⟩ : ∃ q, n = q + 1 := ⟨n - 1, by omega⟩
    have ht := t.1
    rw [fX1_readNumber_L25, if_neg (by omega), rnl]
    by_cases c0 : v ≤ 0
    · rw [if_pos c0, if_pos c0]
      exact ⟨X, rfl, h, FX_rf X⟩
    · rw [if_neg c0, if_neg c0, x_digit t x h.1, bnd_s, bnd_s]
      by_cases d : isD g p
      · have hl := g_lt t (p := p) (by omega)
        rw [if_pos d, if_pos d, if_neg (by omega), h.1, gd_R (by omega) (by omega), bnd_s, gd_R (by omega) (by omega), gd_R (by omega) (by omega), show (p : Int) + 1 = ((p + 1 : Nat) : Int) by omega]
        have hF := FX_mv X ((p + 1 : Nat) : Int)
        obtain ⟨X', a1, a2, a3⟩ := ih n (c + 1) (v * 10 + (g p - 48)) (p + 1) _ W (by omega) (by omega) (by omega) (by omega) (fun q => by omega) (fun q => by omega) hl (XG_F hF x) (TX_mv h)
        exact ⟨X', a1, a2, FX_tr hF a3⟩
      · rw [if_neg d, if_neg d, if_pos rfl]
        exact ⟨X, rfl, h, FX_rf X⟩
theorem x_L4 (t : TG g L) : ∀ (k n c : Nat) (v : Int) (p : Nat) (X : MM) (W : List Int), p + k = L → c + k ≤ 80 → k < n → XG X g L → TX X p W → ∃ X', fX1_readSkills_L4 n v c X = some ((rsk g k v p).1, X') ∧ TX X' (rsk g k v p).2 W ∧ FX X X' := by
  intro k
  induction k with
  | zero =>
    intro n c v p X W hk hc hn x h
    obtain ⟨n, rfl⟩ : ∃ q, n = q + 1 := ⟨n - 1, by omega⟩
    refine ⟨X, ?_, h, FX_rf X⟩
    rw [fX1_readSkills_L4]
    by_cases c80 : (80 : Int) ≤ c
    · rw [if_pos c80]; rfl
    · rw [if_neg c80, x_digit t x h.1, bnd_s, p_within, bnd_s, if_neg (show ¬ isD g p by have := t.2.2 p (by omega); unfold isD; omega), if_neg (show ¬ ((0 : Int) ≤ -6 ∧ (-6 : Int) ≤ 3) by decide), if_pos rfl]
      rfl
  | succ k ih =>
    intro n c v p X W hk hc hn x h
    obtain ⟨n, rfl⟩ : ∃ q, n = q + 1 := ⟨n - 1, by omega⟩
    have ht := t.1
    rw [fX1_readSkills_L4, if_neg (by omega), x_digit t x h.1, bnd_s, p_within, bnd_s, rsk]
    by_cases d : isS g p
    · have hD : isD g p := by unfold isD; omega
      rw [if_pos hD, if_pos (show 0 ≤ g p - 48 ∧ g p - 48 ≤ 3 by omega), if_neg (show ¬ (1 : Int) = 0 by decide), bnd_s, h.1, gd_R (by omega) (by omega), bnd_s, gd_R (by omega) (by omega), if_pos d, show (p : Int) + 1 = ((p + 1 : Nat) : Int) by omega]
      have hF := FX_mv X ((p + 1 : Nat) : Int)
      obtain ⟨X', a1, a2, a3⟩ := ih n (c + 1) (ior v (ishl 1 (g p - 48))) (p + 1) _ W (by omega) (by omega) (by omega) (XG_F hF x) (TX_mv h)
      exact ⟨X', a1, a2, FX_tr hF a3⟩
    · have e : ¬ (0 ≤ (if isD g p then g p - 48 else (-6 : Int)) ∧ (if isD g p then g p - 48 else (-6 : Int)) ≤ 3) := by
        by_cases hD : isD g p
        · rw [if_pos hD]; omega
        · rw [if_neg hD]; decide
      rw [if_neg e, if_pos rfl, if_neg d]
      exact ⟨X, rfl, h, FX_rf X⟩
/-- a piece of an order, as the class reads it -/
theorem x_piece {X : MM} {p : Nat} {W : List Int} (t : TG g L) (x : XG X g L) (h : TX X p W) (hp : p ≤ L) (ch : Int) : ∃ X', fX1_readPiece ch X = some ((pc g L ch p W).1, X') ∧ TX X' (pc g L ch p W).2.1 (pc g L ch p W).2.2 ∧ FX X X' := by
  have hb := t.2.1 p
  have ht := t.1
  unfold fX1_readPiece pc
  by_cases c1 : ch = 100
  · rw [if_pos c1, if_pos c1]
    unfold fX1_readDigit
    rw [x_digit t x h.1, bnd_s]
    by_cases d : isD g p
    · obtain ⟨X', a1, a2, a3⟩ := x_tell (TX_mv (q := p + 1) h) (v := g p - 48) ⟨by omega, by omega⟩
      rw [if_pos d, if_pos d, if_neg (by omega), h.1, gd_R (by omega) (by omega), bnd_s, show (p : Int) + 1 = ((p + 1 : Nat) : Int) by omega, a1, bnd_s, bnd2_s, gd_s (Or.inr rfl)]
      exact ⟨X', rfl, a2, FX_tr (FX_mv X _) a3⟩
    · rw [if_neg d, if_neg d, if_pos rfl, bnd2_s, gd_s (Or.inl rfl)]
      exact ⟨X, rfl, h, FX_rf X⟩
  · rw [if_neg c1, if_neg c1]
    by_cases c2 : ch = 110
    · rw [if_pos c2, if_pos c2]
      unfold fX1_readNumber
      rw [x_digit t x h.1, bnd_s]
      by_cases d : isD g p
      · have hl := g_lt t (p := p) (by omega)
        have hv := rnl_v (g := g) 2 (g p - 48) (p + 1) (by omega) (by omega) (fun _ => by omega) (fun q => by omega) (fun q => by omega)
        have hF := FX_mv X ((p + 1 : Nat) : Int)
        obtain ⟨X1, a1, a2, a3⟩ := x_L25 t 2 4000 1 (g p - 48) (p + 1) _ W (by omega) (by omega) (by omega) (by omega) (fun _ => by omega) (fun q => by omega) hl (XG_F hF x) (TX_mv h)
        obtain ⟨X2, b1, b2, b3⟩ := x_tell a2 (v := (rnl g 2 (g p - 48) (p + 1)).1) ⟨by omega, by omega⟩
        rw [if_pos d, if_pos d, if_neg (by omega), h.1, gd_R (by omega) (by omega), bnd_s, show (p : Int) + 1 = ((p + 1 : Nat) : Int) by omega, show fX1_readNumber_L25 4000 (g p - 48) 1 (stM X 71 2 ((p + 1 : Nat) : Int)) = _ from a1, bnd2_s, b1, bnd_s, bnd2_s, gd_s (Or.inr rfl)]
        exact ⟨X2, rfl, b2, FX_tr hF (FX_tr a3 b3)⟩
      · rw [if_neg d, if_neg d, if_pos rfl, bnd2_s, gd_s (Or.inl rfl)]
        exact ⟨X, rfl, h, FX_rf X⟩
    · rw [if_neg c2, if_neg c2]
      by_cases c3 : ch = 115
      · rw [if_pos c3, if_pos c3]
        unfold fX1_readSkills
        have hv : 0 ≤ (rsk g (L - p) 0 p).1 ∧ (rsk g (L - p) 0 p).1 ≤ 15 := by
          rcases rsk_0 t hp with ⟨-, -, h2, h3⟩ | ⟨-, h1⟩
          · omega
          · rw [h1]
            show (0 : Int) ≤ 0 ∧ (0 : Int) ≤ 15
            decide
        obtain ⟨X1, a1, a2, a3⟩ := x_L4 t (L - p) 4000 0 0 p X W (by omega) (by omega) (by omega) x h
        obtain ⟨X2, b1, b2, b3⟩ := x_tell a2 (v := (rsk g (L - p) 0 p).1) ⟨by omega, by omega⟩
        rw [show fX1_readSkills_L4 4000 0 0 X = _ from a1, bnd2_s, b1, bnd_s]
        refine ⟨X2, ?_, b2, FX_tr a3 b3⟩
        by_cases z : (rsk g (L - p) 0 p).1 = 0
        · rw [if_pos z, if_pos z, bnd_s, gd_s (Or.inl rfl), bnd2_s, gd_s (Or.inl rfl)]
        · rw [if_neg z, if_neg z, bnd_s, gd_s (Or.inr rfl), bnd2_s, gd_s (Or.inr rfl)]
      · rw [if_neg c3, if_neg c3, x_readSign t x h.1 hp]
        by_cases d : g p = ch
        · rw [if_pos d, if_pos d, bnd2_s, gd_s (Or.inr rfl)]
          exact ⟨_, rfl, TX_mv h, FX_mv X _⟩
        · rw [if_neg d, if_neg d, bnd2_s, gd_s (Or.inl rfl)]
          exact ⟨X, rfl, h, FX_rf X⟩
end TX
