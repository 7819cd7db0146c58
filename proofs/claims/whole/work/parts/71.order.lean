/-! TEXTS: an order, on the class's side -/
def fm (s : Nat) : List Int := match s with
  | 0 => [110, 35, 100, 43, 100, 42, 100, 58, 110, 45, 110]
  | 1 => [110, 47, 115]
  | 2 => [100, 43, 100, 61, 110]
  | 3 => [110]
  | _ => []
def fo (k : Int) : Nat := if k = 108 then 2 else if k = 118 then 0 else if k = 119 then 1 else if k = 120 then 3 else 4
abbrev PS : Type := Int × Nat × List Int
def stw (g : Nat → Int) (L : Nat) (s : PS) (ch : Int) : PS := if s.1 = 0 then s else pc g L ch s.2.1 s.2.2
theorem fm_len : ∀ s, s < 5 → fJ0_length_8abf5 s = some ((fm s).length : Int) := by decide +kernel
theorem fm_at : ∀ s, s < 5 → ∀ i, i < 11 → i < (fm s).length → fJ0_charAt_5068e s (i : Int) = (fm s)[i]? := by decide +kernel
theorem fm_11 : ∀ s, s < 5 → (fm s).length ≤ 11 ∧ ((fm s).length = 0 ↔ s = 4) := by decide +kernel
theorem fm_emp : ∀ s, s < 5 → fJ0_isEmpty_aae02 s = some (if s = 4 then 1 else 0) := by decide +kernel
theorem fm_0 : ∀ s, s < 5 → ∀ ch ∈ fm s, ch ≠ 0 := by decide +kernel
theorem fo_x (k : Int) : fX1_formOf k = some (fo k) := by
  unfold fX1_formOf fo
  by_cases c1 : k = 108
  · rw [if_pos c1, if_pos c1]
  · rw [if_neg c1, if_neg c1]
    by_cases c2 : k = 118
    · rw [if_pos c2, if_pos c2]
    · rw [if_neg c2, if_neg c2]
      by_cases c3 : k = 119
      · rw [if_pos c3, if_pos c3]
      · rw [if_neg c3, if_neg c3]
        by_cases c4 : k = 120
        · rw [if_pos c4, if_pos c4]
        · rw [if_neg c4, if_neg c4]
theorem fo_5 (k : Int) : fo k < 5 := by
  unfold fo
  by_cases c1 : k = 108
  · rw [if_pos c1]; decide
  · rw [if_neg c1]
    by_cases c2 : k = 118
    · rw [if_pos c2]; decide
    · rw [if_neg c2]
      by_cases c3 : k = 119
      · rw [if_pos c3]; decide
      · rw [if_neg c3]
        by_cases c4 : k = 120
        · rw [if_pos c4]; decide
        · rw [if_neg c4]; decide
theorem L65b_eq : ∀ (n s : Nat) (a b : Int) (M : MM), fX1_readOrder_L65b n s a b M = fX1_readOrder_L65 n s a b M := by
  intro n
  induction n with
  | zero => intros; rfl
  | succ n ih =>
    intro s a b M
    rw [fX1_readOrder_L65b, fX1_readOrder_L65]
    simp only [ih]
/-- an order at p, without the sign ahead of it -/
def rdo (g : Nat → Int) (L p : Nat) : PS := if fo (g p) = 4 then (0, p, []) else (fm (fo (g p))).foldl (stw g L) (1, p + 1, [])
/-- an order at p, with the sign ahead of it where it is not the first -/
def ro (g : Nat → Int) (L p : Nat) : PS := if p = 0 then rdo g L 0 else if g p = 59 then rdo g L (p + 1) else (0, p, [])
def kd (g : Nat → Int) (p : Nat) : Int := g (if p = 0 then 0 else p + 1)
section OX
variable {g : Nat → Int} {L : Nat}
theorem stw_0 : ∀ (cs : List Int) (s : PS), s.1 = 0 → cs.foldl (stw g L) s = s := by
  intro cs
  induction cs with
  | nil => intro s h; rfl
  | cons c cs ih =>
    intro s h
    rw [List.foldl_cons, show stw g L s c = s from if_pos h]
    exact ih s h
/-- what pieces leave: places within the text, and on they go -/
theorem stw_b (t : TG g L) : ∀ (cs : List Int) (s : PS), (∀ ch ∈ cs, ch ≠ 0) → (s.1 = 0 ∨ s.1 = 1) → s.2.1 ≤ L → ((cs.foldl (stw g L) s).1 = 0 ∨ (cs.foldl (stw g L) s).1 = 1) ∧ s.2.1 ≤ (cs.foldl (stw g L) s).2.1 ∧ (cs.foldl (stw g L) s).2.1 ≤ L ∧ ((cs.foldl (stw g L) s).1 = 1 → s.1 = 1 ∧ s.2.1 + cs.length ≤ (cs.foldl (stw g L) s).2.1) := by
  intro cs
  induction cs with
  | nil => intro s _ h hp; exact ⟨h, Nat.le_refl _, hp, fun q => ⟨q, Nat.le_refl _⟩⟩
  | cons c cs ih =>
    intro s hc h hp
    rw [List.foldl_cons]
    by_cases h0 : s.1 = 0
    · rw [show stw g L s c = s from if_pos h0, stw_0 cs s h0]
      exact ⟨h, Nat.le_refl _, hp, fun q => by rw [h0] at q; exact absurd q (by decide)⟩
    · rw [show stw g L s c = pc g L c s.2.1 s.2.2 from if_neg h0]
      obtain ⟨b1, b2, b3⟩ := pc_b t (hc c List.mem_cons_self) hp s.2.2
      obtain ⟨i1, i2, i3, i4⟩ := ih (pc g L c s.2.1 s.2.2) (fun ch h => hc ch (List.mem_cons_of_mem _ h)) (b3.imp (fun q => q.1) (fun q => q.1)) b2
      refine ⟨i1, by omega, i3, fun q => ?_⟩
      obtain ⟨q1, q2⟩ := i4 q
      rw [List.length_cons]
      refine ⟨h.resolve_left h0, ?_⟩
      rcases b3 with ⟨b4, -⟩ | ⟨-, b5⟩
      · rw [b4] at q1; exact absurd q1 (by decide)
      · omega
theorem rdo_b (t : TG g L) {p : Nat} (hp : p ≤ L) : ((rdo g L p).1 = 0 ∨ (rdo g L p).1 = 1) ∧ p ≤ (rdo g L p).2.1 ∧ (rdo g L p).2.1 ≤ L ∧ ((rdo g L p).1 = 1 → p + 2 ≤ (rdo g L p).2.1 ∧ fo (g p) ≠ 4) := by
  unfold rdo
  by_cases c : fo (g p) = 4
  · rw [if_pos c]
    exact ⟨Or.inl rfl, Nat.le_refl p, hp, fun q => absurd q (show ¬ (0 : Int) = 1 by decide)⟩
  · have hl := g_lt t (p := p) (fun q => by rw [q] at c; exact c rfl)
    have h5 := fo_5 (g p)
    obtain ⟨i1, i2, i3, i4⟩ := stw_b t (fm (fo (g p))) (1, p + 1, []) (fm_0 _ h5) (Or.inr rfl) hl
    have hn := fm_11 _ h5
    have e1 : ((1 : Int), p + 1, ([] : List Int)).2.1 = p + 1 := rfl
    rw [e1] at i2 i4
    rw [if_neg c]
    refine ⟨i1, by omega, i3, fun q => ?_⟩
    obtain ⟨-, q2⟩ := i4 q
    have : (fm (fo (g p))).length ≠ 0 := fun z => c (hn.2.mp z)
    exact ⟨by omega, c⟩
theorem ro_b (t : TG g L) {p : Nat} (hp : p ≤ L) : ((ro g L p).1 = 0 ∨ (ro g L p).1 = 1) ∧ p ≤ (ro g L p).2.1 ∧ (ro g L p).2.1 ≤ L ∧ ((ro g L p).1 = 1 → p + 2 ≤ (ro g L p).2.1 ∧ (p ≠ 0 → p + 3 ≤ (ro g L p).2.1) ∧ fo (kd g p) ≠ 4) := by
  unfold ro kd
  by_cases c : p = 0
  · subst c
    rw [if_pos rfl, if_pos rfl]
    obtain ⟨h1, h2, h3, h4⟩ := rdo_b t hp
    exact ⟨h1, h2, h3, fun q => ⟨(h4 q).1, fun z => absurd rfl z, (h4 q).2⟩⟩
  · rw [if_neg c, if_neg c]
    by_cases d : g p = 59
    · have hl := g_lt t (p := p) (by omega)
      rw [if_pos d]
      obtain ⟨h1, h2, h3, h4⟩ := rdo_b t (p := p + 1) hl
      exact ⟨h1, by omega, h3, fun q => ⟨by have := (h4 q).1; omega, fun z => by have := (h4 q).1; omega, (h4 q).2⟩⟩
    · rw [if_neg d]
      exact ⟨Or.inl rfl, Nat.le_refl p, hp, fun q => absurd q (show ¬ (0 : Int) = 1 by decide)⟩
theorem x_L65 (t : TG g L) {s : Nat} (hs : s < 5) : ∀ (k n i : Nat) (S : PS) (X : MM), i + k = (fm s).length → k < n → (S.1 = 0 ∨ S.1 = 1) → S.2.1 ≤ L → XG X g L → TX X S.2.1 S.2.2 → ∃ X', fX1_readOrder_L65 n s S.1 i X = some ((((fm s).drop i).foldl (stw g L) S).1, X') ∧ TX X' (((fm s).drop i).foldl (stw g L) S).2.1 (((fm s).drop i).foldl (stw g L) S).2.2 ∧ FX X X' := by
  intro k
  induction k with
  | zero =>
    intro n i S X hk hn h01 hp x h
    obtain ⟨n, rfl⟩ : ∃ q, n = q + 1 := ⟨n - 1, by omega⟩
    rw [List.drop_eq_nil_of_le (by omega), fX1_readOrder_L65]
    refine ⟨X, ?_, h, FX_rf X⟩
    by_cases h0 : S.1 = 0
    · rw [if_pos h0]; rfl
    · rw [if_neg h0, fm_len s hs, bnd_s, if_pos (by omega)]; rfl
  | succ k ih =>
    intro n i S X hk hn h01 hp x h
    obtain ⟨n, rfl⟩ : ∃ q, n = q + 1 := ⟨n - 1, by omega⟩
    have h11 := (fm_11 s hs).1
    by_cases h0 : S.1 = 0
    · rw [stw_0 _ S h0, fX1_readOrder_L65, if_pos h0]
      exact ⟨X, rfl, h, FX_rf X⟩
    · have hi : i < (fm s).length := by omega
      have hg : (fm s)[i]? = some ((fm s)[i]) := List.getElem?_eq_getElem hi
      have hat := fm_at s hs i (by omega) hi
      rw [hg] at hat
      have hne : (fm s)[i] ≠ 0 := fm_0 s hs _ (List.getElem_mem hi)
      rw [List.drop_eq_getElem_cons hi, List.foldl_cons, show stw g L S (fm s)[i] = pc g L (fm s)[i] S.2.1 S.2.2 from if_neg h0]
      generalize (fm s)[i] = ch at hat hne ⊢
      obtain ⟨X1, a1, a2, a3⟩ := x_piece t x h hp ch
      obtain ⟨b1, b2, b3⟩ := pc_b t hne hp S.2.2
      obtain ⟨X', c1, c2, c3⟩ := ih n (i + 1) (pc g L ch S.2.1 S.2.2) X1 (by omega) (by omega) (b3.imp (fun q => q.1) (fun q => q.1)) b2 (XG_F a3 x) a2
      refine ⟨X', ?_, c2, FX_tr a3 c3⟩
      rw [fX1_readOrder_L65, if_neg h0, fm_len s hs, bnd_s, if_neg (by omega), hat, bnd_s, a1, bnd2_s, gd_R (by omega) (by omega)]
      exact c1
/-- frames of an order: its kind besides -/
def FK (X X' : MM) : Prop := (∀ c, c ≠ 71 → c ≠ 73 → X' c = X c) ∧ ∀ k, k ≠ 2 → k ≠ 3 → k ≠ 5 → X' 71 k = X 71 k
theorem FK_rf (X : MM) : FK X X := ⟨fun _ _ _ => rfl, fun _ _ _ _ => rfl⟩
theorem FK_tr {X1 X2 X3 : MM} (h1 : FK X1 X2) (h2 : FK X2 X3) : FK X1 X3 := ⟨fun c a b => by rw [h2.1 c a b, h1.1 c a b], fun k a b d => by rw [h2.2 k a b d, h1.2 k a b d]⟩
theorem FK_F {X X' : MM} (h : FX X X') : FK X X' := ⟨h.1, fun k a b _ => h.2 k a b⟩
theorem FK_st (X : MM) {k : Nat} (hk : k = 2 ∨ k = 3 ∨ k = 5) (z : Int) : FK X (stM X 71 k z) := ⟨fun c h _ => st_cell h, fun j h1 h2 h3 => st_k (by omega)⟩
theorem XG_K {X X' : MM} (h : FK X X') (x : XG X g L) : XG X' g L := ⟨by rw [h.2 1 (by decide) (by decide) (by decide)]; exact x.1, by rw [h.1 72 (by decide) (by decide)]; exact x.2⟩
/-- an order without the sign ahead of it, behind its kind -/
theorem x_rdo (t : TG g L) {X : MM} {p : Nat} (x : XG X g L) (h2 : X 71 2 = p) (hp : p ≤ L) (h5 : X 71 5 = g p) :
    ∃ X', bnd (fX1_formOf (X 71 5)) (fun s8 => bnd (fJ0_isEmpty_aae02 s8) (fun v9 => bnd2 (if v9 = 0 then bnd2 (fX1_readSign (X 71 5) X) (fun v13 M14 => if v13 = 0 then some ((0 : Int), M14) else some ((1 : Int), M14)) else some ((0 : Int), X)) (fun y12_0 M_12 => bnd (some (stM M_12 71 3 0)) (fun M16 => bnd2 (fX1_readOrder_L65 4000 s8 y12_0 0 M16) (fun y17_0 N_17 => gd (y17_0 = 0 ∨ y17_0 = 1) (some (y17_0, N_17))))))) = some ((rdo g L p).1, X') ∧ TX X' (rdo g L p).2.1 (rdo g L p).2.2 ∧ FX X X' := by
  have h5f := fo_5 (g p)
  have hm := fm_11 _ h5f
  rw [fo_x, bnd_s, h5, fm_emp _ h5f, bnd_s]
  unfold rdo
  by_cases c : fo (g p) = 4
  · rw [if_pos c, if_pos c, if_neg (show ¬ (1 : Int) = 0 by decide), bnd2_s, bnd_s, c]
    have e : fX1_readOrder_L65 4000 4 0 0 (stM X 71 3 0) = some (0, stM X 71 3 0) := by rw [fX1_readOrder_L65, if_pos rfl]
    rw [e, bnd2_s, gd_s (Or.inl rfl)]
    exact ⟨_, rfl, ⟨by rw [st_k (by decide)]; exact h2, st_at _ _ _ _, fun i v hv => by cases hv⟩, fun a b _ => st_cell b, fun k _ b => st_k b⟩
  · have hl := g_lt t (p := p) (fun q => by rw [q] at c; exact c rfl)
    rw [if_neg c, if_neg c, if_pos rfl, x_readSign t x h2 hp, if_pos rfl, bnd2_s, if_neg (show ¬ (1 : Int) = 0 by decide), bnd2_s, bnd_s]
    have hF : FX X (stM (stM X 71 2 ((p + 1 : Nat) : Int)) 71 3 0) := ⟨fun a b _ => by rw [st_cell b, st_cell b], fun k a b => by rw [st_k b, st_k a]⟩
    obtain ⟨X', a1, a2, a3⟩ := x_L65 t h5f (fm (fo (g p))).length 4000 0 (1, p + 1, []) (stM (stM X 71 2 ((p + 1 : Nat) : Int)) 71 3 0) (by omega) (by omega) (Or.inr rfl) hl (XG_F hF x) ⟨by rw [st_k (by decide), st_at], st_at _ _ _ _, fun i v hv => by cases hv⟩
    rw [List.drop_zero] at a1 a2
    have hb := stw_b t (fm (fo (g p))) (1, p + 1, []) (fm_0 _ h5f) (Or.inr rfl) hl
    rw [show fX1_readOrder_L65 4000 (fo (g p)) 1 0 (stM (stM X 71 2 ((p + 1 : Nat) : Int)) 71 3 0) = _ from a1, bnd2_s, gd_s hb.1]
    exact ⟨X', rfl, a2, FX_tr hF a3⟩
/-- an order, as the class reads it -/
theorem x_read (t : TG g L) {X : MM} {p : Nat} (x : XG X g L) (h2 : X 71 2 = p) (hp : p ≤ L) : ∃ X', fX1_readOrder X = some ((ro g L p).1, X') ∧ X' 71 2 = ((ro g L p).2.1 : Int) ∧ ((ro g L p).1 = 1 → TX X' (ro g L p).2.1 (ro g L p).2.2 ∧ X' 71 5 = kd g p) ∧ FK X X' := by
  have hb := t.2.1
  have ht := t.1
  unfold fX1_readOrder ro kd
  by_cases c : p = 0
  · subst c
    rw [if_pos (show X 71 2 ≤ 0 by omega), if_pos rfl, if_pos rfl, x_sign t x h2, bnd_s, gd_s (show 0 ≤ g 0 ∧ g 0 ≤ 65535 by have := hb 0; omega), bnd_s]
    have hK := FK_st X (k := 5) (by omega) (g 0)
    obtain ⟨X', a1, a2, a3⟩ := x_rdo t (XG_K hK x) (by rw [st_k (by decide)]; exact h2) hp (st_at _ _ _ _)
    refine ⟨X', a1, a2.1, fun _ => ⟨a2, ?_⟩, FK_tr hK (FK_F a3)⟩
    rw [a3.2 5 (by decide) (by decide), st_at]
  · rw [if_neg (show ¬ X 71 2 ≤ 0 by omega), if_neg c, if_neg c, x_readSign t x h2 hp]
    by_cases d : g p = 59
    · have hl := g_lt t (p := p) (by omega)
      rw [if_pos d, if_pos d, bnd2_s, if_neg (show ¬ (1 : Int) = 0 by decide)]
      have hK1 := FK_st X (k := 2) (by omega) ((p + 1 : Nat) : Int)
      have x1 := XG_K hK1 x
      rw [x_sign t x1 (st_at _ _ _ _), bnd_s, gd_s (show 0 ≤ g (p + 1) ∧ g (p + 1) ≤ 65535 by have := hb (p + 1); omega), bnd_s]
      simp only [L65b_eq]
      have hK2 := FK_st (stM X 71 2 ((p + 1 : Nat) : Int)) (k := 5) (by omega) (g (p + 1))
      obtain ⟨X', a1, a2, a3⟩ := x_rdo t (XG_K hK2 x1) (p := p + 1) (by rw [st_k (by decide), st_at]) hl (st_at _ _ _ _)
      refine ⟨X', a1, a2.1, fun _ => ⟨a2, ?_⟩, FK_tr hK1 (FK_tr hK2 (FK_F a3))⟩
      rw [a3.2 5 (by decide) (by decide), st_at]
    · rw [if_neg d, if_neg d, bnd2_s, if_pos rfl]
      exact ⟨X, rfl, h2, fun q => absurd q (show ¬ (0 : Int) = 1 by decide), FK_rf X⟩
end OX
