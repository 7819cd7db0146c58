/-! PURE ROWS: the functions' steps, one at a time; memory read behind a write -/
theorem bnd_s {α β : Type} (a : α) (f : α → Option β) : bnd (some a) f = f a := rfl
theorem bnd2_s {α β γ : Type} (a : α) (b : β) (f : α → β → Option γ) : bnd2 (some (a, b)) f = f a b := rfl
theorem bnd3_s {α β γ δ : Type} (a : α) (b : β) (c : γ) (f : α → β → γ → Option δ) : bnd3 (some (a, b, c)) f = f a b c := rfl
theorem bnd4_s {α β γ δ ε : Type} (a : α) (b : β) (c : γ) (d : δ) (f : α → β → γ → δ → Option ε) : bnd4 (some (a, b, c, d)) f = f a b c d := rfl
theorem bnd_eq {α β : Type} {o : Option α} {a : α} (h : o = some a) (f : α → Option β) : bnd o f = f a := by rw [h]; rfl
theorem bnd2_eq {α β γ : Type} {o : Option (α × β)} {a : α} {b : β} (h : o = some (a, b)) (f : α → β → Option γ) : bnd2 o f = f a b := by rw [h]; rfl
theorem bnd3_eq {α β γ δ : Type} {o : Option (α × β × γ)} {a : α} {b : β} {c : γ} (h : o = some (a, b, c)) (f : α → β → γ → Option δ) : bnd3 o f = f a b c := by rw [h]; rfl
theorem gd_s {α : Type} {P : Prop} [Decidable P] (h : P) (k : Option α) : gd P k = k := if_pos h
theorem gd_R {α : Type} {x : Int} (h0 : -2147483648 ≤ x) (h1 : x ≤ 2147483647) (k : Option α) : gd (inR x) k = k := if_pos ⟨h0, h1⟩
theorem rd_s {M : MM} {c n : Nat} {i : Int} (h0 : 0 ≤ i) (h1 : i < n) : rd M c n i = some (M c i.toNat) := if_pos ⟨h0, h1⟩
theorem rd_n {M : MM} {c n : Nat} {i : Int} (k : Nat) (hi : i = k) (h1 : k < n) : rd M c n i = some (M c k) := by
  subst hi
  rw [rd_s (by omega) (by omega), Int.toNat_natCast]
theorem wr_s {M : MM} {c n : Nat} {i z : Int} (h0 : 0 ≤ i) (h1 : i < n) (h2 : -2147483648 ≤ z) (h3 : z ≤ 2147483647) : wr M c n i z = some (stM M c i.toNat z) := if_pos ⟨⟨h0, h1⟩, h2, h3⟩
theorem wr_n {M : MM} {c n : Nat} {i z : Int} (k : Nat) (hi : i = k) (h1 : k < n) (h2 : inR z) : wr M c n i z = some (stM M c k z) := by
  subst hi
  rw [wr_s (by omega) (by omega) h2.1 h2.2, Int.toNat_natCast]
theorem st_at (M : MM) (c k : Nat) (z : Int) : stM M c k z c k = z := if_pos ⟨rfl, rfl⟩
theorem st_c {M : MM} {c k : Nat} {z : Int} {a b : Nat} (h : a ≠ c) : stM M c k z a b = M a b := if_neg (fun q => h q.1)
theorem st_k {M : MM} {c k : Nat} {z : Int} {a b : Nat} (h : b ≠ k) : stM M c k z a b = M a b := if_neg (fun q => h q.2)
theorem st_e (M : MM) (c k : Nat) (z : Int) (a b : Nat) : stM M c k z a b = if a = c ∧ b = k then z else M a b := rfl
theorem st_cell {M : MM} {c k : Nat} {z : Int} {a : Nat} (h : a ≠ c) : stM M c k z a = M a := by funext b; exact st_c h
/-- between two bounds: both sides' test -/
theorem p_in (x lo hi : Int) : fX5_in x lo hi = some (if lo ≤ x ∧ x ≤ hi then 1 else 0) := by
  unfold fX5_in
  by_cases h1 : x < lo
  · rw [if_pos h1, bnd_s, gd_s (Or.inl rfl), if_neg (by omega)]
  · rw [if_neg h1]
    by_cases h2 : hi < x
    · rw [if_pos h2, bnd_s, gd_s (Or.inl rfl), if_neg (by omega)]
    · rw [if_neg h2, bnd_s, gd_s (Or.inr rfl), if_pos (by omega)]
theorem p_within (x lo hi : Int) : fX4_within x lo hi = some (if lo ≤ x ∧ x ≤ hi then 1 else 0) := p_in x lo hi
