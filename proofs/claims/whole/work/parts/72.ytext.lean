/-! TEXTS: the pieces of an order, on the reference's side -/
/-- where the reference's reading is: T orders are told, j numbers of this one -/
def RYs (L : Nat) (Y : MM) (T j : Nat) (S : PS) : Prop := Y 0 19 = S.2.1 ∧ Y 0 20 = S.1 ∧ Y 0 22 = T ∧ (S.1 = 0 ∨ S.1 = 1) ∧ S.2.1 ≤ L ∧ (S.1 = 1 → S.2.2.length = j ∧ ∀ (i : Nat) (v : Int), S.2.2[i]? = some v → Y 17 (7 * T + 1 + i) = v)
def FY (T : Nat) (Y Y' : MM) : Prop := (∀ c, c ≠ 0 → c ≠ 17 → Y' c = Y c) ∧ (∀ k, k ≠ 19 → k ≠ 20 → Y' 0 k = Y 0 k) ∧ ∀ k, (k < 7 * T + 1 ∨ 7 * T + 7 ≤ k) → Y' 17 k = Y 17 k
theorem FY_rf (T : Nat) (Y : MM) : FY T Y Y := ⟨fun _ _ _ => rfl, fun _ _ _ => rfl, fun _ _ => rfl⟩
theorem FY_tr {T : Nat} {Y1 Y2 Y3 : MM} (h1 : FY T Y1 Y2) (h2 : FY T Y2 Y3) : FY T Y1 Y3 := ⟨fun c a b => by rw [h2.1 c a b, h1.1 c a b], fun k a b => by rw [h2.2.1 k a b, h1.2.1 k a b], fun k a => by rw [h2.2.2 k a, h1.2.2 k a]⟩
theorem YG_F {T : Nat} {g : Nat → Int} {L : Nat} {Y Y' : MM} (h : FY T Y Y') (y : YG Y g L) : YG Y' g L := ⟨by rw [h.2.1 7 (by decide) (by decide)]; exact y.1, by rw [h.1 5 (by decide) (by decide)]; exact y.2⟩
def mvY (Y : MM) (w z : Int) : MM := stM (stM Y 0 20 w) 0 19 z
theorem mvY_19 (Y : MM) (w z : Int) : mvY Y w z 0 19 = z := st_at _ _ _ _
theorem mvY_20 (Y : MM) (w z : Int) : mvY Y w z 0 20 = w := by unfold mvY; rw [st_k (by decide), st_at]
theorem mvY_k (Y : MM) (w z : Int) {k : Nat} (h1 : k ≠ 19) (h2 : k ≠ 20) : mvY Y w z 0 k = Y 0 k := by unfold mvY; rw [st_k h1, st_k h2]
theorem mvY_c (Y : MM) (w z : Int) {c : Nat} (h : c ≠ 0) : mvY Y w z c = Y c := by unfold mvY; rw [st_cell h, st_cell h]
theorem FY_mv (T : Nat) (Y : MM) (w z : Int) : FY T Y (mvY Y w z) := ⟨fun c h _ => mvY_c Y w z h, fun k h1 h2 => mvY_k Y w z h1 h2, fun k _ => by rw [mvY_c Y w z (by decide)]⟩
section TY
variable {g : Nat → Int} {L : Nat}
theorem stw_le (t : TG g L) {S : PS} {ch : Int} (hc : ch ≠ 0) (h : S.2.1 ≤ L) : (stw g L S ch).2.1 ≤ L := by
  unfold stw
  by_cases h0 : S.1 = 0
  · rw [if_pos h0]; exact h
  · rw [if_neg h0]; exact (pc_b t hc h S.2.2).2.1
theorem y_sign {Y : MM} {p : Nat} (t : TG g L) (y : YG Y g L) (h : Y 0 19 = p) : fX5_sign Y = some (g p) := by
  unfold fX5_sign
  rw [y.1, h]
  by_cases c : p < L
  · have := t.1
    rw [if_neg (by omega), rd_n p rfl (by omega), bnd_s, bnd_s, y.2 p c]
  · rw [if_pos (by omega), bnd_s, t.2.2 p (by omega)]
theorem YG_mv {Y : MM} (y : YG Y g L) (w z : Int) : YG (mvY Y w z) g L := YG_F (T := 0) (FY_mv 0 Y w z) y
theorem y_wants {Y : MM} {p : Nat} {w : Int} (t : TG g L) (y : YG Y g L) (h19 : Y 0 19 = p) (h20 : Y 0 20 = w) (hp : p ≤ L) (ch : Int) : fX5_wants ch Y = some (if ¬ w = 0 ∧ g p = ch then mvY Y 1 ((p + 1 : Nat) : Int) else mvY Y 0 p) := by
  have ht := t.1
  unfold fX5_wants
  rw [h20]
  by_cases c : w = 0
  · rw [if_pos c, bnd_s, gd_s (Or.inl rfl), bnd_s, st_at, if_pos rfl, bnd_s, st_k (by decide), h19, gd_R (by omega) (by omega), bnd_s, if_neg (fun q => q.1 c), Int.add_zero]
    rfl
  · rw [if_neg c, y_sign t y h19, bnd_s]
    by_cases d : g p = ch
    · rw [if_pos d, bnd_s, gd_s (Or.inr rfl), bnd_s, st_at, if_neg (show ¬ (1 : Int) = 0 by decide), bnd_s, st_k (by decide), h19, gd_R (by omega) (by omega), bnd_s, if_pos ⟨c, d⟩, show (p : Int) + 1 = ((p + 1 : Nat) : Int) by omega]
      rfl
    · rw [if_neg d, bnd_s, gd_s (Or.inl rfl), bnd_s, st_at, if_pos rfl, bnd_s, st_k (by decide), h19, gd_R (by omega) (by omega), bnd_s, if_neg (fun q => d q.2), Int.add_zero]
      rfl
theorem y_digit {Y : MM} {p : Nat} {w m : Int} (t : TG g L) (y : YG Y g L) (h19 : Y 0 19 = p) (h20 : Y 0 20 = w) (hp : p ≤ L) (hm0 : 0 ≤ m) (hm : m ≤ 9) : fX5_digit m Y = some (g p - 48, if ¬ w = 0 ∧ (48 ≤ g p ∧ g p ≤ 48 + m) then mvY Y 1 ((p + 1 : Nat) : Int) else mvY Y 0 p) := by
  have ht := t.1
  have hb := t.2.1 p
  have hs : ∀ w' : Int, fX5_sign (stM Y 0 20 w') = some (g p) := fun w' => y_sign t (YG_F (T := 0) (Y := Y) ⟨fun c h _ => st_cell h, fun k _ h => st_k h, fun k _ => by rw [st_c (by decide)]⟩ y) (by rw [st_k (by decide)]; exact h19)
  unfold fX5_digit
  rw [h20]
  by_cases c : w = 0
  · rw [if_pos c, bnd_s, gd_s (Or.inl rfl), bnd_s, hs, bnd_s, st_at, if_pos rfl, bnd_s, st_k (by decide), h19, gd_R (by omega) (by omega), bnd_s, gd_R (by omega) (by omega), if_neg (fun q => q.1 c), Int.add_zero]
    rfl
  · rw [if_neg c, y_sign t y h19, bnd_s, gd_R (by omega) (by omega), p_in, bnd_s]
    by_cases d : 48 ≤ g p ∧ g p ≤ 48 + m
    · rw [if_pos d, if_neg (show ¬ (1 : Int) = 0 by decide), bnd_s, gd_s (Or.inr rfl), bnd_s, hs, bnd_s, st_at, if_neg (show ¬ (1 : Int) = 0 by decide), bnd_s, st_k (by decide), h19, gd_R (by omega) (by omega), bnd_s, gd_R (by omega) (by omega), if_pos ⟨c, d⟩, show (p : Int) + 1 = ((p + 1 : Nat) : Int) by omega]
      rfl
    · rw [if_neg d, if_pos rfl, bnd_s, gd_s (Or.inl rfl), bnd_s, hs, bnd_s, st_at, if_pos rfl, bnd_s, st_k (by decide), h19, gd_R (by omega) (by omega), bnd_s, gd_R (by omega) (by omega), if_neg (fun q => d q.2), Int.add_zero]
      rfl
theorem y_L9 (t : TG g L) : ∀ (k n c : Nat) (v : Int) (p : Nat) (Y : MM), c + k = 3 → k ≤ 2 → k < n → 0 ≤ v → (k = 2 → v ≤ 9) → (k = 1 → v ≤ 99) → p ≤ L → YG Y g L → Y 0 19 = p → Y 0 20 = 1 → ∃ Y', fX5_number_L9 n v c Y = some ((rnl g k v p).1, Y') ∧ Y' 0 19 = (rnl g k v p).2 ∧ (∀ c, c ≠ 0 → Y' c = Y c) ∧ ∀ k, k ≠ 19 → Y' 0 k = Y 0 k := by
  intro k
  induction k with
  | zero =>
    intro n c v p Y hk hk2 hn h0 h2 h1 hp y h19 h20
    obtain ⟨n, rfl⟩ : ∃ q, n = q + 1 := ⟨n - 1, by omega⟩
    exact ⟨Y, by rw [fX5_number_L9, if_pos (by omega)]; rfl, h19, fun _ _ => rfl, fun _ _ => rfl⟩
  | succ k ih =>
    intro n c v p Y hk hk2 hn h0 h2 h1 hp y h19 h20
    obtain ⟨n, rfl⟩ : ∃ q, n = q + 1 := ⟨n - 1, by omega⟩
    have ht := t.1
    rw [fX5_number_L9, if_neg (by omega), h20, if_neg (by decide), rnl]
    by_cases c0 : v ≤ 0
    · rw [if_pos c0, if_pos c0]
      exact ⟨Y, rfl, h19, fun _ _ => rfl, fun _ _ => rfl⟩
    · rw [if_neg c0, if_neg c0, y_sign t y h19, bnd_s, p_in, bnd_s, bnd_s]
      by_cases d : isD g p
      · have hl := g_lt t (p := p) (by omega)
        rw [if_pos d, if_pos d, if_neg (show ¬ (1 : Int) = 0 by decide), h19, gd_R (by omega) (by omega), bnd_s, gd_R (by omega) (by omega), gd_R (by omega) (by omega), show (p : Int) + 1 = ((p + 1 : Nat) : Int) by omega, show 10 * v + g p - 48 = v * 10 + (g p - 48) by omega]
        have hF : FY 0 Y (stM Y 0 19 ((p + 1 : Nat) : Int)) := ⟨fun c h _ => st_cell h, fun k h _ => st_k h, fun k _ => by rw [st_c (by decide)]⟩
        obtain ⟨Y', a1, a2, a3, a4⟩ := ih n (c + 1) (v * 10 + (g p - 48)) (p + 1) _ (by omega) (by omega) (by omega) (by omega) (fun q => by omega) (fun q => by omega) hl (YG_F hF y) (st_at _ _ _ _) (by rw [st_k (by decide)]; exact h20)
        exact ⟨Y', a1, a2, fun c hc => by rw [a3 c hc, st_cell hc], fun k hk => by rw [a4 k hk, st_k hk]⟩
      · rw [if_neg d, if_neg d, if_pos rfl]
        exact ⟨Y, rfl, h19, fun _ _ => rfl, fun _ _ => rfl⟩
theorem y_L29 (t : TG g L) (a : Int) : ∀ (k n : Nat) (v : Int) (p : Nat) (Y : MM), p + k = L → k < n → YG Y g L → Y 0 19 = p → Y 0 20 = 1 → ∃ Y', fX5_readsVan_L29 n a v Y = some ((rsk g k v p).1, Y') ∧ Y' 0 19 = (rsk g k v p).2 ∧ Y' 0 20 = 1 ∧ (∀ c, c ≠ 0 → Y' c = Y c) ∧ ∀ k, k ≠ 19 → k ≠ 20 → Y' 0 k = Y 0 k := by
  intro k
  induction k with
  | zero =>
    intro n v p Y hk hn y h19 h20
    obtain ⟨n, rfl⟩ : ∃ q, n = q + 1 := ⟨n - 1, by omega⟩
    have h0 := t.2.2 p (by omega)
    refine ⟨Y, ?_, h19, h20, fun _ _ => rfl, fun _ _ _ => rfl⟩
    rw [fX5_readsVan_L29, h20, if_neg (by decide), y_sign t y h19, bnd_s, p_in, bnd_s, if_neg (show ¬ (48 ≤ g p ∧ g p ≤ 51) by omega), if_pos rfl]
    rfl
  | succ k ih =>
    intro n v p Y hk hn y h19 h20
    obtain ⟨n, rfl⟩ : ∃ q, n = q + 1 := ⟨n - 1, by omega⟩
    rw [fX5_readsVan_L29, h20, if_neg (by decide), y_sign t y h19, bnd_s, p_in, bnd_s, rsk]
    by_cases d : isS g p
    · rw [if_pos d, if_neg (show ¬ (1 : Int) = 0 by decide), y_digit t y h19 h20 (by omega) (by decide) (by decide), if_pos ⟨by decide, by omega⟩, bnd2_s, if_pos d]
      obtain ⟨Y', a1, a2, a3, a4, a5⟩ := ih n (ior v (ishl 1 (g p - 48))) (p + 1) (mvY Y 1 ((p + 1 : Nat) : Int)) (by omega) (by omega) (YG_mv y _ _) (mvY_19 _ _ _) (mvY_20 _ _ _)
      exact ⟨Y', a1, a2, a3, fun c hc => by rw [a4 c hc, mvY_c _ _ _ hc], fun k h1 h2 => by rw [a5 k h1 h2, mvY_k _ _ _ h1 h2]⟩
    · rw [if_neg d, if_pos rfl, if_neg d]
      exact ⟨Y, rfl, h19, h20, fun _ _ => rfl, fun _ _ _ => rfl⟩
/-- a sign that is wanted -/
theorem p_sign {Y : MM} {T j : Nat} {S : PS} (t : TG g L) (y : YG Y g L) (h : RYs L Y T j S) {ch : Int} (c0 : ch ≠ 0) (c1 : ch ≠ 100) (c2 : ch ≠ 110) (c3 : ch ≠ 115) : ∃ Y', fX5_wants ch Y = some Y' ∧ RYs L Y' T j (stw g L S ch) ∧ FY T Y Y' := by
  have hle := stw_le t (S := S) (ch := ch) c0 h.2.2.2.2.1
  obtain ⟨h1, h2, h3, h4, h5, h6⟩ := h
  obtain ⟨w, p, W⟩ := S
  dsimp only at h1 h2 h4 h5 h6
  refine ⟨_, y_wants t y h1 h2 h5 ch, ?_, ?_⟩
  · unfold stw at hle ⊢
    dsimp only at hle ⊢
    by_cases z : w = 0
    · rw [if_neg (fun q => q.1 z), if_pos z]
      exact ⟨mvY_19 _ _ _, by rw [mvY_20]; exact z.symm, by rw [mvY_k _ _ _ (by decide) (by decide)]; exact h3, Or.inl z, h5, fun q => by rw [show (w, p, W).1 = w from rfl, z] at q; exact absurd q (by decide)⟩
    · unfold pc at hle ⊢
      rw [if_neg z, if_neg c1, if_neg c2, if_neg c3] at hle ⊢
      have h6 := h6 (h4.resolve_left z)
      by_cases d : g p = ch
      · rw [if_pos d] at hle
        rw [if_pos ⟨z, d⟩, if_pos d]
        exact ⟨mvY_19 _ _ _, mvY_20 _ _ _, by rw [mvY_k _ _ _ (by decide) (by decide)]; exact h3, Or.inr rfl, hle, fun _ => ⟨h6.1, fun i v hv => by rw [mvY_c _ _ _ (by decide)]; exact h6.2 i v hv⟩⟩
      · rw [if_neg (fun q => d q.2), if_neg d]
        exact ⟨mvY_19 _ _ _, mvY_20 _ _ _, by rw [mvY_k _ _ _ (by decide) (by decide)]; exact h3, Or.inl rfl, h5, fun q => absurd q (show ¬ (0 : Int) = 1 by decide)⟩
  · by_cases z : ¬ w = 0 ∧ g p = ch
    · rw [if_pos z]; exact FY_mv _ _ _ _
    · rw [if_neg z]; exact FY_mv _ _ _ _
/-- what is told goes to its place -/
theorem p_put {Y : MM} {T j p : Nat} {w v : Int} {W : List Int} (h1 : Y 0 19 = p) (h2 : Y 0 20 = w) (h3 : Y 0 22 = T) (h4 : w = 0 ∨ w = 1) (h5 : p ≤ L) (h6 : w = 1 → W.length = j ∧ ∀ (i : Nat) (v : Int), W[i]? = some v → Y 17 (7 * T + 1 + i) = v) (hj : j < 6) : RYs L (stM Y 17 (7 * T + 1 + j) v) T (j + 1) (w, p, tw W v) := by
  refine ⟨by rw [st_c (by decide)]; exact h1, by rw [st_c (by decide)]; exact h2, by rw [st_c (by decide)]; exact h3, h4, h5, fun q => ?_⟩
  obtain ⟨k1, k2⟩ := h6 q
  show (tw W v).length = j + 1 ∧ ∀ (i : Nat) (u : Int), (tw W v)[i]? = some u → _
  unfold tw
  rw [if_pos (by omega), List.length_append, k1]
  refine ⟨rfl, fun i u hu => ?_⟩
  rcases Nat.lt_trichotomy i j with a | a | a
  · rw [List.getElem?_append_left (by omega)] at hu
    rw [st_k (by omega)]
    exact k2 i u hu
  · rw [List.getElem?_append_right (by omega), show i - W.length = 0 by omega] at hu
    cases hu
    rw [a, st_at]
  · rw [List.getElem?_eq_none (by rw [List.length_append, k1]; exact a)] at hu
    cases hu
theorem RYs_dead {Y : MM} {T j j' p : Nat} {W W' : List Int} (h : RYs L Y T j (0, p, W)) : RYs L Y T j' (0, p, W') := ⟨h.1, h.2.1, h.2.2.1, Or.inl rfl, h.2.2.2.2.1, fun q => absurd q (show ¬ (0 : Int) = 1 by decide)⟩
theorem FY_put {T j : Nat} {Y Y1 : MM} (v : Int) (hj : j < 6) (h : FY T Y Y1) : FY T Y (stM Y1 17 (7 * T + 1 + j) v) := FY_tr h ⟨fun c _ b => st_cell b, fun k _ _ => st_c (by decide), fun k hk => st_k (by omega)⟩
theorem p_dig {Y : MM} {T j : Nat} {S : PS} (t : TG g L) (y : YG Y g L) (h : RYs L Y T j S) (hj : j < 6) (hT : T ≤ 40) : ∃ v Y1 Y2, fX5_digit 9 Y = some (v, Y1) ∧ (∀ z : Int, z = ((7 * T + 1 + j : Nat) : Int) → wr Y1 17 294 z v = some Y2) ∧ RYs L Y2 T (j + 1) (stw g L S 100) ∧ FY T Y Y2 := by
  have hle := stw_le t (S := S) (ch := 100) (by decide) h.2.2.2.2.1
  obtain ⟨h1, h2, h3, h4, h5, h6⟩ := h
  obtain ⟨w, p, W⟩ := S
  dsimp only at h1 h2 h4 h5 h6
  have hb := t.2.1 p
  have hw : ∀ (Y1 : MM) (z : Int), z = ((7 * T + 1 + j : Nat) : Int) → wr Y1 17 294 z (g p - 48) = some (stM Y1 17 (7 * T + 1 + j) (g p - 48)) := fun Y1 z hz => wr_n _ hz (by omega) ⟨by omega, by omega⟩
  have e := y_digit t y h1 h2 h5 (m := 9) (by decide) (by decide)
  unfold stw at hle ⊢
  dsimp only at hle ⊢
  by_cases z : w = 0
  · rw [if_neg (fun q => q.1 z)] at e
    rw [if_pos z]
    refine ⟨_, _, _, e, hw _, ?_, FY_put _ hj (FY_mv T Y 0 p)⟩
    subst z
    exact RYs_dead (W := tw W (g p - 48)) (p_put (mvY_19 _ _ _) (mvY_20 _ _ _) (by rw [mvY_k _ _ _ (by decide) (by decide)]; exact h3) (Or.inl rfl) h5 (fun q => absurd q (by decide)) hj)
  · unfold pc at hle ⊢
    rw [if_neg z, if_pos rfl] at hle ⊢
    have h6 := h6 (h4.resolve_left z)
    by_cases d : isD g p
    · rw [if_pos d] at hle
      rw [if_pos ⟨z, by omega⟩] at e
      rw [if_pos d]
      exact ⟨_, _, _, e, hw _, p_put (mvY_19 _ _ _) (mvY_20 _ _ _) (by rw [mvY_k _ _ _ (by decide) (by decide)]; exact h3) (Or.inr rfl) hle (fun _ => ⟨h6.1, fun i v hv => by rw [mvY_c _ _ _ (by decide)]; exact h6.2 i v hv⟩) hj, FY_put _ hj (FY_mv T Y _ _)⟩
    · rw [if_neg (fun q => d (by omega))] at e
      rw [if_neg d]
      exact ⟨_, _, _, e, hw _, RYs_dead (W := tw W (g p - 48)) (p_put (mvY_19 _ _ _) (mvY_20 _ _ _) (by rw [mvY_k _ _ _ (by decide) (by decide)]; exact h3) (Or.inl rfl) h5 (fun q => absurd q (by decide)) hj), FY_put _ hj (FY_mv T Y 0 p)⟩
theorem p_num {Y : MM} {T j : Nat} {S : PS} (t : TG g L) (y : YG Y g L) (h : RYs L Y T j S) (hj : j < 6) (hT : T ≤ 40) : ∃ v Y1 Y2, fX5_number Y = some (v, Y1) ∧ (∀ z : Int, z = ((7 * T + 1 + j : Nat) : Int) → wr Y1 17 294 z v = some Y2) ∧ RYs L Y2 T (j + 1) (stw g L S 110) ∧ FY T Y Y2 := by
  have hle := stw_le t (S := S) (ch := 110) (by decide) h.2.2.2.2.1
  obtain ⟨h1, h2, h3, h4, h5, h6⟩ := h
  obtain ⟨w, p, W⟩ := S
  dsimp only at h1 h2 h4 h5 h6
  have hb := t.2.1 p
  have hw : ∀ (Y1 : MM) (z v : Int), inR v → z = ((7 * T + 1 + j : Nat) : Int) → wr Y1 17 294 z v = some (stM Y1 17 (7 * T + 1 + j) v) := fun Y1 z v hv hz => wr_n _ hz (by omega) hv
  have e := y_digit t y h1 h2 h5 (m := 9) (by decide) (by decide)
  have dead : ¬ (¬ w = 0 ∧ (48 ≤ g p ∧ g p ≤ 48 + 9)) → fX5_number Y = some (g p - 48, mvY Y 0 p) := fun q => by
    rw [if_neg q] at e
    unfold fX5_number
    have e0 : fX5_number_L9 4000 (g p - 48) 1 (mvY Y 0 p) = some (g p - 48, mvY Y 0 p) := by rw [fX5_number_L9, if_neg (by decide), mvY_20, if_pos rfl]
    rw [e, bnd2_s, e0, bnd2_s]
  unfold stw at hle ⊢
  dsimp only at hle ⊢
  by_cases z : w = 0
  · rw [if_pos z]
    refine ⟨_, _, _, dead (fun q => q.1 z), fun z hz => hw _ z _ ⟨by omega, by omega⟩ hz, ?_, FY_put _ hj (FY_mv T Y 0 p)⟩
    subst z
    exact RYs_dead (W := tw W (g p - 48)) (p_put (mvY_19 _ _ _) (mvY_20 _ _ _) (by rw [mvY_k _ _ _ (by decide) (by decide)]; exact h3) (Or.inl rfl) h5 (fun q => absurd q (by decide)) hj)
  · unfold pc at hle ⊢
    rw [if_neg z, if_neg (by decide), if_pos rfl] at hle ⊢
    have h6 := h6 (h4.resolve_left z)
    by_cases d : isD g p
    · rw [if_pos d] at hle
      rw [if_pos ⟨z, by omega⟩] at e
      rw [if_pos d]
      have hl := g_lt t (p := p) (by omega)
      have hv := rnl_v (g := g) 2 (g p - 48) (p + 1) (by omega) (by omega) (fun _ => by omega) (fun q => by omega) (fun q => by omega)
      obtain ⟨Y1, a1, a2, a3, a4⟩ := y_L9 t 2 4000 1 (g p - 48) (p + 1) (mvY Y 1 ((p + 1 : Nat) : Int)) (by omega) (by omega) (by omega) (by omega) (fun _ => by omega) (fun q => by omega) hl (YG_mv y _ _) (mvY_19 _ _ _) (mvY_20 _ _ _)
      have en : fX5_number Y = some ((rnl g 2 (g p - 48) (p + 1)).1, Y1) := by
        unfold fX5_number
        rw [e, bnd2_s, show fX5_number_L9 4000 (g p - 48) 1 (mvY Y 1 ((p + 1 : Nat) : Int)) = _ from a1, bnd2_s]
      have hF : FY T Y Y1 := FY_tr (FY_mv T Y 1 ((p + 1 : Nat) : Int)) ⟨fun c hc _ => a3 c hc, fun k hk _ => a4 k hk, fun k _ => by rw [a3 17 (by decide)]⟩
      exact ⟨_, _, _, en, fun z hz => hw _ z _ ⟨by omega, by omega⟩ hz, p_put a2 (by rw [a4 20 (by decide), mvY_20]) (by rw [hF.2.1 22 (by decide) (by decide)]; exact h3) (Or.inr rfl) hle (fun _ => ⟨h6.1, fun i v hv => by rw [a3 17 (by decide), mvY_c _ _ _ (by decide)]; exact h6.2 i v hv⟩) hj, FY_put _ hj hF⟩
    · rw [if_neg d]
      exact ⟨_, _, _, dead (fun q => d (by omega)), fun z hz => hw _ z _ ⟨by omega, by omega⟩ hz, RYs_dead (W := tw W (g p - 48)) (p_put (mvY_19 _ _ _) (mvY_20 _ _ _) (by rw [mvY_k _ _ _ (by decide) (by decide)]; exact h3) (Or.inl rfl) h5 (fun q => absurd q (by decide)) hj), FY_put _ hj (FY_mv T Y 0 p)⟩
theorem sk_or : ∀ d : Nat, d < 4 → ishl 1 (iand (d : Int) 7) = ior 0 (ishl 1 (d : Int)) := by decide +kernel
theorem p_skl {Y : MM} {T j : Nat} {S : PS} (t : TG g L) (y : YG Y g L) (h : RYs L Y T j S) (hj : j < 6) (hT : T ≤ 40) (a : Int) : ∃ v Y1 s Y2 Y3, fX5_digit 3 Y = some (v, Y1) ∧ fX5_readsVan_L29 4000 a (ishl 1 (iand v 7)) Y1 = some (s, Y2) ∧ (∀ z : Int, z = ((7 * T + 1 + j : Nat) : Int) → wr Y2 17 294 z s = some Y3) ∧ RYs L Y3 T (j + 1) (stw g L S 115) ∧ FY T Y Y3 := by
  have hle := stw_le t (S := S) (ch := 115) (by decide) h.2.2.2.2.1
  obtain ⟨h1, h2, h3, h4, h5, h6⟩ := h
  obtain ⟨w, p, W⟩ := S
  dsimp only at h1 h2 h4 h5 h6
  have hb := t.2.1 p
  have ht := t.1
  have hw : ∀ (Y1 : MM) (z v : Int), inR v → z = ((7 * T + 1 + j : Nat) : Int) → wr Y1 17 294 z v = some (stM Y1 17 (7 * T + 1 + j) v) := fun Y1 z v hv hz => wr_n _ hz (by omega) hv
  have e := y_digit t y h1 h2 h5 (m := 3) (by decide) (by decide)
  have e0 : fX5_readsVan_L29 4000 a (ishl 1 (iand (g p - 48) 7)) (mvY Y 0 p) = some (ishl 1 (iand (g p - 48) 7), mvY Y 0 p) := by rw [fX5_readsVan_L29, mvY_20, if_pos rfl]
  unfold stw at hle ⊢
  dsimp only at hle ⊢
  by_cases z : w = 0
  · rw [if_neg (fun q => q.1 z)] at e
    rw [if_pos z]
    refine ⟨_, _, _, _, _, e, e0, fun z hz => hw _ z _ (J_inR _) hz, ?_, FY_put _ hj (FY_mv T Y 0 p)⟩
    subst z
    exact RYs_dead (W := tw W (ishl 1 (iand (g p - 48) 7))) (p_put (mvY_19 _ _ _) (mvY_20 _ _ _) (by rw [mvY_k _ _ _ (by decide) (by decide)]; exact h3) (Or.inl rfl) h5 (fun q => absurd q (by decide)) hj)
  · unfold pc at hle ⊢
    rw [if_neg z, if_neg (by decide), if_neg (by decide), if_pos rfl] at hle ⊢
    have h6 := h6 (h4.resolve_left z)
    by_cases d : isS g p
    · rw [if_pos ⟨z, by omega⟩] at e
      have hl := g_lt t (p := p) (by omega)
      obtain ⟨k, hk⟩ : ∃ k, L - p = k + 1 := ⟨L - p - 1, by omega⟩
      obtain ⟨dd, hd⟩ : ∃ n : Nat, g p - 48 = n := ⟨(g p - 48).toNat, by omega⟩
      have hs := rsk_0 t h5
      have eS : rsk g (L - p) 0 p = rsk g k (ishl 1 (iand (g p - 48) 7)) (p + 1) := by
        rw [hk, rsk, if_pos d, hd, sk_or dd (by omega)]
      rcases hs with ⟨-, s1, s2, s3⟩ | ⟨s1, -⟩
      · rw [if_neg (show ¬ (rsk g (L - p) 0 p).1 = 0 by omega)]
        rw [eS] at hle s2 s3 ⊢
        obtain ⟨Y1, a1, a2, a3, a4, a5⟩ := y_L29 t a k 4000 (ishl 1 (iand (g p - 48) 7)) (p + 1) (mvY Y 1 ((p + 1 : Nat) : Int)) (by omega) (by omega) (YG_mv y _ _) (mvY_19 _ _ _) (mvY_20 _ _ _)
        have hF : FY T Y Y1 := FY_tr (FY_mv T Y 1 ((p + 1 : Nat) : Int)) ⟨fun c hc _ => a4 c hc, fun k hk hk2 => a5 k hk hk2, fun k _ => by rw [a4 17 (by decide)]⟩
        exact ⟨_, _, _, _, _, e, a1, fun z hz => hw _ z _ ⟨by omega, by omega⟩ hz, p_put a2 a3 (by rw [hF.2.1 22 (by decide) (by decide)]; exact h3) (Or.inr rfl) hle (fun _ => ⟨h6.1, fun i v hv => by rw [a4 17 (by decide), mvY_c _ _ _ (by decide)]; exact h6.2 i v hv⟩) hj, FY_put _ hj hF⟩
      · exact absurd d s1
    · rw [if_neg (fun q => d (by omega))] at e
      rcases rsk_0 t h5 with ⟨s1, -⟩ | ⟨-, s1⟩
      · exact absurd s1 d
      · rw [s1]
        rw [if_pos rfl]
        exact ⟨_, _, _, _, _, e, e0, fun z hz => hw _ z _ (J_inR _) hz, RYs_dead (W := tw W (ishl 1 (iand (g p - 48) 7))) (p_put (mvY_19 _ _ _) (mvY_20 _ _ _) (by rw [mvY_k _ _ _ (by decide) (by decide)]; exact h3) (Or.inl rfl) h5 (fun q => absurd q (by decide)) hj), FY_put _ hj (FY_mv T Y 0 p)⟩
end TY
