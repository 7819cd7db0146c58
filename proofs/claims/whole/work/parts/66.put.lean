/-! THE PAD: put and wipe on both sides -/
def bt (A i : Nat) : Int := ((A / 2 ^ (8 * i) % 256 : Nat) : Int)
theorem bt_b (A i : Nat) : 0 ≤ bt A i ∧ bt A i ≤ 255 := by unfold bt; omega
theorem bt_of {A i : Nat} {z : Int} (hz : z = ((8 * i : Nat) : Int)) (hA : A < 2 ^ 64) (hi : i < 8) : l2i ((lushr (lN A) z) &&& (255 : Int64)) = bt A i := by
  have h1 : A / 2 ^ (8 * i) < 2 ^ 64 := Nat.lt_of_le_of_lt (Nat.div_le_self _ _) hA
  rw [sh_k hz hA (by omega), by_l h1, by_i _ (Nat.mod_lt _ (by decide))]
  rfl
theorem wrC_n {M : MM} {c n : Nat} {i z : Int} (k : Nat) (hi : i = k) (h1 : k < n) (h2 : 0 ≤ z ∧ z ≤ 65535) : wrC M c n i z = some (stM M c k z) := by
  subst hi
  unfold wrC
  rw [if_pos ⟨⟨by omega, by omega⟩, h2⟩, Int.toNat_natCast]
theorem L75b_eq : ∀ (n : Nat) (a : Int64) (b c : Int) (M : MM), fX1_append_L75b n a b c M = fX1_append_L75 n a b c M := by
  intro n
  induction n with
  | zero => intros; rfl
  | succ n ih =>
    intro a b c M
    rw [fX1_append_L75b, fX1_append_L75]
    simp only [ih]
/-- the end of the class's append, with j signs -/
def fin (a : Int64) (j : Int) (X : MM) : Option (Int × MM) := if j = 0 then some ((-2), X) else gd (inR ((X 71 1) + j)) (if ((X 71 1) + j) ≤ 80 then bnd (fX1_append_L75 4000 a j 0 X) (fun N => gd (inR ((N 71 1) + j)) (bnd (some (stM N 71 1 ((N 71 1) + j))) (fun M11 => some ((M11 71 1), M11)))) else some ((-4), X))
theorem put_bad {a : Int64} {Y : MM} : ∀ (k i m : Nat) (R : Int64), i + k = 8 → k < m → ∃ n' R', fX5_put_L13 m a i R 0 Y = some (n', R', 0) := by
  intro k
  induction k with
  | zero =>
    intro i m R hk hm
    obtain ⟨m, rfl⟩ : ∃ q, m = q + 1 := ⟨m - 1, by omega⟩
    exact ⟨_, _, by rw [fX5_put_L13, if_pos (by omega)]⟩
  | succ k ih =>
    intro i m R hk hm
    obtain ⟨m, rfl⟩ : ∃ q, m = q + 1 := ⟨m - 1, by omega⟩
    rw [fX5_put_L13, if_neg (by omega)]
    by_cases h : (lg_cmp (R &&& (255 : Int64)) 0).toInt = 0
    · rw [if_pos h]
      exact ⟨_, _, rfl⟩
    · rw [if_neg h, if_pos rfl, bnd_s, gd_R (by omega) (by omega)]
      exact ih (i + 1) m _ (by omega) (by omega)
theorem put_loop {A : Nat} (X Y : MM) : ∀ (k i n m R : Nat), i + k = 8 → R < 2 ^ (8 * k) → k < n → k < m →
    ∃ n' R' al', fX5_put_L13 m (lN A) i (lN R) 1 Y = some (n', R', al') ∧ (((al' = 0 ∨ R' ≠ 0) ∧ fX1_append_L5 n (lN A) i (lN R) X = some (-2, X)) ∨ (al' = 1 ∧ R' = 0 ∧ ∃ j : Nat, n' = j ∧ j ≤ 8 ∧ fX1_append_L5 n (lN A) i (lN R) X = fin (lN A) j X)) := by
  intro k
  induction k with
  | zero =>
    intro i n m R hk hR hn hm
    obtain ⟨n, rfl⟩ : ∃ q, n = q + 1 := ⟨n - 1, by omega⟩
    obtain ⟨m, rfl⟩ : ∃ q, m = q + 1 := ⟨m - 1, by omega⟩
    have h0 : R = 0 := by
      rw [Nat.mul_zero, Nat.pow_zero] at hR
      omega
    subst h0
    refine ⟨i, 0, 1, by rw [fX5_put_L13, if_pos (by omega)]; rfl, Or.inr ⟨rfl, rfl, i, rfl, by omega, ?_⟩⟩
    rw [fX1_append_L5, if_pos ((cmp0 (lN 0)).mpr rfl)]
    rfl
  | succ k ih =>
    intro i n m R hk hR hn hm
    obtain ⟨n, rfl⟩ : ∃ q, n = q + 1 := ⟨n - 1, by omega⟩
    obtain ⟨m, rfl⟩ : ∃ q, m = q + 1 := ⟨m - 1, by omega⟩
    have hR64 : R < 2 ^ 64 := Nat.lt_of_lt_of_le hR (Nat.pow_le_pow_right (by decide) (by omega))
    have hdiv : R / 2 ^ 8 < 2 ^ (8 * k) := by
      refine Nat.div_lt_of_lt_mul ?_
      rw [← Nat.pow_add, show 8 + 8 * k = 8 * (k + 1) by omega]
      exact hR
    have hr : R % 256 < 256 := Nat.mod_lt _ (by decide)
    have hl : lN R &&& (255 : Int64) = lN (R % 256) := by_l hR64
    have hb : l2i (lN R &&& (255 : Int64)) = ((R % 256 : Nat) : Int) := by rw [hl, by_i _ hr]
    have hz : (lg_cmp (lN R &&& (255 : Int64)) 0).toInt = 0 ↔ R % 256 = 0 := by
      rw [cmp0, hl]
      exact lN_0 (by omega)
    have hs : lushr (lN R) 8 = lN (R / 2 ^ 8) := sh_k (k := 8) rfl hR64 (by decide)
    by_cases h0 : R = 0
    · subst h0
      refine ⟨i, lN 0, 1, by rw [fX5_put_L13, if_neg (by omega), if_pos (hz.mpr rfl)], Or.inr ⟨rfl, rfl, i, rfl, by omega, ?_⟩⟩
      rw [fX1_append_L5, if_pos ((cmp0 (lN 0)).mpr rfl)]
      rfl
    · have hx0 : ¬ (lg_cmp (lN R) 0).toInt = 0 := fun q => h0 ((lN_0 hR64).mp ((cmp0 _).mp q))
      have x5 : fX1_append_L5 (n + 1) (lN A) i (lN R) X = if (33 : Int) ≤ ((R % 256 : Nat) : Int) ∧ ((R % 256 : Nat) : Int) ≤ 126 then fX1_append_L5 n (lN A) ((i + 1 : Nat) : Int) (lN (R / 2 ^ 8)) X else some (-2, X) := by
        rw [fX1_append_L5, if_neg hx0, if_neg (show ¬ (8 : Int) ≤ (i : Int) by omega), p_within, bnd_s, hb, hs]
        by_cases h : (33 : Int) ≤ ((R % 256 : Nat) : Int) ∧ ((R % 256 : Nat) : Int) ≤ 126
        · rw [if_pos h, if_neg (show ¬ (1 : Int) = 0 by decide), gd_R (by omega) (by omega), if_pos h]
          rfl
        · rw [if_neg h, if_pos rfl, if_neg h]
      have y13 : fX5_put_L13 (m + 1) (lN A) i (lN R) 1 Y = if R % 256 = 0 then some ((i : Int), lN R, 1) else fX5_put_L13 m (lN A) ((i + 1 : Nat) : Int) (lN (R / 2 ^ 8)) (if (33 : Int) ≤ ((R % 256 : Nat) : Int) ∧ ((R % 256 : Nat) : Int) ≤ 126 then 1 else 0) Y := by
        rw [fX5_put_L13, if_neg (show ¬ (8 : Int) ≤ (i : Int) by omega)]
        by_cases hr0 : R % 256 = 0
        · rw [if_pos (hz.mpr hr0), if_pos hr0]
        · rw [if_neg (fun q => hr0 (hz.mp q)), if_neg (show ¬ (1 : Int) = 0 by decide), p_in, bnd_s, hb, hs, if_neg hr0]
          by_cases h : (33 : Int) ≤ ((R % 256 : Nat) : Int) ∧ ((R % 256 : Nat) : Int) ≤ 126
          · rw [if_pos h, if_neg (show ¬ (1 : Int) = 0 by decide), bnd_s, gd_R (by omega) (by omega)]
            rfl
          · rw [if_neg h, if_pos rfl, bnd_s, gd_R (by omega) (by omega)]
            rfl
      rw [x5, y13]
      by_cases h : (33 : Int) ≤ ((R % 256 : Nat) : Int) ∧ ((R % 256 : Nat) : Int) ≤ 126
      · rw [if_pos h, if_neg (show ¬ R % 256 = 0 by omega), if_pos h]
        exact ih (i + 1) n m (R / 2 ^ 8) (by omega) hdiv (by omega) (by omega)
      · rw [if_neg h, if_neg h]
        by_cases hr0 : R % 256 = 0
        · rw [if_pos hr0]
          exact ⟨_, _, _, rfl, Or.inl ⟨Or.inr (fun q => h0 ((lN_0 hR64).mp q)), rfl⟩⟩
        · rw [if_neg hr0]
          obtain ⟨n', R', e⟩ := put_bad (a := lN A) (Y := Y) k (i + 1) m (lN (R / 2 ^ 8)) (by omega) (by omega)
          exact ⟨n', R', 0, e, Or.inl ⟨Or.inl rfl, rfl⟩⟩
theorem x_L75 {A L many : Nat} (hA : A < 2 ^ 64) (h80 : L + many ≤ 80) (hm : many ≤ 8) : ∀ (k n i : Nat) (Z : MM), i + k = many → k < n → Z 71 1 = L → ∃ Z', fX1_append_L75 n (lN A) many i Z = some Z' ∧ (∀ c, c ≠ 72 → Z' c = Z c) ∧ (∀ j, i ≤ j → j < many → Z' 72 (L + many - 1 - j) = bt A j) ∧ (∀ q, (q < L ∨ L + many - i ≤ q) → Z' 72 q = Z 72 q) := by
  intro k
  induction k with
  | zero =>
    intro n i Z hk hn h1
    obtain ⟨n, rfl⟩ : ∃ q, n = q + 1 := ⟨n - 1, by omega⟩
    exact ⟨Z, by rw [fX1_append_L75, if_pos (by omega)], fun c _ => rfl, fun i h1 h2 => by omega, fun q _ => rfl⟩
  | succ k ih =>
    intro n i Z hk hn h1
    obtain ⟨n, rfl⟩ : ∃ q, n = q + 1 := ⟨n - 1, by omega⟩
    have hb := bt_b A i
    have hc : i2c (bt A i) = bt A i := by_c _ (Nat.mod_lt _ (by decide))
    rw [fX1_append_L75, if_neg (by omega), bt_of (i := i) (by omega) hA (by omega), hc, wrC_n (L + many - 1 - i) (by omega) (by omega) ⟨by omega, by omega⟩, bnd_s, gd_R (by omega) (by omega)]
    obtain ⟨Z', a1, a2, a4, a5⟩ := ih n (i + 1) (stM Z 72 (L + many - 1 - i) (bt A i)) (by omega) (by omega) (by rw [st_c (by decide)]; exact h1)
    refine ⟨Z', a1, fun c hc => by rw [a2 c hc, st_cell hc], fun j h1 h2 => ?_, fun q hq => by rw [a5 q (by omega), st_k (by omega)]⟩
    by_cases e : j = i
    · rw [e, a5 _ (by omega), st_at]
    · exact a4 j (by omega) h2
theorem y_L108 {A L many : Nat} (hA : A < 2 ^ 64) (h80 : L + many ≤ 80) (hm : many ≤ 8) : ∀ (k n i : Nat) (Z : MM), i + k = many → k < n → Z 0 7 = L → ∃ Z', fX5_put_L108 n (lN A) many i Z = some Z' ∧ (∀ c, c ≠ 5 → Z' c = Z c) ∧ (∀ j, i ≤ j → j < many → Z' 5 (L + j) = bt A (many - 1 - j)) ∧ (∀ q, (q < L + i ∨ L + many ≤ q) → Z' 5 q = Z 5 q) := by
  intro k
  induction k with
  | zero =>
    intro n i Z hk hn h1
    obtain ⟨n, rfl⟩ : ∃ q, n = q + 1 := ⟨n - 1, by omega⟩
    exact ⟨Z, by rw [fX5_put_L108, if_pos (by omega)], fun c _ => rfl, fun i h1 h2 => by omega, fun q _ => rfl⟩
  | succ k ih =>
    intro n i Z hk hn h1
    obtain ⟨n, rfl⟩ : ∃ q, n = q + 1 := ⟨n - 1, by omega⟩
    have hb := bt_b A (many - 1 - i)
    rw [fX5_put_L108, if_neg (by omega), bt_of (i := many - 1 - i) (by omega) hA (by omega), wr_n (L + i) (by omega) (by omega) ⟨by omega, by omega⟩, bnd_s, gd_R (by omega) (by omega)]
    obtain ⟨Z', a1, a2, a4, a5⟩ := ih n (i + 1) (stM Z 5 (L + i) (bt A (many - 1 - i))) (by omega) (by omega) (by rw [st_c (by decide)]; exact h1)
    refine ⟨Z', a1, fun c hc => by rw [a2 c hc, st_cell hc], fun j h1 h2 => ?_, fun q hq => by rw [a5 q (by omega), st_k (by omega)]⟩
    by_cases e : j = i
    · rw [e, a5 _ (by omega), st_at]
    · exact a4 j (by omega) h2
section QP
variable {X Y : MM}
theorem q_wipe (hS : Sim X Y) : ∃ res X' Y', fX4_wipe X = some (res, X') ∧ fX5_wipe Y = some (res, Y') ∧ Sim X' Y' := by
  obtain ⟨h1, h2, h3, h4, p1, p2, p3⟩ := id hS
  refine ⟨Y 0 7, stM X 71 1 0, stM (stM Y 0 0 0) 0 7 0, ?_, ?_, ?_⟩
  · unfold fX4_wipe
    rw [bnd_s, p1]
  · unfold fX5_wipe
    rw [bnd_s, bnd_s, st_k (by decide)]
  · have hx : ∀ c, c ≠ 71 → (stM X 71 1 0) c = X c := fun c hc => st_cell hc
    have hy : ∀ c, c ≠ 0 → (stM (stM Y 0 0 0) 0 7 0) c = Y c := fun c hc => by rw [st_cell hc, st_cell hc]
    obtain ⟨X0, X1, a1, a2, a3⟩ := h2
    obtain ⟨o, m, o1, o2, o3, o4, o5, o6⟩ := h3
    refine ⟨?_, ⟨X0, X1, xS_1 (hy 1 (by decide)) a1, a2, fun c c1 c2 => by rw [hx c (by omega)]; exact a3 c c1 c2⟩, ⟨o, m, o1, o2, by rw [hx 67 (by decide)]; exact o3, by rw [hx 67 (by decide)]; exact o4, by rw [st_k (by decide), st_k (by decide)]; exact o5, fun k hk => ?_⟩, fun j hj => ?_, ?_, ?_, fun i hi => ?_⟩
    · rw [hy 1 (by decide)]
      exact RG_X h1 (fun c _ _ => hx c (by omega))
    · rw [hy 2 (by decide)]
      exact RG_X (o6 k hk) (fun c _ _ => hx c (by omega))
    · rw [hx 70 (by decide), hy 4 (by decide), hy 3 (by decide)]
      obtain ⟨s1, s2⟩ := h4 j hj
      exact ⟨s1, s2.imp id (fun q => ⟨q.1, RG_X q.2 (fun c c1 c2 => hx c (by omega))⟩)⟩
    · rw [st_at, st_at]
    · rw [st_at]; decide
    · rw [st_at] at hi; omega
theorem q_put (hS : Sim X Y) (a : Int64) : ∃ res X' Y', fX4_put a X = some (res, X') ∧ fX5_put a Y = some (res, Y') ∧ Sim X' Y' := by
  obtain ⟨A, hA, rfl⟩ := wb_of a
  have h0 : Sim X (stM Y 0 0 0) := Sim_QY hS (QY_st Y)
  unfold fX4_put fX5_put fX1_append
  generalize stM Y 0 0 0 = Y1 at *
  obtain ⟨h1, h2, h3, h4, p1, p2, p3⟩ := id h0
  obtain ⟨L, hL⟩ : ∃ n : Nat, Y1 0 7 = n := ⟨(Y1 0 7).toNat, by omega⟩
  rw [hL] at p1 p2
  obtain ⟨n', R', al', e1, e2⟩ := put_loop (A := A) X Y1 8 0 4000 4000 A (by omega) (by omega) (by omega) (by omega)
  rw [bnd_s, show fX5_put_L13 4000 (lN A) 0 (lN A) 1 Y1 = some (n', R', al') from e1, bnd3_s]
  rcases e2 with ⟨q1, q2⟩ | ⟨rfl, rfl, j, rfl, j8, q2⟩
  · rw [show fX1_append_L5 4000 (lN A) 0 (lN A) X = some (-2, X) from q2, bnd2_s]
    refine ⟨-2, X, Y1, rfl, ?_, h0⟩
    by_cases c1 : n' = 0
    · rw [if_pos c1]
    · rw [if_neg c1]
      by_cases c2 : al' = 0
      · rw [if_pos c2]
      · rw [if_neg c2, if_neg (fun q => q1.elim c2 (fun r => r ((cmp0 _).mp q)))]
  · rw [show fX1_append_L5 4000 (lN A) 0 (lN A) X = fin (lN A) j X from q2]
    unfold fin
    by_cases c1 : (j : Int) = 0
    · rw [if_pos c1, if_pos c1, bnd2_s]
      exact ⟨-2, X, Y1, rfl, rfl, h0⟩
    · rw [if_neg c1, if_neg c1, if_neg (show ¬ (1 : Int) = 0 by decide), if_pos ((cmp0 (0 : Int64)).mpr rfl), p1, hL, gd_R (by omega) (by omega), gd_R (by omega) (by omega)]
      by_cases c2 : L + j ≤ 80
      · obtain ⟨X2, x1, x2, x3, x4⟩ := x_L75 hA c2 j8 j 4000 0 X (by omega) (by omega) p1
        obtain ⟨Y2, y1, y2, y3, y4⟩ := y_L108 hA c2 j8 j 4000 0 Y1 (by omega) (by omega) hL
        have ex : X2 71 1 = L := by rw [x2 71 (by decide)]; exact p1
        have ey : Y2 0 7 = L := by rw [y2 0 (by decide)]; exact hL
        rw [if_pos (by omega), if_pos (by omega), show fX1_append_L75 4000 (lN A) j 0 X = some X2 from x1, show fX5_put_L108 4000 (lN A) j 0 Y1 = some Y2 from y1, bnd_s, ex, gd_R (by omega) (by omega), bnd_s, bnd2_s, st_at, bnd_s, ey, gd_R (by omega) (by omega), bnd_s, st_at]
        refine ⟨_, _, _, rfl, rfl, ?_⟩
        have hx : ∀ c, c ≠ 71 → c ≠ 72 → (stM X2 71 1 (L + j)) c = X c := fun c h1 h2 => by rw [st_cell h1, x2 c h2]
        have hy : ∀ c, c ≠ 0 → c ≠ 5 → (stM Y2 0 7 (L + j)) c = Y1 c := fun c h1 h2 => by rw [st_cell h1, y2 c h2]
        obtain ⟨X0, X1, a1, a2, a3⟩ := h2
        obtain ⟨o, m, o1, o2, o3, o4, o5, o6⟩ := h3
        refine ⟨?_, ⟨X0, X1, xS_1 (hy 1 (by decide) (by decide)) a1, a2, fun c c1 c2 => by rw [hx c (by omega) (by omega)]; exact a3 c c1 c2⟩, ⟨o, m, o1, o2, by rw [hx 67 (by decide) (by decide)]; exact o3, by rw [hx 67 (by decide) (by decide)]; exact o4, by rw [st_k (by decide), y2 0 (by decide)]; exact o5, fun k hk => ?_⟩, fun j hj => ?_, ?_, ?_, fun i hi => ?_⟩
        · rw [hy 1 (by decide) (by decide)]
          exact RG_X h1 (fun c _ _ => hx c (by omega) (by omega))
        · rw [hy 2 (by decide) (by decide)]
          exact RG_X (o6 k hk) (fun c _ _ => hx c (by omega) (by omega))
        · rw [hx 70 (by decide) (by decide), hy 4 (by decide) (by decide), hy 3 (by decide) (by decide)]
          obtain ⟨s1, s2⟩ := h4 j hj
          exact ⟨s1, s2.imp id (fun q => ⟨q.1, RG_X q.2 (fun c c1 c2 => hx c (by omega) (by omega))⟩)⟩
        · rw [st_at, st_at]
        · rw [st_at]; omega
        · rw [st_at] at hi
          rw [st_cell (by decide), st_cell (by decide)]
          by_cases c3 : i < L
          · rw [x4 i (Or.inl c3), y4 i (Or.inl (by omega))]
            exact p3 i (by omega)
          · obtain ⟨k, rfl⟩ : ∃ k, i = L + k := ⟨i - L, by omega⟩
            have e3 := x3 (j - 1 - k) (by omega) (by omega)
            rw [show L + j - 1 - (j - 1 - k) = L + k by omega] at e3
            rw [e3, y3 k (by omega) (by omega)]
            exact ⟨rfl, bt_b _ _⟩
      · rw [if_neg (by omega), if_neg (by omega), bnd2_s]
        exact ⟨-4, X, Y1, rfl, rfl, h0⟩
end QP
