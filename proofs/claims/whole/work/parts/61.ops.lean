/-! THE CHANGES OF A ROAD on both sides: a setting, a visit more -/
theorem RG_set {X X' : MM} {r : Nat} {s s' : Nat → Int} (g : RG X r s) (h0 : 1 ≤ s' 0 ∧ s' 0 ≤ 9) (h1 : 1 ≤ s' 1 ∧ s' 1 ≤ 120) (h2 : 0 ≤ s' 2 ∧ s' 2 ≤ 300) (x0 : X' (5 * r + 1) 0 = s' 0) (x1 : X' (5 * r + 1) 1 = s' 1) (x2 : X' (5 * r + 1) 2 = s' 2) (hs : ∀ k, 3 ≤ k → s' k = s k) (hX : ∀ c, 5 * r ≤ c → c < 5 * r + 5 → c ≠ 5 * r + 1 → X' c = X c) : RG X' r s' := by
  obtain ⟨⟨-, -, -, v4, v5, v6, v7⟩, g2, ⟨-, -, -, a4, a5, a6, a7, a8⟩, g4⟩ := g
  have e : ∀ k, 3 ≤ k → ofs s' 1 k = ofs s 1 k := hs
  refine ⟨⟨h0, h1, h2, ?_, ?_, fun v hv => ?_, fun i hi => ?_⟩, by rw [hs 3 (by decide)]; exact g2, ⟨x0, x1, x2, ?_, ?_, fun v k hv hk => ?_, fun v q hv hq => ?_, fun i k hi hk => ?_⟩, ?_⟩
  · rw [e 3 (by decide)]; exact v4
  · rw [e 4 (by decide)]; exact v5
  · rw [e 4 (by decide)] at hv
    obtain ⟨b1, b2, b3⟩ := v6 v hv
    unfold yvan at b1 b2 b3 ⊢
    rw [e _ (by omega), e _ (by omega)]
    exact ⟨b1, b2, fun p hp => by rw [e _ (by omega)]; exact b3 p hp⟩
  · rw [e 3 (by decide)] at hi
    have b := v7 i hi
    unfold yvis at b ⊢
    rw [e _ (by omega), e _ (by omega), e _ (by omega), e _ (by omega), e _ (by omega), e _ (by omega)]
    exact b
  · rw [hX _ (by omega) (by omega) (by omega), e 3 (by decide)]; exact a4
  · rw [hX _ (by omega) (by omega) (by omega), e 4 (by decide)]; exact a5
  · rw [e 4 (by decide)] at hv
    rw [hX _ (by omega) (by omega) (by omega), a6 v k hv hk]
    unfold yvan
    rw [e _ (by omega)]
  · rw [e 4 (by decide)] at hv
    rw [hX _ (by omega) (by omega) (by omega), a7 v q hv hq]
    unfold yvan
    rw [e _ (by omega)]
  · rw [e 3 (by decide)] at hi
    rw [hX _ (by omega) (by omega) (by omega), a8 i k hi hk]
    unfold yvis
    rw [e _ (by omega)]
  · rw [hs 4 (by decide), hX _ (by omega) (by omega) (by omega)]
    exact g4
/-- is it a setting, and its value one that may be -/
abbrev setOk (a b : Int) : Prop := (a = 0 ∧ 1 ≤ b ∧ b ≤ 9) ∨ (a = 1 ∧ 1 ≤ b ∧ b ≤ 120) ∨ (a = 2 ∧ 0 ≤ b ∧ b ≤ 300)
theorem y_isSetting (a b : Int) : fX5_isSetting a b = some (if setOk a b then 1 else 0) := by
  unfold fX5_isSetting
  by_cases a0 : a = 0
  · rw [if_pos a0, p_in, bnd_s]
    by_cases h : 1 ≤ b ∧ b ≤ 9
    · rw [if_pos h, gd_s (Or.inr rfl), if_pos (Or.inl ⟨a0, h⟩)]
    · rw [if_neg h, gd_s (Or.inl rfl), if_neg (by omega)]
  · rw [if_neg a0]
    by_cases a1 : a = 1
    · rw [if_pos a1, p_in, bnd_s]
      by_cases h : 1 ≤ b ∧ b ≤ 120
      · rw [if_pos h, gd_s (Or.inr rfl), if_pos (Or.inr (Or.inl ⟨a1, h⟩))]
      · rw [if_neg h, gd_s (Or.inl rfl), if_neg (by omega)]
    · rw [if_neg a1]
      by_cases a2 : a = 2
      · rw [if_pos a2, p_in, bnd_s]
        by_cases h : 0 ≤ b ∧ b ≤ 300
        · rw [if_pos h, gd_s (Or.inr rfl), if_pos (Or.inr (Or.inr ⟨a2, h⟩))]
        · rw [if_neg h, gd_s (Or.inl rfl), if_neg (by omega)]
      · rw [if_neg a2, if_neg (by omega)]
theorem x_changeSetting (X : MM) {r a : Nat} {b : Int} (h : setOk a b) : fX3_changeSetting r a b X = some (X (5 * r + 1) a, stM X (5 * r + 1) a b) := by
  unfold fX3_changeSetting
  have one : ¬ (1 : Int) = 0 := by decide
  have ha : a < 3 := by omega
  rw [p_within, bnd_s, if_pos (show (0 : Int) ≤ (a : Int) ∧ (a : Int) ≤ 2 by omega), if_neg one, gd_s (by omega), gd_s (by omega), p_within, bnd_s, Int.toNat_natCast]
  have hw : lsM a ≤ b ∧ b ≤ msM a := by
    rcases (show a = 0 ∨ a = 1 ∨ a = 2 by omega) with rfl | rfl | rfl
    · show (1 : Int) ≤ b ∧ b ≤ 9
      omega
    · show (1 : Int) ≤ b ∧ b ≤ 120
      omega
    · show (0 : Int) ≤ b ∧ b ≤ 300
      omega
  rw [if_pos hw, if_neg one, rd_n a rfl (by omega), bnd_s, wr_n a rfl (by omega) ⟨by omega, by omega⟩, bnd_s]
theorem x_noSetting (X : MM) {r : Nat} {a b : Int} (h : ¬ setOk a b) : fX3_changeSetting r a b X = some (-2, X) := by
  unfold fX3_changeSetting
  have one : ¬ (1 : Int) = 0 := by decide
  rw [p_within, bnd_s]
  by_cases h1 : 0 ≤ a ∧ a ≤ 2
  · rw [if_pos h1, if_neg one, gd_s (by omega), gd_s (by omega), p_within, bnd_s]
    have hw : ¬ (lsM a.toNat ≤ b ∧ b ≤ msM a.toNat) := by
      rcases (show a = 0 ∨ a = 1 ∨ a = 2 by omega) with rfl | rfl | rfl
      · show ¬ ((1 : Int) ≤ b ∧ b ≤ 9)
        omega
      · show ¬ ((1 : Int) ≤ b ∧ b ≤ 120)
        omega
      · show ¬ ((0 : Int) ≤ b ∧ b ≤ 300)
        omega
    rw [if_neg hw, if_pos rfl]
  · rw [if_neg h1, if_pos rfl]
/-- six numbers of a visit -/
def v6 (a b c d e f : Int) (j : Nat) : Int := if j = 0 then a else if j = 1 then b else if j = 2 then c else if j = 3 then d else if j = 4 then e else f
def st6 (M : MM) (z k : Nat) (a b c d e f : Int) : MM := stM (stM (stM (stM (stM (stM M z (k + 0) a) z (k + 1) b) z (k + 2) c) z (k + 3) d) z (k + 4) e) z (k + 5) f
theorem st6_in {M : MM} {z k j : Nat} {a b c d e f : Int} (h : j < 6) : st6 M z k a b c d e f z (k + j) = v6 a b c d e f j := by
  unfold st6
  rcases (show j = 0 ∨ j = 1 ∨ j = 2 ∨ j = 3 ∨ j = 4 ∨ j = 5 by omega) with rfl | rfl | rfl | rfl | rfl | rfl
  · rw [show v6 a b c d e f 0 = a from rfl, st_k (by omega), st_k (by omega), st_k (by omega), st_k (by omega), st_k (by omega), st_at]
  · rw [show v6 a b c d e f 1 = b from rfl, st_k (by omega), st_k (by omega), st_k (by omega), st_k (by omega), st_at]
  · rw [show v6 a b c d e f 2 = c from rfl, st_k (by omega), st_k (by omega), st_k (by omega), st_at]
  · rw [show v6 a b c d e f 3 = d from rfl, st_k (by omega), st_k (by omega), st_at]
  · rw [show v6 a b c d e f 4 = e from rfl, st_k (by omega), st_at]
  · rw [show v6 a b c d e f 5 = f from rfl, st_at]
theorem st6_o {M : MM} {z k x y : Nat} {a b c d e f : Int} (h : x ≠ z ∨ y < k ∨ k + 6 ≤ y) : st6 M z k a b c d e f x y = M x y := by
  have h1 : ∀ (N : MM) (i : Nat) (w : Int), i < 6 → stM N z (k + i) w x y = N x y := fun N i w hi => by
    by_cases q : x = z
    · exact st_k (by omega)
    · exact st_c q
  unfold st6
  rw [h1 _ 5 _ (by decide), h1 _ 4 _ (by decide), h1 _ 3 _ (by decide), h1 _ 2 _ (by decide), h1 _ 1 _ (by decide), h1 _ 0 _ (by decide)]
theorem x_put6 (X : MM) {r n : Nat} (h4 : X (5 * r) 4 = n) (hn : n < 21) {a b c d e f : Int} (ha : inR a) (hb : inR b) (hc : inR c) (hd : inR d) (he : inR e) (hf : inR f) : fX3_putVisit r a b c d e f X = some ((n : Int), stM (st6 X (5 * r + 2) (6 * n) a b c d e f) (5 * r) 4 ((n + 1 : Nat) : Int)) := by
  unfold fX3_putVisit
  rw [h4, if_pos (by omega), wr_n (6 * n + 0) (by omega) (by omega) ha, bnd_s, wr_n (6 * n + 1) (by omega) (by omega) hb, bnd_s, wr_n (6 * n + 2) (by omega) (by omega) hc, bnd_s, wr_n (6 * n + 3) (by omega) (by omega) hd, bnd_s, wr_n (6 * n + 4) (by omega) (by omega) he, bnd_s, wr_n (6 * n + 5) (by omega) (by omega) hf, bnd_s]
  rw [st_c (by omega), st_c (by omega), st_c (by omega), st_c (by omega), st_c (by omega), st_c (by omega), h4, gd_R (by omega) (by omega), bnd_s, st_at, gd_R (by omega) (by omega), show (n : Int) + 1 - 1 = n by omega, show (n : Int) + 1 = ((n + 1 : Nat) : Int) by omega]
  rfl
theorem y_put6 (Z : MM) {n : Nat} (h3 : Z 1 3 = n) (hn : n < 21) {a b c d e f : Int} (ha : inR a) (hb : inR b) (hc : inR c) (hd : inR d) (he : inR e) (hf : inR f) : fX5_laysVisit a b c d e f Z = some ((n : Int), stM (st6 Z 1 (33 + 6 * n) a b c d e f) 1 3 ((n + 1 : Nat) : Int)) := by
  unfold fX5_laysVisit
  rw [rd_n (i := 3) 3 rfl (by decide), bnd_s, h3, wr_n (33 + 6 * n + 0) (by omega) (by omega) ha, bnd_s, wr_n (33 + 6 * n + 1) (by omega) (by omega) hb, bnd_s, wr_n (33 + 6 * n + 2) (by omega) (by omega) hc, bnd_s, wr_n (33 + 6 * n + 3) (by omega) (by omega) hd, bnd_s, wr_n (33 + 6 * n + 4) (by omega) (by omega) he, bnd_s, wr_n (33 + 6 * n + 5) (by omega) (by omega) hf, bnd_s]
  rw [rd_n (i := 3) 3 rfl (by decide), bnd_s, st_k (by omega), st_k (by omega), st_k (by omega), st_k (by omega), st_k (by omega), st_k (by omega), h3, wr_n (i := 3) 3 rfl (by decide) ⟨by omega, by omega⟩, bnd_s, rd_n (i := 3) 3 rfl (by decide), bnd_s, st_at, gd_R (by omega) (by omega), show (n : Int) + 1 - 1 = n by omega, show (n : Int) + 1 = ((n + 1 : Nat) : Int) by omega]
  rfl
/-- what a visit's numbers may be -/
abbrev visOk (a b c d e f : Int) : Prop := (0 ≤ b ∧ b ≤ 3) ∧ (0 ≤ c ∧ c ≤ 4) ∧ (0 ≤ a ∧ a ≤ 99) ∧ (0 ≤ d ∧ d ≤ 9) ∧ (0 ≤ e ∧ e ≤ 999) ∧ (e ≤ f ∧ f ≤ 999)
theorem put_V {Y Z : MM} {n : Nat} (hV : ValS Y) (h3 : Y 1 3 = n) (hn : n < 21) {a b c d e f : Int} (ok : visOk a b c d e f) (zk : ∀ k, k ≠ 3 → (k < 33 + 6 * n ∨ 33 + 6 * n + 6 ≤ k) → Z 1 k = Y 1 k) (z3 : Z 1 3 = ((n + 1 : Nat) : Int)) (zn : ∀ j, j < 6 → Z 1 (33 + 6 * n + j) = v6 a b c d e f j) : ValS Z := by
  obtain ⟨a1, a2, a3, a4, a5, a6, a7⟩ := hV
  unfold ValS
  rw [zk 0 (by decide) (by omega), zk 1 (by decide) (by omega), zk 2 (by decide) (by omega), zk 4 (by decide) (by omega), z3]
  refine ⟨a1, a2, a3, by omega, a5, fun v hv => ?_, fun i hi => ?_⟩
  · obtain ⟨b1, b2, b3⟩ := a6 v hv
    unfold yvan at b1 b2 b3 ⊢
    rw [zk _ (by omega) (by omega), zk _ (by omega) (by omega)]
    exact ⟨b1, b2, fun p hp => by rw [zk _ (by omega) (by omega)]; exact b3 p hp⟩
  · by_cases q : i = n
    · subst q
      obtain ⟨k1, k2, k3, k4, k5, k6⟩ := ok
      unfold yvis
      rw [zn 0 (by decide), zn 1 (by decide), zn 2 (by decide), zn 3 (by decide), zn 4 (by decide), zn 5 (by decide)]
      show (0 ≤ a ∧ a ≤ 99) ∧ (0 ≤ b ∧ b ≤ 3) ∧ (0 ≤ c ∧ c ≤ 4) ∧ (0 ≤ d ∧ d ≤ 9) ∧ (0 ≤ e ∧ e ≤ 999) ∧ (0 ≤ f ∧ f ≤ 999)
      exact ⟨k3, k1, k2, k4, k5, by omega⟩
    · have w := a7 i (by omega)
      unfold yvis at w ⊢
      rw [zk _ (by omega) (by omega), zk _ (by omega) (by omega), zk _ (by omega) (by omega), zk _ (by omega) (by omega), zk _ (by omega) (by omega), zk _ (by omega) (by omega)]
      exact w
theorem put_S {X X' Y Z : MM} {r n : Nat} (hS : xS X Y r) (h3 : Y 1 3 = n) (h4 : Y 1 4 ≤ 4) {a b c d e f : Int} (zk : ∀ k, k ≠ 3 → (k < 33 + 6 * n ∨ 33 + 6 * n + 6 ≤ k) → Z 1 k = Y 1 k) (z3 : Z 1 3 = ((n + 1 : Nat) : Int)) (zn : ∀ j, j < 6 → Z 1 (33 + 6 * n + j) = v6 a b c d e f j)
    (x1 : X' (5 * r + 1) = X (5 * r + 1)) (x3 : X' (5 * r + 3) = X (5 * r + 3)) (x4 : X' (5 * r + 4) = X (5 * r + 4)) (xc : X' (5 * r) 4 = ((n + 1 : Nat) : Int)) (xd : X' (5 * r) 5 = X (5 * r) 5) (xk : ∀ k, k < 6 * n → X' (5 * r + 2) k = X (5 * r + 2) k) (xn : ∀ j, j < 6 → X' (5 * r + 2) (6 * n + j) = v6 a b c d e f j) : xS X' Z r := by
  obtain ⟨a1, a2, a3, a4, a5, a6, a7, a8⟩ := hS
  unfold xS
  rw [zk 0 (by decide) (by omega), zk 1 (by decide) (by omega), zk 2 (by decide) (by omega), zk 4 (by decide) (by omega), z3, x1, x3, x4, xc, xd]
  refine ⟨a1, a2, a3, rfl, a5, fun v k hv hk => ?_, fun v q hv hq => ?_, fun i k hi hk => ?_⟩
  · rw [a6 v k hv hk]
    exact (zk _ (by omega) (by omega)).symm
  · rw [a7 v q hv hq]
    exact (zk _ (by omega) (by omega)).symm
  · by_cases q : i = n
    · subst q
      rw [xn k hk]
      exact (zn k hk).symm
    · rw [xk _ (by omega), a8 i k (by omega) hk]
      exact (zk _ (by omega) (by omega)).symm
/-- a visit more on both sides -/
theorem o_put {X Y Z : MM} {r n : Nat} (hV : ValS Y) (hS : xS X Y r) (h3 : Y 1 3 = n) (hn : n < 21) {a b c d e f : Int} (ok : visOk a b c d e f) (hZ : Z 1 = Y 1) :
    ∃ X' Z', fX3_putVisit r a b c d e f X = some ((n : Int), X') ∧ fX5_laysVisit a b c d e f Z = some ((n : Int), Z') ∧ ValS Z' ∧ xS X' Z' r ∧ (∀ c, c ≠ 5 * r → c ≠ 5 * r + 2 → X' c = X c) ∧ X' (5 * r) 5 = X (5 * r) 5 ∧ (∀ c, c ≠ 1 → Z' c = Z c) ∧ Z' 1 3 = ((n + 1 : Nat) : Int) ∧ (∀ k, k ≠ 3 → (k < 33 + 6 * n ∨ 33 + 6 * n + 6 ≤ k) → Z' 1 k = Y 1 k) := by
  obtain ⟨k1, k2, k3, k4, k5, k6⟩ := id ok
  have h4 := hV.2.2.2.2.1
  have ra : inR a := ⟨by omega, by omega⟩
  have rb : inR b := ⟨by omega, by omega⟩
  have rc : inR c := ⟨by omega, by omega⟩
  have rd' : inR d := ⟨by omega, by omega⟩
  have re : inR e := ⟨by omega, by omega⟩
  have rf : inR f := ⟨by omega, by omega⟩
  have e1 := x_put6 X (r := r) (n := n) (by rw [hS.2.2.2.1]; exact h3) hn ra rb rc rd' re rf
  have e2 := y_put6 Z (n := n) (by rw [hZ]; exact h3) hn ra rb rc rd' re rf
  have zk : ∀ k, k ≠ 3 → (k < 33 + 6 * n ∨ 33 + 6 * n + 6 ≤ k) → (stM (st6 Z 1 (33 + 6 * n) a b c d e f) 1 3 ((n + 1 : Nat) : Int)) 1 k = Y 1 k := fun k h1 h2 => by
    rw [st_k h1, st6_o (Or.inr h2), hZ]
  have zn : ∀ j, j < 6 → (stM (st6 Z 1 (33 + 6 * n) a b c d e f) 1 3 ((n + 1 : Nat) : Int)) 1 (33 + 6 * n + j) = v6 a b c d e f j := fun j hj => by
    rw [st_k (by omega), st6_in hj]
  have xo : ∀ z, z ≠ 5 * r → z ≠ 5 * r + 2 → (stM (st6 X (5 * r + 2) (6 * n) a b c d e f) (5 * r) 4 ((n + 1 : Nat) : Int)) z = X z := fun z h1 h2 => by
    rw [st_cell h1]
    funext y
    exact st6_o (Or.inl h2)
  have x5 : (stM (st6 X (5 * r + 2) (6 * n) a b c d e f) (5 * r) 4 ((n + 1 : Nat) : Int)) (5 * r) 5 = X (5 * r) 5 := by rw [st_k (by decide), st6_o (Or.inl (by omega))]
  refine ⟨_, _, e1, e2, put_V hV h3 hn ok zk (st_at _ _ _ _) zn, put_S hS h3 h4.2 zk (st_at _ _ _ _) zn (xo _ (by omega) (by omega)) (xo _ (by omega) (by omega)) (xo _ (by omega) (by omega)) (st_at _ _ _ _) x5 (fun k hk => ?_) (fun j hj => ?_), xo, x5, fun z hz => ?_, st_at _ _ _ _, zk⟩
  · rw [st_c (by omega), st6_o (Or.inr (Or.inl hk))]
  · rw [st_c (by omega), st6_in hj]
  · rw [st_cell hz]
    funext y
    exact st6_o (Or.inl hz)
/-- why a visit is refused -/
def vErr (a b c d e f : Int) : Int := if 0 ≤ b ∧ b ≤ 3 then if 0 ≤ c ∧ c ≤ 4 then if 0 ≤ a ∧ a ≤ 99 then if 0 ≤ d ∧ d ≤ 9 then if 0 ≤ e ∧ e ≤ 999 then if e ≤ f ∧ f ≤ 999 then 0 else -2 else -2 else -2 else -2 else -1 else -1
theorem vErr_0 {a b c d e f : Int} : (vErr a b c d e f = 0 ∧ visOk a b c d e f) ∨ (vErr a b c d e f < 0) := by
  unfold vErr
  by_cases h1 : 0 ≤ b ∧ b ≤ 3
  · rw [if_pos h1]
    by_cases h2 : 0 ≤ c ∧ c ≤ 4
    · rw [if_pos h2]
      by_cases h3 : 0 ≤ a ∧ a ≤ 99
      · rw [if_pos h3]
        by_cases h4 : 0 ≤ d ∧ d ≤ 9
        · rw [if_pos h4]
          by_cases h5 : 0 ≤ e ∧ e ≤ 999
          · rw [if_pos h5]
            by_cases h6 : e ≤ f ∧ f ≤ 999
            · rw [if_pos h6]; exact Or.inl ⟨rfl, h1, h2, h3, h4, h5, h6⟩
            · rw [if_neg h6]; exact Or.inr (by decide)
          · rw [if_neg h5]; exact Or.inr (by decide)
        · rw [if_neg h4]; exact Or.inr (by decide)
      · rw [if_neg h3]; exact Or.inr (by decide)
    · rw [if_neg h2]; exact Or.inr (by decide)
  · rw [if_neg h1]; exact Or.inr (by decide)
theorem x_err (a b c d e f : Int) : fX4_visitError a b c d e f = some (vErr a b c d e f) := by
  have one : ¬ (1 : Int) = 0 := by decide
  unfold fX4_visitError vErr
  rw [p_within, bnd_s]
  by_cases h1 : 0 ≤ b ∧ b ≤ 3
  · rw [if_pos h1, if_neg one, if_pos h1, p_isPart, bnd_s]
    by_cases h2 : 0 ≤ c ∧ c ≤ 4
    · rw [if_pos h2, if_neg one, if_pos h2, p_within, bnd_s]
      by_cases h3 : 0 ≤ a ∧ a ≤ 99
      · rw [if_pos h3, if_neg one, if_pos h3, p_within, bnd_s]
        by_cases h4 : 0 ≤ d ∧ d ≤ 9
        · rw [if_pos h4, if_neg one, if_pos h4, p_within, bnd_s]
          by_cases h5 : 0 ≤ e ∧ e ≤ 999
          · rw [if_pos h5, if_neg one, if_pos h5, p_within, bnd_s]
            by_cases h6 : e ≤ f ∧ f ≤ 999
            · rw [if_pos h6, if_neg one, if_pos h6]
            · rw [if_neg h6, if_pos rfl, if_neg h6]
          · rw [if_neg h5, if_pos rfl, if_neg h5]
        · rw [if_neg h4, if_pos rfl, if_neg h4]
      · rw [if_neg h3, if_pos rfl, if_neg h3]
    · rw [if_neg h2, if_pos rfl, if_neg h2]
  · rw [if_neg h1, if_pos rfl, if_neg h1]
theorem y_err (a b c d e f : Int) : fX5_refuses a b c d e f = some (vErr a b c d e f) := by
  have one : ¬ (1 : Int) = 0 := by decide
  unfold fX5_refuses vErr
  rw [p_in, bnd_s]
  by_cases h1 : 0 ≤ b ∧ b ≤ 3
  · rw [if_pos h1, if_neg one, if_pos h1, p_in, bnd_s]
    by_cases h2 : 0 ≤ c ∧ c ≤ 4
    · rw [if_pos h2, if_neg one, if_pos h2, p_in, bnd_s]
      by_cases h3 : 0 ≤ a ∧ a ≤ 99
      · rw [if_pos h3, if_neg one, if_pos h3, p_in, bnd_s]
        by_cases h4 : 0 ≤ d ∧ d ≤ 9
        · rw [if_pos h4, if_neg one, if_pos h4, p_in, bnd_s]
          by_cases h5 : 0 ≤ e ∧ e ≤ 999
          · rw [if_pos h5, if_neg one, if_pos h5, p_in, bnd_s]
            by_cases h6 : e ≤ f ∧ f ≤ 999
            · rw [if_pos h6, if_neg one, if_pos h6, bnd_s]
            · rw [if_neg h6, if_pos rfl, if_neg h6, bnd_s]
          · rw [if_neg h5, if_pos rfl, if_neg h5, bnd_s]
        · rw [if_neg h4, if_pos rfl, if_neg h4, bnd_s]
      · rw [if_neg h3, if_pos rfl, if_neg h3, bnd_s]
    · rw [if_neg h2, if_pos rfl, if_neg h2]
  · rw [if_neg h1, if_pos rfl, if_neg h1]
theorem o_visit {X Y : MM} (g : RG X 0 (Y 1)) (a b c d e f : Int) : ∃ res X', fX3_addVisit 0 a b c d e f X = some (res, X') ∧ ((res < 0 ∧ X' = X ∧ fX5_refusesVisit a b c d e f Y = some res) ∨ (0 ≤ res ∧ fX5_refusesVisit a b c d e f Y = some 0 ∧ (∀ c, 5 ≤ c → X' c = X c) ∧ ∀ Z : MM, Z 1 = Y 1 → ∃ Z', fX5_laysVisit a b c d e f Z = some (res, Z') ∧ (∀ c, c ≠ 1 → Z' c = Z c) ∧ RG X' 0 (Z' 1))) := by
  have hV := RG_V g
  have hS := RG_S g
  have hb := RG_b g
  obtain ⟨n, hn⟩ : ∃ n : Nat, Y 1 3 = n := ⟨(Y 1 3).toNat, by omega⟩
  unfold fX3_addVisit fX5_refusesVisit
  rw [x_err, bnd_s, y_err, bnd_s]
  rcases vErr_0 (a := a) (b := b) (c := c) (d := d) (e := e) (f := f) with ⟨h, ok⟩ | h
  · rw [h, if_pos rfl, if_pos rfl, show X (5 * 0) 4 = (n : Int) from hS.2.2.2.1.trans hn, rd_n (i := 3) 3 rfl (by decide), bnd_s, hn]
    by_cases h20 : n < 20
    · obtain ⟨X', -, e1, -, -, -, x1, x2, -⟩ := o_put hV hS hn (by omega) ok (Z := Y) rfl
      rw [if_pos (by omega), e1, bnd2_s, if_neg (by omega), bnd_s]
      refine ⟨n, X', rfl, Or.inr ⟨by omega, rfl, fun z hz => x1 z (by omega) (by omega), fun Z hZ => ?_⟩⟩
      obtain ⟨X2, Z', f1, f2, f3, f4, f5, f6, f7, f8, f9⟩ := o_put hV hS hn (by omega) ok hZ
      rw [e1] at f1
      cases f1
      refine ⟨Z', f2, f7, ValS_1 (M := Z') rfl f3, by rw [f8]; omega, xS_1 (M := Z') rfl f4, ?_⟩
      rw [f9 4 (by decide) (by omega), f5 _ (by omega) (by omega)]
      exact g.2.2.2
    · rw [if_neg (by omega), if_pos (by omega), bnd_s]
      exact ⟨-4, X, rfl, Or.inl ⟨by decide, rfl, rfl⟩⟩
  · rw [if_neg (by omega), if_neg (by omega), bnd_s]
    exact ⟨_, X, rfl, Or.inl ⟨h, rfl, rfl⟩⟩
