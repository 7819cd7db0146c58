/-! THE CHANGES OF A ROAD on both sides: a van more, stock, a visit less -/
theorem x_addvan (X : MM) {r n : Nat} (h5 : X (5 * r) 5 = n) (hn : n < 4) {a b : Int} (ha : 0 ≤ a ∧ a ≤ 99) (hb : 0 ≤ b ∧ b ≤ 15) : fX3_addVan r a b X = some ((n : Int), stM (stM (stM X (5 * r + 3) (2 * n + 0) a) (5 * r + 3) (2 * n + 1) b) (5 * r) 5 ((n + 1 : Nat) : Int)) := by
  have one : ¬ (1 : Int) = 0 := by decide
  unfold fX3_addVan
  rw [p_within, bnd_s, if_pos ha, if_neg one, p_within, bnd_s, if_pos hb, if_neg one, h5, if_pos (by omega), wr_n (2 * n + 0) (by omega) (by omega) ⟨by omega, by omega⟩, bnd_s, st_c (by omega), h5, wr_n (2 * n + 1) (by omega) (by omega) ⟨by omega, by omega⟩, bnd_s, st_c (by omega), st_c (by omega), h5, gd_R (by omega) (by omega), bnd_s, st_at, gd_R (by omega) (by omega), show (n : Int) + 1 - 1 = n by omega, show (n : Int) + 1 = ((n + 1 : Nat) : Int) by omega]
theorem y_L36 {u : Nat} (hu : u < 4) {q : Int} (hq : inR q) : ∀ (k n j : Nat) (Z : MM), j + k = 5 → k < n → ∃ Z', fX5_laysVan_L36 n q (5 + 7 * (u : Int)) j Z = some Z' ∧ (∀ c, c ≠ 1 → Z' c = Z c) ∧ (∀ i, j ≤ i → i < 5 → Z' 1 (5 + 7 * u + 2 + i) = q) ∧ (∀ i, i < 5 + 7 * u + 2 + j ∨ 5 + 7 * u + 7 ≤ i → Z' 1 i = Z 1 i) := by
  intro k
  induction k with
  | zero =>
    intro n j Z hk hn
    obtain ⟨n, rfl⟩ : ∃ q, n = q + 1 := ⟨n - 1, by omega⟩
    exact ⟨Z, by rw [fX5_laysVan_L36, if_pos (by omega)], fun c _ => rfl, fun i h1 h2 => by omega, fun i _ => rfl⟩
  | succ k ih =>
    intro n j Z hk hn
    obtain ⟨n, rfl⟩ : ∃ q, n = q + 1 := ⟨n - 1, by omega⟩
    rw [fX5_laysVan_L36, if_neg (by omega), wr_n (5 + 7 * u + 2 + j) (by omega) (by omega) hq, bnd_s, gd_R (by omega) (by omega)]
    obtain ⟨Z', a1, a2, a4, a5⟩ := ih n (j + 1) (stM Z 1 (5 + 7 * u + 2 + j) q) (by omega) (by omega)
    refine ⟨Z', a1, fun c hc => by rw [a2 c hc, st_cell hc], fun i h1 h2 => ?_, fun i hi => by rw [a5 i (by omega), st_k (by omega)]⟩
    by_cases e : i = j
    · rw [e, a5 _ (by omega), st_at]
    · exact a4 i (by omega) h2
theorem y_laysVan (Z : MM) {n : Nat} (h4 : Z 1 4 = n) (hn : n < 4) {a b q : Int} (ha : inR a) (hb : inR b) (hq : inR q) : ∃ Z', fX5_laysVan a b q Z = some ((n : Int), Z') ∧ (∀ c, c ≠ 1 → Z' c = Z c) ∧ Z' 1 4 = ((n + 1 : Nat) : Int) ∧ Z' 1 (5 + 7 * n + 0) = a ∧ Z' 1 (5 + 7 * n + 1) = b ∧ (∀ j, j < 5 → Z' 1 (5 + 7 * n + 2 + j) = q) ∧ (∀ k, k ≠ 4 → (k < 5 + 7 * n ∨ 5 + 7 * n + 7 ≤ k) → Z' 1 k = Z 1 k) := by
  obtain ⟨A, a1, a2, a3, a4⟩ := y_L36 hn hq 5 4000 0 (stM (stM Z 1 (5 + 7 * n + 0) a) 1 (5 + 7 * n + 1) b) (by omega) (by omega)
  have hA4 : A 1 4 = n := by rw [a4 4 (by omega), st_k (by omega), st_k (by omega)]; exact h4
  unfold fX5_laysVan
  rw [rd_n (i := 4) 4 rfl (by decide), bnd_s, h4, wr_n (5 + 7 * n + 0) (by omega) (by omega) ha, bnd_s, wr_n (5 + 7 * n + 1) (by omega) (by omega) hb, bnd_s, gd_R (by omega) (by omega), show fX5_laysVan_L36 4000 q (5 + 7 * (n : Int)) 0 (stM (stM Z 1 (5 + 7 * n + 0) a) 1 (5 + 7 * n + 1) b) = some A from a1, bnd_s, rd_n (i := 4) 4 rfl (by decide), bnd_s, hA4, wr_n (i := 4) 4 rfl (by decide) ⟨by omega, by omega⟩, bnd_s, rd_n (i := 4) 4 rfl (by decide), bnd_s, st_at, gd_R (by omega) (by omega), show (n : Int) + 1 - 1 = n by omega, show (n : Int) + 1 = ((n + 1 : Nat) : Int) by omega]
  refine ⟨_, rfl, fun c hc => ?_, st_at _ _ _ _, ?_, ?_, fun j hj => ?_, fun k h1 h2 => ?_⟩
  · rw [st_cell hc, a2 c hc, st_cell hc, st_cell hc]
  · rw [st_k (by omega), a4 _ (by omega), st_k (by omega), st_at]
  · rw [st_k (by omega), a4 _ (by omega), st_at]
  · rw [st_k (by omega), a3 j (by omega) hj]
  · rw [st_k h1, a4 k (by omega), st_k (by omega), st_k (by omega)]
theorem van_V {Y Z : MM} {n : Nat} (hV : ValS Y) (h4 : Y 1 4 = n) (hn : n < 4) {a b q : Int} (ha : 0 ≤ a ∧ a ≤ 99) (hb : 0 ≤ b ∧ b ≤ 15) (hq : 0 ≤ q ∧ q ≤ 99) (z4 : Z 1 4 = ((n + 1 : Nat) : Int)) (za : Z 1 (5 + 7 * n + 0) = a) (zb : Z 1 (5 + 7 * n + 1) = b) (zq : ∀ j, j < 5 → Z 1 (5 + 7 * n + 2 + j) = q) (zk : ∀ k, k ≠ 4 → (k < 5 + 7 * n ∨ 5 + 7 * n + 7 ≤ k) → Z 1 k = Y 1 k) : ValS Z := by
  obtain ⟨a1, a2, a3, a4, a5, a6, a7⟩ := hV
  unfold ValS
  rw [zk 0 (by decide) (by omega), zk 1 (by decide) (by omega), zk 2 (by decide) (by omega), zk 3 (by decide) (by omega), z4]
  refine ⟨a1, a2, a3, a4, by omega, fun v hv => ?_, fun i hi => ?_⟩
  · by_cases e : v = n
    · subst e
      unfold yvan
      rw [za, zb]
      refine ⟨ha, hb, fun p hp => ?_⟩
      have := zq p hp
      rw [show 5 + 7 * v + (2 + p) = 5 + 7 * v + 2 + p by omega, this]
      exact hq
    · obtain ⟨b1, b2, b3⟩ := a6 v (by omega)
      unfold yvan at b1 b2 b3 ⊢
      rw [zk _ (by omega) (by omega), zk _ (by omega) (by omega)]
      exact ⟨b1, b2, fun p hp => by rw [zk _ (by omega) (by omega)]; exact b3 p hp⟩
  · have w := a7 i (by omega)
    unfold yvis at w ⊢
    rw [zk _ (by omega) (by omega), zk _ (by omega) (by omega), zk _ (by omega) (by omega), zk _ (by omega) (by omega), zk _ (by omega) (by omega), zk _ (by omega) (by omega)]
    exact w
theorem van_S {X X' Y Z : MM} {r n : Nat} (hS : xS X Y r) (h4 : Y 1 4 = n) (hn : n < 4) {a b q : Int} (z4 : Z 1 4 = ((n + 1 : Nat) : Int)) (za : Z 1 (5 + 7 * n + 0) = a) (zb : Z 1 (5 + 7 * n + 1) = b) (zq : ∀ j, j < 5 → Z 1 (5 + 7 * n + 2 + j) = q) (zk : ∀ k, k ≠ 4 → (k < 5 + 7 * n ∨ 5 + 7 * n + 7 ≤ k) → Z 1 k = Y 1 k)
    (x1 : X' (5 * r + 1) = X (5 * r + 1)) (x2 : X' (5 * r + 2) = X (5 * r + 2)) (xc : X' (5 * r) 4 = X (5 * r) 4) (xd : X' (5 * r) 5 = ((n + 1 : Nat) : Int)) (xa : X' (5 * r + 3) (2 * n + 0) = a) (xb : X' (5 * r + 3) (2 * n + 1) = b) (xk : ∀ k, k < 2 * n → X' (5 * r + 3) k = X (5 * r + 3) k) (xq : ∀ j, j < 5 → X' (5 * r + 4) (5 * n + j) = q) (xl : ∀ k, k < 5 * n → X' (5 * r + 4) k = X (5 * r + 4) k) : xS X' Z r := by
  obtain ⟨a1, a2, a3, a4, a5, a6, a7, a8⟩ := hS
  unfold xS
  rw [zk 0 (by decide) (by omega), zk 1 (by decide) (by omega), zk 2 (by decide) (by omega), zk 3 (by decide) (by omega), z4, x1, x2, xc, xd]
  refine ⟨a1, a2, a3, a4, rfl, fun v k hv hk => ?_, fun v p hv hp => ?_, fun i k hi hk => ?_⟩
  · by_cases e : v = n
    · subst e
      unfold yvan
      rcases (show k = 0 ∨ k = 1 by omega) with rfl | rfl
      · rw [xa, za]
      · rw [xb, zb]
    · rw [xk _ (by omega), a6 v k (by omega) hk]
      exact (zk _ (by omega) (by omega)).symm
  · by_cases e : v = n
    · subst e
      unfold yvan
      rw [xq p hp, show 5 + 7 * v + (2 + p) = 5 + 7 * v + 2 + p by omega, zq p hp]
    · rw [xl _ (by omega), a7 v p (by omega) hp]
      exact (zk _ (by omega) (by omega)).symm
  · rw [a8 i k hi hk]
    exact (zk _ (by omega) (by omega)).symm
/-- why a van is refused -/
def nErr (a b : Int) : Int := if 0 ≤ a ∧ a ≤ 99 then if 0 ≤ b ∧ b ≤ 15 then 0 else -2 else -2
theorem x_noVan (X : MM) {r : Nat} {a b : Int} (h : ¬ ((0 ≤ a ∧ a ≤ 99) ∧ (0 ≤ b ∧ b ≤ 15))) : fX3_addVan r a b X = some (-2, X) := by
  have one : ¬ (1 : Int) = 0 := by decide
  unfold fX3_addVan
  rw [p_within, bnd_s]
  by_cases h1 : 0 ≤ a ∧ a ≤ 99
  · rw [if_pos h1, if_neg one, p_within, bnd_s, if_neg (fun q => h ⟨h1, q⟩), if_pos rfl]
  · rw [if_neg h1, if_pos rfl]
theorem x_fullVan (X : MM) {r : Nat} {a b : Int} (h1 : 0 ≤ a ∧ a ≤ 99) (h2 : 0 ≤ b ∧ b ≤ 15) (h5 : X (5 * r) 5 = 4) : fX3_addVan r a b X = some (-4, X) := by
  have one : ¬ (1 : Int) = 0 := by decide
  unfold fX3_addVan
  rw [p_within, bnd_s, if_pos h1, if_neg one, p_within, bnd_s, if_pos h2, if_neg one, h5, if_neg (by decide)]
theorem y_refusesVan {Y : MM} {n : Nat} (h4 : Y 1 4 = n) (a b : Int) : fX5_refusesVan a b Y = some (if (0 ≤ a ∧ a ≤ 99) ∧ (0 ≤ b ∧ b ≤ 15) then if n = 4 then -4 else 0 else -2) := by
  have one : ¬ (1 : Int) = 0 := by decide
  unfold fX5_refusesVan
  rw [p_in, bnd_s]
  by_cases h1 : 0 ≤ a ∧ a ≤ 99
  · rw [if_pos h1, if_neg one, p_in, bnd_s]
    by_cases h2 : 0 ≤ b ∧ b ≤ 15
    · rw [if_pos h2, if_neg one, rd_n (i := 4) 4 rfl (by decide), bnd_s, h4, if_pos (show (0 ≤ a ∧ a ≤ 99) ∧ (0 ≤ b ∧ b ≤ 15) from ⟨h1, h2⟩)]
      by_cases h : n = 4
      · rw [if_pos (by omega), if_pos h, bnd_s]
      · rw [if_neg (by omega), if_neg h, bnd_s]
    · rw [if_neg h2, if_pos rfl, if_neg (fun q => h2 q.2)]
  · rw [if_neg h1, if_pos rfl, if_neg (fun q => h1 q.1)]
theorem o_van {X Y : MM} (g : RG X 0 (Y 1)) (a b : Int) : ∃ res X', fX3_addVan 0 a b X = some (res, X') ∧ ((res < 0 ∧ X' = X ∧ fX5_refusesVan a b Y = some res) ∨ (0 ≤ res ∧ fX5_refusesVan a b Y = some 0 ∧ (∀ c, 5 ≤ c → X' c = X c) ∧ ∀ Z : MM, Z 1 = Y 1 → ∃ Z', fX5_laysVan a b 0 Z = some (res, Z') ∧ (∀ c, c ≠ 1 → Z' c = Z c) ∧ RG X' 0 (Z' 1))) := by
  have hV := RG_V g
  have hS := RG_S g
  have hb := RG_b g
  obtain ⟨n, hn⟩ : ∃ n : Nat, Y 1 4 = n := ⟨(Y 1 4).toNat, by omega⟩
  have h5 : X (5 * 0) 5 = n := hS.2.2.2.2.1.trans hn
  have hr := y_refusesVan hn a b
  by_cases h : (0 ≤ a ∧ a ≤ 99) ∧ (0 ≤ b ∧ b ≤ 15)
  · rw [if_pos h] at hr
    by_cases h4 : n = 4
    · rw [if_pos h4] at hr
      exact ⟨-4, X, x_fullVan X h.1 h.2 (by rw [h5, h4]; rfl), Or.inl ⟨by decide, rfl, hr⟩⟩
    · rw [if_neg h4] at hr
      refine ⟨n, _, x_addvan X h5 (by omega) h.1 h.2, Or.inr ⟨by omega, hr, fun c hc => by rw [st_cell (by omega), st_cell (by omega), st_cell (by omega)], fun Z hZ => ?_⟩⟩
      obtain ⟨Z', z1, z2, z3, z4, z5, z6, z7⟩ := y_laysVan Z (n := n) (by rw [hZ]; exact hn) (by omega) (a := a) (b := b) (q := 0) ⟨by omega, by omega⟩ ⟨by omega, by omega⟩ (by decide)
      rw [hZ] at z7
      refine ⟨Z', z1, z2, ValS_1 (M := Z') rfl (van_V hV hn (by omega) h.1 h.2 (by decide) z3 z4 z5 z6 z7), by rw [z7 3 (by decide) (by omega)]; exact hb.1.2, xS_1 (M := Z') rfl (van_S hS hn (by omega) z3 z4 z5 z6 z7 ?_ ?_ ?_ ?_ ?_ ?_ (fun k hk => ?_) (fun j hj => ?_) (fun k hk => ?_)), fun v q h1 h2 h3 => ?_⟩
      · rw [st_cell (by omega), st_cell (by omega), st_cell (by omega)]
      · rw [st_cell (by omega), st_cell (by omega), st_cell (by omega)]
      · rw [st_k (by decide), st_c (by omega), st_c (by omega)]
      · exact st_at _ _ _ _
      · rw [st_c (by omega), st_k (by omega), st_at]
      · rw [st_c (by omega), st_at]
      · rw [st_c (by omega), st_k (by omega), st_k (by omega)]
      · rw [st_c (by omega), st_c (by omega), st_c (by omega)]
        exact g.2.2.2 n j (by omega) (by omega) hj
      · rw [st_c (by omega), st_c (by omega), st_c (by omega)]
      · rw [z3] at h1
        rw [st_c (by omega), st_c (by omega), st_c (by omega)]
        exact g.2.2.2 v q (by omega) h2 h3
  · rw [if_neg h] at hr
    exact ⟨-2, X, x_noVan X h, Or.inl ⟨by decide, rfl, hr⟩⟩
/-- stock of a van, on the class's side -/
theorem x_stock {X Y : MM} {r v q : Nat} (hS : xS X Y r) (hv : (v : Int) < Y 1 4) (hv4 : Y 1 4 ≤ 4) (hq : q < 5) {m : Int} (hm : 0 ≤ m ∧ m ≤ 99) : fX3_changeStock r v q m X = some (X (5 * r + 4) (5 * v + q), stM X (5 * r + 4) (5 * v + q) m) := by
  have one : ¬ (1 : Int) = 0 := by decide
  unfold fX3_changeStock
  rw [x_hasVan hS, bnd_s, if_pos (show (0 : Int) ≤ (v : Int) ∧ (v : Int) < Y 1 4 from ⟨by omega, hv⟩), if_neg one, p_isPart, bnd_s, if_pos (show (0 : Int) ≤ (q : Int) ∧ (q : Int) ≤ 4 from ⟨by omega, by omega⟩), if_neg one, p_within, bnd_s, if_pos hm, if_neg one, rd_n (5 * v + q) (by omega) (by omega), bnd_s, wr_n (5 * v + q) (by omega) (by omega) ⟨by omega, by omega⟩, bnd_s]
theorem o_load {X Y : MM} (g : RG X 0 (Y 1)) (a b m : Int) : ∃ res X', fX3_changeStock 0 a b m X = some (res, X') ∧ ((res < 0 ∧ X' = X ∧ fX5_refusesLoad a b m Y = some res) ∨ (0 ≤ res ∧ fX5_refusesLoad a b m Y = some 0 ∧ inR (2 + b) ∧ (∀ c, 5 ≤ c → X' c = X c) ∧ ∀ Z : MM, Z 1 = Y 1 → ∃ Z', fX5_van0 a (2 + b) Z = some res ∧ wr Z 1 160 (((5 + (7 * a)) + 2) + b) m = some Z' ∧ (∀ c, c ≠ 1 → Z' c = Z c) ∧ RG X' 0 (Z' 1))) := by
  have hV := RG_V g
  have hS := RG_S g
  have hb := RG_b g
  have one : ¬ (1 : Int) = 0 := by decide
  have er : fX5_refusesLoad a b m Y = some (if 0 ≤ a ∧ a < Y 1 4 then if 0 ≤ b ∧ b ≤ 4 then if 0 ≤ m ∧ m ≤ 99 then 0 else -2 else -1 else -1) := by
    unfold fX5_refusesLoad
    rw [y_isVan hV, bnd_s]
    by_cases h1 : 0 ≤ a ∧ a < Y 1 4
    · rw [if_pos h1, if_neg one, if_pos h1, p_in, bnd_s]
      by_cases h2 : 0 ≤ b ∧ b ≤ 4
      · rw [if_pos h2, if_neg one, if_pos h2, p_in, bnd_s]
        by_cases h3 : 0 ≤ m ∧ m ≤ 99
        · rw [if_pos h3, if_neg one, if_pos h3, bnd_s]
        · rw [if_neg h3, if_pos rfl, if_neg h3, bnd_s]
      · rw [if_neg h2, if_pos rfl, if_neg h2, bnd_s]
    · rw [if_neg h1, if_pos rfl, if_neg h1, bnd_s]
  rw [er]
  by_cases h1 : 0 ≤ a ∧ a < Y 1 4
  · obtain ⟨v, rfl⟩ : ∃ i : Nat, a = i := ⟨a.toNat, by omega⟩
    rw [if_pos h1]
    by_cases h2 : 0 ≤ b ∧ b ≤ 4
    · obtain ⟨q, rfl⟩ : ∃ i : Nat, b = i := ⟨b.toNat, by omega⟩
      rw [if_pos h2]
      by_cases h3 : 0 ≤ m ∧ m ≤ 99
      · rw [if_pos h3]
        have hx := hS.2.2.2.2.2.2.1 v q h1.2 (by omega)
        have hbd := (hV.2.2.2.2.2.1 v h1.2).2.2 q (by omega)
        refine ⟨_, _, x_stock hS h1.2 hb.2.2 (by omega) h3, Or.inr ⟨by rw [hx]; exact hbd.1, rfl, ⟨by omega, by omega⟩, fun c hc => st_cell (by omega), fun Z hZ => ⟨stM Z 1 (5 + 7 * v + (2 + q)) m, ?_, ?_, fun c hc => st_cell hc, ?_⟩⟩⟩
        · rw [y_van0 Z v (k := 2 + (q : Int)) (2 + q) (by omega) (by omega), hx]
          unfold yvan
          rw [hZ]
        · exact wr_n (5 + 7 * v + (2 + q)) (by omega) (by omega) ⟨by omega, by omega⟩
        · have zk : ∀ k, k ≠ 5 + 7 * v + (2 + q) → (stM Z 1 (5 + 7 * v + (2 + q)) m) 1 k = Y 1 k := fun k hk => by rw [st_k hk, hZ]
          have z0 : (stM Z 1 (5 + 7 * v + (2 + q)) m) 1 (5 + 7 * v + (2 + q)) = m := st_at _ _ _ _
          generalize (stM Z 1 (5 + 7 * v + (2 + q)) m) = Z' at zk z0
          have hb2 := hb.2.2
          refine ⟨ValS_1 (M := Z') rfl ?_, by rw [zk 3 (by omega)]; exact hb.1.2, xS_1 (M := Z') rfl ?_, fun u p k1 k2 k3 => ?_⟩
          · obtain ⟨a1, a2, a3, a4, a5, a6, a7⟩ := hV
            unfold ValS
            rw [zk 0 (by omega), zk 1 (by omega), zk 2 (by omega), zk 3 (by omega), zk 4 (by omega)]
            refine ⟨a1, a2, a3, a4, a5, fun u hu => ?_, fun i hi => ?_⟩
            · obtain ⟨b1, b2, b3⟩ := a6 u hu
              unfold yvan at b1 b2 b3 ⊢
              rw [zk _ (by omega), zk _ (by omega)]
              refine ⟨b1, b2, fun p hp => ?_⟩
              by_cases e : 5 + 7 * u + (2 + p) = 5 + 7 * v + (2 + q)
              · rw [e, z0]; exact h3
              · rw [zk _ e]; exact b3 p hp
            · have w := a7 i hi
              unfold yvis at w ⊢
              rw [zk _ (by omega), zk _ (by omega), zk _ (by omega), zk _ (by omega), zk _ (by omega), zk _ (by omega)]
              exact w
          · obtain ⟨a1, a2, a3, a4, a5, a6, a7, a8⟩ := hS
            unfold xS
            rw [zk 0 (by omega), zk 1 (by omega), zk 2 (by omega), zk 3 (by omega), zk 4 (by omega), st_cell (a := 5 * 0 + 1) (by omega), st_cell (a := 5 * 0) (by omega), st_cell (a := 5 * 0 + 3) (by omega), st_cell (a := 5 * 0 + 2) (by omega)]
            refine ⟨a1, a2, a3, a4, a5, fun u k hu hk => ?_, fun u p hu hp => ?_, fun i k hi hk => ?_⟩
            · rw [a6 u k hu hk]
              exact (zk _ (by omega)).symm
            · by_cases e : 5 * u + p = 5 * v + q
              · have e1 : u = v := by omega
                have e2 : p = q := by omega
                rw [e1, e2, st_at]
                exact z0.symm
              · rw [st_k e, a7 u p hu hp]
                exact (zk _ (by omega)).symm
            · rw [a8 i k hi hk]
              exact (zk _ (by omega)).symm
          · rw [zk 4 (by omega)] at k1
            rw [st_k (by omega)]
            exact g.2.2.2 u p k1 k2 k3
      · rw [if_neg h3]
        refine ⟨-2, X, ?_, Or.inl ⟨by decide, rfl, rfl⟩⟩
        unfold fX3_changeStock
        rw [x_hasVan hS, bnd_s, if_pos h1, if_neg one, p_isPart, bnd_s, if_pos h2, if_neg one, p_within, bnd_s, if_neg h3, if_pos rfl]
    · rw [if_neg h2]
      refine ⟨-1, X, ?_, Or.inl ⟨by decide, rfl, rfl⟩⟩
      unfold fX3_changeStock
      rw [x_hasVan hS, bnd_s, if_pos h1, if_neg one, p_isPart, bnd_s, if_neg h2, if_pos rfl]
  · rw [if_neg h1]
    refine ⟨-1, X, ?_, Or.inl ⟨by decide, rfl, rfl⟩⟩
    unfold fX3_changeStock
    rw [x_hasVan hS, bnd_s, if_neg h1, if_pos rfl]
/-- the numbers of visits are in range -/
theorem vis_R {Y : MM} (hV : ValS Y) {i : Nat} (h1 : 33 ≤ i) (h2 : (i : Int) < 33 + 6 * Y 1 3) : inR (Y 1 i) := by
  obtain ⟨k1, k2, k3, k4, k5, k6⟩ := hV.2.2.2.2.2.2 ((i - 33) / 6) (by omega)
  unfold yvis at k1 k2 k3 k4 k5 k6
  rcases (show i = 33 + 6 * ((i - 33) / 6) + 0 ∨ i = 33 + 6 * ((i - 33) / 6) + 1 ∨ i = 33 + 6 * ((i - 33) / 6) + 2 ∨ i = 33 + 6 * ((i - 33) / 6) + 3 ∨ i = 33 + 6 * ((i - 33) / 6) + 4 ∨ i = 33 + 6 * ((i - 33) / 6) + 5 by omega) with e | e | e | e | e | e
  · rw [e]; exact ⟨by omega, by omega⟩
  · rw [e]; exact ⟨by omega, by omega⟩
  · rw [e]; exact ⟨by omega, by omega⟩
  · rw [e]; exact ⟨by omega, by omega⟩
  · rw [e]; exact ⟨by omega, by omega⟩
  · rw [e]; exact ⟨by omega, by omega⟩
/-- a visit less -/
theorem y_L15 {c : Nat} (hc : c ≤ 20) : ∀ (k n j : Nat) (Z : MM), j + k = 6 * c → k < n → (∀ i, 33 ≤ i → i < 33 + 6 * c + 6 → inR (Z 1 i)) → Z 1 3 = c → ∃ Z', fX5_dropsVisit_L15 n j Z = some Z' ∧ (∀ e, e ≠ 1 → Z' e = Z e) ∧ (∀ i, j ≤ i → i < 6 * c → Z' 1 (33 + i) = Z 1 (33 + i + 6)) ∧ (∀ i, i < 33 + j ∨ 33 + 6 * c ≤ i → Z' 1 i = Z 1 i) := by
  intro k
  induction k with
  | zero =>
    intro n j Z hk hn hR h3
    obtain ⟨n, rfl⟩ : ∃ q, n = q + 1 := ⟨n - 1, by omega⟩
    exact ⟨Z, by rw [fX5_dropsVisit_L15, rd_n (i := 3) 3 rfl (by decide), bnd_s, h3, gd_R (by omega) (by omega), if_pos (by omega)], fun e _ => rfl, fun i h1 h2 => by omega, fun i _ => rfl⟩
  | succ k ih =>
    intro n j Z hk hn hR h3
    obtain ⟨n, rfl⟩ : ∃ q, n = q + 1 := ⟨n - 1, by omega⟩
    rw [fX5_dropsVisit_L15, rd_n (i := 3) 3 rfl (by decide), bnd_s, h3, gd_R (by omega) (by omega), if_neg (by omega), rd_n (33 + j + 6) (by omega) (by omega), bnd_s, wr_n (33 + j) (by omega) (by omega) (hR _ (by omega) (by omega)), bnd_s, gd_R (by omega) (by omega)]
    obtain ⟨Z', a1, a2, a4, a5⟩ := ih n (j + 1) (stM Z 1 (33 + j) (Z 1 (33 + j + 6))) (by omega) (by omega) (fun i h1 h2 => by
      by_cases e : i = 33 + j
      · rw [e, st_at]; exact hR _ (by omega) (by omega)
      · rw [st_k e]; exact hR i h1 h2) (by rw [st_k (by omega)]; exact h3)
    refine ⟨Z', a1, fun e he => by rw [a2 e he, st_cell he], fun i h1 h2 => ?_, fun i hi => by rw [a5 i (by omega), st_k (by omega)]⟩
    by_cases e : i = j
    · rw [e, a5 _ (by omega), st_at]
    · rw [a4 i (by omega) h2, st_k (by omega)]
theorem y_L57 {c : Nat} (hc : c ≤ 20) : ∀ (k n j : Nat) (Z : MM), j + k = 6 → k < n → Z 1 3 = c → ∃ Z', fX5_dropsVisit_L57 n j Z = some Z' ∧ (∀ e, e ≠ 1 → Z' e = Z e) ∧ (∀ i, i < 33 + 6 * c + j ∨ 33 + 6 * c + 6 ≤ i → Z' 1 i = Z 1 i) := by
  intro k
  induction k with
  | zero =>
    intro n j Z hk hn h3
    obtain ⟨n, rfl⟩ : ∃ q, n = q + 1 := ⟨n - 1, by omega⟩
    exact ⟨Z, by rw [fX5_dropsVisit_L57, if_pos (by omega)], fun e _ => rfl, fun i _ => rfl⟩
  | succ k ih =>
    intro n j Z hk hn h3
    obtain ⟨n, rfl⟩ : ∃ q, n = q + 1 := ⟨n - 1, by omega⟩
    rw [fX5_dropsVisit_L57, if_neg (by omega), rd_n (i := 3) 3 rfl (by decide), bnd_s, h3, wr_n (33 + 6 * c + j) (by omega) (by omega) (by decide), bnd_s, gd_R (by omega) (by omega)]
    obtain ⟨Z', a1, a2, a5⟩ := ih n (j + 1) (stM Z 1 (33 + 6 * c + j) 0) (by omega) (by omega) (by rw [st_k (by omega)]; exact h3)
    exact ⟨Z', a1, fun e he => by rw [a2 e he, st_cell he], fun i hi => by rw [a5 i (by omega), st_k (by omega)]⟩
theorem y_drops {Z : MM} {n a : Nat} (hR : ∀ i, 33 ≤ i → i < 33 + 6 * n + 6 → inR (Z 1 i)) (h3 : Z 1 3 = ((n + 1 : Nat) : Int)) (hn : n ≤ 20) (ha : a ≤ n) : ∃ Z', fX5_dropsVisit a Z = some ((n : Int), Z') ∧ (∀ e, e ≠ 1 → Z' e = Z e) ∧ Z' 1 3 = n ∧ (∀ i, 6 * a ≤ i → i < 6 * n → Z' 1 (33 + i) = Z 1 (33 + i + 6)) ∧ (∀ k, k ≠ 3 → (k < 33 + 6 * a ∨ 33 + 6 * n + 6 ≤ k) → Z' 1 k = Z 1 k) := by
  obtain ⟨A, a1, a2, a4, a5⟩ := y_L15 hn (6 * n - 6 * a) 4000 (6 * a) (stM Z 1 3 n) (by omega) (by omega) (fun i h1 h2 => by rw [st_k (by omega)]; exact hR i h1 h2) (st_at _ _ _ _)
  have hA3 : A 1 3 = n := by rw [a5 3 (by omega), st_at]
  obtain ⟨B, b1, b2, b5⟩ := y_L57 hn 6 4000 0 A (by omega) (by omega) hA3
  have hB3 : B 1 3 = n := by rw [b5 3 (by omega)]; exact hA3
  unfold fX5_dropsVisit
  rw [rd_n (i := 3) 3 rfl (by decide), bnd_s, h3, show ((n + 1 : Nat) : Int) - 1 = n by omega, wr_n (i := 3) 3 rfl (by decide) ⟨by omega, by omega⟩, bnd_s, gd_R (by omega) (by omega), show 6 * (a : Int) = ((6 * a : Nat) : Int) by omega, a1, bnd_s, show fX5_dropsVisit_L57 4000 0 A = some B from b1, bnd_s, rd_n (i := 3) 3 rfl (by decide), bnd_s, hB3]
  refine ⟨B, rfl, fun e he => by rw [b2 e he, a2 e he, st_cell he], hB3, fun i h1 h2 => ?_, fun k h1 h2 => ?_⟩
  · rw [b5 _ (by omega), a4 i h1 h2, st_k (by omega)]
  · rw [b5 k (by omega), a5 k (by omega), st_k h1]
theorem x_removes {X Y : MM} {r n a : Nat} (hS : xS X Y r) (h3 : Y 1 3 = ((n + 1 : Nat) : Int)) (hn : n ≤ 20) (ha : a ≤ n) : fX3_removeVisit r a X = some ((n : Int), stM (cpM X (5 * r + 2) (6 * a + 6) (5 * r + 2) (6 * a) (6 * (n - a))) (5 * r) 4 n) := by
  have h4 : X (5 * r) 4 = ((n + 1 : Nat) : Int) := hS.2.2.2.1.trans h3
  have ec : cpy X (5 * r + 2) 126 (((a : Int) * 6) + 6) (5 * r + 2) 126 ((a : Int) * 6) (((((n + 1 : Nat) : Int) - 1) - a) * 6) = some (cpM X (5 * r + 2) (6 * a + 6) (5 * r + 2) (6 * a) (6 * (n - a))) := by
    unfold cpy
    rw [if_pos ⟨by omega, by omega, by omega, by omega, by omega⟩, show (((a : Int) * 6) + 6).toNat = 6 * a + 6 by omega, show ((a : Int) * 6).toNat = 6 * a by omega, show (((((n + 1 : Nat) : Int) - 1) - a) * 6).toNat = 6 * (n - a) by omega]
  unfold fX3_removeVisit
  rw [x_hasVisit hS, bnd_s, if_pos (show (0 : Int) ≤ (a : Int) ∧ (a : Int) < Y 1 3 from ⟨by omega, by omega⟩), if_neg (by decide), h4, ec, bnd_s, cpM_o (5 * r) (by omega), h4, gd_R (by omega) (by omega), bnd_s, st_at, show ((n + 1 : Nat) : Int) - 1 = n by omega]
theorem o_drop {X Y : MM} (g : RG X 0 (Y 1)) (a : Int) : ∃ res X', fX3_removeVisit 0 a X = some (res, X') ∧ ((res < 0 ∧ X' = X ∧ res = -1 ∧ fX5_isVisit a Y = some 0) ∨ (0 ≤ res ∧ fX5_isVisit a Y = some 1 ∧ (∀ c, 5 ≤ c → X' c = X c) ∧ ∀ Z : MM, Z 1 = Y 1 → ∃ Z', fX5_dropsVisit a Z = some (res, Z') ∧ (∀ c, c ≠ 1 → Z' c = Z c) ∧ RG X' 0 (Z' 1))) := by
  have hV := RG_V g
  have hS := RG_S g
  have hb := RG_b g
  rw [y_isVisit hV]
  by_cases h : 0 ≤ a ∧ a < Y 1 3
  · obtain ⟨v, rfl⟩ : ∃ i : Nat, a = i := ⟨a.toNat, by omega⟩
    obtain ⟨n, hn⟩ : ∃ n : Nat, Y 1 3 = ((n + 1 : Nat) : Int) := ⟨(Y 1 3).toNat - 1, by omega⟩
    have xo : ∀ c, c ≠ 5 * 0 → c ≠ 5 * 0 + 2 → (stM (cpM X (5 * 0 + 2) (6 * v + 6) (5 * 0 + 2) (6 * v) (6 * (n - v))) (5 * 0) 4 n) c = X c := fun c h1 h2 => by rw [st_cell h1, cpM_o c h2]
    have xk : ∀ k, k < 6 * v → (stM (cpM X (5 * 0 + 2) (6 * v + 6) (5 * 0 + 2) (6 * v) (6 * (n - v))) (5 * 0) 4 n) (5 * 0 + 2) k = X (5 * 0 + 2) k := fun k hk => by
      rw [st_c (by omega)]
      unfold cpM
      rw [if_neg (by omega)]
    have xm : ∀ k, 6 * v ≤ k → k < 6 * n → (stM (cpM X (5 * 0 + 2) (6 * v + 6) (5 * 0 + 2) (6 * v) (6 * (n - v))) (5 * 0) 4 n) (5 * 0 + 2) k = X (5 * 0 + 2) (k + 6) := fun k h1 h2 => by
      rw [st_c (by omega)]
      unfold cpM
      rw [if_pos ⟨rfl, by omega, by omega⟩, show 6 * v + 6 + (k - 6 * v) = k + 6 by omega]
    have x4 : (stM (cpM X (5 * 0 + 2) (6 * v + 6) (5 * 0 + 2) (6 * v) (6 * (n - v))) (5 * 0) 4 n) (5 * 0) 4 = (n : Int) := st_at _ _ _ _
    have x5 : (stM (cpM X (5 * 0 + 2) (6 * v + 6) (5 * 0 + 2) (6 * v) (6 * (n - v))) (5 * 0) 4 n) (5 * 0) 5 = X (5 * 0) 5 := by rw [st_k (by decide), cpM_o (5 * 0) (by omega)]
    rw [if_pos h]
    refine ⟨n, _, x_removes hS hn (by omega) (by omega), Or.inr ⟨by omega, rfl, fun c hc => xo c (by omega) (by omega), fun Z hZ => ?_⟩⟩
    obtain ⟨Z', z1, z2, z3, z4, z5⟩ := y_drops (Z := Z) (n := n) (a := v) (fun i h1 h2 => by rw [hZ]; exact vis_R hV h1 (by omega)) (by rw [hZ]; exact hn) (by omega) (by omega)
    rw [hZ] at z4 z5
    generalize (stM (cpM X (5 * 0 + 2) (6 * v + 6) (5 * 0 + 2) (6 * v) (6 * (n - v))) (5 * 0) 4 n) = X' at *
    have hb2 := hb.2.2
    have hy : ∀ i k : Nat, (i : Int) < n → k < 6 → ∃ j : Nat, (j : Int) < Y 1 3 ∧ (∀ k, k < 6 → Z' 1 (33 + 6 * i + k) = yvis Y j k) ∧ (∀ k, k < 6 → X' (5 * 0 + 2) (6 * i + k) = X (5 * 0 + 2) (6 * j + k)) := fun i k hi hk => by
      by_cases e : i < v
      · refine ⟨i, by omega, fun k hk => z5 _ (by omega) (by omega), fun k hk => xk _ (by omega)⟩
      · refine ⟨i + 1, by omega, fun k hk => ?_, fun k hk => ?_⟩
        · have := z4 (6 * i + k) (by omega) (by omega)
          rw [show 33 + 6 * i + k = 33 + (6 * i + k) by omega, this]
          unfold yvis
          rw [show 33 + (6 * i + k) + 6 = 33 + 6 * (i + 1) + k by omega]
        · rw [xm _ (by omega) (by omega), show 6 * i + k + 6 = 6 * (i + 1) + k by omega]
    refine ⟨Z', z1, z2, ValS_1 (M := Z') rfl ?_, by rw [z3]; omega, xS_1 (M := Z') rfl ?_, fun u p k1 k2 k3 => ?_⟩
    · obtain ⟨a1, a2, a3, a4, a5, a6, a7⟩ := hV
      unfold ValS
      rw [z5 0 (by decide) (by omega), z5 1 (by decide) (by omega), z5 2 (by decide) (by omega), z5 4 (by decide) (by omega), z3]
      refine ⟨a1, a2, a3, by omega, a5, fun u hu => ?_, fun i hi => ?_⟩
      · have w := a6 u hu
        unfold yvan at w ⊢
        rw [z5 _ (by omega) (by omega), z5 _ (by omega) (by omega)]
        exact ⟨w.1, w.2.1, fun p hp => by rw [z5 _ (by omega) (by omega)]; exact w.2.2 p hp⟩
      · obtain ⟨j, j1, j2, -⟩ := hy i 0 hi (by decide)
        have w := a7 j j1
        have e : ∀ k, k < 6 → yvis Z' i k = yvis Y j k := j2
        rw [e 0 (by decide), e 1 (by decide), e 2 (by decide), e 3 (by decide), e 4 (by decide), e 5 (by decide)]
        exact w
    · obtain ⟨a1, a2, a3, a4, a5, a6, a7, a8⟩ := hS
      unfold xS
      rw [z5 0 (by decide) (by omega), z5 1 (by decide) (by omega), z5 2 (by decide) (by omega), z5 4 (by decide) (by omega), z3, xo (5 * 0 + 1) (by omega) (by omega), xo (5 * 0 + 3) (by omega) (by omega), xo (5 * 0 + 4) (by omega) (by omega), x4, x5]
      refine ⟨a1, a2, a3, rfl, a5, fun u k hu hk => ?_, fun u p hu hp => ?_, fun i k hi hk => ?_⟩
      · rw [a6 u k hu hk]
        exact (z5 _ (by omega) (by omega)).symm
      · rw [a7 u p hu hp]
        exact (z5 _ (by omega) (by omega)).symm
      · obtain ⟨j, j1, j2, j3⟩ := hy i k hi hk
        rw [j3 k hk, a8 j k j1 hk]
        exact (j2 k hk).symm
    · rw [z5 4 (by decide) (by omega)] at k1
      rw [xo _ (by omega) (by omega)]
      exact g.2.2.2 u p k1 k2 k3
  · rw [if_neg h]
    refine ⟨-1, X, ?_, Or.inl ⟨by decide, rfl, rfl, rfl⟩⟩
    unfold fX3_removeVisit
    rw [x_hasVisit hS, bnd_s, if_neg h, if_pos rfl]
