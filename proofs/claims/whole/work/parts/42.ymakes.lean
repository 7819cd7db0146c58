/-! THE REFERENCE'S PLAN: what is left when a van makes a visit; why none can; a look -/
theorem yvis_st {M : MM} {c k : Nat} {z : Int} (h : 1 ≠ c) (i j : Nat) : yvis (stM M c k z) i j = yvis M i j := st_c h
theorem yvan_st {M : MM} {c k : Nat} {z : Int} (h : 1 ≠ c) (i j : Nat) : yvan (stM M c k z) i j = yvan M i j := st_c h
def yq (M : MM) (v i : Nat) : Nat := 5 * v + (yvis M i 2).toNat
/-- the memory behind a visit that a van makes -/
def ymk (M : MM) (v i : Nat) (sh : Int) : MM :=
  stM (stM (stM (stM (stM (stM (stM (stM (stM M 8 i v) 9 i (ybeg M v i sh)) 11 i (M 13 v)) 10 i (M 13 v + yway M v i)) 15 v (M 15 v + yway M v i)) 16 v (M 16 v + (ybeg M v i sh - (M 13 v + yway M v i)))) 13 v (ybeg M v i sh + M 1 1)) 12 v (yvis M i 0)) 14 (yq M v i) (M 14 (yq M v i) - yvis M i 3)
section YM
variable {M : MM} {t : Int} {v i : Nat}
theorem y_makes (hV : ValS M) (hR : RunS M t) (ht : 0 ≤ t ∧ t ≤ 100) (hv : (v : Int) < M 1 4) (hi : (i : Int) < M 1 3) {sh : Int} (h0 : 0 ≤ sh) (h1 : sh ≤ 300) : fX5_makes v i sh M = some (ymk M v i sh) := by
  have hw := yway_b hV hR hv hi
  have hg := ybeg_b hV hR hv hi h0 h1
  have ew := y_way hV hR hv hi
  have eg := y_beg hV hR hv hi h0 h1
  obtain ⟨-, ⟨b1, b2⟩, -, ⟨c1, c2⟩, ⟨d1, d2⟩, -, hvis⟩ := hV
  obtain ⟨⟨p1, p2⟩, -, ⟨p3, p4⟩, ⟨p5, p6⟩, -, -⟩ := hvis i hi
  obtain ⟨⟨q1, q2⟩, ⟨q3, q4⟩, ⟨q5, q6⟩, ⟨q7, q8⟩, hq⟩ := hR v hv
  obtain ⟨r1, r2⟩ := hq (yvis M i 2).toNat (by omega)
  have hqe : M 14 (5 * v + (yvis M i 2).toNat) = M 14 (yq M v i) := rfl
  rw [hqe] at r1 r2
  have hqi : ((5 * (v : Int)) + yvis M i 2) = ((yq M v i : Nat) : Int) := by unfold yq; omega
  have hq20 : yq M v i < 20 := by unfold yq; omega
  unfold fX5_makes
  rw [ew, bnd_s, eg, bnd_s]
  rw [wr_n i rfl (by omega) ⟨by omega, by omega⟩, bnd_s]
  rw [wr_n i rfl (by omega) ⟨by omega, by omega⟩, bnd_s]
  rw [rd_n v rfl (by omega), bnd_s, st_c (by decide), st_c (by decide)]
  rw [wr_n i rfl (by omega) ⟨by omega, by omega⟩, bnd_s]
  rw [rd_n v rfl (by omega), bnd_s, st_c (by decide), st_c (by decide), st_c (by decide)]
  rw [wr_n i rfl (by omega) ⟨by omega, by omega⟩, bnd_s]
  rw [rd_n v rfl (by omega), bnd_s, st_c (by decide), st_c (by decide), st_c (by decide), st_c (by decide)]
  rw [wr_n v rfl (by omega) ⟨by omega, by omega⟩, bnd_s]
  rw [rd_n v rfl (by omega), bnd_s, st_c (by decide), st_c (by decide), st_c (by decide), st_c (by decide), st_c (by decide)]
  rw [rd_n i rfl (by omega), bnd_s, st_c (by decide), st_at]
  rw [wr_n v rfl (by omega) ⟨by omega, by omega⟩, bnd_s]
  rw [rd_n (i := 1) 1 rfl (by omega), bnd_s, st_c (by decide), st_c (by decide), st_c (by decide), st_c (by decide), st_c (by decide), st_c (by decide)]
  rw [wr_n v rfl (by omega) ⟨by omega, by omega⟩, bnd_s]
  rw [y_visit0 _ i (k := 0) 0 rfl (by omega), bnd_s]
  rw [yvis_st (by decide), yvis_st (by decide), yvis_st (by decide), yvis_st (by decide), yvis_st (by decide), yvis_st (by decide), yvis_st (by decide)]
  rw [wr_n v rfl (by omega) ⟨by omega, by omega⟩, bnd_s]
  rw [y_visit0 _ i (k := 2) 2 rfl (by omega), bnd_s]
  rw [yvis_st (by decide), yvis_st (by decide), yvis_st (by decide), yvis_st (by decide), yvis_st (by decide), yvis_st (by decide), yvis_st (by decide), yvis_st (by decide)]
  rw [rd_n (yq M v i) hqi hq20, bnd_s, st_c (by decide), st_c (by decide), st_c (by decide), st_c (by decide), st_c (by decide), st_c (by decide), st_c (by decide), st_c (by decide)]
  rw [y_visit0 _ i (k := 3) 3 rfl (by omega), bnd_s]
  rw [yvis_st (by decide), yvis_st (by decide), yvis_st (by decide), yvis_st (by decide), yvis_st (by decide), yvis_st (by decide), yvis_st (by decide), yvis_st (by decide)]
  rw [wr_n (yq M v i) hqi hq20 ⟨by omega, by omega⟩, bnd_s]
  rfl
/-- why none can, over k vans from v on; r so far -/
def yrs (M : MM) (i : Nat) : Nat → Nat → Int → Int
  | 0, _, r => r
  | k + 1, v, r => yrs M i k (v + 1) (if (if yskill M v i then if yparts M v i then (4 : Int) else 3 else 2) ≤ r then r else (if yskill M v i then if yparts M v i then (4 : Int) else 3 else 2))
theorem y_rs (hV : ValS M) (hi : (i : Int) < M 1 3) : ∀ (k n v : Nat) (r : Int), (v : Int) + k = M 1 4 → k < n → fX5_reason_L4 n i r v M = some (yrs M i k v r) := by
  intro k
  induction k with
  | zero =>
    intro n v r hk hn
    obtain ⟨n, rfl⟩ : ∃ q, n = q + 1 := ⟨n - 1, by omega⟩
    rw [fX5_reason_L4, rd_n (i := 4) 4 rfl (by omega), bnd_s, if_pos (by omega)]
    rfl
  | succ k ih =>
    intro n v r hk hn
    obtain ⟨n, rfl⟩ : ∃ q, n = q + 1 := ⟨n - 1, by omega⟩
    have hv : (v : Int) < M 1 4 := by omega
    have hd : M 1 4 ≤ 4 := hV.2.2.2.2.1.2
    have e7 : (if (if yskill M v i then (1 : Int) else 0) = 0 then some (2 : Int) else bnd (fX5_hasParts v i M) (fun v8 => if v8 = 0 then some (3 : Int) else some (4 : Int))) = some (if yskill M v i then if yparts M v i then (4 : Int) else 3 else 2) := by
      by_cases k1 : yskill M v i
      · rw [if_pos k1, if_pos k1, if_neg (by decide), y_parts hV hv hi, bnd_s]
        by_cases k2 : yparts M v i
        · rw [if_pos k2, if_pos k2, if_neg (by decide)]
        · rw [if_neg k2, if_neg k2, if_pos rfl]
      · rw [if_neg k1, if_neg k1, if_pos rfl]
    rw [fX5_reason_L4, rd_n (i := 4) 4 rfl (by omega), bnd_s, if_neg (by omega), y_skill hV hv hi, bnd_s, bnd_eq e7]
    generalize hg : (if yskill M v i then if yparts M v i then (4 : Int) else 3 else 2) = g
    have e12 : (if g ≤ r then some r else some g) = some (if g ≤ r then r else g) := by
      by_cases q : g ≤ r
      · rw [if_pos q, if_pos q]
      · rw [if_neg q, if_neg q]
    rw [bnd_eq e12, gd_R (by omega) (by omega)]
    have := ih n (v + 1) (if g ≤ r then r else g) (by omega) (by omega)
    rw [show yrs M i (k + 1) v r = yrs M i k (v + 1) (if g ≤ r then r else g) by rw [yrs, hg]]
    exact this
def yreason (M : MM) (i : Nat) : Int := yrs M i (M 1 4).toNat 0 2
theorem y_reason (hV : ValS M) (hi : (i : Int) < M 1 3) : fX5_reason i M = some (yreason M i) := by
  have hd := hV.2.2.2.2.1
  unfold fX5_reason
  have := y_rs hV hi (M 1 4).toNat 4000 0 2 (by omega) (by omega)
  rw [show fX5_reason_L4 4000 i 2 0 M = some (yreason M i) from this, bnd_s]
theorem yvf_lt (sh : Int) : ∀ (k v : Nat) (b : Option Nat) (u : Nat), yvf M i sh k v b = some u → b = some u ∨ (v ≤ u ∧ u < v + k ∧ ycan M u i sh) := by
  intro k
  induction k with
  | zero => intro v b u h; exact Or.inl h
  | succ k ih =>
    intro v b u h
    rw [yvf] at h
    rcases ih (v + 1) _ u h with h2 | ⟨h2, h3, h4⟩
    · rcases ybst_or h2 with ⟨q, c⟩ | q
      · rw [q]; exact Or.inr ⟨Nat.le_refl _, by omega, c⟩
      · exact Or.inl q
    · exact Or.inr ⟨by omega, by omega, h4⟩
theorem yvan4_lt {sh : Int} {u : Nat} (hV : ValS M) (h : yvan4 M i sh = some u) : (u : Int) < M 1 4 ∧ ycan M u i sh := by
  have hd := hV.2.2.2.2.1
  rcases yvf_lt sh _ _ _ _ h with q | ⟨-, q, c⟩
  · cases q
  · exact ⟨by omega, c⟩
/-- a look at a visit: its promise, and the memory behind it -/
def ylook (M : MM) (i : Nat) (sh kept : Int) : Int × MM := match yvan4 M i sh with
  | none => (yreason M i, M)
  | some u => (kept, ymk M u i sh)
theorem y_looks (hV : ValS M) (hR : RunS M t) (ht : 0 ≤ t ∧ t ≤ 100) (hi : (i : Int) < M 1 3) {sh : Int} (h0 : 0 ≤ sh) (h1 : sh ≤ 300) (kept : Int) : fX5_looks i sh kept M = some (ylook M i sh kept) := by
  unfold fX5_looks ylook
  rw [y_vanFor hV hR hi h0 h1, bnd_s]
  cases hb : yvan4 M i sh with
  | none => rw [if_pos (show enc none = (-6) from rfl), y_reason hV hi, bnd_s]
  | some u =>
    have hu := (yvan4_lt hV hb).1
    have eu : enc (some u) = (u : Int) := rfl
    rw [eu, if_neg (by omega), y_makes hV hR ht hu hi h0 h1, bnd_s]
end YM
