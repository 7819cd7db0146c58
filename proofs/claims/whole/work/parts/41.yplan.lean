/-! THE REFERENCE'S PLAN in closed form: a van's way to a visit, when it begins, whether it can, which van -/
def yvis (M : MM) (i k : Nat) : Int := M 1 (33 + 6 * i + k)
def yvan (M : MM) (v k : Nat) : Int := M 1 (5 + 7 * v + k)
theorem y_visit0 (M : MM) (i : Nat) {k : Int} (j : Nat) (hk : k = j) (h : 33 + 6 * i + j < 160) : fX5_visit0 i k M = some (yvis M i j) := by
  unfold fX5_visit0
  rw [rd_n (33 + 6 * i + j) (by omega) h, bnd_s]
  rfl
theorem y_van0 (M : MM) (v : Nat) {k : Int} (j : Nat) (hk : k = j) (h : 5 + 7 * v + j < 160) : fX5_van0 v k M = some (yvan M v j) := by
  unfold fX5_van0
  rw [rd_n (5 + 7 * v + j) (by omega) h, bnd_s]
  rfl
/-- what the numbers of a road may be -/
def ValS (M : MM) : Prop := (1 ≤ M 1 0 ∧ M 1 0 ≤ 9) ∧ (1 ≤ M 1 1 ∧ M 1 1 ≤ 120) ∧ (0 ≤ M 1 2 ∧ M 1 2 ≤ 300) ∧ (0 ≤ M 1 3 ∧ M 1 3 ≤ 21) ∧ (0 ≤ M 1 4 ∧ M 1 4 ≤ 4) ∧
  (∀ v : Nat, (v : Int) < M 1 4 → (0 ≤ yvan M v 0 ∧ yvan M v 0 ≤ 99) ∧ (0 ≤ yvan M v 1 ∧ yvan M v 1 ≤ 15) ∧ ∀ p : Nat, p < 5 → 0 ≤ yvan M v (2 + p) ∧ yvan M v (2 + p) ≤ 99) ∧
  (∀ i : Nat, (i : Int) < M 1 3 → (0 ≤ yvis M i 0 ∧ yvis M i 0 ≤ 99) ∧ (0 ≤ yvis M i 1 ∧ yvis M i 1 ≤ 3) ∧ (0 ≤ yvis M i 2 ∧ yvis M i 2 ≤ 4) ∧ (0 ≤ yvis M i 3 ∧ yvis M i 3 ≤ 9) ∧ (0 ≤ yvis M i 4 ∧ yvis M i 4 ≤ 999) ∧ (0 ≤ yvis M i 5 ∧ yvis M i 5 ≤ 999))
/-- what the vans' numbers may be behind t looks -/
def RunS (M : MM) (t : Int) : Prop := ∀ v : Nat, (v : Int) < M 1 4 → (0 ≤ M 12 v ∧ M 12 v ≤ 99) ∧ (0 ≤ M 13 v ∧ M 13 v ≤ 1419) ∧ (0 ≤ M 15 v ∧ M 15 v ≤ 891 * t) ∧ (0 ≤ M 16 v ∧ M 16 v ≤ 1300 * t) ∧ ∀ p : Nat, p < 5 → 0 ≤ M 14 (5 * v + p) ∧ M 14 (5 * v + p) ≤ 99
def yway (M : MM) (v i : Nat) : Int := (if 0 ≤ M 12 v - yvis M i 0 then M 12 v - yvis M i 0 else - (M 12 v - yvis M i 0)) * M 1 0
def ybeg (M : MM) (v i : Nat) (sh : Int) : Int := if M 13 v + yway M v i ≤ yvis M i 4 + sh then yvis M i 4 + sh else M 13 v + yway M v i
abbrev yskill (M : MM) (v i : Nat) : Prop := iand (ishr (yvan M v 1) (yvis M i 1)) 1 = 1
abbrev yparts (M : MM) (v i : Nat) : Prop := yvis M i 3 ≤ M 14 (5 * v + (yvis M i 2).toNat)
abbrev ycan (M : MM) (v i : Nat) (sh : Int) : Prop := yskill M v i ∧ yparts M v i ∧ ybeg M v i sh ≤ yvis M i 5 + sh
theorem mul_b {w p : Int} (h0 : 0 ≤ w) (h1 : w ≤ 99) (h2 : 1 ≤ p) (h3 : p ≤ 9) : 0 ≤ w * p ∧ w * p ≤ 891 := by
  rcases (show p = 1 ∨ p = 2 ∨ p = 3 ∨ p = 4 ∨ p = 5 ∨ p = 6 ∨ p = 7 ∨ p = 8 ∨ p = 9 by omega) with rfl | rfl | rfl | rfl | rfl | rfl | rfl | rfl | rfl <;> omega
section YP
variable {M : MM} {t : Int} {v i : Nat}
theorem yway_b (hV : ValS M) (hR : RunS M t) (hv : (v : Int) < M 1 4) (hi : (i : Int) < M 1 3) : 0 ≤ yway M v i ∧ yway M v i ≤ 891 := by
  obtain ⟨⟨a1, a2⟩, -, -, -, -, -, hvis⟩ := hV
  obtain ⟨⟨p1, p2⟩, -⟩ := hvis i hi
  obtain ⟨⟨q1, q2⟩, -⟩ := hR v hv
  unfold yway
  by_cases h : 0 ≤ M 12 v - yvis M i 0
  · rw [if_pos h]; exact mul_b h (by omega) a1 a2
  · rw [if_neg h]; exact mul_b (by omega) (by omega) a1 a2
theorem y_way (hV : ValS M) (hR : RunS M t) (hv : (v : Int) < M 1 4) (hi : (i : Int) < M 1 3) : fX5_wayTo v i M = some (yway M v i) := by
  have hb := yway_b hV hR hv hi
  obtain ⟨⟨a1, a2⟩, -, -, ⟨c1, c2⟩, ⟨d1, d2⟩, -, hvis⟩ := hV
  obtain ⟨⟨p1, p2⟩, -⟩ := hvis i hi
  obtain ⟨⟨q1, q2⟩, -⟩ := hR v hv
  unfold fX5_wayTo
  rw [rd_n v rfl (by omega), bnd_s, y_visit0 M i (k := 0) 0 rfl (by omega), bnd_s, gd_R (by omega) (by omega)]
  unfold yway at hb ⊢
  by_cases h : 0 ≤ M 12 v - yvis M i 0
  · rw [if_pos h] at hb ⊢
    rw [if_pos h, bnd_s, rd_n (i := 0) 0 rfl (by omega), bnd_s, gd_R (by omega) (by omega)]
  · rw [if_neg h] at hb ⊢
    rw [if_neg h, gd_R (by omega) (by omega), bnd_s, rd_n (i := 0) 0 rfl (by omega), bnd_s, gd_R (by omega) (by omega)]
theorem ybeg_b (hV : ValS M) (hR : RunS M t) (hv : (v : Int) < M 1 4) (hi : (i : Int) < M 1 3) {sh : Int} (h0 : 0 ≤ sh) (h1 : sh ≤ 300) : 0 ≤ ybeg M v i sh ∧ ybeg M v i sh ≤ 2310 ∧ M 13 v + yway M v i ≤ ybeg M v i sh ∧ yvis M i 4 + sh ≤ ybeg M v i sh := by
  obtain ⟨w1, w2⟩ := yway_b hV hR hv hi
  obtain ⟨-, -, -, -, -, -, hvis⟩ := hV
  obtain ⟨-, -, -, -, ⟨p1, p2⟩, -⟩ := hvis i hi
  obtain ⟨-, ⟨q1, q2⟩, -⟩ := hR v hv
  unfold ybeg
  by_cases h : M 13 v + yway M v i ≤ yvis M i 4 + sh
  · rw [if_pos h]; omega
  · rw [if_neg h]; omega
theorem y_beg (hV : ValS M) (hR : RunS M t) (hv : (v : Int) < M 1 4) (hi : (i : Int) < M 1 3) {sh : Int} (h0 : 0 ≤ sh) (h1 : sh ≤ 300) : fX5_beginOf v i sh M = some (ybeg M v i sh) := by
  obtain ⟨w1, w2⟩ := yway_b hV hR hv hi
  have hw := y_way hV hR hv hi
  obtain ⟨-, -, -, ⟨c1, c2⟩, ⟨d1, d2⟩, -, hvis⟩ := hV
  obtain ⟨-, -, -, -, ⟨p1, p2⟩, -⟩ := hvis i hi
  obtain ⟨-, ⟨q1, q2⟩, -⟩ := hR v hv
  unfold fX5_beginOf ybeg
  rw [rd_n v rfl (by omega), bnd_s, hw, bnd_s, y_visit0 M i (k := 4) 4 rfl (by omega), bnd_s, gd_R (by omega) (by omega), gd_R (by omega) (by omega)]
  by_cases h : M 13 v + yway M v i ≤ yvis M i 4 + sh
  · rw [if_pos h, if_pos h]; rfl
  · rw [if_neg h, if_neg h]; rfl
theorem y_skill (hV : ValS M) (hv : (v : Int) < M 1 4) (hi : (i : Int) < M 1 3) : fX5_hasSkill v i M = some (if yskill M v i then 1 else 0) := by
  obtain ⟨-, -, -, ⟨c1, c2⟩, ⟨d1, d2⟩, -, -⟩ := hV
  unfold fX5_hasSkill
  rw [y_van0 M v (k := 1) 1 rfl (by omega), bnd_s, y_visit0 M i (k := 1) 1 rfl (by omega), bnd_s]
  by_cases h : yskill M v i
  · rw [if_pos h, if_pos h, bnd_s, gd_s (Or.inr rfl)]
  · rw [if_neg h, if_neg h, bnd_s, gd_s (Or.inl rfl)]
theorem y_parts (hV : ValS M) (hv : (v : Int) < M 1 4) (hi : (i : Int) < M 1 3) : fX5_hasParts v i M = some (if yparts M v i then 1 else 0) := by
  obtain ⟨-, -, -, ⟨c1, c2⟩, ⟨d1, d2⟩, -, hvis⟩ := hV
  obtain ⟨-, -, ⟨p1, p2⟩, -⟩ := hvis i hi
  unfold fX5_hasParts
  rw [y_visit0 M i (k := 2) 2 rfl (by omega), bnd_s, rd_n (5 * v + (yvis M i 2).toNat) (by omega) (by omega), bnd_s, y_visit0 M i (k := 3) 3 rfl (by omega), bnd_s]
  by_cases h : yparts M v i
  · rw [if_neg (show ¬ M 14 (5 * v + (yvis M i 2).toNat) < yvis M i 3 by unfold yparts at h; omega), if_pos h, bnd_s, gd_s (Or.inr rfl)]
  · rw [if_pos (show M 14 (5 * v + (yvis M i 2).toNat) < yvis M i 3 by unfold yparts at h; omega), if_neg h, bnd_s, gd_s (Or.inl rfl)]
def enc (b : Option Nat) : Int := match b with
  | none => -6
  | some u => u
/-- the best of the vans from v on, k of them; b is the best so far -/
def ybst (M : MM) (i : Nat) (sh : Int) (v : Nat) (b : Option Nat) : Option Nat := match b with
  | none => if ycan M v i sh then some v else none
  | some u => if ycan M v i sh ∧ ybeg M v i sh < ybeg M u i sh then some v else some u
def yvf (M : MM) (i : Nat) (sh : Int) : Nat → Nat → Option Nat → Option Nat
  | 0, _, b => b
  | k + 1, v, b => yvf M i sh k (v + 1) (ybst M i sh v b)
theorem ybst_or {M : MM} {i : Nat} {sh : Int} {v : Nat} {b : Option Nat} {u : Nat} (h : ybst M i sh v b = some u) : (u = v ∧ ycan M v i sh) ∨ b = some u := by
  cases b with
  | none =>
    by_cases c : ycan M v i sh
    · rw [ybst, if_pos c] at h; cases h; exact Or.inl ⟨rfl, c⟩
    · rw [ybst, if_neg c] at h; cases h
  | some w =>
    by_cases c : ycan M v i sh ∧ ybeg M v i sh < ybeg M w i sh
    · rw [ybst, if_pos c] at h; cases h; exact Or.inl ⟨rfl, c.1⟩
    · rw [ybst, if_neg c] at h; exact Or.inr h
theorem y_can (hV : ValS M) (hR : RunS M t) (hv : (v : Int) < M 1 4) (hi : (i : Int) < M 1 3) {sh : Int} (h0 : 0 ≤ sh) (h1 : sh ≤ 300) : (if (if yskill M v i then (1 : Int) else 0) = 0 then some (0 : Int) else bnd (fX5_hasParts v i M) (fun v8 => if v8 = 0 then some (0 : Int) else bnd (fX5_beginOf v i sh M) (fun v11 => bnd (fX5_visit0 i 5 M) (fun v13 => gd (inR (v13 + sh)) (if (v13 + sh) < v11 then some (0 : Int) else some (1 : Int)))))) = some (if ycan M v i sh then (1 : Int) else 0) := by
  have hp := y_parts hV hv hi
  have hg := y_beg hV hR hv hi h0 h1
  obtain ⟨-, -, -, ⟨c1, c2⟩, -, -, hvis⟩ := hV
  obtain ⟨-, -, -, -, -, p1, p2⟩ := hvis i hi
  by_cases k1 : yskill M v i
  · rw [if_pos k1, if_neg (by decide), hp, bnd_s]
    by_cases k2 : yparts M v i
    · rw [if_pos k2, if_neg (by decide), hg, bnd_s, y_visit0 M i (k := 5) 5 rfl (by omega), bnd_s, gd_R (by omega) (by omega)]
      by_cases k3 : ybeg M v i sh ≤ yvis M i 5 + sh
      · rw [if_neg (by omega), if_pos ⟨k1, k2, k3⟩]
      · rw [if_pos (by omega), if_neg (fun q => k3 q.2.2)]
    · rw [if_neg k2, if_pos rfl, if_neg (fun q => k2 q.2.1)]
  · rw [if_neg k1, if_pos rfl, if_neg (fun q => k1 q.1)]
theorem y_vf (hV : ValS M) (hR : RunS M t) (hi : (i : Int) < M 1 3) {sh : Int} (h0 : 0 ≤ sh) (h1 : sh ≤ 300) : ∀ (k n v : Nat) (b : Option Nat), (v : Int) + k = M 1 4 → k < n → (∀ u, b = some u → (u : Int) < M 1 4) → fX5_vanFor_L6 n i sh (enc b) v M = some (enc (yvf M i sh k v b)) := by
  intro k
  induction k with
  | zero =>
    intro n v b hk hn hb
    obtain ⟨n, rfl⟩ : ∃ q, n = q + 1 := ⟨n - 1, by omega⟩
    rw [fX5_vanFor_L6, rd_n (i := 4) 4 rfl (by omega), bnd_s, if_pos (by omega)]
    rfl
  | succ k ih =>
    intro n v b hk hn hb
    obtain ⟨n, rfl⟩ : ∃ q, n = q + 1 := ⟨n - 1, by omega⟩
    have hv : (v : Int) < M 1 4 := by omega
    have hd : M 1 4 ≤ 4 := hV.2.2.2.2.1.2
    rw [fX5_vanFor_L6, rd_n (i := 4) 4 rfl (by omega), bnd_s, if_neg (by omega), y_skill hV hv hi, bnd_s, bnd_eq (y_can hV hR hv hi h0 h1)]
    have e18 : (if (if ycan M v i sh then (1 : Int) else 0) = 0 then some (enc b) else if enc b = (-6) then some (v : Int) else bnd (fX5_beginOf v i sh M) (fun v20 => bnd (fX5_beginOf (enc b) i sh M) (fun v22 => if v22 ≤ v20 then some (enc b) else some (v : Int)))) = some (enc (ybst M i sh v b)) := by
      by_cases c : ycan M v i sh
      · rw [if_pos c, if_neg (by decide)]
        cases b with
        | none => rw [if_pos (show enc none = (-6) from rfl), ybst, if_pos c]; rfl
        | some u =>
          have hu := hb u rfl
          have eu : enc (some u) = (u : Int) := rfl
          rw [eu, if_neg (by omega), y_beg hV hR hv hi h0 h1, bnd_s, y_beg hV hR hu hi h0 h1, bnd_s]
          by_cases q : ybeg M v i sh < ybeg M u i sh
          · rw [if_neg (by omega), ybst, if_pos ⟨c, q⟩]; rfl
          · rw [if_pos (by omega), ybst, if_neg (fun z => q z.2)]; rfl
      · rw [if_neg c, if_pos rfl]
        cases b with
        | none => rw [ybst, if_neg c]
        | some u => rw [ybst, if_neg (fun z => c z.1)]
    rw [bnd_eq e18, gd_R (by omega) (by omega)]
    exact ih n (v + 1) (ybst M i sh v b) (by omega) (by omega) (fun u hu => by
      rcases ybst_or hu with ⟨q, -⟩ | q
      · rw [q]; exact hv
      · exact hb u q)
/-- the van that makes a visit -/
def yvan4 (M : MM) (i : Nat) (sh : Int) : Option Nat := yvf M i sh (M 1 4).toNat 0 none
theorem y_vanFor (hV : ValS M) (hR : RunS M t) (hi : (i : Int) < M 1 3) {sh : Int} (h0 : 0 ≤ sh) (h1 : sh ≤ 300) : fX5_vanFor i sh M = some (enc (yvan4 M i sh)) := by
  have hd := hV.2.2.2.2.1
  unfold fX5_vanFor
  have := y_vf hV hR hi h0 h1 (M 1 4).toNat 4000 0 none (by omega) (by omega) (fun u hu => by cases hu)
  rw [show fX5_vanFor_L6 4000 i sh (-6) 0 M = some (enc (yvan4 M i sh)) from this, bnd_s]
end YP
