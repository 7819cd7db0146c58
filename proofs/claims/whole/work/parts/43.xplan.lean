/-! THE CLASS'S PLAN beside the reference's: the same road, the same numbers of the vans -/
def xS (X Y : MM) (r : Nat) : Prop := X (5 * r + 1) 0 = Y 1 0 ∧ X (5 * r + 1) 1 = Y 1 1 ∧ X (5 * r + 1) 2 = Y 1 2 ∧ X (5 * r) 4 = Y 1 3 ∧ X (5 * r) 5 = Y 1 4 ∧
  (∀ v k : Nat, (v : Int) < Y 1 4 → k < 2 → X (5 * r + 3) (2 * v + k) = yvan Y v k) ∧ (∀ v q : Nat, (v : Int) < Y 1 4 → q < 5 → X (5 * r + 4) (5 * v + q) = yvan Y v (2 + q)) ∧ (∀ i k : Nat, (i : Int) < Y 1 3 → k < 6 → X (5 * r + 2) (6 * i + k) = yvis Y i k)
def xP (X Y : MM) (p : Nat) : Prop := X (55 + 6 * p) 5 = Y 1 3 ∧ X (55 + 6 * p) 6 = Y 1 4 ∧ ∀ v : Nat, (v : Int) < Y 1 4 → X (55 + 6 * p + 3) (6 * v + 1) = Y 15 v ∧ X (55 + 6 * p + 3) (6 * v + 2) = Y 16 v ∧ X (55 + 6 * p + 3) (6 * v + 3) = Y 13 v ∧ X (55 + 6 * p + 3) (6 * v + 4) = Y 12 v ∧ ∀ q : Nat, q < 5 → X (55 + 6 * p + 4) (5 * v + q) = Y 14 (5 * v + q)
section XP
variable {X M : MM} {t : Int} {v i r p : Nat}
theorem x_visitFact (hV : ValS M) (hS : xS X M r) (hi : (i : Int) < M 1 3) {k : Int} (j : Nat) (hk : k = j) (hj : j < 6) : fX3_visitFact r i k X = some (yvis M i j) := by
  have hc := hV.2.2.2.1
  unfold fX3_visitFact
  rw [rd_n (6 * i + j) (by omega) (by omega), bnd_s, hS.2.2.2.2.2.2.2 i j hi hj]
theorem x_vanFact (hV : ValS M) (hS : xS X M r) (hv : (v : Int) < M 1 4) {k : Int} (j : Nat) (hk : k = j) (hj : j < 2) : fX3_vanFact r v k X = some (yvan M v j) := by
  have hc := hV.2.2.2.2.1
  unfold fX3_vanFact
  rw [rd_n (2 * v + j) (by omega) (by omega), bnd_s, hS.2.2.2.2.2.1 v j hv hj]
theorem x_skill (hV : ValS M) (hS : xS X M r) (hv : (v : Int) < M 1 4) (hi : (i : Int) < M 1 3) : fX2_hasSkill p r v i X = some (if yskill M v i then 1 else 0) := by
  unfold fX2_hasSkill
  rw [x_vanFact hV hS hv (k := 1) 1 rfl (by decide), bnd_s, x_visitFact hV hS hi (k := 1) 1 rfl (by decide), bnd_s]
  by_cases h : yskill M v i
  · rw [if_pos h, if_pos h, bnd_s, gd_s (Or.inr rfl)]
  · rw [if_neg h, if_neg h, bnd_s, gd_s (Or.inl rfl)]
theorem x_parts (hV : ValS M) (hS : xS X M r) (hP : xP X M p) (hv : (v : Int) < M 1 4) (hi : (i : Int) < M 1 3) : fX2_hasParts p r v i X = some (if yparts M v i then 1 else 0) := by
  obtain ⟨-, -, ⟨p1, p2⟩, -⟩ := hV.2.2.2.2.2.2 i hi
  have hd := hV.2.2.2.2.1
  unfold fX2_hasParts
  rw [x_visitFact hV hS hi (k := 2) 2 rfl (by decide), bnd_s]
  have e : fX2_partsLeft p v (yvis M i 2) X = some (M 14 (5 * v + (yvis M i 2).toNat)) := by
    unfold fX2_partsLeft
    rw [rd_n (5 * v + (yvis M i 2).toNat) (by omega) (by omega), bnd_s, (hP.2.2 v hv).2.2.2.2 _ (by omega)]
  rw [e, bnd_s, x_visitFact hV hS hi (k := 3) 3 rfl (by decide), bnd_s]
  by_cases h : yparts M v i
  · rw [if_neg (show ¬ M 14 (5 * v + (yvis M i 2).toNat) < yvis M i 3 by unfold yparts at h; omega), if_pos h, bnd_s, gd_s (Or.inr rfl)]
  · rw [if_pos (show M 14 (5 * v + (yvis M i 2).toNat) < yvis M i 3 by unfold yparts at h; omega), if_neg h, bnd_s, gd_s (Or.inl rfl)]
theorem x_drive (hV : ValS M) (hP : xP X M p) (hv : (v : Int) < M 1 4) {k : Int} (j : Nat) (hk : k = j) (hj : j < 6) : fX2_driveFact p v k X = some (X (55 + 6 * p + 3) (6 * v + j)) := by
  have hd := hV.2.2.2.2.1
  unfold fX2_driveFact
  rw [rd_n (6 * v + j) (by omega) (by omega), bnd_s]
theorem iabs_way (M : MM) (v i : Nat) : iabs (yvis M i 0 - M 12 v) * M 1 0 = yway M v i := by
  unfold iabs yway
  by_cases h : 0 ≤ yvis M i 0 - M 12 v
  · rw [if_pos h]
    by_cases h2 : 0 ≤ M 12 v - yvis M i 0
    · rw [if_pos h2, show yvis M i 0 - M 12 v = M 12 v - yvis M i 0 by omega]
    · rw [if_neg h2, show - (M 12 v - yvis M i 0) = yvis M i 0 - M 12 v by omega]
  · rw [if_neg h, if_pos (by omega), show 0 - (yvis M i 0 - M 12 v) = M 12 v - yvis M i 0 by omega]
theorem x_comes (hV : ValS M) (hR : RunS M t) (hS : xS X M r) (hP : xP X M p) (hv : (v : Int) < M 1 4) (hi : (i : Int) < M 1 3) : fX2_comes p r v i X = some (M 13 v + yway M v i) := by
  obtain ⟨w1, w2⟩ := yway_b hV hR hv hi
  obtain ⟨⟨q1, q2⟩, ⟨q3, q4⟩, -⟩ := hR v hv
  obtain ⟨⟨p1, p2⟩, -⟩ := hV.2.2.2.2.2.2 i hi
  obtain ⟨-, -, f3, f4, -⟩ := hP.2.2 v hv
  unfold fX2_comes
  rw [x_visitFact hV hS hi (k := 0) 0 rfl (by decide), bnd_s, x_drive hV hP hv (k := 4) 4 rfl (by decide), bnd_s, f4, gd_R (by omega) (by omega), x_drive hV hP hv (k := 3) 3 rfl (by decide), bnd_s, f3, rd_n (i := 0) 0 rfl (by decide), bnd_s, hS.1, iabs_way, gd_R (by omega) (by omega)]
theorem imax_beg (M : MM) (v i : Nat) (sh : Int) : imax (M 13 v + yway M v i) (yvis M i 4 + sh) = ybeg M v i sh := by
  unfold imax ybeg
  by_cases h : M 13 v + yway M v i < yvis M i 4 + sh
  · rw [if_pos h, if_pos (by omega)]
  · rw [if_neg h]
    by_cases h2 : M 13 v + yway M v i ≤ yvis M i 4 + sh
    · rw [if_pos h2]; omega
    · rw [if_neg h2]
def xbst (M : MM) (i : Nat) (sh : Int) (b : Option Nat) (z : Int) : Int := match b with
  | none => z
  | some u => ybeg M u i sh
theorem x_ftb (hV : ValS M) (hR : RunS M t) (hS : xS X M r) (hP : xP X M p) (hi : (i : Int) < M 1 3) {sh : Int} (h0 : 0 ≤ sh) (h1 : sh ≤ 300) : ∀ (k n v : Nat) (b : Option Nat) (z : Int), (v : Int) + k = M 1 4 → k < n → (∀ u, b = some u → (u : Int) < M 1 4) → fX2_firstToBegin_L30 n p r i (yvis M i 4 + sh) (yvis M i 5 + sh) (enc b) (xbst M i sh b z) v X = some (enc (yvf M i sh k v b)) := by
  intro k
  induction k with
  | zero =>
    intro n v b z hk hn hb
    obtain ⟨n, rfl⟩ : ∃ q, n = q + 1 := ⟨n - 1, by omega⟩
    rw [fX2_firstToBegin_L30, hP.2.1, if_pos (by omega)]
    rfl
  | succ k ih =>
    intro n v b z hk hn hb
    obtain ⟨n, rfl⟩ : ∃ q, n = q + 1 := ⟨n - 1, by omega⟩
    have hv : (v : Int) < M 1 4 := by omega
    have hd : M 1 4 ≤ 4 := hV.2.2.2.2.1.2
    rw [fX2_firstToBegin_L30, hP.2.1, if_neg (by omega), x_skill hV hS hv hi, bnd_s]
    have e : ∃ z2, (if (if yskill M v i then (1 : Int) else 0) = 0 then some (enc b, xbst M i sh b z) else bnd (fX2_hasParts p r v i X) (fun v13 => if v13 = 0 then some (enc b, xbst M i sh b z) else bnd (fX2_comes p r v i X) (fun v16 => if yvis M i 5 + sh < (imax v16 (yvis M i 4 + sh)) then some (enc b, xbst M i sh b z) else if enc b = (-6) then some ((v : Int), (imax v16 (yvis M i 4 + sh))) else if xbst M i sh b z ≤ (imax v16 (yvis M i 4 + sh)) then some (enc b, xbst M i sh b z) else some ((v : Int), (imax v16 (yvis M i 4 + sh)))))) = some (enc (ybst M i sh v b), xbst M i sh (ybst M i sh v b) z2) := by
      by_cases k1 : yskill M v i
      · rw [if_pos k1, if_neg (by decide), x_parts hV hS hP hv hi, bnd_s]
        by_cases k2 : yparts M v i
        · rw [if_pos k2, if_neg (by decide), x_comes hV hR hS hP hv hi, bnd_s, imax_beg]
          by_cases k3 : ybeg M v i sh ≤ yvis M i 5 + sh
          · rw [if_neg (by omega)]
            cases b with
            | none => exact ⟨0, by rw [if_pos (show enc none = (-6) from rfl), ybst, if_pos ⟨k1, k2, k3⟩]; rfl⟩
            | some u =>
              have eu : enc (some u) = (u : Int) := rfl
              have ex : xbst M i sh (some u) z = ybeg M u i sh := rfl
              rw [eu, if_neg (by omega), ex]
              by_cases q : ybeg M v i sh < ybeg M u i sh
              · exact ⟨0, by rw [if_neg (by omega), ybst, if_pos ⟨⟨k1, k2, k3⟩, q⟩]; rfl⟩
              · exact ⟨0, by rw [if_pos (by omega), ybst, if_neg (fun w => q w.2)]; rfl⟩
          · rw [if_pos (by omega)]
            refine ⟨z, ?_⟩
            cases b with
            | none => rw [ybst, if_neg (fun w => k3 w.2.2)]
            | some u => rw [ybst, if_neg (fun w => k3 w.1.2.2)]
        · rw [if_neg k2, if_pos rfl]
          refine ⟨z, ?_⟩
          cases b with
          | none => rw [ybst, if_neg (fun w => k2 w.2.1)]
          | some u => rw [ybst, if_neg (fun w => k2 w.1.2.1)]
      · rw [if_neg k1, if_pos rfl]
        refine ⟨z, ?_⟩
        cases b with
        | none => rw [ybst, if_neg (fun w => k1 w.1)]
        | some u => rw [ybst, if_neg (fun w => k1 w.1.1)]
    obtain ⟨z2, e⟩ := e
    rw [bnd2_eq e, gd_R (by omega) (by omega)]
    exact ih n (v + 1) (ybst M i sh v b) z2 (by omega) (by omega) (fun u hu => by
      rcases ybst_or hu with ⟨q, -⟩ | q
      · rw [q]; exact hv
      · exact hb u q)
theorem x_first (hV : ValS M) (hR : RunS M t) (hS : xS X M r) (hP : xP X M p) (hi : (i : Int) < M 1 3) {sh : Int} (h0 : 0 ≤ sh) (h1 : sh ≤ 300) : fX2_firstToBegin p r i sh X = some (enc (yvan4 M i sh)) := by
  have hd := hV.2.2.2.2.1
  obtain ⟨-, -, -, -, ⟨p1, p2⟩, ⟨p3, p4⟩⟩ := hV.2.2.2.2.2.2 i hi
  unfold fX2_firstToBegin
  have := x_ftb hV hR hS hP hi h0 h1 (M 1 4).toNat 4000 0 none 0 (by omega) (by omega) (fun u hu => by cases hu)
  rw [x_visitFact hV hS hi (k := 4) 4 rfl (by decide), bnd_s, x_visitFact hV hS hi (k := 5) 5 rfl (by decide), bnd_s, gd_R (by omega) (by omega), gd_R (by omega) (by omega), show fX2_firstToBegin_L30 4000 p r i (yvis M i 4 + sh) (yvis M i 5 + sh) (-6) 0 0 X = some (enc (yvan4 M i sh)) from this, bnd_s]
theorem yrs_4 (M : MM) (i : Nat) : ∀ (k v : Nat), yrs M i k v 4 = 4 := by
  intro k
  induction k with
  | zero => intro v; rfl
  | succ k ih =>
    intro v
    rw [yrs]
    by_cases k1 : yskill M v i
    · rw [if_pos k1]
      by_cases k2 : yparts M v i
      · rw [if_pos k2, if_pos (by decide)]; exact ih _
      · rw [if_neg k2, if_pos (by decide)]; exact ih _
    · rw [if_neg k1, if_pos (by decide)]; exact ih _
theorem x_rs (hV : ValS M) (hS : xS X M r) (hP : xP X M p) (hi : (i : Int) < M 1 3) : ∀ (k n v : Nat) (z : Int), (v : Int) + k = M 1 4 → k < n → (z = 2 ∨ z = 3) → fX2_reason_L5 n p r i z v X = some (yrs M i k v z) := by
  intro k
  induction k with
  | zero =>
    intro n v z hk hn hz
    obtain ⟨n, rfl⟩ : ∃ q, n = q + 1 := ⟨n - 1, by omega⟩
    rw [fX2_reason_L5, hP.2.1, if_pos (by omega)]
    rfl
  | succ k ih =>
    intro n v z hk hn hz
    obtain ⟨n, rfl⟩ : ∃ q, n = q + 1 := ⟨n - 1, by omega⟩
    have hv : (v : Int) < M 1 4 := by omega
    have hd : M 1 4 ≤ 4 := hV.2.2.2.2.1.2
    rw [fX2_reason_L5, hP.2.1, if_neg (by omega), x_skill hV hS hv hi, bnd_s, yrs]
    by_cases k1 : yskill M v i
    · rw [if_pos k1, if_pos k1, if_neg (by decide), x_parts hV hS hP hv hi, bnd_s]
      by_cases k2 : yparts M v i
      · rw [if_pos k2, if_pos k2, if_neg (by decide), if_neg (by omega), yrs_4]
      · rw [if_neg k2, if_neg k2, if_pos rfl, gd_R (by omega) (by omega)]
        have := ih n (v + 1) 3 (by omega) (by omega) (Or.inr rfl)
        rw [show (if (3 : Int) ≤ z then z else 3) = 3 by rcases hz with rfl | rfl <;> rfl]
        exact this
    · rw [if_neg k1, if_neg k1, if_pos rfl, gd_R (by omega) (by omega), if_pos (by omega)]
      exact ih n (v + 1) z (by omega) (by omega) hz
theorem x_reason (hV : ValS M) (hS : xS X M r) (hP : xP X M p) (hi : (i : Int) < M 1 3) : fX2_reason p r i X = some (yreason M i) := by
  have hd := hV.2.2.2.2.1
  unfold fX2_reason
  exact x_rs hV hS hP hi (M 1 4).toNat 4000 0 2 (by omega) (by omega) (Or.inl rfl)
end XP
