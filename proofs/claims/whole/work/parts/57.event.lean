/-! QUERIES on both sides: an event of a van -/
def tl (q : EvT) (w : Int) : Int := if w = 0 then q.1 else if w = 1 then q.2.1 else if w = 2 then q.2.2.1 else if w = 3 then q.2.2.2 else -2
theorem p_tells (s b e i w : Int) : fX5_tells s b e i w = some (tl (s, b, e, i) w) := by
  unfold fX5_tells tl
  by_cases h0 : w = 0
  · rw [if_pos h0, if_pos h0, bnd_s]
  · rw [if_neg h0, if_neg h0]
    by_cases h1 : w = 1
    · rw [if_pos h1, if_pos h1, bnd_s]
    · rw [if_neg h1, if_neg h1]
      by_cases h2 : w = 2
      · rw [if_pos h2, if_pos h2, bnd_s]
      · rw [if_neg h2, if_neg h2]
        by_cases h3 : w = 3
        · rw [if_pos h3, if_pos h3, bnd_s]
        · rw [if_neg h3, if_neg h3, bnd_s]
section EV
variable {X K : MM}
/-- the next visit of a van: the one that begins first behind b -/
theorem y_next (hV : ValS K) {v j : Nat} {b : Int} (hj : (j : Int) < K 1 3) (h8 : K 8 j = v) (hb : b < K 9 j) (hm : ∀ m : Nat, (m : Int) < K 1 3 → K 8 m = v → b < K 9 m → m ≠ j → K 9 j < K 9 m) : fX5_nextVisit v b K = some (j : Int) := by
  have hc := hV.2.2.2.1
  have L : ∀ (k n m : Nat) (o : Option Nat), (m : Int) + k = K 1 3 → k < n → (j < m → o = some j) → (m ≤ j → ∀ c, o = some c → c < 21 ∧ K 9 j < K 9 c) → fX5_nextVisit_L6 n v b (enc o) m K = some (j : Int) := by
    intro k
    induction k with
    | zero =>
      intro n m o hk hn h1 h2
      obtain ⟨n, rfl⟩ : ∃ q, n = q + 1 := ⟨n - 1, by omega⟩
      rw [fX5_nextVisit_L6, rd_n (i := 3) 3 rfl (by decide), bnd_s, if_pos (by omega), h1 (by omega)]
      rfl
    | succ k ih =>
      intro n m o hk hn h1 h2
      obtain ⟨n, rfl⟩ : ∃ q, n = q + 1 := ⟨n - 1, by omega⟩
      have hmn : (m : Int) < K 1 3 := by omega
      rw [fX5_nextVisit_L6, rd_n (i := 3) 3 rfl (by decide), bnd_s, if_neg (by omega), rd_n m rfl (by omega), bnd_s, rd_n m rfl (by omega), bnd_s]
      by_cases c8 : K 8 m = (v : Int)
      · rw [if_pos c8]
        by_cases c9 : K 9 m ≤ b
        · rw [if_pos c9, bnd_s, if_pos rfl, bnd_s, gd_R (by omega) (by omega)]
          have hne : m ≠ j := fun e => by rw [e] at c9; omega
          exact ih n (m + 1) o (by omega) (by omega) (fun h => h1 (by omega)) (fun h => h2 (by omega))
        · rw [if_neg c9]
          cases o with
          | none =>
            rw [if_pos (show enc none = (-6) from rfl), bnd_s, if_neg (by decide), bnd_s, gd_R (by omega) (by omega)]
            have hnj : ¬ j < m := fun h => by cases h1 h
            exact ih n (m + 1) (some m) (by omega) (by omega) (fun h => by rw [show m = j by omega]) (fun h c hc => by
              cases hc
              exact ⟨by omega, hm m hmn c8 (by omega) (by omega)⟩)
          | some c =>
            have ec : enc (some c) = (c : Int) := rfl
            rw [ec, if_neg (by omega), bnd_s]
            by_cases hlt : j < m
            · have e := h1 hlt
              cases e
              have := hm m hmn c8 (by omega) (by omega)
              rw [rd_n j rfl (by omega), bnd_s, if_pos (by omega), bnd_s, if_pos rfl, bnd_s, gd_R (by omega) (by omega)]
              exact ih n (m + 1) (some j) (by omega) (by omega) (fun _ => rfl) (fun h => by omega)
            · obtain ⟨c21, cj⟩ := h2 (by omega) c rfl
              rw [rd_n c rfl c21, bnd_s]
              by_cases e : m = j
              · rw [e, if_neg (by omega), bnd_s, if_neg (by decide), bnd_s, gd_R (by omega) (by omega)]
                exact ih n (j + 1) (some j) (by omega) (by omega) (fun _ => rfl) (fun h => by omega)
              · have h9 := hm m hmn c8 (by omega) e
                by_cases q : K 9 c ≤ K 9 m
                · rw [if_pos q, bnd_s, if_pos rfl, bnd_s, gd_R (by omega) (by omega)]
                  exact ih n (m + 1) (some c) (by omega) (by omega) (fun h => by omega) (fun _ c' hc => by cases hc; exact ⟨c21, cj⟩)
                · rw [if_neg q, bnd_s, if_neg (by decide), bnd_s, gd_R (by omega) (by omega)]
                  exact ih n (m + 1) (some m) (by omega) (by omega) (fun h => by omega) (fun _ c' hc => by cases hc; exact ⟨by omega, h9⟩)
      · rw [if_neg c8, bnd_s, if_pos rfl, bnd_s, gd_R (by omega) (by omega)]
        have hne : m ≠ j := fun e => by rw [e] at c8; exact c8 h8
        exact ih n (m + 1) o (by omega) (by omega) (fun h => h1 (by omega)) (fun h => h2 (by omega))
  unfold fX5_nextVisit
  have := L (K 1 3).toNat 4000 0 none (by omega) (by omega) (fun h => by omega) (fun _ c hc => by cases hc)
  rw [show fX5_nextVisit_L6 4000 v b (-6) 0 K = some (j : Int) from this, bnd_s]
end EV
