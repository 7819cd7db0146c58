/-! THE PASSES: both sides look at the visits in their order, twice -/
section XPS
variable {X M : MM} {t : Int} {r p : Nat}
/-- what both sides know of a visit -/
def xD (X Y : MM) (p i : Nat) : Prop := xO X Y p i (Y 7 i) ∧ (0 ≤ Y 7 i ∧ Y 7 i ≤ 4) ∧ ((Y 8 i = -6 ∧ Y 9 i = -6) ∨ (Y 7 i ≤ 1 ∧ ∃ v : Nat, (v : Int) < Y 1 4 ∧ Y 8 i = v))
theorem xQ_7 {Z Y : MM} (h : ∀ c, c ≠ 7 → Z c = Y c) (hQ : xQ X Y p r t) : xQ X Z p r t := by
  obtain ⟨hV, hR, hS, hP, hE⟩ := hQ
  have h1 := h 1 (by decide)
  refine ⟨ValS_1 h1 hV, ?_, xS_1 h1 hS, ?_, ?_⟩
  · unfold RunS
    rw [h1, h 12 (by decide), h 13 (by decide), h 15 (by decide), h 16 (by decide), h 14 (by decide)]
    exact hR
  · unfold xP
    rw [h1, h 12 (by decide), h 13 (by decide), h 15 (by decide), h 16 (by decide), h 14 (by decide)]
    exact hP
  · intro v hv
    rw [h1] at hv ⊢
    obtain ⟨⟨G, g1, g2⟩, g3, g4⟩ := hE v hv
    refine ⟨⟨G, ?_, ?_⟩, ?_, ?_⟩
    · unfold vanG
      rw [h1, h 8 (by decide), h 9 (by decide), h 10 (by decide), h 11 (by decide), h 13 (by decide)]
      exact g1
    · rw [evG_eq h1 G (fun j _ => by rw [h 9 (by decide), h 10 (by decide), h 11 (by decide)]; exact ⟨rfl, rfl, rfl⟩)]
      exact g2
    · rw [g3]
      exact ymask_eq _ _ _ (fun j _ _ => by rw [h 8 (by decide)])
    · rw [g4]
      exact yevn_eq _ _ _ (fun j _ _ => by rw [h 8 (by decide), h 9 (by decide), h 10 (by decide), h 11 (by decide)]; exact ⟨Iff.rfl, fun _ => ⟨rfl, rfl, rfl⟩⟩)
theorem ylook_cases {i : Nat} (sh kept : Int) (hV : ValS M) : ((ylook M i sh kept).2 = M ∧ 2 ≤ (ylook M i sh kept).1 ∧ (ylook M i sh kept).1 ≤ 4) ∨ ((ylook M i sh kept).1 = kept ∧ ∃ u : Nat, (u : Int) < M 1 4 ∧ (ylook M i sh kept).2 8 i = u) := by
  unfold ylook
  cases hb : yvan4 M i sh with
  | none => exact Or.inl ⟨rfl, yreason_b M i⟩
  | some u => exact Or.inr ⟨rfl, u, (yvan4_lt hV hb).1, (ymk_8 M u i sh i).trans (if_pos rfl)⟩
/-- one look, then the promise is kept: what both sides know behind it -/
theorem look_step {i : Nat} (h : xQ X M p r t) (ht : 0 ≤ t ∧ t ≤ 100) (hr : r < 11) (hi : (i : Int) < M 1 3) (h8 : M 8 i = -6) (h9 : M 9 i = -6) {lk : Int} (hlk : lk = 0 ∨ lk = 1) :
    ∃ (X1 N W : MM) (w : Int), fX2_look p r i lk X = some X1 ∧ fX5_looks i (lk * M 1 2) lk M = some (w, N) ∧ W = stM N 7 i w ∧ wr N 7 21 i w = some W ∧ xQ X1 W p r (t + 1) ∧ xD X1 W p i ∧ (∀ j, j ≠ i → W 8 j = M 8 j ∧ W 9 j = M 9 j ∧ W 7 j = M 7 j) ∧ (∀ j, j ≠ i → xD X M p j → xD X1 W p j) ∧ (∀ c, c ≠ 55 + 6 * p + 2 → c ≠ 55 + 6 * p + 3 → c ≠ 55 + 6 * p + 4 → c ≠ 55 + 6 * p + 5 → X1 c = X c) ∧ (∀ c, c < 7 ∨ 16 < c → W c = M c) := by
  obtain ⟨X1, a1, a2, a3, a4, a5⟩ := x_look h ht hr hi h8 h9 hlk
  obtain ⟨hV, hR, -, -, -⟩ := h
  have hs : 0 ≤ lk * M 1 2 ∧ lk * M 1 2 ≤ 300 := by
    have := hV.2.2.1
    rcases hlk with e | e
    · rw [e]; omega
    · rw [e]; omega
  have hc3 := hV.2.2.2.1
  have ey := y_looks hV hR ht hi hs.1 hs.2 lk
  have hcs := ylook_cases (i := i) (lk * M 1 2) lk hV
  have hc := fun c => ylook_c (M := M) (i := i) (lk * M 1 2) lk (c := c)
  have e8 := fun j => ylook_8 (M := M) (i := i) (lk * M 1 2) lk (j := j)
  have e9 := fun j => ylook_9 (M := M) (i := i) (lk * M 1 2) lk (j := j)
  generalize ylook M i (lk * M 1 2) lk = R at *
  obtain ⟨w, N⟩ := R
  dsimp only at a2 a3 hcs hc e8 e9
  have hw : 0 ≤ w ∧ w ≤ 4 := by
    rcases hcs with ⟨-, q1, q2⟩ | ⟨q1, -⟩
    · omega
    · rcases hlk with e | e <;> omega
  have hN1 : N 1 = M 1 := hc 1 (by decide)
  have hW : ∀ c, c ≠ 7 → stM N 7 i w c = N c := fun c hc => st_cell hc
  have hO : ∀ j, xO X1 N p j (stM N 7 i w 7 j) → xO X1 (stM N 7 i w) p j (stM N 7 i w 7 j) := fun j q => by
    unfold xO at q ⊢
    rw [hW 8 (by decide), hW 9 (by decide), hW 1 (by decide)]
    exact q
  refine ⟨X1, N, stM N 7 i w, w, a1, ey, rfl, wr_n i rfl (by omega) ⟨by omega, by omega⟩, xQ_7 hW a2, ⟨hO i (by rw [st_at]; exact a3), by rw [st_at]; exact hw, ?_⟩, fun j hj => ?_, fun j hj hd => ?_, a4, fun c hc2 => ?_⟩
  · rw [hW 8 (by decide), hW 9 (by decide), st_at, hW 1 (by decide), hN1]
    rcases hcs with ⟨q, -, -⟩ | ⟨q1, u, q2, q3⟩
    · rw [q]; exact Or.inl ⟨h8, h9⟩
    · exact Or.inr ⟨by rcases hlk with e | e <;> omega, u, q2, q3⟩
  · rw [hW 8 (by decide), hW 9 (by decide), e8 j hj, e9 j hj, st_k hj]
    refine ⟨rfl, rfl, ?_⟩
    rw [show N 7 = M 7 from hc 7 (by decide)]
  · obtain ⟨d1, d2, d3⟩ := hd
    have e7 : stM N 7 i w 7 j = M 7 j := by rw [st_k hj, hc 7 (by decide)]
    unfold xD
    rw [e7, hW 8 (by decide), hW 9 (by decide), hW 1 (by decide), e8 j hj, e9 j hj, hN1]
    refine ⟨?_, d2, d3⟩
    unfold xO at d1 ⊢
    rw [hW 8 (by decide), hW 9 (by decide), hW 1 (by decide), e8 j hj, e9 j hj, hN1, a5 j 0 hj (by decide), a5 j 1 hj (by decide), a5 j 2 hj (by decide), a5 j 3 hj (by decide)]
    exact d1
  · rw [hW c (by omega), hc c (by omega)]
end XPS
