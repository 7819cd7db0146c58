/-! QUERIES on both sides: an event of a van, whole -/
section EW
variable {X K : MM}
/-- the loop at one visit: the event is the visit's own, or it is looked for behind it -/
theorem ev_one (n v : Nat) (w : Int) (e i : Nat) (hi : i < 21) (he : e ≤ 100) (h1 : K 11 i ≤ K 10 i) (h2 : K 10 i ≤ K 9 i) (h3 : 0 < K 1 1) (h4 : inR (K 9 i + K 1 1)) :
    (∀ q, (evs (K 11 i) (K 10 i) (K 9 i) (K 9 i + K 1 1) i)[e]? = some q → fX5_event_L47 (n + 1) v w e i K = some (tl q w, K)) ∧
    ((evs (K 11 i) (K 10 i) (K 9 i) (K 9 i + K 1 1) i).length ≤ e → fX5_event_L47 (n + 1) v w e i K = bnd (fX5_nextVisit v (K 9 i) K) (fun j => fX5_event_L47 n v w ((e - (evs (K 11 i) (K 10 i) (K 9 i) (K 9 i + K 1 1) i).length : Nat) : Int) j K)) := by
  have r9 : rd K 9 21 i = some (K 9 i) := rd_n i rfl hi
  have r10 : rd K 10 21 i = some (K 10 i) := rd_n i rfl hi
  have r11 : rd K 11 21 i = some (K 11 i) := rd_n i rfl hi
  have r1 : rd K 1 160 1 = some (K 1 1) := rd_n (i := 1) 1 rfl (by decide)
  have hlast : ¬ K 9 i = K 9 i + K 1 1 := by omega
  have z0 : ((e : Int) = 0) = (e = 0) := propext ⟨fun h => by omega, fun h => by omega⟩
  have z1 : ((e : Int) + -1 = 0) = (e = 1) := propext ⟨fun h => by omega, fun h => by omega⟩
  have z2 : ((e : Int) + -1 + -1 = 0) = (e = 2) := propext ⟨fun h => by omega, fun h => by omega⟩
  rw [fX5_event_L47, r10, r11, r9, r1]
  simp only [bnd_s, p_tells, gd_s h4, gd_R (show -2147483648 ≤ (e : Int) + -1 by omega) (show (e : Int) + -1 ≤ 2147483647 by omega), gd_R (show -2147483648 ≤ (e : Int) + -1 + -1 by omega) (show (e : Int) + -1 + -1 ≤ 2147483647 by omega), gd_R (show -2147483648 ≤ (e : Int) + -1 + -1 + -1 by omega) (show (e : Int) + -1 + -1 + -1 ≤ 2147483647 by omega), z0, z1, z2]
  unfold evs
  rw [if_neg hlast]
  by_cases c1 : K 11 i = K 10 i
  · rw [if_pos c1, if_pos (show K 10 i ≤ K 11 i by omega)]
    by_cases c2 : K 10 i = K 9 i
    · rw [if_pos c2, if_pos (show K 9 i ≤ K 10 i by omega)]
      refine ⟨fun q hq => ?_, fun hl => ?_⟩
      · match e, hq with
        | 0, hq => cases hq; rw [if_pos rfl]
      · have hl : 1 ≤ e := hl
        rw [if_neg (by omega)]
        congr 1
        funext j
        congr 1
        show (e : Int) + -1 = ((e - 1 : Nat) : Int)
        omega
    · rw [if_neg c2, if_neg (show ¬ K 9 i ≤ K 10 i by omega)]
      refine ⟨fun q hq => ?_, fun hl => ?_⟩
      · match e, hq with
        | 0, hq => cases hq; rw [if_pos rfl]
        | 1, hq => cases hq; rw [if_neg (by decide), if_pos rfl]
      · have hl : 2 ≤ e := hl
        rw [if_neg (by omega), if_neg (by omega)]
        congr 1
        funext j
        congr 1
        show (e : Int) + -1 + -1 = ((e - 2 : Nat) : Int)
        omega
  · rw [if_neg c1, if_neg (show ¬ K 10 i ≤ K 11 i by omega)]
    by_cases c2 : K 10 i = K 9 i
    · rw [if_pos c2, if_pos (show K 9 i ≤ K 10 i by omega)]
      refine ⟨fun q hq => ?_, fun hl => ?_⟩
      · match e, hq with
        | 0, hq => cases hq; rw [if_pos rfl]
        | 1, hq => cases hq; rw [if_neg (by decide), if_pos rfl]
      · have hl : 2 ≤ e := hl
        rw [if_neg (by omega), if_neg (by omega)]
        congr 1
        funext j
        congr 1
        show (e : Int) + -1 + -1 = ((e - 2 : Nat) : Int)
        omega
    · rw [if_neg c2, if_neg (show ¬ K 9 i ≤ K 10 i by omega)]
      refine ⟨fun q hq => ?_, fun hl => ?_⟩
      · match e, hq with
        | 0, hq => cases hq; rw [if_pos rfl]
        | 1, hq => cases hq; rw [if_neg (by decide), if_pos rfl]
        | 2, hq => cases hq; rw [if_neg (by decide), if_neg (by decide), if_pos rfl]
      · have hl : 3 ≤ e := hl
        rw [if_neg (by omega), if_neg (by omega), if_neg (by omega)]
        congr 1
        funext j
        congr 1
        show (e : Int) + -1 + -1 + -1 = ((e - 3 : Nat) : Int)
        omega
/-- the walk along a van's visits -/
theorem ev_walk (hV : ValS K) (hR : RunS K 100) {v : Nat} (hv : (v : Int) < K 1 4) {G : List Nat} (hG : vanG K v G) (w : Int) : ∀ (G2 : List Nat) (i : Nat) (G1 : List Nat) (n e : Nat) (q : EvT), G = G1 ++ i :: G2 → G2.length < n → e ≤ 100 → (evG K (i :: G2))[e]? = some q → fX5_event_L47 n v w e i K = some (tl q w, K) := by
  have hc := hV.2.2.2.1
  have hb1 := hV.2.1
  have hr := (hR v hv).2.1
  obtain ⟨g1, g2, g3, g4⟩ := hG
  intro G2
  induction G2 with
  | nil =>
    intro i G1 n e q hG hn he hq
    obtain ⟨n, rfl⟩ : ∃ q, n = q + 1 := ⟨n - 1, by omega⟩
    have hi : i ∈ G := by rw [hG]; exact List.mem_append_right _ List.mem_cons_self
    have hi2 := ((g2 i).mp hi).1
    obtain ⟨a1, a2, a3, a4⟩ := g3 i hi
    have hq2 : (evs (K 11 i) (K 10 i) (K 9 i) (K 9 i + K 1 1) i)[e]? = some q := by
      unfold evG at hq
      rw [List.flatMap_cons, List.flatMap_nil, List.append_nil] at hq
      exact hq
    exact (ev_one n v w e i (by omega) he a3 a4 (by omega) ⟨by omega, by omega⟩).1 q hq2
  | cons j G2 ih =>
    intro i G1 n e q hG hn he hq
    obtain ⟨n, rfl⟩ : ∃ q, n = q + 1 := ⟨n - 1, by omega⟩
    have hi : i ∈ G := by rw [hG]; exact List.mem_append_right _ List.mem_cons_self
    have hjG : j ∈ G := by rw [hG]; exact List.mem_append_right _ (List.mem_cons_of_mem _ List.mem_cons_self)
    have hi2 := ((g2 i).mp hi).1
    have hj2 := (g2 j).mp hjG
    obtain ⟨a1, a2, a3, a4⟩ := g3 i hi
    obtain ⟨o1, o2⟩ := ev_one n v w e i (by omega) he a3 a4 (by omega) ⟨by omega, by omega⟩
    have hq2 : (evs (K 11 i) (K 10 i) (K 9 i) (K 9 i + K 1 1) i ++ evG K (j :: G2))[e]? = some q := by
      unfold evG at hq ⊢
      rw [List.flatMap_cons] at hq
      exact hq
    by_cases hl : e < (evs (K 11 i) (K 10 i) (K 9 i) (K 9 i + K 1 1) i).length
    · rw [List.getElem?_append_left hl] at hq2
      exact o1 q hq2
    · rw [List.getElem?_append_right (by omega)] at hq2
      have hp := g4
      rw [hG, List.pairwise_append, List.pairwise_cons, List.pairwise_cons] at hp
      obtain ⟨-, ⟨p1, p2, -⟩, p3⟩ := hp
      have hnx : fX5_nextVisit v (K 9 i) K = some (j : Int) := y_next hV hj2.1 hj2.2 (p1 j List.mem_cons_self) (fun m hm h8 hb hne => by
        have hmG : m ∈ G := (g2 m).mpr ⟨hm, h8⟩
        rw [hG] at hmG
        rcases List.mem_append.mp hmG with h | h
        · have := p3 m h i List.mem_cons_self; omega
        · rcases List.mem_cons.mp h with h | h
          · rw [h] at hb; omega
          · rcases List.mem_cons.mp h with h | h
            · exact absurd h hne
            · exact p2 m h)
      rw [o2 (by omega), hnx, bnd_s]
      have hn' : G2.length < n := by
        rw [List.length_cons] at hn
        omega
      exact ih j (G1 ++ [i]) n _ q (by rw [hG, List.append_assoc]; rfl) hn' (by omega) hq2
theorem evs_ge {f c b e : Int} (i : Nat) (h : ¬ b = e) : 1 ≤ (evs f c b e i).length := by
  unfold evs
  rw [if_neg h, List.length_append, List.length_append]
  exact Nat.le_trans (Nat.le_add_left 1 _) (Nat.le_add_left _ _)
theorem evG_ge (h : 0 < K 1 1) : ∀ (G : List Nat), G.length ≤ (evG K G).length := by
  intro G
  induction G with
  | nil => exact Nat.zero_le _
  | cons a G ih =>
    unfold evG at ih ⊢
    rw [List.flatMap_cons, List.length_append, List.length_cons]
    have := evs_ge (f := K 11 a) (c := K 10 a) (b := K 9 a) (e := K 9 a + K 1 1) a (by omega)
    omega
theorem q_event {Y : MM} (hV : ValS Y) (hS : xS X Y 0) (hN : PN X Y 0 0) (a b c : Int) : ∃ (res : Int) (Y' : MM), fX4_event a b c X = some res ∧ fX5_event a b c Y = some (res, Y') ∧ QY Y Y' := by
  obtain ⟨K, k1, k2, k3, k4⟩ := q_plan hV hS hN
  have hc := hV.2.2.2.2.1
  have hV1 : ValS (stM Y 0 0 0) := ValS_1 (st_cell (by decide)) hV
  have hVK : ValS K := k2.1.1
  have hc3 := hVK.2.2.2.1
  have e3 : (stM Y 0 0 0) 1 4 = Y 1 4 := st_c (by decide)
  have one : ¬ (1 : Int) = 0 := by decide
  unfold fX4_event fX5_event
  rw [x_hasVan hS, bnd_s, bnd_s, y_isVan hV1, bnd_s, e3]
  by_cases h : 0 ≤ a ∧ a < Y 1 4
  · obtain ⟨v, rfl⟩ : ∃ i : Nat, a = i := ⟨a.toNat, by omega⟩
    have hvK : (v : Int) < K 1 4 := by rw [k4]; exact h.2
    obtain ⟨⟨G, g1, g2⟩, -, f5⟩ := k2.1.2.2.2.2 v hvK
    have hlen : (evG K G).length ≤ 63 := by
      have := yevn_le K v (K 1 3).toNat 0 0
      have e := g2.1
      omega
    have ed : fX2_driveFact 0 v 5 X = some ((evG K G).length : Int) := by
      unfold fX2_driveFact
      rw [rd_n (6 * v + 5) (by omega) (by omega), bnd_s, g2.1]
    have ey : fX5_eventsOf v K = some ((evG K G).length : Int) := by
      rw [y_eventsOf hVK, ← f5, g2.1]
    rw [if_pos h, if_neg one, if_neg one, ed, bnd_s, k1, bnd_s, ey, bnd_s, gd_R (by omega) (by omega), p_in, bnd_s]
    by_cases hb : 0 ≤ b ∧ b < ((evG K G).length : Int)
    · obtain ⟨e, rfl⟩ : ∃ i : Nat, b = i := ⟨b.toNat, by omega⟩
      have hel : e < (evG K G).length := by omega
      have hq : (evG K G)[e]? = some ((evG K G)[e]) := List.getElem?_eq_getElem hel
      generalize (evG K G)[e] = q at hq
      obtain ⟨t0, t1, t2, t3⟩ := g2.2 e q hq
      have hGge := evG_ge (K := K) (by have := hVK.2.1; omega) G
      refine ⟨tl q c, K, ?_, ?_, k3⟩
      · rw [if_neg (by omega), if_pos hb.2, p_within, bnd_s]
        have er : ∀ j : Nat, j < 4 → fX2_eventFact 0 v e j X = some (X (55 + 6 * 0 + 5) (4 * (63 * v + e) + j)) := fun j hj => by
          unfold fX2_eventFact
          rw [rd_n (4 * (63 * v + e) + j) (by omega) (by omega), bnd_s]
        unfold tl
        by_cases c0 : c = 0
        · subst c0
          rw [if_neg (by decide), show (0 : Int) = ((0 : Nat) : Int) from rfl, er 0 (by decide), bnd_s, t0, if_pos rfl]
        · rw [if_neg c0]
          by_cases c1 : c = 1
          · subst c1
            rw [if_neg (by decide), show (1 : Int) = ((1 : Nat) : Int) from rfl, er 1 (by decide), bnd_s, t1, if_pos rfl]
          · rw [if_neg c1]
            by_cases c2 : c = 2
            · subst c2
              rw [if_neg (by decide), show (2 : Int) = ((2 : Nat) : Int) from rfl, er 2 (by decide), bnd_s, t2, if_pos rfl]
            · rw [if_neg c2]
              by_cases c3 : c = 3
              · subst c3
                rw [if_neg (by decide), show (3 : Int) = ((3 : Nat) : Int) from rfl, er 3 (by decide), bnd_s, t3, if_pos rfl]
              · rw [if_neg c3, if_neg (show ¬ (0 ≤ c ∧ c ≤ 3) by omega), if_pos rfl]
      · rw [if_pos (show (0 : Int) ≤ (e : Int) ∧ (e : Int) ≤ ((evG K G).length : Int) - 1 by omega), if_neg one]
        match G, g1, hq, hGge with
        | [], _, hq, _ => cases hq
        | i :: G2, g1, hq, hGge =>
          have hi := (g1.2.1 i).mp List.mem_cons_self
          have hp := g1.2.2.2
          rw [List.pairwise_cons] at hp
          have h0 := (g1.2.2.1 i List.mem_cons_self).1
          have hnx : fX5_nextVisit v (-1) K = some (i : Int) := y_next hVK hi.1 hi.2 (by omega) (fun m hm h8 hb hne => by
            have hmG : m ∈ i :: G2 := (g1.2.1 m).mpr ⟨hm, h8⟩
            rcases List.mem_cons.mp hmG with h | h
            · exact absurd h hne
            · exact hp.1 m h)
          rw [hnx, bnd_s]
          have hn' : G2.length < 4000 := by
            rw [List.length_cons] at hGge
            omega
          exact ev_walk hVK k2.1.2.1 hvK g1 c G2 i [] 4000 e q rfl hn' (by omega) hq
    · refine ⟨-1, K, ?_, ?_, k3⟩
      · by_cases b0 : b < 0
        · rw [if_pos b0]
        · rw [if_neg b0, if_neg (by omega)]
      · rw [if_neg (show ¬ (0 ≤ b ∧ b ≤ ((evG K G).length : Int) - 1) by omega), if_pos rfl]
  · rw [if_neg h, if_pos rfl, if_pos rfl]
    exact ⟨_, _, rfl, rfl, QY_st Y⟩
end EW
