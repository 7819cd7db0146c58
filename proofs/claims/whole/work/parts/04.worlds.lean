abbrev vwCl : List vw_C := [(RX0, TX0, 3), (RX1, TX1, 6), (RX2, TX2, 7), (RX3, TX3, 6), (RX4, TX4, 8), (RX5, TX5, 23)]
/-! THE TWO WORLDS: the class has 75 cells (11 roads of 5, 2 plans of 6, history, states, slots, saved, pad, signs, told, the object), the reference 18 -/
abbrev tyX (ca : Nat → ClassId) : List (ClassId × FieldType) := [(ca 0, .int), (ca 1, .char), (ca 2, .boolean), (ca 3, .object "VisitVans$Road")]
def gX (ca : Nat → ClassId) (ad : Nat → Nat) (c : Nat) (f : Nat → Int) : va_E :=
  if c < 55 then
    if c % 5 = 0 then .inr (3, [.ref (ad (c + 1)), .ref (ad (c + 2)), .ref (ad (c + 3)), .ref (ad (c + 4)), .int (J (f 4)), .int (J (f 5))])
    else if c % 5 = 1 then .inl (ca 0, 3, .inl (fun j => J (f j)))
    else if c % 5 = 2 then .inl (ca 0, 126, .inl (fun j => J (f j)))
    else if c % 5 = 3 then .inl (ca 0, 8, .inl (fun j => J (f j)))
    else .inl (ca 0, 20, .inl (fun j => J (f j)))
  else if c < 67 then
    if (c - 55) % 6 = 0 then .inr (2, [.ref (ad (c + 1)), .ref (ad (c + 2)), .ref (ad (c + 3)), .ref (ad (c + 4)), .ref (ad (c + 5)), .int (J (f 5)), .int (J (f 6))])
    else if (c - 55) % 6 = 1 then .inl (ca 0, 21, .inl (fun j => J (f j)))
    else if (c - 55) % 6 = 2 then .inl (ca 0, 84, .inl (fun j => J (f j)))
    else if (c - 55) % 6 = 3 then .inl (ca 0, 24, .inl (fun j => J (f j)))
    else if (c - 55) % 6 = 4 then .inl (ca 0, 20, .inl (fun j => J (f j)))
    else .inl (ca 0, 1008, .inl (fun j => J (f j)))
  else if c = 67 then .inr (0, [.ref (ad 68), .int (J (f 1)), .int (J (f 2))])
  else if c = 68 then .inl (ca 3, 7, .inr (.inr (.inr (.inr (fun j => some (ad (5 * (4 + j))))))))
  else if c = 69 then .inl (ca 3, 2, .inr (.inr (.inr (.inr (fun j => some (ad (5 * (2 + j))))))))
  else if c = 70 then .inl (ca 2, 2, .inl (fun j => J (f j)))
  else if c = 71 then .inr (1, [.ref (ad 72), .int (J (f 1)), .int (J (f 2)), .int (J (f 3)), .ref (ad 73), .int (J (f 5))])
  else if c = 72 then .inl (ca 1, 80, .inl (fun j => J (f j)))
  else if c = 73 then .inl (ca 0, 6, .inl (fun j => J (f j)))
  else .inr (4, [.ref (ad (5 * 0)), .ref (ad (55 + 6 * 0)), .ref (ad (5 * 1)), .ref (ad (55 + 6 * 1)), .ref (ad 67), .ref (ad 69), .ref (ad 70), .ref (ad 71)])
section GX
variable {ca : Nat → ClassId} {ad : Nat → Nat} {M : MM}
theorem gX_r0 {r : Nat} (h : r < 11) (f : Nat → Int) : gX ca ad (5 * r) f = .inr (3, [.ref (ad (5 * r + 1)), .ref (ad (5 * r + 2)), .ref (ad (5 * r + 3)), .ref (ad (5 * r + 4)), .int (J (f 4)), .int (J (f 5))]) := by
  unfold gX
  rw [if_pos (by omega), if_pos (by omega)]
theorem gX_r1 {r : Nat} (h : r < 11) (f : Nat → Int) : gX ca ad (5 * r + 1) f = .inl (ca 0, 3, .inl (fun j => J (f j))) := by
  unfold gX
  rw [if_pos (by omega), if_neg (by omega), if_pos (by omega)]
theorem gX_r2 {r : Nat} (h : r < 11) (f : Nat → Int) : gX ca ad (5 * r + 2) f = .inl (ca 0, 126, .inl (fun j => J (f j))) := by
  unfold gX
  rw [if_pos (by omega), if_neg (by omega), if_neg (by omega), if_pos (by omega)]
theorem gX_r3 {r : Nat} (h : r < 11) (f : Nat → Int) : gX ca ad (5 * r + 3) f = .inl (ca 0, 8, .inl (fun j => J (f j))) := by
  unfold gX
  rw [if_pos (by omega), if_neg (by omega), if_neg (by omega), if_neg (by omega), if_pos (by omega)]
theorem gX_r4 {r : Nat} (h : r < 11) (f : Nat → Int) : gX ca ad (5 * r + 4) f = .inl (ca 0, 20, .inl (fun j => J (f j))) := by
  unfold gX
  rw [if_pos (by omega), if_neg (by omega), if_neg (by omega), if_neg (by omega), if_neg (by omega)]
theorem gX_p0 {r : Nat} (h : r < 2) (f : Nat → Int) : gX ca ad (55 + 6 * r) f = .inr (2, [.ref (ad (55 + 6 * r + 1)), .ref (ad (55 + 6 * r + 2)), .ref (ad (55 + 6 * r + 3)), .ref (ad (55 + 6 * r + 4)), .ref (ad (55 + 6 * r + 5)), .int (J (f 5)), .int (J (f 6))]) := by
  unfold gX
  rw [if_neg (by omega), if_pos (by omega), if_pos (by omega)]
theorem gX_p1 {r : Nat} (h : r < 2) (f : Nat → Int) : gX ca ad (55 + 6 * r + 1) f = .inl (ca 0, 21, .inl (fun j => J (f j))) := by
  unfold gX
  rw [if_neg (by omega), if_pos (by omega), if_neg (by omega), if_pos (by omega)]
theorem gX_p2 {r : Nat} (h : r < 2) (f : Nat → Int) : gX ca ad (55 + 6 * r + 2) f = .inl (ca 0, 84, .inl (fun j => J (f j))) := by
  unfold gX
  rw [if_neg (by omega), if_pos (by omega), if_neg (by omega), if_neg (by omega), if_pos (by omega)]
theorem gX_p3 {r : Nat} (h : r < 2) (f : Nat → Int) : gX ca ad (55 + 6 * r + 3) f = .inl (ca 0, 24, .inl (fun j => J (f j))) := by
  unfold gX
  rw [if_neg (by omega), if_pos (by omega), if_neg (by omega), if_neg (by omega), if_neg (by omega), if_pos (by omega)]
theorem gX_p4 {r : Nat} (h : r < 2) (f : Nat → Int) : gX ca ad (55 + 6 * r + 4) f = .inl (ca 0, 20, .inl (fun j => J (f j))) := by
  unfold gX
  rw [if_neg (by omega), if_pos (by omega), if_neg (by omega), if_neg (by omega), if_neg (by omega), if_neg (by omega), if_pos (by omega)]
theorem gX_p5 {r : Nat} (h : r < 2) (f : Nat → Int) : gX ca ad (55 + 6 * r + 5) f = .inl (ca 0, 1008, .inl (fun j => J (f j))) := by
  unfold gX
  rw [if_neg (by omega), if_pos (by omega), if_neg (by omega), if_neg (by omega), if_neg (by omega), if_neg (by omega), if_neg (by omega)]
theorem gX_h0 (f : Nat → Int) : gX ca ad 67 f = .inr (0, [.ref (ad 68), .int (J (f 1)), .int (J (f 2))]) := rfl
theorem gX_h1 (f : Nat → Int) : gX ca ad 68 f = .inl (ca 3, 7, .inr (.inr (.inr (.inr (fun j => some (ad (5 * (4 + j)))))))) := rfl
theorem gX_sl (f : Nat → Int) : gX ca ad 69 f = .inl (ca 3, 2, .inr (.inr (.inr (.inr (fun j => some (ad (5 * (2 + j)))))))) := rfl
theorem gX_sv (f : Nat → Int) : gX ca ad 70 f = .inl (ca 2, 2, .inl (fun j => J (f j))) := rfl
theorem gX_d0 (f : Nat → Int) : gX ca ad 71 f = .inr (1, [.ref (ad 72), .int (J (f 1)), .int (J (f 2)), .int (J (f 3)), .ref (ad 73), .int (J (f 5))]) := rfl
theorem gX_d1 (f : Nat → Int) : gX ca ad 72 f = .inl (ca 1, 80, .inl (fun j => J (f j))) := rfl
theorem gX_d2 (f : Nat → Int) : gX ca ad 73 f = .inl (ca 0, 6, .inl (fun j => J (f j))) := rfl
theorem gX_x0 (f : Nat → Int) : gX ca ad 74 f = .inr (4, [.ref (ad (5 * 0)), .ref (ad (55 + 6 * 0)), .ref (ad (5 * 1)), .ref (ad (55 + 6 * 1)), .ref (ad 67), .ref (ad 69), .ref (ad 70), .ref (ad 71)]) := rfl
theorem stM_eq {c k : Nat} {z : Int} : stM M c k z c k = z := if_pos ⟨rfl, rfl⟩
theorem stM_ne {c k j : Nat} {z : Int} (h : ¬ j = k) : stM M c k z c j = M c j := if_neg (fun q => h q.2)
theorem gX_r0_s4 {r : Nat} (h : r < 11) {z : Int} : gX ca ad (5 * r) (stM M (5 * r) 4 z (5 * r)) = .inr (3, [.ref (ad (5 * r + 1)), .ref (ad (5 * r + 2)), .ref (ad (5 * r + 3)), .ref (ad (5 * r + 4)), .int (J z), .int (J (M (5 * r) 5))]) := by
  rw [gX_r0 h, stM_eq, stM_ne (by decide)]
theorem gX_r0_s5 {r : Nat} (h : r < 11) {z : Int} : gX ca ad (5 * r) (stM M (5 * r) 5 z (5 * r)) = .inr (3, [.ref (ad (5 * r + 1)), .ref (ad (5 * r + 2)), .ref (ad (5 * r + 3)), .ref (ad (5 * r + 4)), .int (J (M (5 * r) 4)), .int (J z)]) := by
  rw [gX_r0 h, stM_ne (by decide), stM_eq]
theorem gX_p0_s5 {r : Nat} (h : r < 2) {z : Int} : gX ca ad (55 + 6 * r) (stM M (55 + 6 * r) 5 z (55 + 6 * r)) = .inr (2, [.ref (ad (55 + 6 * r + 1)), .ref (ad (55 + 6 * r + 2)), .ref (ad (55 + 6 * r + 3)), .ref (ad (55 + 6 * r + 4)), .ref (ad (55 + 6 * r + 5)), .int (J z), .int (J (M (55 + 6 * r) 6))]) := by
  rw [gX_p0 h, stM_eq, stM_ne (by decide)]
theorem gX_p0_s6 {r : Nat} (h : r < 2) {z : Int} : gX ca ad (55 + 6 * r) (stM M (55 + 6 * r) 6 z (55 + 6 * r)) = .inr (2, [.ref (ad (55 + 6 * r + 1)), .ref (ad (55 + 6 * r + 2)), .ref (ad (55 + 6 * r + 3)), .ref (ad (55 + 6 * r + 4)), .ref (ad (55 + 6 * r + 5)), .int (J (M (55 + 6 * r) 5)), .int (J z)]) := by
  rw [gX_p0 h, stM_ne (by decide), stM_eq]
theorem gX_h0_s1 {z : Int} : gX ca ad 67 (stM M 67 1 z 67) = .inr (0, [.ref (ad 68), .int (J z), .int (J (M 67 2))]) := by
  rw [gX_h0, stM_eq, stM_ne (by decide)]
theorem gX_h0_s2 {z : Int} : gX ca ad 67 (stM M 67 2 z 67) = .inr (0, [.ref (ad 68), .int (J (M 67 1)), .int (J z)]) := by
  rw [gX_h0, stM_ne (by decide), stM_eq]
theorem gX_d0_s1 {z : Int} : gX ca ad 71 (stM M 71 1 z 71) = .inr (1, [.ref (ad 72), .int (J z), .int (J (M 71 2)), .int (J (M 71 3)), .ref (ad 73), .int (J (M 71 5))]) := by
  rw [gX_d0, stM_eq, stM_ne (by decide), stM_ne (by decide), stM_ne (by decide)]
theorem gX_d0_s2 {z : Int} : gX ca ad 71 (stM M 71 2 z 71) = .inr (1, [.ref (ad 72), .int (J (M 71 1)), .int (J z), .int (J (M 71 3)), .ref (ad 73), .int (J (M 71 5))]) := by
  rw [gX_d0, stM_ne (by decide), stM_eq, stM_ne (by decide), stM_ne (by decide)]
theorem gX_d0_s3 {z : Int} : gX ca ad 71 (stM M 71 3 z 71) = .inr (1, [.ref (ad 72), .int (J (M 71 1)), .int (J (M 71 2)), .int (J z), .ref (ad 73), .int (J (M 71 5))]) := by
  rw [gX_d0, stM_ne (by decide), stM_ne (by decide), stM_eq, stM_ne (by decide)]
theorem gX_d0_s5 {z : Int} : gX ca ad 71 (stM M 71 5 z 71) = .inr (1, [.ref (ad 72), .int (J (M 71 1)), .int (J (M 71 2)), .int (J (M 71 3)), .ref (ad 73), .int (J z)]) := by
  rw [gX_d0, stM_ne (by decide), stM_ne (by decide), stM_ne (by decide), stM_eq]
end GX
def gY (ca : Nat → ClassId) (ad : Nat → Nat) (c : Nat) (f : Nat → Int) : va_E :=
  if c = 0 then .inr (5, [.int (J (f 0)), .ref (ad 1), .ref (ad 2), .int (J (f 3)), .ref (ad 3), .ref (ad 4), .ref (ad 5), .int (J (f 7)), .ref (ad 6), .ref (ad 7), .ref (ad 8), .ref (ad 9), .ref (ad 10), .ref (ad 11), .ref (ad 12), .ref (ad 13), .ref (ad 14), .ref (ad 15), .ref (ad 16), .int (J (f 19)), .int (J (f 20)), .ref (ad 17), .int (J (f 22))])
  else if c = 1 then .inl (ca 0, 160, .inl (fun j => J (f j)))
  else if c = 2 then .inl (ca 0, 918, .inl (fun j => J (f j)))
  else if c = 3 then .inl (ca 0, 306, .inl (fun j => J (f j)))
  else if c = 4 then .inl (ca 2, 2, .inl (fun j => J (f j)))
  else if c = 5 then .inl (ca 0, 80, .inl (fun j => J (f j)))
  else if c = 6 then .inl (ca 0, 21, .inl (fun j => J (f j)))
  else if c = 7 then .inl (ca 0, 21, .inl (fun j => J (f j)))
  else if c = 8 then .inl (ca 0, 21, .inl (fun j => J (f j)))
  else if c = 9 then .inl (ca 0, 21, .inl (fun j => J (f j)))
  else if c = 10 then .inl (ca 0, 21, .inl (fun j => J (f j)))
  else if c = 11 then .inl (ca 0, 21, .inl (fun j => J (f j)))
  else if c = 12 then .inl (ca 0, 4, .inl (fun j => J (f j)))
  else if c = 13 then .inl (ca 0, 4, .inl (fun j => J (f j)))
  else if c = 14 then .inl (ca 0, 20, .inl (fun j => J (f j)))
  else if c = 15 then .inl (ca 0, 4, .inl (fun j => J (f j)))
  else if c = 16 then .inl (ca 0, 4, .inl (fun j => J (f j)))
  else .inl (ca 0, 294, .inl (fun j => J (f j)))
section GY
variable {ca : Nat → ClassId} {ad : Nat → Nat} {M : MM}
theorem gY_0 (f : Nat → Int) : gY ca ad 0 f = .inr (5, [.int (J (f 0)), .ref (ad 1), .ref (ad 2), .int (J (f 3)), .ref (ad 3), .ref (ad 4), .ref (ad 5), .int (J (f 7)), .ref (ad 6), .ref (ad 7), .ref (ad 8), .ref (ad 9), .ref (ad 10), .ref (ad 11), .ref (ad 12), .ref (ad 13), .ref (ad 14), .ref (ad 15), .ref (ad 16), .int (J (f 19)), .int (J (f 20)), .ref (ad 17), .int (J (f 22))]) := rfl
theorem gY_1 (f : Nat → Int) : gY ca ad 1 f = .inl (ca 0, 160, .inl (fun j => J (f j))) := rfl
theorem gY_2 (f : Nat → Int) : gY ca ad 2 f = .inl (ca 0, 918, .inl (fun j => J (f j))) := rfl
theorem gY_3 (f : Nat → Int) : gY ca ad 3 f = .inl (ca 0, 306, .inl (fun j => J (f j))) := rfl
theorem gY_4 (f : Nat → Int) : gY ca ad 4 f = .inl (ca 2, 2, .inl (fun j => J (f j))) := rfl
theorem gY_5 (f : Nat → Int) : gY ca ad 5 f = .inl (ca 0, 80, .inl (fun j => J (f j))) := rfl
theorem gY_6 (f : Nat → Int) : gY ca ad 6 f = .inl (ca 0, 21, .inl (fun j => J (f j))) := rfl
theorem gY_7 (f : Nat → Int) : gY ca ad 7 f = .inl (ca 0, 21, .inl (fun j => J (f j))) := rfl
theorem gY_8 (f : Nat → Int) : gY ca ad 8 f = .inl (ca 0, 21, .inl (fun j => J (f j))) := rfl
theorem gY_9 (f : Nat → Int) : gY ca ad 9 f = .inl (ca 0, 21, .inl (fun j => J (f j))) := rfl
theorem gY_10 (f : Nat → Int) : gY ca ad 10 f = .inl (ca 0, 21, .inl (fun j => J (f j))) := rfl
theorem gY_11 (f : Nat → Int) : gY ca ad 11 f = .inl (ca 0, 21, .inl (fun j => J (f j))) := rfl
theorem gY_12 (f : Nat → Int) : gY ca ad 12 f = .inl (ca 0, 4, .inl (fun j => J (f j))) := rfl
theorem gY_13 (f : Nat → Int) : gY ca ad 13 f = .inl (ca 0, 4, .inl (fun j => J (f j))) := rfl
theorem gY_14 (f : Nat → Int) : gY ca ad 14 f = .inl (ca 0, 20, .inl (fun j => J (f j))) := rfl
theorem gY_15 (f : Nat → Int) : gY ca ad 15 f = .inl (ca 0, 4, .inl (fun j => J (f j))) := rfl
theorem gY_16 (f : Nat → Int) : gY ca ad 16 f = .inl (ca 0, 4, .inl (fun j => J (f j))) := rfl
theorem gY_17 (f : Nat → Int) : gY ca ad 17 f = .inl (ca 0, 294, .inl (fun j => J (f j))) := rfl
theorem gY_0_s0 {z : Int} : gY ca ad 0 (stM M 0 0 z 0) = .inr (5, [.int (J z), .ref (ad 1), .ref (ad 2), .int (J (M 0 3)), .ref (ad 3), .ref (ad 4), .ref (ad 5), .int (J (M 0 7)), .ref (ad 6), .ref (ad 7), .ref (ad 8), .ref (ad 9), .ref (ad 10), .ref (ad 11), .ref (ad 12), .ref (ad 13), .ref (ad 14), .ref (ad 15), .ref (ad 16), .int (J (M 0 19)), .int (J (M 0 20)), .ref (ad 17), .int (J (M 0 22))]) := by
  rw [gY_0, stM_eq, stM_ne (by decide), stM_ne (by decide), stM_ne (by decide), stM_ne (by decide), stM_ne (by decide)]
theorem gY_0_s3 {z : Int} : gY ca ad 0 (stM M 0 3 z 0) = .inr (5, [.int (J (M 0 0)), .ref (ad 1), .ref (ad 2), .int (J z), .ref (ad 3), .ref (ad 4), .ref (ad 5), .int (J (M 0 7)), .ref (ad 6), .ref (ad 7), .ref (ad 8), .ref (ad 9), .ref (ad 10), .ref (ad 11), .ref (ad 12), .ref (ad 13), .ref (ad 14), .ref (ad 15), .ref (ad 16), .int (J (M 0 19)), .int (J (M 0 20)), .ref (ad 17), .int (J (M 0 22))]) := by
  rw [gY_0, stM_ne (by decide), stM_eq, stM_ne (by decide), stM_ne (by decide), stM_ne (by decide), stM_ne (by decide)]
theorem gY_0_s7 {z : Int} : gY ca ad 0 (stM M 0 7 z 0) = .inr (5, [.int (J (M 0 0)), .ref (ad 1), .ref (ad 2), .int (J (M 0 3)), .ref (ad 3), .ref (ad 4), .ref (ad 5), .int (J z), .ref (ad 6), .ref (ad 7), .ref (ad 8), .ref (ad 9), .ref (ad 10), .ref (ad 11), .ref (ad 12), .ref (ad 13), .ref (ad 14), .ref (ad 15), .ref (ad 16), .int (J (M 0 19)), .int (J (M 0 20)), .ref (ad 17), .int (J (M 0 22))]) := by
  rw [gY_0, stM_ne (by decide), stM_ne (by decide), stM_eq, stM_ne (by decide), stM_ne (by decide), stM_ne (by decide)]
theorem gY_0_s19 {z : Int} : gY ca ad 0 (stM M 0 19 z 0) = .inr (5, [.int (J (M 0 0)), .ref (ad 1), .ref (ad 2), .int (J (M 0 3)), .ref (ad 3), .ref (ad 4), .ref (ad 5), .int (J (M 0 7)), .ref (ad 6), .ref (ad 7), .ref (ad 8), .ref (ad 9), .ref (ad 10), .ref (ad 11), .ref (ad 12), .ref (ad 13), .ref (ad 14), .ref (ad 15), .ref (ad 16), .int (J z), .int (J (M 0 20)), .ref (ad 17), .int (J (M 0 22))]) := by
  rw [gY_0, stM_ne (by decide), stM_ne (by decide), stM_ne (by decide), stM_eq, stM_ne (by decide), stM_ne (by decide)]
theorem gY_0_s20 {z : Int} : gY ca ad 0 (stM M 0 20 z 0) = .inr (5, [.int (J (M 0 0)), .ref (ad 1), .ref (ad 2), .int (J (M 0 3)), .ref (ad 3), .ref (ad 4), .ref (ad 5), .int (J (M 0 7)), .ref (ad 6), .ref (ad 7), .ref (ad 8), .ref (ad 9), .ref (ad 10), .ref (ad 11), .ref (ad 12), .ref (ad 13), .ref (ad 14), .ref (ad 15), .ref (ad 16), .int (J (M 0 19)), .int (J z), .ref (ad 17), .int (J (M 0 22))]) := by
  rw [gY_0, stM_ne (by decide), stM_ne (by decide), stM_ne (by decide), stM_ne (by decide), stM_eq, stM_ne (by decide)]
theorem gY_0_s22 {z : Int} : gY ca ad 0 (stM M 0 22 z 0) = .inr (5, [.int (J (M 0 0)), .ref (ad 1), .ref (ad 2), .int (J (M 0 3)), .ref (ad 3), .ref (ad 4), .ref (ad 5), .int (J (M 0 7)), .ref (ad 6), .ref (ad 7), .ref (ad 8), .ref (ad 9), .ref (ad 10), .ref (ad 11), .ref (ad 12), .ref (ad 13), .ref (ad 14), .ref (ad 15), .ref (ad 16), .int (J (M 0 19)), .int (J (M 0 20)), .ref (ad 17), .int (J z)]) := by
  rw [gY_0, stM_ne (by decide), stM_ne (by decide), stM_ne (by decide), stM_ne (by decide), stM_ne (by decide), stM_eq]
end GY
abbrev wX (ca : Nat → ClassId) (ad : Nat → Nat) (M : MM) : va_W := wL 75 (gX ca ad) ad M
abbrev wY (ca : Nat → ClassId) (ad : Nat → Nat) (M : MM) : va_W := wL 18 (gY ca ad) ad M
theorem oX_pre : True := trivial
-- what a state gives beside the world of the class: links among nest mates, three static rows, five texts
def lsM (j : Nat) : Int := if j = 0 then 1 else if j = 1 then 1 else 0
def msM (j : Nat) : Int := if j = 0 then 9 else if j = 1 then 120 else 300
def fsM (j : Nat) : Int := if j = 0 then 2 else if j = 1 then 30 else 120
def eN (U : State) : Prop := va_Nw (.methodLinkNest RX3 45 yX4_within RX4) U ∧ va_Nw (.methodLinkNest RX3 55 yX4_visitError RX4) U ∧ va_Nw (.methodLinkNest RX3 69 yX4_isPart RX4) U ∧ va_Nw (.methodLinkNest RX1 21 yX4_within RX4) U ∧ va_Nw (.fieldLinkNest RX3 49 "VisitVans" "LEAST_SETTING" "[I" RX4) U ∧ va_Nw (.fieldLinkNest RX3 52 "VisitVans" "MOST_SETTING" "[I" RX4) U
def eS (q : Nat × Nat) (A : Nat → Prop) (U : State) (H : Heap) : Prop := va_Z RX4 "LEAST_SETTING" "[I" (.ref q.1) A U H ∧ va_T .int q.1 3 (fun j => .int (J (lsM j))) A U H ∧ va_Z RX4 "MOST_SETTING" "[I" (.ref q.2) A U H ∧ va_T .int q.2 3 (fun j => .int (J (msM j))) A U H
def lenK : List Nat := [11, 3, 5, 1, 0]
def bytK : List (List Int32) := [[110, 35, 100, 43, 100, 42, 100, 58, 110, 45, 110], [110, 47, 115], [100, 43, 100, 61, 110], [110], []]
def eT (aK aV : Nat → Nat) (A : Nat → Prop) (U : State) (H : Heap) : Prop := (vk_R RX1 76 "n#d+d*d:n-n" (aK 0) U ∧ vk_R RX1 78 "n/s" (aK 1) U ∧ vk_R RX1 80 "d+d=n" (aK 2) U ∧ vk_R RX1 82 "n" (aK 3) U ∧ vk_R RX1 84 "" (aK 4) U) ∧ vk_S 5 lenK bytK aK aV A U H ∧ va_Z "java/lang/String" "COMPACT_STRINGS" "Z" (.int (J 1)) A U H ∧ va_Zq "jdk/internal/util/Preconditions" "SIOOBE_FORMATTER" "Ljava/util/function/BiFunction;" A U H
abbrev EV : Type := (Nat × Nat) × (Nat → Nat) × (Nat → Nat)
def eX (v : EV) (A : Nat → Prop) (U : State) (H : Heap) : Prop := eN U ∧ eS v.1 A U H ∧ eT v.2.1 v.2.2 A U H
theorem eN_warm {s U : State} (hW : s.WarmedH U.vm) (h : eN s) : eN U := ⟨h.1.warmM hW, h.2.1.warmM hW, h.2.2.1.warmM hW, h.2.2.2.1.warmM hW, h.2.2.2.2.1.warmF hW, h.2.2.2.2.2.warmF hW⟩
theorem eX_at {v : EV} {A : Nat → Prop} {s U : State} {H : Heap} {locs : List Loc} (h : eX v A s s.heap) (hS : va_S A s.heap H locs) (hU : U.heap = H) (hW : s.WarmedH U.vm) : eX v A U U.heap := by
  obtain ⟨hN, ⟨z1, z2, z3, z4⟩, ⟨k1, k2, k3, k4, k5⟩, hs, hc, hq⟩ := h
  have hk : ∀ a : Nat, a < s.heap.size → ¬ A a → U.heap[a]? = s.heap[a]? := fun a h1 h2 => by rw [hU]; exact hS.2.1 a h1 h2
  exact ⟨eN_warm hW hN, ⟨va_Z.moved hW.alike (z1.kept hk), va_T.moved hW.alike (z2.kept hk), va_Z.moved hW.alike (z3.kept hk), va_T.moved hW.alike (z4.kept hk)⟩, ⟨k1.warm hW, k2.warm hW, k3.warm hW, k4.warm hW, k5.warm hW⟩, vk_S.moved hW.alike (hs.kept hk), va_Z.moved hW.alike (hc.kept hk), va_Zq.moved hW.alike (hq.kept hk)⟩
theorem eX_blind {v : EV} {A : Nat → Prop} {U : State} (a : Array Value) (g : JFrame) (mk : MethodId) (h : eX v A U U.heap) : eX v A (U.calling g mk a) (U.calling g mk a).heap := by
  obtain ⟨⟨n1, n2, n3, n4, n5, n6⟩, ⟨z1, z2, z3, z4⟩, ⟨k1, k2, k3, k4, k5⟩, hs, hc, hq⟩ := h
  have hv : (U.calling g mk a).vm = U.vm := rfl
  have ha : U.vm.Alike (U.calling g mk a).vm := Vm.Alike.refl U.vm
  exact ⟨⟨n1.same rfl hv.symm, n2.same rfl hv.symm, n3.same rfl hv.symm, n4.same rfl hv.symm, n5.same rfl hv.symm, n6.same rfl hv.symm⟩, ⟨va_Z.moved ha z1, va_T.moved ha z2, va_Z.moved ha z3, va_T.moved ha z4⟩, ⟨k1.same hv, k2.same hv, k3.same hv, k4.same hv, k5.same hv⟩, vk_S.moved ha hs, va_Z.moved ha hc, va_Zq.moved ha hq⟩
def PX (D : va_G) (ca : Nat → ClassId) (v : EV) (ad : Nat → Nat) (M : MM) (U : State) : Prop := va_P D vwCl (wX ca ad M) U.heap ∧ va_K D vwCl (tyX ca) U ∧ eX v (aS 75 ad) U U.heap
def OX (D : va_G) (ca : Nat → ClassId) (ad : Nat → Nat) (M : MM) (t : State) : Prop := va_P D vwCl (wX ca ad M) t.heap
def PY (D : va_G) (ca : Nat → ClassId) (ad : Nat → Nat) (M : MM) (U : State) : Prop := va_P D vwCl (wY ca ad M) U.heap ∧ va_K D vwCl (tyX ca) U
def OY (D : va_G) (ca : Nat → ClassId) (ad : Nat → Nat) (M : MM) (t : State) : Prop := va_P D vwCl (wY ca ad M) t.heap
theorem oX {D : va_G} {ca : Nat → ClassId} {ad : Nat → Nat} {M M' : MM} {H : Heap} (e : M = M') (hP : va_P D vwCl (wX ca ad M) H) : ∀ t : State, t.heap = H → OX D ca ad M' t := fun t ht => by
  rw [← e]
  show va_P D vwCl (wX ca ad M) t.heap
  rw [ht]
  exact hP
theorem oY {D : va_G} {ca : Nat → ClassId} {ad : Nat → Nat} {M M' : MM} {H : Heap} (e : M = M') (hP : va_P D vwCl (wY ca ad M) H) : ∀ t : State, t.heap = H → OY D ca ad M' t := fun t ht => by
  rw [← e]
  show va_P D vwCl (wY ca ad M) t.heap
  rw [ht]
  exact hP
theorem PX_blind {D : va_G} {ca : Nat → ClassId} {v : EV} {ad : Nat → Nat} {M : MM} {vs : List Value} : FrameBlind (va_Pc vs (PX D ca v ad M)) := fun a U g mk q => ⟨q.1, q.2.1, va_K.moved (u := U) (U := U.calling g mk a) (Vm.Alike.refl U.vm) q.2.2.1, eX_blind a g mk q.2.2.2⟩
theorem PY_blind {D : va_G} {ca : Nat → ClassId} {ad : Nat → Nat} {M : MM} {vs : List Value} : FrameBlind (va_Pc vs (PY D ca ad M)) := fun a U g mk q => ⟨q.1, q.2.1, va_K.moved (u := U) (U := U.calling g mk a) (Vm.Alike.refl U.vm) q.2.2⟩
section PP
variable {D : va_G} {ca : Nat → ClassId} {v : EV} {ad : Nat → Nat} {M : MM} {s : State} {H : Heap} {locs : List Loc}
theorem psX (hK : va_K D vwCl (tyX ca) s) (hE : eX v (aS 75 ad) s s.heap) (hP : va_P D vwCl (wX ca ad M) H) (hS : va_S (aS 75 ad) s.heap H locs) (As : List Value) : PreS s H (va_Pc As (PX D ca v ad M)) As :=
  ⟨PX_blind, fun U hU hW => ⟨rfl, by rw [hU]; exact hP, va_K.moved hW.alike hK, eX_at hE hS hU hW⟩⟩
theorem pvX (hK : va_K D vwCl (tyX ca) s) (hE : eX v (aS 75 ad) s s.heap) (hP : va_P D vwCl (wX ca ad M) H) (hS : va_S (aS 75 ad) s.heap H locs) (As : List Value) {c : Nat} (hc : c < 75) {ci : Nat} {fs : List Value} (hg : gX ca ad c (M c) = .inr (ci, fs)) {q : vw_C} (hq : vwCl[ci]? = some q) : PreV s H q.1 (ad c) (va_Pc (.ref (ad c) :: As) (PX D ca v ad M)) As :=
  ⟨PX_blind, va_recv hK hP hq (wL_get hc hg), fun U hU hW => ⟨rfl, by rw [hU]; exact hP, va_K.moved hW.alike hK, eX_at hE hS hU hW⟩⟩
theorem psY (hK : va_K D vwCl (tyX ca) s) (hP : va_P D vwCl (wY ca ad M) H) (As : List Value) : PreS s H (va_Pc As (PY D ca ad M)) As :=
  ⟨PY_blind, fun U hU hW => ⟨rfl, by rw [hU]; exact hP, va_K.moved hW.alike hK⟩⟩
theorem pvY (hK : va_K D vwCl (tyX ca) s) (hP : va_P D vwCl (wY ca ad M) H) (As : List Value) : PreV s H RX5 (ad 0) (va_Pc (.ref (ad 0) :: As) (PY D ca ad M)) As :=
  ⟨PY_blind, va_recv (q := (RX5, TX5, 23)) hK hP rfl (wL_get (by decide) (gY_0 _)), fun U hU hW => ⟨rfl, by rw [hU]; exact hP, va_K.moved hW.alike hK⟩⟩
end PP
theorem lsM_R (j : Nat) : inR (lsM j) := by
  unfold lsM
  by_cases h : j = 0
  · rw [if_pos h]; decide
  · rw [if_neg h]
    by_cases h1 : j = 1
    · rw [if_pos h1]; decide
    · rw [if_neg h1]; decide
theorem msM_R (j : Nat) : inR (msM j) := by
  unfold msM
  by_cases h : j = 0
  · rw [if_pos h]; decide
  · rw [if_neg h]
    by_cases h1 : j = 1
    · rw [if_pos h1]; decide
    · rw [if_neg h1]; decide
theorem J_wB {z : Int} (hz : z = 0 ∨ z = 1) : narrow .byte (.int (J z)) = .int (J z) := by
  rcases hz with rfl | rfl <;> decide +kernel
theorem lenK_le (i : Nat) : lenK.getD i 0 ≤ 2147483647 := by
  rcases (show i = 0 ∨ i = 1 ∨ i = 2 ∨ i = 3 ∨ i = 4 ∨ 5 ≤ i by omega) with rfl | rfl | rfl | rfl | rfl | h
  iterate 5 decide
  rw [List.getD_eq_getElem?_getD, List.getElem?_eq_none (show lenK.length ≤ i by exact h)]
  decide
def lenI (i : Nat) : Int := (lenK.getD i 0 : Nat)
theorem lenI_R (i : Nat) : inR (lenI i) := by
  have h := lenK_le i
  unfold lenI
  constructor <;> omega
def byI (i j : Nat) : Int := ((bytK.getD i []).getD j 0).toInt
theorem byI_v {i : Int} {s n : Nat} (h : 0 ≤ i ∧ i < (n : Int)) (hn : n ≤ 2147483647) : (fun j => Value.int ((bytK.getD s []).getD j 0)) (J i).toNatClampNeg = .int (J (byI s i.toNat)) := by
  show Value.int ((bytK.getD s []).getD (J i).toNatClampNeg 0) = _
  rw [J_nat h.1 (by omega)]
  unfold byI
  rw [J_of]
section EX2
variable {v : EV} {A : Nat → Prop} {U : State} {H : Heap}
theorem eX_val (h : eX v A U H) : va_Ef 5 "java/lang/String" "value" "[B" (fun i => .ref (v.2.2 i)) v.2.1 A U H := fun i hi => (h.2.2.2.1.1 i hi).2.2.1
theorem eX_cod (h : eX v A U H) : va_Ef 5 "java/lang/String" "coder" "B" (fun _ => .int (J 0)) v.2.1 A U H := fun i hi => (h.2.2.2.1.1 i hi).2.1
theorem eX_byt (h : eX v A U H) {i : Nat} (hi : i < 5) : va_T .byte (v.2.2 i) (lenK.getD i 0) (fun j => .int ((bytK.getD i []).getD j 0)) A U H := (h.2.2.2.1.1 i hi).2.2.2
theorem pvS {D : va_G} {ca : Nat → ClassId} {ad : Nat → Nat} {M : MM} {s : State} {H : Heap} {locs : List Loc} (hK : va_K D vwCl (tyX ca) s) (hE : eX v (aS 75 ad) s s.heap) (hP : va_P D vwCl (wX ca ad M) H) (hS : va_S (aS 75 ad) s.heap H locs) (As : List Value) {i : Nat} (hi : i < 5) : PreV s H RJ0 (v.2.1 i) (va_Pc (.ref (v.2.1 i) :: As) (PX D ca v ad M)) As := by
  obtain ⟨cell, h1, h2, h3, h4⟩ := (hE.2.2.2.1.1 i hi).1
  exact ⟨PX_blind, ⟨cell, by rw [hS.2.1 _ (Array.getElem?_eq_some_iff.mp h1).1 h4]; exact h1, h2, h3⟩, fun U hU hW => ⟨rfl, by rw [hU]; exact hP, va_K.moved hW.alike hK, eX_at hE hS hU hW⟩⟩
end EX2
