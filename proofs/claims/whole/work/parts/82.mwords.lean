/-! known words -/
theorem cmpL_i (x y : Int) : i32 (cmpL x y) := by
  unfold cmpL
  split
  · exact ⟨by decide, by decide⟩
  · split <;> exact ⟨by decide, by decide⟩
theorem cmpL_0 {x y : Int} : cmpL x y = 0 ↔ x = y := by
  unfold cmpL
  constructor
  · intro h
    split at h
    · cases h
    · split at h
      · assumption
      · cases h
  · intro h
    rw [if_neg (by omega), if_pos h]
theorem pkWd_b : ∀ i : Nat, i < 16 → 0 ≤ pkWd i ∧ pkWd i < 1073741824 := by decide +kernel
def kwF (tp : Int → Int) (t : TK) : Int := if isWb tp t 7 = true then 0 else if isWb tp t 8 = true then 1 else if isWb tp t 9 = true then 2 else if isWb tp t 10 = true then 3 else if isWb tp t 5 = true then 4 else if isWb tp t 6 = true then 5 else if isWb tp t 11 = true then 6 else if isWb tp t 12 = true then 7 else if isWb tp t 0 = true then 8 else if isWb tp t 1 = true then 9 else if isWb tp t 2 = true then 10 else if isWb tp t 3 = true then 11 else if isWb tp t 15 = true then 12 else if isWb tp t 13 = true then 13 else if isWb tp t 14 = true then 14 else if isWb tp t 4 = true then 15 else -1
theorem kwF_no {tp : Int → Int} {t : TK} (h : ∀ i : Nat, i < 16 → ¬ isWb tp t i = true) : kwF tp t = -1 := by
  unfold kwF
  rw [if_neg (h 7 (by decide)), if_neg (h 8 (by decide)), if_neg (h 9 (by decide)), if_neg (h 10 (by decide)), if_neg (h 5 (by decide)), if_neg (h 6 (by decide)), if_neg (h 11 (by decide)), if_neg (h 12 (by decide)), if_neg (h 0 (by decide)), if_neg (h 1 (by decide)), if_neg (h 2 (by decide)), if_neg (h 3 (by decide)), if_neg (h 15 (by decide)), if_neg (h 13 (by decide)), if_neg (h 14 (by decide)), if_neg (h 4 (by decide))]
theorem kwF_b (tp : Int → Int) (t : TK) : -1 ≤ kwF tp t ∧ kwF tp t ≤ 15 := by
  unfold kwF
  by_cases c20 : isWb tp t 7 = true
  · rw [if_pos c20]; decide
  rw [if_neg c20]
  by_cases c21 : isWb tp t 8 = true
  · rw [if_pos c21]; decide
  rw [if_neg c21]
  by_cases c22 : isWb tp t 9 = true
  · rw [if_pos c22]; decide
  rw [if_neg c22]
  by_cases c23 : isWb tp t 10 = true
  · rw [if_pos c23]; decide
  rw [if_neg c23]
  by_cases c24 : isWb tp t 5 = true
  · rw [if_pos c24]; decide
  rw [if_neg c24]
  by_cases c25 : isWb tp t 6 = true
  · rw [if_pos c25]; decide
  rw [if_neg c25]
  by_cases c26 : isWb tp t 11 = true
  · rw [if_pos c26]; decide
  rw [if_neg c26]
  by_cases c27 : isWb tp t 12 = true
  · rw [if_pos c27]; decide
  rw [if_neg c27]
  by_cases c28 : isWb tp t 0 = true
  · rw [if_pos c28]; decide
  rw [if_neg c28]
  by_cases c29 : isWb tp t 1 = true
  · rw [if_pos c29]; decide
  rw [if_neg c29]
  by_cases c30 : isWb tp t 2 = true
  · rw [if_pos c30]; decide
  rw [if_neg c30]
  by_cases c31 : isWb tp t 3 = true
  · rw [if_pos c31]; decide
  rw [if_neg c31]
  by_cases c32 : isWb tp t 15 = true
  · rw [if_pos c32]; decide
  rw [if_neg c32]
  by_cases c33 : isWb tp t 13 = true
  · rw [if_pos c33]; decide
  rw [if_neg c33]
  by_cases c34 : isWb tp t 14 = true
  · rw [if_pos c34]; decide
  rw [if_neg c34]
  by_cases c35 : isWb tp t 4 = true
  · rw [if_pos c35]; decide
  rw [if_neg c35]
  decide
theorem isWb_1 {tp : Int → Int} {t : TK} {i j : Nat} (hi : i < 16) (hj : j < 16) (h1 : isWb tp t i = true) (h2 : isWb tp t j = true) : i = j := by
  have key : ∀ i : Nat, i < 16 → ∀ j : Nat, j < 16 → (wdL i = wdL j → i = j) := by decide +kernel
  apply key i hi j hj
  obtain ⟨-, b1, c1⟩ := isWb_e h1
  obtain ⟨-, b2, c2⟩ := isWb_e h2
  have hl : (wdL i).length = (wdL j).length := by omega
  apply List.ext_getElem hl
  intro k hk1 hk2
  have e1 := c1 k hk1
  have e2 := c2 k hk2
  rw [e1] at e2
  unfold wdA at e2
  rw [Int.toNat_natCast, List.getD_eq_getElem?_getD, List.getD_eq_getElem?_getD, List.getElem?_eq_getElem hk1, List.getElem?_eq_getElem hk2] at e2
  exact e2
theorem kwF_0 {tp : Int → Int} {t : TK} (h : isWb tp t 7 = true) : kwF tp t = 0 := by
  unfold kwF
  rw [if_pos h]
theorem kwI_0 {tp : Int → Int} {t : TK} (h : kwF tp t = 0) : isWb tp t 7 = true := by
  by_cases c : isWb tp t 7 = true
  · exact c
  · exfalso
    unfold kwF at h
    rw [if_neg c] at h
    by_cases c21 : isWb tp t 8 = true
    · rw [if_pos c21] at h; exact absurd h (by decide)
    rw [if_neg c21] at h
    by_cases c22 : isWb tp t 9 = true
    · rw [if_pos c22] at h; exact absurd h (by decide)
    rw [if_neg c22] at h
    by_cases c23 : isWb tp t 10 = true
    · rw [if_pos c23] at h; exact absurd h (by decide)
    rw [if_neg c23] at h
    by_cases c24 : isWb tp t 5 = true
    · rw [if_pos c24] at h; exact absurd h (by decide)
    rw [if_neg c24] at h
    by_cases c25 : isWb tp t 6 = true
    · rw [if_pos c25] at h; exact absurd h (by decide)
    rw [if_neg c25] at h
    by_cases c26 : isWb tp t 11 = true
    · rw [if_pos c26] at h; exact absurd h (by decide)
    rw [if_neg c26] at h
    by_cases c27 : isWb tp t 12 = true
    · rw [if_pos c27] at h; exact absurd h (by decide)
    rw [if_neg c27] at h
    by_cases c28 : isWb tp t 0 = true
    · rw [if_pos c28] at h; exact absurd h (by decide)
    rw [if_neg c28] at h
    by_cases c29 : isWb tp t 1 = true
    · rw [if_pos c29] at h; exact absurd h (by decide)
    rw [if_neg c29] at h
    by_cases c30 : isWb tp t 2 = true
    · rw [if_pos c30] at h; exact absurd h (by decide)
    rw [if_neg c30] at h
    by_cases c31 : isWb tp t 3 = true
    · rw [if_pos c31] at h; exact absurd h (by decide)
    rw [if_neg c31] at h
    by_cases c32 : isWb tp t 15 = true
    · rw [if_pos c32] at h; exact absurd h (by decide)
    rw [if_neg c32] at h
    by_cases c33 : isWb tp t 13 = true
    · rw [if_pos c33] at h; exact absurd h (by decide)
    rw [if_neg c33] at h
    by_cases c34 : isWb tp t 14 = true
    · rw [if_pos c34] at h; exact absurd h (by decide)
    rw [if_neg c34] at h
    by_cases c35 : isWb tp t 4 = true
    · rw [if_pos c35] at h; exact absurd h (by decide)
    rw [if_neg c35] at h
    exact absurd h (by decide)
theorem kwF_1 {tp : Int → Int} {t : TK} (h : isWb tp t 8 = true) : kwF tp t = 1 := by
  unfold kwF
  rw [if_neg (fun z => absurd (isWb_1 (by decide) (by decide) h z) (by decide)), if_pos h]
theorem kwI_1 {tp : Int → Int} {t : TK} (h : kwF tp t = 1) : isWb tp t 8 = true := by
  by_cases c : isWb tp t 8 = true
  · exact c
  · exfalso
    unfold kwF at h
    by_cases c20 : isWb tp t 7 = true
    · rw [if_pos c20] at h; exact absurd h (by decide)
    rw [if_neg c20] at h
    rw [if_neg c] at h
    by_cases c22 : isWb tp t 9 = true
    · rw [if_pos c22] at h; exact absurd h (by decide)
    rw [if_neg c22] at h
    by_cases c23 : isWb tp t 10 = true
    · rw [if_pos c23] at h; exact absurd h (by decide)
    rw [if_neg c23] at h
    by_cases c24 : isWb tp t 5 = true
    · rw [if_pos c24] at h; exact absurd h (by decide)
    rw [if_neg c24] at h
    by_cases c25 : isWb tp t 6 = true
    · rw [if_pos c25] at h; exact absurd h (by decide)
    rw [if_neg c25] at h
    by_cases c26 : isWb tp t 11 = true
    · rw [if_pos c26] at h; exact absurd h (by decide)
    rw [if_neg c26] at h
    by_cases c27 : isWb tp t 12 = true
    · rw [if_pos c27] at h; exact absurd h (by decide)
    rw [if_neg c27] at h
    by_cases c28 : isWb tp t 0 = true
    · rw [if_pos c28] at h; exact absurd h (by decide)
    rw [if_neg c28] at h
    by_cases c29 : isWb tp t 1 = true
    · rw [if_pos c29] at h; exact absurd h (by decide)
    rw [if_neg c29] at h
    by_cases c30 : isWb tp t 2 = true
    · rw [if_pos c30] at h; exact absurd h (by decide)
    rw [if_neg c30] at h
    by_cases c31 : isWb tp t 3 = true
    · rw [if_pos c31] at h; exact absurd h (by decide)
    rw [if_neg c31] at h
    by_cases c32 : isWb tp t 15 = true
    · rw [if_pos c32] at h; exact absurd h (by decide)
    rw [if_neg c32] at h
    by_cases c33 : isWb tp t 13 = true
    · rw [if_pos c33] at h; exact absurd h (by decide)
    rw [if_neg c33] at h
    by_cases c34 : isWb tp t 14 = true
    · rw [if_pos c34] at h; exact absurd h (by decide)
    rw [if_neg c34] at h
    by_cases c35 : isWb tp t 4 = true
    · rw [if_pos c35] at h; exact absurd h (by decide)
    rw [if_neg c35] at h
    exact absurd h (by decide)
theorem kwF_2 {tp : Int → Int} {t : TK} (h : isWb tp t 9 = true) : kwF tp t = 2 := by
  unfold kwF
  rw [if_neg (fun z => absurd (isWb_1 (by decide) (by decide) h z) (by decide)), if_neg (fun z => absurd (isWb_1 (by decide) (by decide) h z) (by decide)), if_pos h]
theorem kwI_2 {tp : Int → Int} {t : TK} (h : kwF tp t = 2) : isWb tp t 9 = true := by
  by_cases c : isWb tp t 9 = true
  · exact c
  · exfalso
    unfold kwF at h
    by_cases c20 : isWb tp t 7 = true
    · rw [if_pos c20] at h; exact absurd h (by decide)
    rw [if_neg c20] at h
    by_cases c21 : isWb tp t 8 = true
    · rw [if_pos c21] at h; exact absurd h (by decide)
    rw [if_neg c21] at h
    rw [if_neg c] at h
    by_cases c23 : isWb tp t 10 = true
    · rw [if_pos c23] at h; exact absurd h (by decide)
    rw [if_neg c23] at h
    by_cases c24 : isWb tp t 5 = true
    · rw [if_pos c24] at h; exact absurd h (by decide)
    rw [if_neg c24] at h
    by_cases c25 : isWb tp t 6 = true
    · rw [if_pos c25] at h; exact absurd h (by decide)
    rw [if_neg c25] at h
    by_cases c26 : isWb tp t 11 = true
    · rw [if_pos c26] at h; exact absurd h (by decide)
    rw [if_neg c26] at h
    by_cases c27 : isWb tp t 12 = true
    · rw [if_pos c27] at h; exact absurd h (by decide)
    rw [if_neg c27] at h
    by_cases c28 : isWb tp t 0 = true
    · rw [if_pos c28] at h; exact absurd h (by decide)
    rw [if_neg c28] at h
    by_cases c29 : isWb tp t 1 = true
    · rw [if_pos c29] at h; exact absurd h (by decide)
    rw [if_neg c29] at h
    by_cases c30 : isWb tp t 2 = true
    · rw [if_pos c30] at h; exact absurd h (by decide)
    rw [if_neg c30] at h
    by_cases c31 : isWb tp t 3 = true
    · rw [if_pos c31] at h; exact absurd h (by decide)
    rw [if_neg c31] at h
    by_cases c32 : isWb tp t 15 = true
    · rw [if_pos c32] at h; exact absurd h (by decide)
    rw [if_neg c32] at h
    by_cases c33 : isWb tp t 13 = true
    · rw [if_pos c33] at h; exact absurd h (by decide)
    rw [if_neg c33] at h
    by_cases c34 : isWb tp t 14 = true
    · rw [if_pos c34] at h; exact absurd h (by decide)
    rw [if_neg c34] at h
    by_cases c35 : isWb tp t 4 = true
    · rw [if_pos c35] at h; exact absurd h (by decide)
    rw [if_neg c35] at h
    exact absurd h (by decide)
theorem kwF_3 {tp : Int → Int} {t : TK} (h : isWb tp t 10 = true) : kwF tp t = 3 := by
  unfold kwF
  rw [if_neg (fun z => absurd (isWb_1 (by decide) (by decide) h z) (by decide)), if_neg (fun z => absurd (isWb_1 (by decide) (by decide) h z) (by decide)), if_neg (fun z => absurd (isWb_1 (by decide) (by decide) h z) (by decide)), if_pos h]
theorem kwI_3 {tp : Int → Int} {t : TK} (h : kwF tp t = 3) : isWb tp t 10 = true := by
  by_cases c : isWb tp t 10 = true
  · exact c
  · exfalso
    unfold kwF at h
    by_cases c20 : isWb tp t 7 = true
    · rw [if_pos c20] at h; exact absurd h (by decide)
    rw [if_neg c20] at h
    by_cases c21 : isWb tp t 8 = true
    · rw [if_pos c21] at h; exact absurd h (by decide)
    rw [if_neg c21] at h
    by_cases c22 : isWb tp t 9 = true
    · rw [if_pos c22] at h; exact absurd h (by decide)
    rw [if_neg c22] at h
    rw [if_neg c] at h
    by_cases c24 : isWb tp t 5 = true
    · rw [if_pos c24] at h; exact absurd h (by decide)
    rw [if_neg c24] at h
    by_cases c25 : isWb tp t 6 = true
    · rw [if_pos c25] at h; exact absurd h (by decide)
    rw [if_neg c25] at h
    by_cases c26 : isWb tp t 11 = true
    · rw [if_pos c26] at h; exact absurd h (by decide)
    rw [if_neg c26] at h
    by_cases c27 : isWb tp t 12 = true
    · rw [if_pos c27] at h; exact absurd h (by decide)
    rw [if_neg c27] at h
    by_cases c28 : isWb tp t 0 = true
    · rw [if_pos c28] at h; exact absurd h (by decide)
    rw [if_neg c28] at h
    by_cases c29 : isWb tp t 1 = true
    · rw [if_pos c29] at h; exact absurd h (by decide)
    rw [if_neg c29] at h
    by_cases c30 : isWb tp t 2 = true
    · rw [if_pos c30] at h; exact absurd h (by decide)
    rw [if_neg c30] at h
    by_cases c31 : isWb tp t 3 = true
    · rw [if_pos c31] at h; exact absurd h (by decide)
    rw [if_neg c31] at h
    by_cases c32 : isWb tp t 15 = true
    · rw [if_pos c32] at h; exact absurd h (by decide)
    rw [if_neg c32] at h
    by_cases c33 : isWb tp t 13 = true
    · rw [if_pos c33] at h; exact absurd h (by decide)
    rw [if_neg c33] at h
    by_cases c34 : isWb tp t 14 = true
    · rw [if_pos c34] at h; exact absurd h (by decide)
    rw [if_neg c34] at h
    by_cases c35 : isWb tp t 4 = true
    · rw [if_pos c35] at h; exact absurd h (by decide)
    rw [if_neg c35] at h
    exact absurd h (by decide)
theorem kwF_4 {tp : Int → Int} {t : TK} (h : isWb tp t 5 = true) : kwF tp t = 4 := by
  unfold kwF
  rw [if_neg (fun z => absurd (isWb_1 (by decide) (by decide) h z) (by decide)), if_neg (fun z => absurd (isWb_1 (by decide) (by decide) h z) (by decide)), if_neg (fun z => absurd (isWb_1 (by decide) (by decide) h z) (by decide)), if_neg (fun z => absurd (isWb_1 (by decide) (by decide) h z) (by decide)), if_pos h]
theorem kwI_4 {tp : Int → Int} {t : TK} (h : kwF tp t = 4) : isWb tp t 5 = true := by
  by_cases c : isWb tp t 5 = true
  · exact c
  · exfalso
    unfold kwF at h
    by_cases c20 : isWb tp t 7 = true
    · rw [if_pos c20] at h; exact absurd h (by decide)
    rw [if_neg c20] at h
    by_cases c21 : isWb tp t 8 = true
    · rw [if_pos c21] at h; exact absurd h (by decide)
    rw [if_neg c21] at h
    by_cases c22 : isWb tp t 9 = true
    · rw [if_pos c22] at h; exact absurd h (by decide)
    rw [if_neg c22] at h
    by_cases c23 : isWb tp t 10 = true
    · rw [if_pos c23] at h; exact absurd h (by decide)
    rw [if_neg c23] at h
    rw [if_neg c] at h
    by_cases c25 : isWb tp t 6 = true
    · rw [if_pos c25] at h; exact absurd h (by decide)
    rw [if_neg c25] at h
    by_cases c26 : isWb tp t 11 = true
    · rw [if_pos c26] at h; exact absurd h (by decide)
    rw [if_neg c26] at h
    by_cases c27 : isWb tp t 12 = true
    · rw [if_pos c27] at h; exact absurd h (by decide)
    rw [if_neg c27] at h
    by_cases c28 : isWb tp t 0 = true
    · rw [if_pos c28] at h; exact absurd h (by decide)
    rw [if_neg c28] at h
    by_cases c29 : isWb tp t 1 = true
    · rw [if_pos c29] at h; exact absurd h (by decide)
    rw [if_neg c29] at h
    by_cases c30 : isWb tp t 2 = true
    · rw [if_pos c30] at h; exact absurd h (by decide)
    rw [if_neg c30] at h
    by_cases c31 : isWb tp t 3 = true
    · rw [if_pos c31] at h; exact absurd h (by decide)
    rw [if_neg c31] at h
    by_cases c32 : isWb tp t 15 = true
    · rw [if_pos c32] at h; exact absurd h (by decide)
    rw [if_neg c32] at h
    by_cases c33 : isWb tp t 13 = true
    · rw [if_pos c33] at h; exact absurd h (by decide)
    rw [if_neg c33] at h
    by_cases c34 : isWb tp t 14 = true
    · rw [if_pos c34] at h; exact absurd h (by decide)
    rw [if_neg c34] at h
    by_cases c35 : isWb tp t 4 = true
    · rw [if_pos c35] at h; exact absurd h (by decide)
    rw [if_neg c35] at h
    exact absurd h (by decide)
theorem kwF_5 {tp : Int → Int} {t : TK} (h : isWb tp t 6 = true) : kwF tp t = 5 := by
  unfold kwF
  rw [if_neg (fun z => absurd (isWb_1 (by decide) (by decide) h z) (by decide)), if_neg (fun z => absurd (isWb_1 (by decide) (by decide) h z) (by decide)), if_neg (fun z => absurd (isWb_1 (by decide) (by decide) h z) (by decide)), if_neg (fun z => absurd (isWb_1 (by decide) (by decide) h z) (by decide)), if_neg (fun z => absurd (isWb_1 (by decide) (by decide) h z) (by decide)), if_pos h]
theorem kwI_5 {tp : Int → Int} {t : TK} (h : kwF tp t = 5) : isWb tp t 6 = true := by
  by_cases c : isWb tp t 6 = true
  · exact c
  · exfalso
    unfold kwF at h
    by_cases c20 : isWb tp t 7 = true
    · rw [if_pos c20] at h; exact absurd h (by decide)
    rw [if_neg c20] at h
    by_cases c21 : isWb tp t 8 = true
    · rw [if_pos c21] at h; exact absurd h (by decide)
    rw [if_neg c21] at h
    by_cases c22 : isWb tp t 9 = true
    · rw [if_pos c22] at h; exact absurd h (by decide)
    rw [if_neg c22] at h
    by_cases c23 : isWb tp t 10 = true
    · rw [if_pos c23] at h; exact absurd h (by decide)
    rw [if_neg c23] at h
    by_cases c24 : isWb tp t 5 = true
    · rw [if_pos c24] at h; exact absurd h (by decide)
    rw [if_neg c24] at h
    rw [if_neg c] at h
    by_cases c26 : isWb tp t 11 = true
    · rw [if_pos c26] at h; exact absurd h (by decide)
    rw [if_neg c26] at h
    by_cases c27 : isWb tp t 12 = true
    · rw [if_pos c27] at h; exact absurd h (by decide)
    rw [if_neg c27] at h
    by_cases c28 : isWb tp t 0 = true
    · rw [if_pos c28] at h; exact absurd h (by decide)
    rw [if_neg c28] at h
    by_cases c29 : isWb tp t 1 = true
    · rw [if_pos c29] at h; exact absurd h (by decide)
    rw [if_neg c29] at h
    by_cases c30 : isWb tp t 2 = true
    · rw [if_pos c30] at h; exact absurd h (by decide)
    rw [if_neg c30] at h
    by_cases c31 : isWb tp t 3 = true
    · rw [if_pos c31] at h; exact absurd h (by decide)
    rw [if_neg c31] at h
    by_cases c32 : isWb tp t 15 = true
    · rw [if_pos c32] at h; exact absurd h (by decide)
    rw [if_neg c32] at h
    by_cases c33 : isWb tp t 13 = true
    · rw [if_pos c33] at h; exact absurd h (by decide)
    rw [if_neg c33] at h
    by_cases c34 : isWb tp t 14 = true
    · rw [if_pos c34] at h; exact absurd h (by decide)
    rw [if_neg c34] at h
    by_cases c35 : isWb tp t 4 = true
    · rw [if_pos c35] at h; exact absurd h (by decide)
    rw [if_neg c35] at h
    exact absurd h (by decide)
theorem kwF_6 {tp : Int → Int} {t : TK} (h : isWb tp t 11 = true) : kwF tp t = 6 := by
  unfold kwF
  rw [if_neg (fun z => absurd (isWb_1 (by decide) (by decide) h z) (by decide)), if_neg (fun z => absurd (isWb_1 (by decide) (by decide) h z) (by decide)), if_neg (fun z => absurd (isWb_1 (by decide) (by decide) h z) (by decide)), if_neg (fun z => absurd (isWb_1 (by decide) (by decide) h z) (by decide)), if_neg (fun z => absurd (isWb_1 (by decide) (by decide) h z) (by decide)), if_neg (fun z => absurd (isWb_1 (by decide) (by decide) h z) (by decide)), if_pos h]
theorem kwI_6 {tp : Int → Int} {t : TK} (h : kwF tp t = 6) : isWb tp t 11 = true := by
  by_cases c : isWb tp t 11 = true
  · exact c
  · exfalso
    unfold kwF at h
    by_cases c20 : isWb tp t 7 = true
    · rw [if_pos c20] at h; exact absurd h (by decide)
    rw [if_neg c20] at h
    by_cases c21 : isWb tp t 8 = true
    · rw [if_pos c21] at h; exact absurd h (by decide)
    rw [if_neg c21] at h
    by_cases c22 : isWb tp t 9 = true
    · rw [if_pos c22] at h; exact absurd h (by decide)
    rw [if_neg c22] at h
    by_cases c23 : isWb tp t 10 = true
    · rw [if_pos c23] at h; exact absurd h (by decide)
    rw [if_neg c23] at h
    by_cases c24 : isWb tp t 5 = true
    · rw [if_pos c24] at h; exact absurd h (by decide)
    rw [if_neg c24] at h
    by_cases c25 : isWb tp t 6 = true
    · rw [if_pos c25] at h; exact absurd h (by decide)
    rw [if_neg c25] at h
    rw [if_neg c] at h
    by_cases c27 : isWb tp t 12 = true
    · rw [if_pos c27] at h; exact absurd h (by decide)
    rw [if_neg c27] at h
    by_cases c28 : isWb tp t 0 = true
    · rw [if_pos c28] at h; exact absurd h (by decide)
    rw [if_neg c28] at h
    by_cases c29 : isWb tp t 1 = true
    · rw [if_pos c29] at h; exact absurd h (by decide)
    rw [if_neg c29] at h
    by_cases c30 : isWb tp t 2 = true
    · rw [if_pos c30] at h; exact absurd h (by decide)
    rw [if_neg c30] at h
    by_cases c31 : isWb tp t 3 = true
    · rw [if_pos c31] at h; exact absurd h (by decide)
    rw [if_neg c31] at h
    by_cases c32 : isWb tp t 15 = true
    · rw [if_pos c32] at h; exact absurd h (by decide)
    rw [if_neg c32] at h
    by_cases c33 : isWb tp t 13 = true
    · rw [if_pos c33] at h; exact absurd h (by decide)
    rw [if_neg c33] at h
    by_cases c34 : isWb tp t 14 = true
    · rw [if_pos c34] at h; exact absurd h (by decide)
    rw [if_neg c34] at h
    by_cases c35 : isWb tp t 4 = true
    · rw [if_pos c35] at h; exact absurd h (by decide)
    rw [if_neg c35] at h
    exact absurd h (by decide)
theorem kwF_7 {tp : Int → Int} {t : TK} (h : isWb tp t 12 = true) : kwF tp t = 7 := by
  unfold kwF
  rw [if_neg (fun z => absurd (isWb_1 (by decide) (by decide) h z) (by decide)), if_neg (fun z => absurd (isWb_1 (by decide) (by decide) h z) (by decide)), if_neg (fun z => absurd (isWb_1 (by decide) (by decide) h z) (by decide)), if_neg (fun z => absurd (isWb_1 (by decide) (by decide) h z) (by decide)), if_neg (fun z => absurd (isWb_1 (by decide) (by decide) h z) (by decide)), if_neg (fun z => absurd (isWb_1 (by decide) (by decide) h z) (by decide)), if_neg (fun z => absurd (isWb_1 (by decide) (by decide) h z) (by decide)), if_pos h]
theorem kwI_7 {tp : Int → Int} {t : TK} (h : kwF tp t = 7) : isWb tp t 12 = true := by
  by_cases c : isWb tp t 12 = true
  · exact c
  · exfalso
    unfold kwF at h
    by_cases c20 : isWb tp t 7 = true
    · rw [if_pos c20] at h; exact absurd h (by decide)
    rw [if_neg c20] at h
    by_cases c21 : isWb tp t 8 = true
    · rw [if_pos c21] at h; exact absurd h (by decide)
    rw [if_neg c21] at h
    by_cases c22 : isWb tp t 9 = true
    · rw [if_pos c22] at h; exact absurd h (by decide)
    rw [if_neg c22] at h
    by_cases c23 : isWb tp t 10 = true
    · rw [if_pos c23] at h; exact absurd h (by decide)
    rw [if_neg c23] at h
    by_cases c24 : isWb tp t 5 = true
    · rw [if_pos c24] at h; exact absurd h (by decide)
    rw [if_neg c24] at h
    by_cases c25 : isWb tp t 6 = true
    · rw [if_pos c25] at h; exact absurd h (by decide)
    rw [if_neg c25] at h
    by_cases c26 : isWb tp t 11 = true
    · rw [if_pos c26] at h; exact absurd h (by decide)
    rw [if_neg c26] at h
    rw [if_neg c] at h
    by_cases c28 : isWb tp t 0 = true
    · rw [if_pos c28] at h; exact absurd h (by decide)
    rw [if_neg c28] at h
    by_cases c29 : isWb tp t 1 = true
    · rw [if_pos c29] at h; exact absurd h (by decide)
    rw [if_neg c29] at h
    by_cases c30 : isWb tp t 2 = true
    · rw [if_pos c30] at h; exact absurd h (by decide)
    rw [if_neg c30] at h
    by_cases c31 : isWb tp t 3 = true
    · rw [if_pos c31] at h; exact absurd h (by decide)
    rw [if_neg c31] at h
    by_cases c32 : isWb tp t 15 = true
    · rw [if_pos c32] at h; exact absurd h (by decide)
    rw [if_neg c32] at h
    by_cases c33 : isWb tp t 13 = true
    · rw [if_pos c33] at h; exact absurd h (by decide)
    rw [if_neg c33] at h
    by_cases c34 : isWb tp t 14 = true
    · rw [if_pos c34] at h; exact absurd h (by decide)
    rw [if_neg c34] at h
    by_cases c35 : isWb tp t 4 = true
    · rw [if_pos c35] at h; exact absurd h (by decide)
    rw [if_neg c35] at h
    exact absurd h (by decide)
theorem kwF_8 {tp : Int → Int} {t : TK} (h : isWb tp t 0 = true) : kwF tp t = 8 := by
  unfold kwF
  rw [if_neg (fun z => absurd (isWb_1 (by decide) (by decide) h z) (by decide)), if_neg (fun z => absurd (isWb_1 (by decide) (by decide) h z) (by decide)), if_neg (fun z => absurd (isWb_1 (by decide) (by decide) h z) (by decide)), if_neg (fun z => absurd (isWb_1 (by decide) (by decide) h z) (by decide)), if_neg (fun z => absurd (isWb_1 (by decide) (by decide) h z) (by decide)), if_neg (fun z => absurd (isWb_1 (by decide) (by decide) h z) (by decide)), if_neg (fun z => absurd (isWb_1 (by decide) (by decide) h z) (by decide)), if_neg (fun z => absurd (isWb_1 (by decide) (by decide) h z) (by decide)), if_pos h]
theorem kwI_8 {tp : Int → Int} {t : TK} (h : kwF tp t = 8) : isWb tp t 0 = true := by
  by_cases c : isWb tp t 0 = true
  · exact c
  · exfalso
    unfold kwF at h
    by_cases c20 : isWb tp t 7 = true
    · rw [if_pos c20] at h; exact absurd h (by decide)
    rw [if_neg c20] at h
    by_cases c21 : isWb tp t 8 = true
    · rw [if_pos c21] at h; exact absurd h (by decide)
    rw [if_neg c21] at h
    by_cases c22 : isWb tp t 9 = true
    · rw [if_pos c22] at h; exact absurd h (by decide)
    rw [if_neg c22] at h
    by_cases c23 : isWb tp t 10 = true
    · rw [if_pos c23] at h; exact absurd h (by decide)
    rw [if_neg c23] at h
    by_cases c24 : isWb tp t 5 = true
    · rw [if_pos c24] at h; exact absurd h (by decide)
    rw [if_neg c24] at h
    by_cases c25 : isWb tp t 6 = true
    · rw [if_pos c25] at h; exact absurd h (by decide)
    rw [if_neg c25] at h
    by_cases c26 : isWb tp t 11 = true
    · rw [if_pos c26] at h; exact absurd h (by decide)
    rw [if_neg c26] at h
    by_cases c27 : isWb tp t 12 = true
    · rw [if_pos c27] at h; exact absurd h (by decide)
    rw [if_neg c27] at h
    rw [if_neg c] at h
    by_cases c29 : isWb tp t 1 = true
    · rw [if_pos c29] at h; exact absurd h (by decide)
    rw [if_neg c29] at h
    by_cases c30 : isWb tp t 2 = true
    · rw [if_pos c30] at h; exact absurd h (by decide)
    rw [if_neg c30] at h
    by_cases c31 : isWb tp t 3 = true
    · rw [if_pos c31] at h; exact absurd h (by decide)
    rw [if_neg c31] at h
    by_cases c32 : isWb tp t 15 = true
    · rw [if_pos c32] at h; exact absurd h (by decide)
    rw [if_neg c32] at h
    by_cases c33 : isWb tp t 13 = true
    · rw [if_pos c33] at h; exact absurd h (by decide)
    rw [if_neg c33] at h
    by_cases c34 : isWb tp t 14 = true
    · rw [if_pos c34] at h; exact absurd h (by decide)
    rw [if_neg c34] at h
    by_cases c35 : isWb tp t 4 = true
    · rw [if_pos c35] at h; exact absurd h (by decide)
    rw [if_neg c35] at h
    exact absurd h (by decide)
theorem kwF_9 {tp : Int → Int} {t : TK} (h : isWb tp t 1 = true) : kwF tp t = 9 := by
  unfold kwF
  rw [if_neg (fun z => absurd (isWb_1 (by decide) (by decide) h z) (by decide)), if_neg (fun z => absurd (isWb_1 (by decide) (by decide) h z) (by decide)), if_neg (fun z => absurd (isWb_1 (by decide) (by decide) h z) (by decide)), if_neg (fun z => absurd (isWb_1 (by decide) (by decide) h z) (by decide)), if_neg (fun z => absurd (isWb_1 (by decide) (by decide) h z) (by decide)), if_neg (fun z => absurd (isWb_1 (by decide) (by decide) h z) (by decide)), if_neg (fun z => absurd (isWb_1 (by decide) (by decide) h z) (by decide)), if_neg (fun z => absurd (isWb_1 (by decide) (by decide) h z) (by decide)), if_neg (fun z => absurd (isWb_1 (by decide) (by decide) h z) (by decide)), if_pos h]
theorem kwI_9 {tp : Int → Int} {t : TK} (h : kwF tp t = 9) : isWb tp t 1 = true := by
  by_cases c : isWb tp t 1 = true
  · exact c
  · exfalso
    unfold kwF at h
    by_cases c20 : isWb tp t 7 = true
    · rw [if_pos c20] at h; exact absurd h (by decide)
    rw [if_neg c20] at h
    by_cases c21 : isWb tp t 8 = true
    · rw [if_pos c21] at h; exact absurd h (by decide)
    rw [if_neg c21] at h
    by_cases c22 : isWb tp t 9 = true
    · rw [if_pos c22] at h; exact absurd h (by decide)
    rw [if_neg c22] at h
    by_cases c23 : isWb tp t 10 = true
    · rw [if_pos c23] at h; exact absurd h (by decide)
    rw [if_neg c23] at h
    by_cases c24 : isWb tp t 5 = true
    · rw [if_pos c24] at h; exact absurd h (by decide)
    rw [if_neg c24] at h
    by_cases c25 : isWb tp t 6 = true
    · rw [if_pos c25] at h; exact absurd h (by decide)
    rw [if_neg c25] at h
    by_cases c26 : isWb tp t 11 = true
    · rw [if_pos c26] at h; exact absurd h (by decide)
    rw [if_neg c26] at h
    by_cases c27 : isWb tp t 12 = true
    · rw [if_pos c27] at h; exact absurd h (by decide)
    rw [if_neg c27] at h
    by_cases c28 : isWb tp t 0 = true
    · rw [if_pos c28] at h; exact absurd h (by decide)
    rw [if_neg c28] at h
    rw [if_neg c] at h
    by_cases c30 : isWb tp t 2 = true
    · rw [if_pos c30] at h; exact absurd h (by decide)
    rw [if_neg c30] at h
    by_cases c31 : isWb tp t 3 = true
    · rw [if_pos c31] at h; exact absurd h (by decide)
    rw [if_neg c31] at h
    by_cases c32 : isWb tp t 15 = true
    · rw [if_pos c32] at h; exact absurd h (by decide)
    rw [if_neg c32] at h
    by_cases c33 : isWb tp t 13 = true
    · rw [if_pos c33] at h; exact absurd h (by decide)
    rw [if_neg c33] at h
    by_cases c34 : isWb tp t 14 = true
    · rw [if_pos c34] at h; exact absurd h (by decide)
    rw [if_neg c34] at h
    by_cases c35 : isWb tp t 4 = true
    · rw [if_pos c35] at h; exact absurd h (by decide)
    rw [if_neg c35] at h
    exact absurd h (by decide)
theorem kwF_10 {tp : Int → Int} {t : TK} (h : isWb tp t 2 = true) : kwF tp t = 10 := by
  unfold kwF
  rw [if_neg (fun z => absurd (isWb_1 (by decide) (by decide) h z) (by decide)), if_neg (fun z => absurd (isWb_1 (by decide) (by decide) h z) (by decide)), if_neg (fun z => absurd (isWb_1 (by decide) (by decide) h z) (by decide)), if_neg (fun z => absurd (isWb_1 (by decide) (by decide) h z) (by decide)), if_neg (fun z => absurd (isWb_1 (by decide) (by decide) h z) (by decide)), if_neg (fun z => absurd (isWb_1 (by decide) (by decide) h z) (by decide)), if_neg (fun z => absurd (isWb_1 (by decide) (by decide) h z) (by decide)), if_neg (fun z => absurd (isWb_1 (by decide) (by decide) h z) (by decide)), if_neg (fun z => absurd (isWb_1 (by decide) (by decide) h z) (by decide)), if_neg (fun z => absurd (isWb_1 (by decide) (by decide) h z) (by decide)), if_pos h]
theorem kwI_10 {tp : Int → Int} {t : TK} (h : kwF tp t = 10) : isWb tp t 2 = true := by
  by_cases c : isWb tp t 2 = true
  · exact c
  · exfalso
    unfold kwF at h
    by_cases c20 : isWb tp t 7 = true
    · rw [if_pos c20] at h; exact absurd h (by decide)
    rw [if_neg c20] at h
    by_cases c21 : isWb tp t 8 = true
    · rw [if_pos c21] at h; exact absurd h (by decide)
    rw [if_neg c21] at h
    by_cases c22 : isWb tp t 9 = true
    · rw [if_pos c22] at h; exact absurd h (by decide)
    rw [if_neg c22] at h
    by_cases c23 : isWb tp t 10 = true
    · rw [if_pos c23] at h; exact absurd h (by decide)
    rw [if_neg c23] at h
    by_cases c24 : isWb tp t 5 = true
    · rw [if_pos c24] at h; exact absurd h (by decide)
    rw [if_neg c24] at h
    by_cases c25 : isWb tp t 6 = true
    · rw [if_pos c25] at h; exact absurd h (by decide)
    rw [if_neg c25] at h
    by_cases c26 : isWb tp t 11 = true
    · rw [if_pos c26] at h; exact absurd h (by decide)
    rw [if_neg c26] at h
    by_cases c27 : isWb tp t 12 = true
    · rw [if_pos c27] at h; exact absurd h (by decide)
    rw [if_neg c27] at h
    by_cases c28 : isWb tp t 0 = true
    · rw [if_pos c28] at h; exact absurd h (by decide)
    rw [if_neg c28] at h
    by_cases c29 : isWb tp t 1 = true
    · rw [if_pos c29] at h; exact absurd h (by decide)
    rw [if_neg c29] at h
    rw [if_neg c] at h
    by_cases c31 : isWb tp t 3 = true
    · rw [if_pos c31] at h; exact absurd h (by decide)
    rw [if_neg c31] at h
    by_cases c32 : isWb tp t 15 = true
    · rw [if_pos c32] at h; exact absurd h (by decide)
    rw [if_neg c32] at h
    by_cases c33 : isWb tp t 13 = true
    · rw [if_pos c33] at h; exact absurd h (by decide)
    rw [if_neg c33] at h
    by_cases c34 : isWb tp t 14 = true
    · rw [if_pos c34] at h; exact absurd h (by decide)
    rw [if_neg c34] at h
    by_cases c35 : isWb tp t 4 = true
    · rw [if_pos c35] at h; exact absurd h (by decide)
    rw [if_neg c35] at h
    exact absurd h (by decide)
theorem kwF_11 {tp : Int → Int} {t : TK} (h : isWb tp t 3 = true) : kwF tp t = 11 := by
  unfold kwF
  rw [if_neg (fun z => absurd (isWb_1 (by decide) (by decide) h z) (by decide)), if_neg (fun z => absurd (isWb_1 (by decide) (by decide) h z) (by decide)), if_neg (fun z => absurd (isWb_1 (by decide) (by decide) h z) (by decide)), if_neg (fun z => absurd (isWb_1 (by decide) (by decide) h z) (by decide)), if_neg (fun z => absurd (isWb_1 (by decide) (by decide) h z) (by decide)), if_neg (fun z => absurd (isWb_1 (by decide) (by decide) h z) (by decide)), if_neg (fun z => absurd (isWb_1 (by decide) (by decide) h z) (by decide)), if_neg (fun z => absurd (isWb_1 (by decide) (by decide) h z) (by decide)), if_neg (fun z => absurd (isWb_1 (by decide) (by decide) h z) (by decide)), if_neg (fun z => absurd (isWb_1 (by decide) (by decide) h z) (by decide)), if_neg (fun z => absurd (isWb_1 (by decide) (by decide) h z) (by decide)), if_pos h]
theorem kwI_11 {tp : Int → Int} {t : TK} (h : kwF tp t = 11) : isWb tp t 3 = true := by
  by_cases c : isWb tp t 3 = true
  · exact c
  · exfalso
    unfold kwF at h
    by_cases c20 : isWb tp t 7 = true
    · rw [if_pos c20] at h; exact absurd h (by decide)
    rw [if_neg c20] at h
    by_cases c21 : isWb tp t 8 = true
    · rw [if_pos c21] at h; exact absurd h (by decide)
    rw [if_neg c21] at h
    by_cases c22 : isWb tp t 9 = true
    · rw [if_pos c22] at h; exact absurd h (by decide)
    rw [if_neg c22] at h
    by_cases c23 : isWb tp t 10 = true
    · rw [if_pos c23] at h; exact absurd h (by decide)
    rw [if_neg c23] at h
    by_cases c24 : isWb tp t 5 = true
    · rw [if_pos c24] at h; exact absurd h (by decide)
    rw [if_neg c24] at h
    by_cases c25 : isWb tp t 6 = true
    · rw [if_pos c25] at h; exact absurd h (by decide)
    rw [if_neg c25] at h
    by_cases c26 : isWb tp t 11 = true
    · rw [if_pos c26] at h; exact absurd h (by decide)
    rw [if_neg c26] at h
    by_cases c27 : isWb tp t 12 = true
    · rw [if_pos c27] at h; exact absurd h (by decide)
    rw [if_neg c27] at h
    by_cases c28 : isWb tp t 0 = true
    · rw [if_pos c28] at h; exact absurd h (by decide)
    rw [if_neg c28] at h
    by_cases c29 : isWb tp t 1 = true
    · rw [if_pos c29] at h; exact absurd h (by decide)
    rw [if_neg c29] at h
    by_cases c30 : isWb tp t 2 = true
    · rw [if_pos c30] at h; exact absurd h (by decide)
    rw [if_neg c30] at h
    rw [if_neg c] at h
    by_cases c32 : isWb tp t 15 = true
    · rw [if_pos c32] at h; exact absurd h (by decide)
    rw [if_neg c32] at h
    by_cases c33 : isWb tp t 13 = true
    · rw [if_pos c33] at h; exact absurd h (by decide)
    rw [if_neg c33] at h
    by_cases c34 : isWb tp t 14 = true
    · rw [if_pos c34] at h; exact absurd h (by decide)
    rw [if_neg c34] at h
    by_cases c35 : isWb tp t 4 = true
    · rw [if_pos c35] at h; exact absurd h (by decide)
    rw [if_neg c35] at h
    exact absurd h (by decide)
theorem kwF_12 {tp : Int → Int} {t : TK} (h : isWb tp t 15 = true) : kwF tp t = 12 := by
  unfold kwF
  rw [if_neg (fun z => absurd (isWb_1 (by decide) (by decide) h z) (by decide)), if_neg (fun z => absurd (isWb_1 (by decide) (by decide) h z) (by decide)), if_neg (fun z => absurd (isWb_1 (by decide) (by decide) h z) (by decide)), if_neg (fun z => absurd (isWb_1 (by decide) (by decide) h z) (by decide)), if_neg (fun z => absurd (isWb_1 (by decide) (by decide) h z) (by decide)), if_neg (fun z => absurd (isWb_1 (by decide) (by decide) h z) (by decide)), if_neg (fun z => absurd (isWb_1 (by decide) (by decide) h z) (by decide)), if_neg (fun z => absurd (isWb_1 (by decide) (by decide) h z) (by decide)), if_neg (fun z => absurd (isWb_1 (by decide) (by decide) h z) (by decide)), if_neg (fun z => absurd (isWb_1 (by decide) (by decide) h z) (by decide)), if_neg (fun z => absurd (isWb_1 (by decide) (by decide) h z) (by decide)), if_neg (fun z => absurd (isWb_1 (by decide) (by decide) h z) (by decide)), if_pos h]
theorem kwI_12 {tp : Int → Int} {t : TK} (h : kwF tp t = 12) : isWb tp t 15 = true := by
  by_cases c : isWb tp t 15 = true
  · exact c
  · exfalso
    unfold kwF at h
    by_cases c20 : isWb tp t 7 = true
    · rw [if_pos c20] at h; exact absurd h (by decide)
    rw [if_neg c20] at h
    by_cases c21 : isWb tp t 8 = true
    · rw [if_pos c21] at h; exact absurd h (by decide)
    rw [if_neg c21] at h
    by_cases c22 : isWb tp t 9 = true
    · rw [if_pos c22] at h; exact absurd h (by decide)
    rw [if_neg c22] at h
    by_cases c23 : isWb tp t 10 = true
    · rw [if_pos c23] at h; exact absurd h (by decide)
    rw [if_neg c23] at h
    by_cases c24 : isWb tp t 5 = true
    · rw [if_pos c24] at h; exact absurd h (by decide)
    rw [if_neg c24] at h
    by_cases c25 : isWb tp t 6 = true
    · rw [if_pos c25] at h; exact absurd h (by decide)
    rw [if_neg c25] at h
    by_cases c26 : isWb tp t 11 = true
    · rw [if_pos c26] at h; exact absurd h (by decide)
    rw [if_neg c26] at h
    by_cases c27 : isWb tp t 12 = true
    · rw [if_pos c27] at h; exact absurd h (by decide)
    rw [if_neg c27] at h
    by_cases c28 : isWb tp t 0 = true
    · rw [if_pos c28] at h; exact absurd h (by decide)
    rw [if_neg c28] at h
    by_cases c29 : isWb tp t 1 = true
    · rw [if_pos c29] at h; exact absurd h (by decide)
    rw [if_neg c29] at h
    by_cases c30 : isWb tp t 2 = true
    · rw [if_pos c30] at h; exact absurd h (by decide)
    rw [if_neg c30] at h
    by_cases c31 : isWb tp t 3 = true
    · rw [if_pos c31] at h; exact absurd h (by decide)
    rw [if_neg c31] at h
    rw [if_neg c] at h
    by_cases c33 : isWb tp t 13 = true
    · rw [if_pos c33] at h; exact absurd h (by decide)
    rw [if_neg c33] at h
    by_cases c34 : isWb tp t 14 = true
    · rw [if_pos c34] at h; exact absurd h (by decide)
    rw [if_neg c34] at h
    by_cases c35 : isWb tp t 4 = true
    · rw [if_pos c35] at h; exact absurd h (by decide)
    rw [if_neg c35] at h
    exact absurd h (by decide)
theorem kwF_13 {tp : Int → Int} {t : TK} (h : isWb tp t 13 = true) : kwF tp t = 13 := by
  unfold kwF
  rw [if_neg (fun z => absurd (isWb_1 (by decide) (by decide) h z) (by decide)), if_neg (fun z => absurd (isWb_1 (by decide) (by decide) h z) (by decide)), if_neg (fun z => absurd (isWb_1 (by decide) (by decide) h z) (by decide)), if_neg (fun z => absurd (isWb_1 (by decide) (by decide) h z) (by decide)), if_neg (fun z => absurd (isWb_1 (by decide) (by decide) h z) (by decide)), if_neg (fun z => absurd (isWb_1 (by decide) (by decide) h z) (by decide)), if_neg (fun z => absurd (isWb_1 (by decide) (by decide) h z) (by decide)), if_neg (fun z => absurd (isWb_1 (by decide) (by decide) h z) (by decide)), if_neg (fun z => absurd (isWb_1 (by decide) (by decide) h z) (by decide)), if_neg (fun z => absurd (isWb_1 (by decide) (by decide) h z) (by decide)), if_neg (fun z => absurd (isWb_1 (by decide) (by decide) h z) (by decide)), if_neg (fun z => absurd (isWb_1 (by decide) (by decide) h z) (by decide)), if_neg (fun z => absurd (isWb_1 (by decide) (by decide) h z) (by decide)), if_pos h]
theorem kwI_13 {tp : Int → Int} {t : TK} (h : kwF tp t = 13) : isWb tp t 13 = true := by
  by_cases c : isWb tp t 13 = true
  · exact c
  · exfalso
    unfold kwF at h
    by_cases c20 : isWb tp t 7 = true
    · rw [if_pos c20] at h; exact absurd h (by decide)
    rw [if_neg c20] at h
    by_cases c21 : isWb tp t 8 = true
    · rw [if_pos c21] at h; exact absurd h (by decide)
    rw [if_neg c21] at h
    by_cases c22 : isWb tp t 9 = true
    · rw [if_pos c22] at h; exact absurd h (by decide)
    rw [if_neg c22] at h
    by_cases c23 : isWb tp t 10 = true
    · rw [if_pos c23] at h; exact absurd h (by decide)
    rw [if_neg c23] at h
    by_cases c24 : isWb tp t 5 = true
    · rw [if_pos c24] at h; exact absurd h (by decide)
    rw [if_neg c24] at h
    by_cases c25 : isWb tp t 6 = true
    · rw [if_pos c25] at h; exact absurd h (by decide)
    rw [if_neg c25] at h
    by_cases c26 : isWb tp t 11 = true
    · rw [if_pos c26] at h; exact absurd h (by decide)
    rw [if_neg c26] at h
    by_cases c27 : isWb tp t 12 = true
    · rw [if_pos c27] at h; exact absurd h (by decide)
    rw [if_neg c27] at h
    by_cases c28 : isWb tp t 0 = true
    · rw [if_pos c28] at h; exact absurd h (by decide)
    rw [if_neg c28] at h
    by_cases c29 : isWb tp t 1 = true
    · rw [if_pos c29] at h; exact absurd h (by decide)
    rw [if_neg c29] at h
    by_cases c30 : isWb tp t 2 = true
    · rw [if_pos c30] at h; exact absurd h (by decide)
    rw [if_neg c30] at h
    by_cases c31 : isWb tp t 3 = true
    · rw [if_pos c31] at h; exact absurd h (by decide)
    rw [if_neg c31] at h
    by_cases c32 : isWb tp t 15 = true
    · rw [if_pos c32] at h; exact absurd h (by decide)
    rw [if_neg c32] at h
    rw [if_neg c] at h
    by_cases c34 : isWb tp t 14 = true
    · rw [if_pos c34] at h; exact absurd h (by decide)
    rw [if_neg c34] at h
    by_cases c35 : isWb tp t 4 = true
    · rw [if_pos c35] at h; exact absurd h (by decide)
    rw [if_neg c35] at h
    exact absurd h (by decide)
theorem kwF_14 {tp : Int → Int} {t : TK} (h : isWb tp t 14 = true) : kwF tp t = 14 := by
  unfold kwF
  rw [if_neg (fun z => absurd (isWb_1 (by decide) (by decide) h z) (by decide)), if_neg (fun z => absurd (isWb_1 (by decide) (by decide) h z) (by decide)), if_neg (fun z => absurd (isWb_1 (by decide) (by decide) h z) (by decide)), if_neg (fun z => absurd (isWb_1 (by decide) (by decide) h z) (by decide)), if_neg (fun z => absurd (isWb_1 (by decide) (by decide) h z) (by decide)), if_neg (fun z => absurd (isWb_1 (by decide) (by decide) h z) (by decide)), if_neg (fun z => absurd (isWb_1 (by decide) (by decide) h z) (by decide)), if_neg (fun z => absurd (isWb_1 (by decide) (by decide) h z) (by decide)), if_neg (fun z => absurd (isWb_1 (by decide) (by decide) h z) (by decide)), if_neg (fun z => absurd (isWb_1 (by decide) (by decide) h z) (by decide)), if_neg (fun z => absurd (isWb_1 (by decide) (by decide) h z) (by decide)), if_neg (fun z => absurd (isWb_1 (by decide) (by decide) h z) (by decide)), if_neg (fun z => absurd (isWb_1 (by decide) (by decide) h z) (by decide)), if_neg (fun z => absurd (isWb_1 (by decide) (by decide) h z) (by decide)), if_pos h]
theorem kwI_14 {tp : Int → Int} {t : TK} (h : kwF tp t = 14) : isWb tp t 14 = true := by
  by_cases c : isWb tp t 14 = true
  · exact c
  · exfalso
    unfold kwF at h
    by_cases c20 : isWb tp t 7 = true
    · rw [if_pos c20] at h; exact absurd h (by decide)
    rw [if_neg c20] at h
    by_cases c21 : isWb tp t 8 = true
    · rw [if_pos c21] at h; exact absurd h (by decide)
    rw [if_neg c21] at h
    by_cases c22 : isWb tp t 9 = true
    · rw [if_pos c22] at h; exact absurd h (by decide)
    rw [if_neg c22] at h
    by_cases c23 : isWb tp t 10 = true
    · rw [if_pos c23] at h; exact absurd h (by decide)
    rw [if_neg c23] at h
    by_cases c24 : isWb tp t 5 = true
    · rw [if_pos c24] at h; exact absurd h (by decide)
    rw [if_neg c24] at h
    by_cases c25 : isWb tp t 6 = true
    · rw [if_pos c25] at h; exact absurd h (by decide)
    rw [if_neg c25] at h
    by_cases c26 : isWb tp t 11 = true
    · rw [if_pos c26] at h; exact absurd h (by decide)
    rw [if_neg c26] at h
    by_cases c27 : isWb tp t 12 = true
    · rw [if_pos c27] at h; exact absurd h (by decide)
    rw [if_neg c27] at h
    by_cases c28 : isWb tp t 0 = true
    · rw [if_pos c28] at h; exact absurd h (by decide)
    rw [if_neg c28] at h
    by_cases c29 : isWb tp t 1 = true
    · rw [if_pos c29] at h; exact absurd h (by decide)
    rw [if_neg c29] at h
    by_cases c30 : isWb tp t 2 = true
    · rw [if_pos c30] at h; exact absurd h (by decide)
    rw [if_neg c30] at h
    by_cases c31 : isWb tp t 3 = true
    · rw [if_pos c31] at h; exact absurd h (by decide)
    rw [if_neg c31] at h
    by_cases c32 : isWb tp t 15 = true
    · rw [if_pos c32] at h; exact absurd h (by decide)
    rw [if_neg c32] at h
    by_cases c33 : isWb tp t 13 = true
    · rw [if_pos c33] at h; exact absurd h (by decide)
    rw [if_neg c33] at h
    rw [if_neg c] at h
    by_cases c35 : isWb tp t 4 = true
    · rw [if_pos c35] at h; exact absurd h (by decide)
    rw [if_neg c35] at h
    exact absurd h (by decide)
theorem kwF_15 {tp : Int → Int} {t : TK} (h : isWb tp t 4 = true) : kwF tp t = 15 := by
  unfold kwF
  rw [if_neg (fun z => absurd (isWb_1 (by decide) (by decide) h z) (by decide)), if_neg (fun z => absurd (isWb_1 (by decide) (by decide) h z) (by decide)), if_neg (fun z => absurd (isWb_1 (by decide) (by decide) h z) (by decide)), if_neg (fun z => absurd (isWb_1 (by decide) (by decide) h z) (by decide)), if_neg (fun z => absurd (isWb_1 (by decide) (by decide) h z) (by decide)), if_neg (fun z => absurd (isWb_1 (by decide) (by decide) h z) (by decide)), if_neg (fun z => absurd (isWb_1 (by decide) (by decide) h z) (by decide)), if_neg (fun z => absurd (isWb_1 (by decide) (by decide) h z) (by decide)), if_neg (fun z => absurd (isWb_1 (by decide) (by decide) h z) (by decide)), if_neg (fun z => absurd (isWb_1 (by decide) (by decide) h z) (by decide)), if_neg (fun z => absurd (isWb_1 (by decide) (by decide) h z) (by decide)), if_neg (fun z => absurd (isWb_1 (by decide) (by decide) h z) (by decide)), if_neg (fun z => absurd (isWb_1 (by decide) (by decide) h z) (by decide)), if_neg (fun z => absurd (isWb_1 (by decide) (by decide) h z) (by decide)), if_neg (fun z => absurd (isWb_1 (by decide) (by decide) h z) (by decide)), if_pos h]
theorem kwI_15 {tp : Int → Int} {t : TK} (h : kwF tp t = 15) : isWb tp t 4 = true := by
  by_cases c : isWb tp t 4 = true
  · exact c
  · exfalso
    unfold kwF at h
    by_cases c20 : isWb tp t 7 = true
    · rw [if_pos c20] at h; exact absurd h (by decide)
    rw [if_neg c20] at h
    by_cases c21 : isWb tp t 8 = true
    · rw [if_pos c21] at h; exact absurd h (by decide)
    rw [if_neg c21] at h
    by_cases c22 : isWb tp t 9 = true
    · rw [if_pos c22] at h; exact absurd h (by decide)
    rw [if_neg c22] at h
    by_cases c23 : isWb tp t 10 = true
    · rw [if_pos c23] at h; exact absurd h (by decide)
    rw [if_neg c23] at h
    by_cases c24 : isWb tp t 5 = true
    · rw [if_pos c24] at h; exact absurd h (by decide)
    rw [if_neg c24] at h
    by_cases c25 : isWb tp t 6 = true
    · rw [if_pos c25] at h; exact absurd h (by decide)
    rw [if_neg c25] at h
    by_cases c26 : isWb tp t 11 = true
    · rw [if_pos c26] at h; exact absurd h (by decide)
    rw [if_neg c26] at h
    by_cases c27 : isWb tp t 12 = true
    · rw [if_pos c27] at h; exact absurd h (by decide)
    rw [if_neg c27] at h
    by_cases c28 : isWb tp t 0 = true
    · rw [if_pos c28] at h; exact absurd h (by decide)
    rw [if_neg c28] at h
    by_cases c29 : isWb tp t 1 = true
    · rw [if_pos c29] at h; exact absurd h (by decide)
    rw [if_neg c29] at h
    by_cases c30 : isWb tp t 2 = true
    · rw [if_pos c30] at h; exact absurd h (by decide)
    rw [if_neg c30] at h
    by_cases c31 : isWb tp t 3 = true
    · rw [if_pos c31] at h; exact absurd h (by decide)
    rw [if_neg c31] at h
    by_cases c32 : isWb tp t 15 = true
    · rw [if_pos c32] at h; exact absurd h (by decide)
    rw [if_neg c32] at h
    by_cases c33 : isWb tp t 13 = true
    · rw [if_pos c33] at h; exact absurd h (by decide)
    rw [if_neg c33] at h
    by_cases c34 : isWb tp t 14 = true
    · rw [if_pos c34] at h; exact absurd h (by decide)
    rw [if_neg c34] at h
    rw [if_neg c] at h
    exact absurd h (by decide)
def mX12_spelled : MI := (yX12_spelled, cX12_spelled, 8, (some .long), rmK 1 0)
def tX12_spelled : List (Nat × Instr × Nat) := [(0, .iload_n 0, 1), (1, .i2l, 1), (2, .ldc2_w 151, 3), (5, .lsub, 1), (6, .iconst 5, 1), (7, .lshl, 1), (8, .iload_n 1, 1), (9, .bipush 96, 2), (11, .isub, 1), (12, .i2l, 1), (13, .lor, 1), (14, .lstore 6, 2), (16, .iload_n 2, 1), (17, .ifCond .eq 15, 3), (20, .lload 6, 2), (22, .iconst 5, 1), (23, .lshl, 1), (24, .iload_n 2, 1), (25, .bipush 96, 2), (27, .isub, 1), (28, .i2l, 1), (29, .lor, 1), (30, .lstore 6, 2), (32, .iload_n 3, 1), (33, .ifCond .eq 15, 3), (36, .lload 6, 2), (38, .iconst 5, 1), (39, .lshl, 1), (40, .iload_n 3, 1), (41, .bipush 96, 2), (43, .isub, 1), (44, .i2l, 1), (45, .lor, 1), (46, .lstore 6, 2), (48, .iload 4, 2), (50, .ifCond .eq 16, 3), (53, .lload 6, 2), (55, .iconst 5, 1), (56, .lshl, 1), (57, .iload 4, 2), (59, .bipush 96, 2), (61, .isub, 1), (62, .i2l, 1), (63, .lor, 1), (64, .lstore 6, 2), (66, .iload 5, 2), (68, .ifCond .eq 16, 3), (71, .lload 6, 2), (73, .iconst 5, 1), (74, .lshl, 1), (75, .iload 5, 2), (77, .bipush 96, 2), (79, .isub, 1), (80, .i2l, 1), (81, .lor, 1), (82, .lstore 6, 2), (84, .lload 6, 2), (86, .lreturn, 1)]
theorem dtX12_spelled : tX12_spelled.all (fun q => decide (decode cX12_spelled q.1 = .ok (q.2.1, q.2.2))) = true := by decide +kernel
theorem npX12_spelled : (parseMethodDescriptor (mY mX12_spelled).desc).map (fun d => d.parameters.length) = some 6 := by decide +kernel
theorem vX12_spelled : mS mX12_spelled := ⟨wT_X12_spelled, wN_X12, wC_X12_spelled, by decide +kernel, by decide +kernel⟩
set_option maxHeartbeats 4000000 in
set_option maxRecDepth 100000 in
theorem sX12_spelled_0 {h : HP}  : SpecK mX12_spelled [vi 117, vi 115, vi 101, vi 0, vi 0, vi 0] h (fun o h' => o = .inl (some (vl (pkWd 7))) ∧ h' = h) := by
  refine Spec_of (by decide +kernel) (Nat.le_of_ble_eq_true rfl) ?_
  refine K_iload_n (dt_at dtX12_spelled 0 rfl) rfl rfl ?_
  refine K_i2l (dt_at dtX12_spelled 1 rfl) (by first | assumption | exact ⟨by omega, by omega⟩) ?_
  refine K_ldc2 (n := 96) (dt_at dtX12_spelled 2 rfl) wK2_X12_151 (by decide) ?_
  refine K_lsub (dt_at dtX12_spelled 3 rfl) ?_
  refine K_iconst (dt_at dtX12_spelled 4 rfl) ?_
  refine K_lsh5 (dt_at dtX12_spelled 5 rfl) ?_
  refine K_iload_n (dt_at dtX12_spelled 6 rfl) rfl rfl ?_
  refine K_bipush (dt_at dtX12_spelled 7 rfl) (by decide) ?_
  refine K_isub (dt_at dtX12_spelled 8 rfl) ?_
  refine K_i2l (dt_at dtX12_spelled 9 rfl) (by first | assumption | exact ⟨by omega, by omega⟩) ?_
  refine K_lor (dt_at dtX12_spelled 10 rfl) (by omega) (by omega) ?_
  refine K_lstore (ls' := [(6, vl (((117 - 96) * 32) + (115 - 96))), (0, vi 117), (1, vi 115), (2, vi 101), (3, vi 0), (4, vi 0), (5, vi 0)]) (dt_at dtX12_spelled 11 rfl) (by decide) rfl ?_
  refine K_iload_n (dt_at dtX12_spelled 12 rfl) rfl rfl ?_
  refine K_if_eq (tgt := 32) (dt_at dtX12_spelled 13 rfl) (by decide) (by first | assumption | exact ⟨by omega, by omega⟩) (fun c1 => absurd c1 (by omega)) (fun c1 => ?_)
  refine K_lload (dt_at dtX12_spelled 14 rfl) rfl ?_
  refine K_iconst (dt_at dtX12_spelled 15 rfl) ?_
  refine K_lsh5 (dt_at dtX12_spelled 16 rfl) ?_
  refine K_iload_n (dt_at dtX12_spelled 17 rfl) rfl rfl ?_
  refine K_bipush (dt_at dtX12_spelled 18 rfl) (by decide) ?_
  refine K_isub (dt_at dtX12_spelled 19 rfl) ?_
  refine K_i2l (dt_at dtX12_spelled 20 rfl) (by first | assumption | exact ⟨by omega, by omega⟩) ?_
  refine K_lor (dt_at dtX12_spelled 21 rfl) (by omega) (by omega) ?_
  refine K_lstore (ls' := [(6, vl (((((117 - 96) * 32) + (115 - 96)) * 32) + (101 - 96))), (0, vi 117), (1, vi 115), (2, vi 101), (3, vi 0), (4, vi 0), (5, vi 0)]) (dt_at dtX12_spelled 22 rfl) (by decide) rfl ?_
  refine K_iload_n (dt_at dtX12_spelled 23 rfl) rfl rfl ?_
  refine K_if_eq (tgt := 48) (dt_at dtX12_spelled 24 rfl) (by decide) (by first | assumption | exact ⟨by omega, by omega⟩) (fun c2 => ?_) (fun c2 => absurd c2 (by omega))
  refine K_iload (dt_at dtX12_spelled 34 rfl) rfl ?_
  refine K_if_eq (tgt := 66) (dt_at dtX12_spelled 35 rfl) (by decide) (by first | assumption | exact ⟨by omega, by omega⟩) (fun c3 => ?_) (fun c3 => absurd c3 (by omega))
  refine K_iload (dt_at dtX12_spelled 45 rfl) rfl ?_
  refine K_if_eq (tgt := 84) (dt_at dtX12_spelled 46 rfl) (by decide) (by first | assumption | exact ⟨by omega, by omega⟩) (fun c4 => ?_) (fun c4 => absurd c4 (by omega))
  refine K_lload (dt_at dtX12_spelled 56 rfl) rfl ?_
  exact K_lret (dt_at dtX12_spelled 57 rfl) rfl (by decide) (by decide) ⟨congrArg (fun z : Int => (Sum.inl (some (vl z)) : AO)) (by decide +kernel : ((((((117 - 96) * 32) + (115 - 96)) * 32) + (101 - 96)) : Int) = pkWd 7), rfl⟩
set_option maxHeartbeats 4000000 in
set_option maxRecDepth 100000 in
theorem sX12_spelled_1 {h : HP}  : SpecK mX12_spelled [vi 119, vi 101, vi 105, vi 103, vi 104, vi 116] h (fun o h' => o = .inl (some (vl (pkWd 8))) ∧ h' = h) := by
  refine Spec_of (by decide +kernel) (Nat.le_of_ble_eq_true rfl) ?_
  refine K_iload_n (dt_at dtX12_spelled 0 rfl) rfl rfl ?_
  refine K_i2l (dt_at dtX12_spelled 1 rfl) (by first | assumption | exact ⟨by omega, by omega⟩) ?_
  refine K_ldc2 (n := 96) (dt_at dtX12_spelled 2 rfl) wK2_X12_151 (by decide) ?_
  refine K_lsub (dt_at dtX12_spelled 3 rfl) ?_
  refine K_iconst (dt_at dtX12_spelled 4 rfl) ?_
  refine K_lsh5 (dt_at dtX12_spelled 5 rfl) ?_
  refine K_iload_n (dt_at dtX12_spelled 6 rfl) rfl rfl ?_
  refine K_bipush (dt_at dtX12_spelled 7 rfl) (by decide) ?_
  refine K_isub (dt_at dtX12_spelled 8 rfl) ?_
  refine K_i2l (dt_at dtX12_spelled 9 rfl) (by first | assumption | exact ⟨by omega, by omega⟩) ?_
  refine K_lor (dt_at dtX12_spelled 10 rfl) (by omega) (by omega) ?_
  refine K_lstore (ls' := [(6, vl (((119 - 96) * 32) + (101 - 96))), (0, vi 119), (1, vi 101), (2, vi 105), (3, vi 103), (4, vi 104), (5, vi 116)]) (dt_at dtX12_spelled 11 rfl) (by decide) rfl ?_
  refine K_iload_n (dt_at dtX12_spelled 12 rfl) rfl rfl ?_
  refine K_if_eq (tgt := 32) (dt_at dtX12_spelled 13 rfl) (by decide) (by first | assumption | exact ⟨by omega, by omega⟩) (fun c1 => absurd c1 (by omega)) (fun c1 => ?_)
  refine K_lload (dt_at dtX12_spelled 14 rfl) rfl ?_
  refine K_iconst (dt_at dtX12_spelled 15 rfl) ?_
  refine K_lsh5 (dt_at dtX12_spelled 16 rfl) ?_
  refine K_iload_n (dt_at dtX12_spelled 17 rfl) rfl rfl ?_
  refine K_bipush (dt_at dtX12_spelled 18 rfl) (by decide) ?_
  refine K_isub (dt_at dtX12_spelled 19 rfl) ?_
  refine K_i2l (dt_at dtX12_spelled 20 rfl) (by first | assumption | exact ⟨by omega, by omega⟩) ?_
  refine K_lor (dt_at dtX12_spelled 21 rfl) (by omega) (by omega) ?_
  refine K_lstore (ls' := [(6, vl (((((119 - 96) * 32) + (101 - 96)) * 32) + (105 - 96))), (0, vi 119), (1, vi 101), (2, vi 105), (3, vi 103), (4, vi 104), (5, vi 116)]) (dt_at dtX12_spelled 22 rfl) (by decide) rfl ?_
  refine K_iload_n (dt_at dtX12_spelled 23 rfl) rfl rfl ?_
  refine K_if_eq (tgt := 48) (dt_at dtX12_spelled 24 rfl) (by decide) (by first | assumption | exact ⟨by omega, by omega⟩) (fun c2 => absurd c2 (by omega)) (fun c2 => ?_)
  refine K_lload (dt_at dtX12_spelled 25 rfl) rfl ?_
  refine K_iconst (dt_at dtX12_spelled 26 rfl) ?_
  refine K_lsh5 (dt_at dtX12_spelled 27 rfl) ?_
  refine K_iload_n (dt_at dtX12_spelled 28 rfl) rfl rfl ?_
  refine K_bipush (dt_at dtX12_spelled 29 rfl) (by decide) ?_
  refine K_isub (dt_at dtX12_spelled 30 rfl) ?_
  refine K_i2l (dt_at dtX12_spelled 31 rfl) (by first | assumption | exact ⟨by omega, by omega⟩) ?_
  refine K_lor (dt_at dtX12_spelled 32 rfl) (by omega) (by omega) ?_
  refine K_lstore (ls' := [(6, vl (((((((119 - 96) * 32) + (101 - 96)) * 32) + (105 - 96)) * 32) + (103 - 96))), (0, vi 119), (1, vi 101), (2, vi 105), (3, vi 103), (4, vi 104), (5, vi 116)]) (dt_at dtX12_spelled 33 rfl) (by decide) rfl ?_
  refine K_iload (dt_at dtX12_spelled 34 rfl) rfl ?_
  refine K_if_eq (tgt := 66) (dt_at dtX12_spelled 35 rfl) (by decide) (by first | assumption | exact ⟨by omega, by omega⟩) (fun c3 => absurd c3 (by omega)) (fun c3 => ?_)
  refine K_lload (dt_at dtX12_spelled 36 rfl) rfl ?_
  refine K_iconst (dt_at dtX12_spelled 37 rfl) ?_
  refine K_lsh5 (dt_at dtX12_spelled 38 rfl) ?_
  refine K_iload (dt_at dtX12_spelled 39 rfl) rfl ?_
  refine K_bipush (dt_at dtX12_spelled 40 rfl) (by decide) ?_
  refine K_isub (dt_at dtX12_spelled 41 rfl) ?_
  refine K_i2l (dt_at dtX12_spelled 42 rfl) (by first | assumption | exact ⟨by omega, by omega⟩) ?_
  refine K_lor (dt_at dtX12_spelled 43 rfl) (by omega) (by omega) ?_
  refine K_lstore (ls' := [(6, vl (((((((((119 - 96) * 32) + (101 - 96)) * 32) + (105 - 96)) * 32) + (103 - 96)) * 32) + (104 - 96))), (0, vi 119), (1, vi 101), (2, vi 105), (3, vi 103), (4, vi 104), (5, vi 116)]) (dt_at dtX12_spelled 44 rfl) (by decide) rfl ?_
  refine K_iload (dt_at dtX12_spelled 45 rfl) rfl ?_
  refine K_if_eq (tgt := 84) (dt_at dtX12_spelled 46 rfl) (by decide) (by first | assumption | exact ⟨by omega, by omega⟩) (fun c4 => absurd c4 (by omega)) (fun c4 => ?_)
  refine K_lload (dt_at dtX12_spelled 47 rfl) rfl ?_
  refine K_iconst (dt_at dtX12_spelled 48 rfl) ?_
  refine K_lsh5 (dt_at dtX12_spelled 49 rfl) ?_
  refine K_iload (dt_at dtX12_spelled 50 rfl) rfl ?_
  refine K_bipush (dt_at dtX12_spelled 51 rfl) (by decide) ?_
  refine K_isub (dt_at dtX12_spelled 52 rfl) ?_
  refine K_i2l (dt_at dtX12_spelled 53 rfl) (by first | assumption | exact ⟨by omega, by omega⟩) ?_
  refine K_lor (dt_at dtX12_spelled 54 rfl) (by omega) (by omega) ?_
  refine K_lstore (ls' := [(6, vl (((((((((((119 - 96) * 32) + (101 - 96)) * 32) + (105 - 96)) * 32) + (103 - 96)) * 32) + (104 - 96)) * 32) + (116 - 96))), (0, vi 119), (1, vi 101), (2, vi 105), (3, vi 103), (4, vi 104), (5, vi 116)]) (dt_at dtX12_spelled 55 rfl) (by decide) rfl ?_
  refine K_lload (dt_at dtX12_spelled 56 rfl) rfl ?_
  exact K_lret (dt_at dtX12_spelled 57 rfl) rfl (by decide) (by decide) ⟨congrArg (fun z : Int => (Sum.inl (some (vl z)) : AO)) (by decide +kernel : ((((((((((((119 - 96) * 32) + (101 - 96)) * 32) + (105 - 96)) * 32) + (103 - 96)) * 32) + (104 - 96)) * 32) + (116 - 96)) : Int) = pkWd 8), rfl⟩
set_option maxHeartbeats 4000000 in
set_option maxRecDepth 100000 in
theorem sX12_spelled_2 {h : HP}  : SpecK mX12_spelled [vi 115, vi 116, vi 111, vi 99, vi 107, vi 0] h (fun o h' => o = .inl (some (vl (pkWd 9))) ∧ h' = h) := by
  refine Spec_of (by decide +kernel) (Nat.le_of_ble_eq_true rfl) ?_
  refine K_iload_n (dt_at dtX12_spelled 0 rfl) rfl rfl ?_
  refine K_i2l (dt_at dtX12_spelled 1 rfl) (by first | assumption | exact ⟨by omega, by omega⟩) ?_
  refine K_ldc2 (n := 96) (dt_at dtX12_spelled 2 rfl) wK2_X12_151 (by decide) ?_
  refine K_lsub (dt_at dtX12_spelled 3 rfl) ?_
  refine K_iconst (dt_at dtX12_spelled 4 rfl) ?_
  refine K_lsh5 (dt_at dtX12_spelled 5 rfl) ?_
  refine K_iload_n (dt_at dtX12_spelled 6 rfl) rfl rfl ?_
  refine K_bipush (dt_at dtX12_spelled 7 rfl) (by decide) ?_
  refine K_isub (dt_at dtX12_spelled 8 rfl) ?_
  refine K_i2l (dt_at dtX12_spelled 9 rfl) (by first | assumption | exact ⟨by omega, by omega⟩) ?_
  refine K_lor (dt_at dtX12_spelled 10 rfl) (by omega) (by omega) ?_
  refine K_lstore (ls' := [(6, vl (((115 - 96) * 32) + (116 - 96))), (0, vi 115), (1, vi 116), (2, vi 111), (3, vi 99), (4, vi 107), (5, vi 0)]) (dt_at dtX12_spelled 11 rfl) (by decide) rfl ?_
  refine K_iload_n (dt_at dtX12_spelled 12 rfl) rfl rfl ?_
  refine K_if_eq (tgt := 32) (dt_at dtX12_spelled 13 rfl) (by decide) (by first | assumption | exact ⟨by omega, by omega⟩) (fun c1 => absurd c1 (by omega)) (fun c1 => ?_)
  refine K_lload (dt_at dtX12_spelled 14 rfl) rfl ?_
  refine K_iconst (dt_at dtX12_spelled 15 rfl) ?_
  refine K_lsh5 (dt_at dtX12_spelled 16 rfl) ?_
  refine K_iload_n (dt_at dtX12_spelled 17 rfl) rfl rfl ?_
  refine K_bipush (dt_at dtX12_spelled 18 rfl) (by decide) ?_
  refine K_isub (dt_at dtX12_spelled 19 rfl) ?_
  refine K_i2l (dt_at dtX12_spelled 20 rfl) (by first | assumption | exact ⟨by omega, by omega⟩) ?_
  refine K_lor (dt_at dtX12_spelled 21 rfl) (by omega) (by omega) ?_
  refine K_lstore (ls' := [(6, vl (((((115 - 96) * 32) + (116 - 96)) * 32) + (111 - 96))), (0, vi 115), (1, vi 116), (2, vi 111), (3, vi 99), (4, vi 107), (5, vi 0)]) (dt_at dtX12_spelled 22 rfl) (by decide) rfl ?_
  refine K_iload_n (dt_at dtX12_spelled 23 rfl) rfl rfl ?_
  refine K_if_eq (tgt := 48) (dt_at dtX12_spelled 24 rfl) (by decide) (by first | assumption | exact ⟨by omega, by omega⟩) (fun c2 => absurd c2 (by omega)) (fun c2 => ?_)
  refine K_lload (dt_at dtX12_spelled 25 rfl) rfl ?_
  refine K_iconst (dt_at dtX12_spelled 26 rfl) ?_
  refine K_lsh5 (dt_at dtX12_spelled 27 rfl) ?_
  refine K_iload_n (dt_at dtX12_spelled 28 rfl) rfl rfl ?_
  refine K_bipush (dt_at dtX12_spelled 29 rfl) (by decide) ?_
  refine K_isub (dt_at dtX12_spelled 30 rfl) ?_
  refine K_i2l (dt_at dtX12_spelled 31 rfl) (by first | assumption | exact ⟨by omega, by omega⟩) ?_
  refine K_lor (dt_at dtX12_spelled 32 rfl) (by omega) (by omega) ?_
  refine K_lstore (ls' := [(6, vl (((((((115 - 96) * 32) + (116 - 96)) * 32) + (111 - 96)) * 32) + (99 - 96))), (0, vi 115), (1, vi 116), (2, vi 111), (3, vi 99), (4, vi 107), (5, vi 0)]) (dt_at dtX12_spelled 33 rfl) (by decide) rfl ?_
  refine K_iload (dt_at dtX12_spelled 34 rfl) rfl ?_
  refine K_if_eq (tgt := 66) (dt_at dtX12_spelled 35 rfl) (by decide) (by first | assumption | exact ⟨by omega, by omega⟩) (fun c3 => absurd c3 (by omega)) (fun c3 => ?_)
  refine K_lload (dt_at dtX12_spelled 36 rfl) rfl ?_
  refine K_iconst (dt_at dtX12_spelled 37 rfl) ?_
  refine K_lsh5 (dt_at dtX12_spelled 38 rfl) ?_
  refine K_iload (dt_at dtX12_spelled 39 rfl) rfl ?_
  refine K_bipush (dt_at dtX12_spelled 40 rfl) (by decide) ?_
  refine K_isub (dt_at dtX12_spelled 41 rfl) ?_
  refine K_i2l (dt_at dtX12_spelled 42 rfl) (by first | assumption | exact ⟨by omega, by omega⟩) ?_
  refine K_lor (dt_at dtX12_spelled 43 rfl) (by omega) (by omega) ?_
  refine K_lstore (ls' := [(6, vl (((((((((115 - 96) * 32) + (116 - 96)) * 32) + (111 - 96)) * 32) + (99 - 96)) * 32) + (107 - 96))), (0, vi 115), (1, vi 116), (2, vi 111), (3, vi 99), (4, vi 107), (5, vi 0)]) (dt_at dtX12_spelled 44 rfl) (by decide) rfl ?_
  refine K_iload (dt_at dtX12_spelled 45 rfl) rfl ?_
  refine K_if_eq (tgt := 84) (dt_at dtX12_spelled 46 rfl) (by decide) (by first | assumption | exact ⟨by omega, by omega⟩) (fun c4 => ?_) (fun c4 => absurd c4 (by omega))
  refine K_lload (dt_at dtX12_spelled 56 rfl) rfl ?_
  exact K_lret (dt_at dtX12_spelled 57 rfl) rfl (by decide) (by decide) ⟨congrArg (fun z : Int => (Sum.inl (some (vl z)) : AO)) (by decide +kernel : ((((((((((115 - 96) * 32) + (116 - 96)) * 32) + (111 - 96)) * 32) + (99 - 96)) * 32) + (107 - 96)) : Int) = pkWd 9), rfl⟩
set_option maxHeartbeats 4000000 in
set_option maxRecDepth 100000 in
theorem sX12_spelled_3 {h : HP}  : SpecK mX12_spelled [vi 114, vi 111, vi 111, vi 109, vi 0, vi 0] h (fun o h' => o = .inl (some (vl (pkWd 10))) ∧ h' = h) := by
  refine Spec_of (by decide +kernel) (Nat.le_of_ble_eq_true rfl) ?_
  refine K_iload_n (dt_at dtX12_spelled 0 rfl) rfl rfl ?_
  refine K_i2l (dt_at dtX12_spelled 1 rfl) (by first | assumption | exact ⟨by omega, by omega⟩) ?_
  refine K_ldc2 (n := 96) (dt_at dtX12_spelled 2 rfl) wK2_X12_151 (by decide) ?_
  refine K_lsub (dt_at dtX12_spelled 3 rfl) ?_
  refine K_iconst (dt_at dtX12_spelled 4 rfl) ?_
  refine K_lsh5 (dt_at dtX12_spelled 5 rfl) ?_
  refine K_iload_n (dt_at dtX12_spelled 6 rfl) rfl rfl ?_
  refine K_bipush (dt_at dtX12_spelled 7 rfl) (by decide) ?_
  refine K_isub (dt_at dtX12_spelled 8 rfl) ?_
  refine K_i2l (dt_at dtX12_spelled 9 rfl) (by first | assumption | exact ⟨by omega, by omega⟩) ?_
  refine K_lor (dt_at dtX12_spelled 10 rfl) (by omega) (by omega) ?_
  refine K_lstore (ls' := [(6, vl (((114 - 96) * 32) + (111 - 96))), (0, vi 114), (1, vi 111), (2, vi 111), (3, vi 109), (4, vi 0), (5, vi 0)]) (dt_at dtX12_spelled 11 rfl) (by decide) rfl ?_
  refine K_iload_n (dt_at dtX12_spelled 12 rfl) rfl rfl ?_
  refine K_if_eq (tgt := 32) (dt_at dtX12_spelled 13 rfl) (by decide) (by first | assumption | exact ⟨by omega, by omega⟩) (fun c1 => absurd c1 (by omega)) (fun c1 => ?_)
  refine K_lload (dt_at dtX12_spelled 14 rfl) rfl ?_
  refine K_iconst (dt_at dtX12_spelled 15 rfl) ?_
  refine K_lsh5 (dt_at dtX12_spelled 16 rfl) ?_
  refine K_iload_n (dt_at dtX12_spelled 17 rfl) rfl rfl ?_
  refine K_bipush (dt_at dtX12_spelled 18 rfl) (by decide) ?_
  refine K_isub (dt_at dtX12_spelled 19 rfl) ?_
  refine K_i2l (dt_at dtX12_spelled 20 rfl) (by first | assumption | exact ⟨by omega, by omega⟩) ?_
  refine K_lor (dt_at dtX12_spelled 21 rfl) (by omega) (by omega) ?_
  refine K_lstore (ls' := [(6, vl (((((114 - 96) * 32) + (111 - 96)) * 32) + (111 - 96))), (0, vi 114), (1, vi 111), (2, vi 111), (3, vi 109), (4, vi 0), (5, vi 0)]) (dt_at dtX12_spelled 22 rfl) (by decide) rfl ?_
  refine K_iload_n (dt_at dtX12_spelled 23 rfl) rfl rfl ?_
  refine K_if_eq (tgt := 48) (dt_at dtX12_spelled 24 rfl) (by decide) (by first | assumption | exact ⟨by omega, by omega⟩) (fun c2 => absurd c2 (by omega)) (fun c2 => ?_)
  refine K_lload (dt_at dtX12_spelled 25 rfl) rfl ?_
  refine K_iconst (dt_at dtX12_spelled 26 rfl) ?_
  refine K_lsh5 (dt_at dtX12_spelled 27 rfl) ?_
  refine K_iload_n (dt_at dtX12_spelled 28 rfl) rfl rfl ?_
  refine K_bipush (dt_at dtX12_spelled 29 rfl) (by decide) ?_
  refine K_isub (dt_at dtX12_spelled 30 rfl) ?_
  refine K_i2l (dt_at dtX12_spelled 31 rfl) (by first | assumption | exact ⟨by omega, by omega⟩) ?_
  refine K_lor (dt_at dtX12_spelled 32 rfl) (by omega) (by omega) ?_
  refine K_lstore (ls' := [(6, vl (((((((114 - 96) * 32) + (111 - 96)) * 32) + (111 - 96)) * 32) + (109 - 96))), (0, vi 114), (1, vi 111), (2, vi 111), (3, vi 109), (4, vi 0), (5, vi 0)]) (dt_at dtX12_spelled 33 rfl) (by decide) rfl ?_
  refine K_iload (dt_at dtX12_spelled 34 rfl) rfl ?_
  refine K_if_eq (tgt := 66) (dt_at dtX12_spelled 35 rfl) (by decide) (by first | assumption | exact ⟨by omega, by omega⟩) (fun c3 => ?_) (fun c3 => absurd c3 (by omega))
  refine K_iload (dt_at dtX12_spelled 45 rfl) rfl ?_
  refine K_if_eq (tgt := 84) (dt_at dtX12_spelled 46 rfl) (by decide) (by first | assumption | exact ⟨by omega, by omega⟩) (fun c4 => ?_) (fun c4 => absurd c4 (by omega))
  refine K_lload (dt_at dtX12_spelled 56 rfl) rfl ?_
  exact K_lret (dt_at dtX12_spelled 57 rfl) rfl (by decide) (by decide) ⟨congrArg (fun z : Int => (Sum.inl (some (vl z)) : AO)) (by decide +kernel : ((((((((114 - 96) * 32) + (111 - 96)) * 32) + (111 - 96)) * 32) + (109 - 96)) : Int) = pkWd 10), rfl⟩
set_option maxHeartbeats 4000000 in
set_option maxRecDepth 100000 in
theorem sX12_spelled_4 {h : HP}  : SpecK mX12_spelled [vi 102, vi 111, vi 110, vi 100, vi 0, vi 0] h (fun o h' => o = .inl (some (vl (pkWd 5))) ∧ h' = h) := by
  refine Spec_of (by decide +kernel) (Nat.le_of_ble_eq_true rfl) ?_
  refine K_iload_n (dt_at dtX12_spelled 0 rfl) rfl rfl ?_
  refine K_i2l (dt_at dtX12_spelled 1 rfl) (by first | assumption | exact ⟨by omega, by omega⟩) ?_
  refine K_ldc2 (n := 96) (dt_at dtX12_spelled 2 rfl) wK2_X12_151 (by decide) ?_
  refine K_lsub (dt_at dtX12_spelled 3 rfl) ?_
  refine K_iconst (dt_at dtX12_spelled 4 rfl) ?_
  refine K_lsh5 (dt_at dtX12_spelled 5 rfl) ?_
  refine K_iload_n (dt_at dtX12_spelled 6 rfl) rfl rfl ?_
  refine K_bipush (dt_at dtX12_spelled 7 rfl) (by decide) ?_
  refine K_isub (dt_at dtX12_spelled 8 rfl) ?_
  refine K_i2l (dt_at dtX12_spelled 9 rfl) (by first | assumption | exact ⟨by omega, by omega⟩) ?_
  refine K_lor (dt_at dtX12_spelled 10 rfl) (by omega) (by omega) ?_
  refine K_lstore (ls' := [(6, vl (((102 - 96) * 32) + (111 - 96))), (0, vi 102), (1, vi 111), (2, vi 110), (3, vi 100), (4, vi 0), (5, vi 0)]) (dt_at dtX12_spelled 11 rfl) (by decide) rfl ?_
  refine K_iload_n (dt_at dtX12_spelled 12 rfl) rfl rfl ?_
  refine K_if_eq (tgt := 32) (dt_at dtX12_spelled 13 rfl) (by decide) (by first | assumption | exact ⟨by omega, by omega⟩) (fun c1 => absurd c1 (by omega)) (fun c1 => ?_)
  refine K_lload (dt_at dtX12_spelled 14 rfl) rfl ?_
  refine K_iconst (dt_at dtX12_spelled 15 rfl) ?_
  refine K_lsh5 (dt_at dtX12_spelled 16 rfl) ?_
  refine K_iload_n (dt_at dtX12_spelled 17 rfl) rfl rfl ?_
  refine K_bipush (dt_at dtX12_spelled 18 rfl) (by decide) ?_
  refine K_isub (dt_at dtX12_spelled 19 rfl) ?_
  refine K_i2l (dt_at dtX12_spelled 20 rfl) (by first | assumption | exact ⟨by omega, by omega⟩) ?_
  refine K_lor (dt_at dtX12_spelled 21 rfl) (by omega) (by omega) ?_
  refine K_lstore (ls' := [(6, vl (((((102 - 96) * 32) + (111 - 96)) * 32) + (110 - 96))), (0, vi 102), (1, vi 111), (2, vi 110), (3, vi 100), (4, vi 0), (5, vi 0)]) (dt_at dtX12_spelled 22 rfl) (by decide) rfl ?_
  refine K_iload_n (dt_at dtX12_spelled 23 rfl) rfl rfl ?_
  refine K_if_eq (tgt := 48) (dt_at dtX12_spelled 24 rfl) (by decide) (by first | assumption | exact ⟨by omega, by omega⟩) (fun c2 => absurd c2 (by omega)) (fun c2 => ?_)
  refine K_lload (dt_at dtX12_spelled 25 rfl) rfl ?_
  refine K_iconst (dt_at dtX12_spelled 26 rfl) ?_
  refine K_lsh5 (dt_at dtX12_spelled 27 rfl) ?_
  refine K_iload_n (dt_at dtX12_spelled 28 rfl) rfl rfl ?_
  refine K_bipush (dt_at dtX12_spelled 29 rfl) (by decide) ?_
  refine K_isub (dt_at dtX12_spelled 30 rfl) ?_
  refine K_i2l (dt_at dtX12_spelled 31 rfl) (by first | assumption | exact ⟨by omega, by omega⟩) ?_
  refine K_lor (dt_at dtX12_spelled 32 rfl) (by omega) (by omega) ?_
  refine K_lstore (ls' := [(6, vl (((((((102 - 96) * 32) + (111 - 96)) * 32) + (110 - 96)) * 32) + (100 - 96))), (0, vi 102), (1, vi 111), (2, vi 110), (3, vi 100), (4, vi 0), (5, vi 0)]) (dt_at dtX12_spelled 33 rfl) (by decide) rfl ?_
  refine K_iload (dt_at dtX12_spelled 34 rfl) rfl ?_
  refine K_if_eq (tgt := 66) (dt_at dtX12_spelled 35 rfl) (by decide) (by first | assumption | exact ⟨by omega, by omega⟩) (fun c3 => ?_) (fun c3 => absurd c3 (by omega))
  refine K_iload (dt_at dtX12_spelled 45 rfl) rfl ?_
  refine K_if_eq (tgt := 84) (dt_at dtX12_spelled 46 rfl) (by decide) (by first | assumption | exact ⟨by omega, by omega⟩) (fun c4 => ?_) (fun c4 => absurd c4 (by omega))
  refine K_lload (dt_at dtX12_spelled 56 rfl) rfl ?_
  exact K_lret (dt_at dtX12_spelled 57 rfl) rfl (by decide) (by decide) ⟨congrArg (fun z : Int => (Sum.inl (some (vl z)) : AO)) (by decide +kernel : ((((((((102 - 96) * 32) + (111 - 96)) * 32) + (110 - 96)) * 32) + (100 - 96)) : Int) = pkWd 5), rfl⟩
set_option maxHeartbeats 4000000 in
set_option maxRecDepth 100000 in
theorem sX12_spelled_5 {h : HP}  : SpecK mX12_spelled [vi 100, vi 97, vi 121, vi 0, vi 0, vi 0] h (fun o h' => o = .inl (some (vl (pkWd 6))) ∧ h' = h) := by
  refine Spec_of (by decide +kernel) (Nat.le_of_ble_eq_true rfl) ?_
  refine K_iload_n (dt_at dtX12_spelled 0 rfl) rfl rfl ?_
  refine K_i2l (dt_at dtX12_spelled 1 rfl) (by first | assumption | exact ⟨by omega, by omega⟩) ?_
  refine K_ldc2 (n := 96) (dt_at dtX12_spelled 2 rfl) wK2_X12_151 (by decide) ?_
  refine K_lsub (dt_at dtX12_spelled 3 rfl) ?_
  refine K_iconst (dt_at dtX12_spelled 4 rfl) ?_
  refine K_lsh5 (dt_at dtX12_spelled 5 rfl) ?_
  refine K_iload_n (dt_at dtX12_spelled 6 rfl) rfl rfl ?_
  refine K_bipush (dt_at dtX12_spelled 7 rfl) (by decide) ?_
  refine K_isub (dt_at dtX12_spelled 8 rfl) ?_
  refine K_i2l (dt_at dtX12_spelled 9 rfl) (by first | assumption | exact ⟨by omega, by omega⟩) ?_
  refine K_lor (dt_at dtX12_spelled 10 rfl) (by omega) (by omega) ?_
  refine K_lstore (ls' := [(6, vl (((100 - 96) * 32) + (97 - 96))), (0, vi 100), (1, vi 97), (2, vi 121), (3, vi 0), (4, vi 0), (5, vi 0)]) (dt_at dtX12_spelled 11 rfl) (by decide) rfl ?_
  refine K_iload_n (dt_at dtX12_spelled 12 rfl) rfl rfl ?_
  refine K_if_eq (tgt := 32) (dt_at dtX12_spelled 13 rfl) (by decide) (by first | assumption | exact ⟨by omega, by omega⟩) (fun c1 => absurd c1 (by omega)) (fun c1 => ?_)
  refine K_lload (dt_at dtX12_spelled 14 rfl) rfl ?_
  refine K_iconst (dt_at dtX12_spelled 15 rfl) ?_
  refine K_lsh5 (dt_at dtX12_spelled 16 rfl) ?_
  refine K_iload_n (dt_at dtX12_spelled 17 rfl) rfl rfl ?_
  refine K_bipush (dt_at dtX12_spelled 18 rfl) (by decide) ?_
  refine K_isub (dt_at dtX12_spelled 19 rfl) ?_
  refine K_i2l (dt_at dtX12_spelled 20 rfl) (by first | assumption | exact ⟨by omega, by omega⟩) ?_
  refine K_lor (dt_at dtX12_spelled 21 rfl) (by omega) (by omega) ?_
  refine K_lstore (ls' := [(6, vl (((((100 - 96) * 32) + (97 - 96)) * 32) + (121 - 96))), (0, vi 100), (1, vi 97), (2, vi 121), (3, vi 0), (4, vi 0), (5, vi 0)]) (dt_at dtX12_spelled 22 rfl) (by decide) rfl ?_
  refine K_iload_n (dt_at dtX12_spelled 23 rfl) rfl rfl ?_
  refine K_if_eq (tgt := 48) (dt_at dtX12_spelled 24 rfl) (by decide) (by first | assumption | exact ⟨by omega, by omega⟩) (fun c2 => ?_) (fun c2 => absurd c2 (by omega))
  refine K_iload (dt_at dtX12_spelled 34 rfl) rfl ?_
  refine K_if_eq (tgt := 66) (dt_at dtX12_spelled 35 rfl) (by decide) (by first | assumption | exact ⟨by omega, by omega⟩) (fun c3 => ?_) (fun c3 => absurd c3 (by omega))
  refine K_iload (dt_at dtX12_spelled 45 rfl) rfl ?_
  refine K_if_eq (tgt := 84) (dt_at dtX12_spelled 46 rfl) (by decide) (by first | assumption | exact ⟨by omega, by omega⟩) (fun c4 => ?_) (fun c4 => absurd c4 (by omega))
  refine K_lload (dt_at dtX12_spelled 56 rfl) rfl ?_
  exact K_lret (dt_at dtX12_spelled 57 rfl) rfl (by decide) (by decide) ⟨congrArg (fun z : Int => (Sum.inl (some (vl z)) : AO)) (by decide +kernel : ((((((100 - 96) * 32) + (97 - 96)) * 32) + (121 - 96)) : Int) = pkWd 6), rfl⟩
set_option maxHeartbeats 4000000 in
set_option maxRecDepth 100000 in
theorem sX12_spelled_6 {h : HP}  : SpecK mX12_spelled [vi 104, vi 97, vi 100, vi 0, vi 0, vi 0] h (fun o h' => o = .inl (some (vl (pkWd 11))) ∧ h' = h) := by
  refine Spec_of (by decide +kernel) (Nat.le_of_ble_eq_true rfl) ?_
  refine K_iload_n (dt_at dtX12_spelled 0 rfl) rfl rfl ?_
  refine K_i2l (dt_at dtX12_spelled 1 rfl) (by first | assumption | exact ⟨by omega, by omega⟩) ?_
  refine K_ldc2 (n := 96) (dt_at dtX12_spelled 2 rfl) wK2_X12_151 (by decide) ?_
  refine K_lsub (dt_at dtX12_spelled 3 rfl) ?_
  refine K_iconst (dt_at dtX12_spelled 4 rfl) ?_
  refine K_lsh5 (dt_at dtX12_spelled 5 rfl) ?_
  refine K_iload_n (dt_at dtX12_spelled 6 rfl) rfl rfl ?_
  refine K_bipush (dt_at dtX12_spelled 7 rfl) (by decide) ?_
  refine K_isub (dt_at dtX12_spelled 8 rfl) ?_
  refine K_i2l (dt_at dtX12_spelled 9 rfl) (by first | assumption | exact ⟨by omega, by omega⟩) ?_
  refine K_lor (dt_at dtX12_spelled 10 rfl) (by omega) (by omega) ?_
  refine K_lstore (ls' := [(6, vl (((104 - 96) * 32) + (97 - 96))), (0, vi 104), (1, vi 97), (2, vi 100), (3, vi 0), (4, vi 0), (5, vi 0)]) (dt_at dtX12_spelled 11 rfl) (by decide) rfl ?_
  refine K_iload_n (dt_at dtX12_spelled 12 rfl) rfl rfl ?_
  refine K_if_eq (tgt := 32) (dt_at dtX12_spelled 13 rfl) (by decide) (by first | assumption | exact ⟨by omega, by omega⟩) (fun c1 => absurd c1 (by omega)) (fun c1 => ?_)
  refine K_lload (dt_at dtX12_spelled 14 rfl) rfl ?_
  refine K_iconst (dt_at dtX12_spelled 15 rfl) ?_
  refine K_lsh5 (dt_at dtX12_spelled 16 rfl) ?_
  refine K_iload_n (dt_at dtX12_spelled 17 rfl) rfl rfl ?_
  refine K_bipush (dt_at dtX12_spelled 18 rfl) (by decide) ?_
  refine K_isub (dt_at dtX12_spelled 19 rfl) ?_
  refine K_i2l (dt_at dtX12_spelled 20 rfl) (by first | assumption | exact ⟨by omega, by omega⟩) ?_
  refine K_lor (dt_at dtX12_spelled 21 rfl) (by omega) (by omega) ?_
  refine K_lstore (ls' := [(6, vl (((((104 - 96) * 32) + (97 - 96)) * 32) + (100 - 96))), (0, vi 104), (1, vi 97), (2, vi 100), (3, vi 0), (4, vi 0), (5, vi 0)]) (dt_at dtX12_spelled 22 rfl) (by decide) rfl ?_
  refine K_iload_n (dt_at dtX12_spelled 23 rfl) rfl rfl ?_
  refine K_if_eq (tgt := 48) (dt_at dtX12_spelled 24 rfl) (by decide) (by first | assumption | exact ⟨by omega, by omega⟩) (fun c2 => ?_) (fun c2 => absurd c2 (by omega))
  refine K_iload (dt_at dtX12_spelled 34 rfl) rfl ?_
  refine K_if_eq (tgt := 66) (dt_at dtX12_spelled 35 rfl) (by decide) (by first | assumption | exact ⟨by omega, by omega⟩) (fun c3 => ?_) (fun c3 => absurd c3 (by omega))
  refine K_iload (dt_at dtX12_spelled 45 rfl) rfl ?_
  refine K_if_eq (tgt := 84) (dt_at dtX12_spelled 46 rfl) (by decide) (by first | assumption | exact ⟨by omega, by omega⟩) (fun c4 => ?_) (fun c4 => absurd c4 (by omega))
  refine K_lload (dt_at dtX12_spelled 56 rfl) rfl ?_
  exact K_lret (dt_at dtX12_spelled 57 rfl) rfl (by decide) (by decide) ⟨congrArg (fun z : Int => (Sum.inl (some (vl z)) : AO)) (by decide +kernel : ((((((104 - 96) * 32) + (97 - 96)) * 32) + (100 - 96)) : Int) = pkWd 11), rfl⟩
set_option maxHeartbeats 4000000 in
set_option maxRecDepth 100000 in
theorem sX12_spelled_7 {h : HP}  : SpecK mX12_spelled [vi 97, vi 119, vi 97, vi 121, vi 0, vi 0] h (fun o h' => o = .inl (some (vl (pkWd 12))) ∧ h' = h) := by
  refine Spec_of (by decide +kernel) (Nat.le_of_ble_eq_true rfl) ?_
  refine K_iload_n (dt_at dtX12_spelled 0 rfl) rfl rfl ?_
  refine K_i2l (dt_at dtX12_spelled 1 rfl) (by first | assumption | exact ⟨by omega, by omega⟩) ?_
  refine K_ldc2 (n := 96) (dt_at dtX12_spelled 2 rfl) wK2_X12_151 (by decide) ?_
  refine K_lsub (dt_at dtX12_spelled 3 rfl) ?_
  refine K_iconst (dt_at dtX12_spelled 4 rfl) ?_
  refine K_lsh5 (dt_at dtX12_spelled 5 rfl) ?_
  refine K_iload_n (dt_at dtX12_spelled 6 rfl) rfl rfl ?_
  refine K_bipush (dt_at dtX12_spelled 7 rfl) (by decide) ?_
  refine K_isub (dt_at dtX12_spelled 8 rfl) ?_
  refine K_i2l (dt_at dtX12_spelled 9 rfl) (by first | assumption | exact ⟨by omega, by omega⟩) ?_
  refine K_lor (dt_at dtX12_spelled 10 rfl) (by omega) (by omega) ?_
  refine K_lstore (ls' := [(6, vl (((97 - 96) * 32) + (119 - 96))), (0, vi 97), (1, vi 119), (2, vi 97), (3, vi 121), (4, vi 0), (5, vi 0)]) (dt_at dtX12_spelled 11 rfl) (by decide) rfl ?_
  refine K_iload_n (dt_at dtX12_spelled 12 rfl) rfl rfl ?_
  refine K_if_eq (tgt := 32) (dt_at dtX12_spelled 13 rfl) (by decide) (by first | assumption | exact ⟨by omega, by omega⟩) (fun c1 => absurd c1 (by omega)) (fun c1 => ?_)
  refine K_lload (dt_at dtX12_spelled 14 rfl) rfl ?_
  refine K_iconst (dt_at dtX12_spelled 15 rfl) ?_
  refine K_lsh5 (dt_at dtX12_spelled 16 rfl) ?_
  refine K_iload_n (dt_at dtX12_spelled 17 rfl) rfl rfl ?_
  refine K_bipush (dt_at dtX12_spelled 18 rfl) (by decide) ?_
  refine K_isub (dt_at dtX12_spelled 19 rfl) ?_
  refine K_i2l (dt_at dtX12_spelled 20 rfl) (by first | assumption | exact ⟨by omega, by omega⟩) ?_
  refine K_lor (dt_at dtX12_spelled 21 rfl) (by omega) (by omega) ?_
  refine K_lstore (ls' := [(6, vl (((((97 - 96) * 32) + (119 - 96)) * 32) + (97 - 96))), (0, vi 97), (1, vi 119), (2, vi 97), (3, vi 121), (4, vi 0), (5, vi 0)]) (dt_at dtX12_spelled 22 rfl) (by decide) rfl ?_
  refine K_iload_n (dt_at dtX12_spelled 23 rfl) rfl rfl ?_
  refine K_if_eq (tgt := 48) (dt_at dtX12_spelled 24 rfl) (by decide) (by first | assumption | exact ⟨by omega, by omega⟩) (fun c2 => absurd c2 (by omega)) (fun c2 => ?_)
  refine K_lload (dt_at dtX12_spelled 25 rfl) rfl ?_
  refine K_iconst (dt_at dtX12_spelled 26 rfl) ?_
  refine K_lsh5 (dt_at dtX12_spelled 27 rfl) ?_
  refine K_iload_n (dt_at dtX12_spelled 28 rfl) rfl rfl ?_
  refine K_bipush (dt_at dtX12_spelled 29 rfl) (by decide) ?_
  refine K_isub (dt_at dtX12_spelled 30 rfl) ?_
  refine K_i2l (dt_at dtX12_spelled 31 rfl) (by first | assumption | exact ⟨by omega, by omega⟩) ?_
  refine K_lor (dt_at dtX12_spelled 32 rfl) (by omega) (by omega) ?_
  refine K_lstore (ls' := [(6, vl (((((((97 - 96) * 32) + (119 - 96)) * 32) + (97 - 96)) * 32) + (121 - 96))), (0, vi 97), (1, vi 119), (2, vi 97), (3, vi 121), (4, vi 0), (5, vi 0)]) (dt_at dtX12_spelled 33 rfl) (by decide) rfl ?_
  refine K_iload (dt_at dtX12_spelled 34 rfl) rfl ?_
  refine K_if_eq (tgt := 66) (dt_at dtX12_spelled 35 rfl) (by decide) (by first | assumption | exact ⟨by omega, by omega⟩) (fun c3 => ?_) (fun c3 => absurd c3 (by omega))
  refine K_iload (dt_at dtX12_spelled 45 rfl) rfl ?_
  refine K_if_eq (tgt := 84) (dt_at dtX12_spelled 46 rfl) (by decide) (by first | assumption | exact ⟨by omega, by omega⟩) (fun c4 => ?_) (fun c4 => absurd c4 (by omega))
  refine K_lload (dt_at dtX12_spelled 56 rfl) rfl ?_
  exact K_lret (dt_at dtX12_spelled 57 rfl) rfl (by decide) (by decide) ⟨congrArg (fun z : Int => (Sum.inl (some (vl z)) : AO)) (by decide +kernel : ((((((((97 - 96) * 32) + (119 - 96)) * 32) + (97 - 96)) * 32) + (121 - 96)) : Int) = pkWd 12), rfl⟩
set_option maxHeartbeats 4000000 in
set_option maxRecDepth 100000 in
theorem sX12_spelled_8 {h : HP}  : SpecK mX12_spelled [vi 116, vi 104, vi 105, vi 110, vi 103, vi 0] h (fun o h' => o = .inl (some (vl (pkWd 0))) ∧ h' = h) := by
  refine Spec_of (by decide +kernel) (Nat.le_of_ble_eq_true rfl) ?_
  refine K_iload_n (dt_at dtX12_spelled 0 rfl) rfl rfl ?_
  refine K_i2l (dt_at dtX12_spelled 1 rfl) (by first | assumption | exact ⟨by omega, by omega⟩) ?_
  refine K_ldc2 (n := 96) (dt_at dtX12_spelled 2 rfl) wK2_X12_151 (by decide) ?_
  refine K_lsub (dt_at dtX12_spelled 3 rfl) ?_
  refine K_iconst (dt_at dtX12_spelled 4 rfl) ?_
  refine K_lsh5 (dt_at dtX12_spelled 5 rfl) ?_
  refine K_iload_n (dt_at dtX12_spelled 6 rfl) rfl rfl ?_
  refine K_bipush (dt_at dtX12_spelled 7 rfl) (by decide) ?_
  refine K_isub (dt_at dtX12_spelled 8 rfl) ?_
  refine K_i2l (dt_at dtX12_spelled 9 rfl) (by first | assumption | exact ⟨by omega, by omega⟩) ?_
  refine K_lor (dt_at dtX12_spelled 10 rfl) (by omega) (by omega) ?_
  refine K_lstore (ls' := [(6, vl (((116 - 96) * 32) + (104 - 96))), (0, vi 116), (1, vi 104), (2, vi 105), (3, vi 110), (4, vi 103), (5, vi 0)]) (dt_at dtX12_spelled 11 rfl) (by decide) rfl ?_
  refine K_iload_n (dt_at dtX12_spelled 12 rfl) rfl rfl ?_
  refine K_if_eq (tgt := 32) (dt_at dtX12_spelled 13 rfl) (by decide) (by first | assumption | exact ⟨by omega, by omega⟩) (fun c1 => absurd c1 (by omega)) (fun c1 => ?_)
  refine K_lload (dt_at dtX12_spelled 14 rfl) rfl ?_
  refine K_iconst (dt_at dtX12_spelled 15 rfl) ?_
  refine K_lsh5 (dt_at dtX12_spelled 16 rfl) ?_
  refine K_iload_n (dt_at dtX12_spelled 17 rfl) rfl rfl ?_
  refine K_bipush (dt_at dtX12_spelled 18 rfl) (by decide) ?_
  refine K_isub (dt_at dtX12_spelled 19 rfl) ?_
  refine K_i2l (dt_at dtX12_spelled 20 rfl) (by first | assumption | exact ⟨by omega, by omega⟩) ?_
  refine K_lor (dt_at dtX12_spelled 21 rfl) (by omega) (by omega) ?_
  refine K_lstore (ls' := [(6, vl (((((116 - 96) * 32) + (104 - 96)) * 32) + (105 - 96))), (0, vi 116), (1, vi 104), (2, vi 105), (3, vi 110), (4, vi 103), (5, vi 0)]) (dt_at dtX12_spelled 22 rfl) (by decide) rfl ?_
  refine K_iload_n (dt_at dtX12_spelled 23 rfl) rfl rfl ?_
  refine K_if_eq (tgt := 48) (dt_at dtX12_spelled 24 rfl) (by decide) (by first | assumption | exact ⟨by omega, by omega⟩) (fun c2 => absurd c2 (by omega)) (fun c2 => ?_)
  refine K_lload (dt_at dtX12_spelled 25 rfl) rfl ?_
  refine K_iconst (dt_at dtX12_spelled 26 rfl) ?_
  refine K_lsh5 (dt_at dtX12_spelled 27 rfl) ?_
  refine K_iload_n (dt_at dtX12_spelled 28 rfl) rfl rfl ?_
  refine K_bipush (dt_at dtX12_spelled 29 rfl) (by decide) ?_
  refine K_isub (dt_at dtX12_spelled 30 rfl) ?_
  refine K_i2l (dt_at dtX12_spelled 31 rfl) (by first | assumption | exact ⟨by omega, by omega⟩) ?_
  refine K_lor (dt_at dtX12_spelled 32 rfl) (by omega) (by omega) ?_
  refine K_lstore (ls' := [(6, vl (((((((116 - 96) * 32) + (104 - 96)) * 32) + (105 - 96)) * 32) + (110 - 96))), (0, vi 116), (1, vi 104), (2, vi 105), (3, vi 110), (4, vi 103), (5, vi 0)]) (dt_at dtX12_spelled 33 rfl) (by decide) rfl ?_
  refine K_iload (dt_at dtX12_spelled 34 rfl) rfl ?_
  refine K_if_eq (tgt := 66) (dt_at dtX12_spelled 35 rfl) (by decide) (by first | assumption | exact ⟨by omega, by omega⟩) (fun c3 => absurd c3 (by omega)) (fun c3 => ?_)
  refine K_lload (dt_at dtX12_spelled 36 rfl) rfl ?_
  refine K_iconst (dt_at dtX12_spelled 37 rfl) ?_
  refine K_lsh5 (dt_at dtX12_spelled 38 rfl) ?_
  refine K_iload (dt_at dtX12_spelled 39 rfl) rfl ?_
  refine K_bipush (dt_at dtX12_spelled 40 rfl) (by decide) ?_
  refine K_isub (dt_at dtX12_spelled 41 rfl) ?_
  refine K_i2l (dt_at dtX12_spelled 42 rfl) (by first | assumption | exact ⟨by omega, by omega⟩) ?_
  refine K_lor (dt_at dtX12_spelled 43 rfl) (by omega) (by omega) ?_
  refine K_lstore (ls' := [(6, vl (((((((((116 - 96) * 32) + (104 - 96)) * 32) + (105 - 96)) * 32) + (110 - 96)) * 32) + (103 - 96))), (0, vi 116), (1, vi 104), (2, vi 105), (3, vi 110), (4, vi 103), (5, vi 0)]) (dt_at dtX12_spelled 44 rfl) (by decide) rfl ?_
  refine K_iload (dt_at dtX12_spelled 45 rfl) rfl ?_
  refine K_if_eq (tgt := 84) (dt_at dtX12_spelled 46 rfl) (by decide) (by first | assumption | exact ⟨by omega, by omega⟩) (fun c4 => ?_) (fun c4 => absurd c4 (by omega))
  refine K_lload (dt_at dtX12_spelled 56 rfl) rfl ?_
  exact K_lret (dt_at dtX12_spelled 57 rfl) rfl (by decide) (by decide) ⟨congrArg (fun z : Int => (Sum.inl (some (vl z)) : AO)) (by decide +kernel : ((((((((((116 - 96) * 32) + (104 - 96)) * 32) + (105 - 96)) * 32) + (110 - 96)) * 32) + (103 - 96)) : Int) = pkWd 0), rfl⟩
set_option maxHeartbeats 4000000 in
set_option maxRecDepth 100000 in
theorem sX12_spelled_9 {h : HP}  : SpecK mX12_spelled [vi 112, vi 101, vi 114, vi 115, vi 111, vi 110] h (fun o h' => o = .inl (some (vl (pkWd 1))) ∧ h' = h) := by
  refine Spec_of (by decide +kernel) (Nat.le_of_ble_eq_true rfl) ?_
  refine K_iload_n (dt_at dtX12_spelled 0 rfl) rfl rfl ?_
  refine K_i2l (dt_at dtX12_spelled 1 rfl) (by first | assumption | exact ⟨by omega, by omega⟩) ?_
  refine K_ldc2 (n := 96) (dt_at dtX12_spelled 2 rfl) wK2_X12_151 (by decide) ?_
  refine K_lsub (dt_at dtX12_spelled 3 rfl) ?_
  refine K_iconst (dt_at dtX12_spelled 4 rfl) ?_
  refine K_lsh5 (dt_at dtX12_spelled 5 rfl) ?_
  refine K_iload_n (dt_at dtX12_spelled 6 rfl) rfl rfl ?_
  refine K_bipush (dt_at dtX12_spelled 7 rfl) (by decide) ?_
  refine K_isub (dt_at dtX12_spelled 8 rfl) ?_
  refine K_i2l (dt_at dtX12_spelled 9 rfl) (by first | assumption | exact ⟨by omega, by omega⟩) ?_
  refine K_lor (dt_at dtX12_spelled 10 rfl) (by omega) (by omega) ?_
  refine K_lstore (ls' := [(6, vl (((112 - 96) * 32) + (101 - 96))), (0, vi 112), (1, vi 101), (2, vi 114), (3, vi 115), (4, vi 111), (5, vi 110)]) (dt_at dtX12_spelled 11 rfl) (by decide) rfl ?_
  refine K_iload_n (dt_at dtX12_spelled 12 rfl) rfl rfl ?_
  refine K_if_eq (tgt := 32) (dt_at dtX12_spelled 13 rfl) (by decide) (by first | assumption | exact ⟨by omega, by omega⟩) (fun c1 => absurd c1 (by omega)) (fun c1 => ?_)
  refine K_lload (dt_at dtX12_spelled 14 rfl) rfl ?_
  refine K_iconst (dt_at dtX12_spelled 15 rfl) ?_
  refine K_lsh5 (dt_at dtX12_spelled 16 rfl) ?_
  refine K_iload_n (dt_at dtX12_spelled 17 rfl) rfl rfl ?_
  refine K_bipush (dt_at dtX12_spelled 18 rfl) (by decide) ?_
  refine K_isub (dt_at dtX12_spelled 19 rfl) ?_
  refine K_i2l (dt_at dtX12_spelled 20 rfl) (by first | assumption | exact ⟨by omega, by omega⟩) ?_
  refine K_lor (dt_at dtX12_spelled 21 rfl) (by omega) (by omega) ?_
  refine K_lstore (ls' := [(6, vl (((((112 - 96) * 32) + (101 - 96)) * 32) + (114 - 96))), (0, vi 112), (1, vi 101), (2, vi 114), (3, vi 115), (4, vi 111), (5, vi 110)]) (dt_at dtX12_spelled 22 rfl) (by decide) rfl ?_
  refine K_iload_n (dt_at dtX12_spelled 23 rfl) rfl rfl ?_
  refine K_if_eq (tgt := 48) (dt_at dtX12_spelled 24 rfl) (by decide) (by first | assumption | exact ⟨by omega, by omega⟩) (fun c2 => absurd c2 (by omega)) (fun c2 => ?_)
  refine K_lload (dt_at dtX12_spelled 25 rfl) rfl ?_
  refine K_iconst (dt_at dtX12_spelled 26 rfl) ?_
  refine K_lsh5 (dt_at dtX12_spelled 27 rfl) ?_
  refine K_iload_n (dt_at dtX12_spelled 28 rfl) rfl rfl ?_
  refine K_bipush (dt_at dtX12_spelled 29 rfl) (by decide) ?_
  refine K_isub (dt_at dtX12_spelled 30 rfl) ?_
  refine K_i2l (dt_at dtX12_spelled 31 rfl) (by first | assumption | exact ⟨by omega, by omega⟩) ?_
  refine K_lor (dt_at dtX12_spelled 32 rfl) (by omega) (by omega) ?_
  refine K_lstore (ls' := [(6, vl (((((((112 - 96) * 32) + (101 - 96)) * 32) + (114 - 96)) * 32) + (115 - 96))), (0, vi 112), (1, vi 101), (2, vi 114), (3, vi 115), (4, vi 111), (5, vi 110)]) (dt_at dtX12_spelled 33 rfl) (by decide) rfl ?_
  refine K_iload (dt_at dtX12_spelled 34 rfl) rfl ?_
  refine K_if_eq (tgt := 66) (dt_at dtX12_spelled 35 rfl) (by decide) (by first | assumption | exact ⟨by omega, by omega⟩) (fun c3 => absurd c3 (by omega)) (fun c3 => ?_)
  refine K_lload (dt_at dtX12_spelled 36 rfl) rfl ?_
  refine K_iconst (dt_at dtX12_spelled 37 rfl) ?_
  refine K_lsh5 (dt_at dtX12_spelled 38 rfl) ?_
  refine K_iload (dt_at dtX12_spelled 39 rfl) rfl ?_
  refine K_bipush (dt_at dtX12_spelled 40 rfl) (by decide) ?_
  refine K_isub (dt_at dtX12_spelled 41 rfl) ?_
  refine K_i2l (dt_at dtX12_spelled 42 rfl) (by first | assumption | exact ⟨by omega, by omega⟩) ?_
  refine K_lor (dt_at dtX12_spelled 43 rfl) (by omega) (by omega) ?_
  refine K_lstore (ls' := [(6, vl (((((((((112 - 96) * 32) + (101 - 96)) * 32) + (114 - 96)) * 32) + (115 - 96)) * 32) + (111 - 96))), (0, vi 112), (1, vi 101), (2, vi 114), (3, vi 115), (4, vi 111), (5, vi 110)]) (dt_at dtX12_spelled 44 rfl) (by decide) rfl ?_
  refine K_iload (dt_at dtX12_spelled 45 rfl) rfl ?_
  refine K_if_eq (tgt := 84) (dt_at dtX12_spelled 46 rfl) (by decide) (by first | assumption | exact ⟨by omega, by omega⟩) (fun c4 => absurd c4 (by omega)) (fun c4 => ?_)
  refine K_lload (dt_at dtX12_spelled 47 rfl) rfl ?_
  refine K_iconst (dt_at dtX12_spelled 48 rfl) ?_
  refine K_lsh5 (dt_at dtX12_spelled 49 rfl) ?_
  refine K_iload (dt_at dtX12_spelled 50 rfl) rfl ?_
  refine K_bipush (dt_at dtX12_spelled 51 rfl) (by decide) ?_
  refine K_isub (dt_at dtX12_spelled 52 rfl) ?_
  refine K_i2l (dt_at dtX12_spelled 53 rfl) (by first | assumption | exact ⟨by omega, by omega⟩) ?_
  refine K_lor (dt_at dtX12_spelled 54 rfl) (by omega) (by omega) ?_
  refine K_lstore (ls' := [(6, vl (((((((((((112 - 96) * 32) + (101 - 96)) * 32) + (114 - 96)) * 32) + (115 - 96)) * 32) + (111 - 96)) * 32) + (110 - 96))), (0, vi 112), (1, vi 101), (2, vi 114), (3, vi 115), (4, vi 111), (5, vi 110)]) (dt_at dtX12_spelled 55 rfl) (by decide) rfl ?_
  refine K_lload (dt_at dtX12_spelled 56 rfl) rfl ?_
  exact K_lret (dt_at dtX12_spelled 57 rfl) rfl (by decide) (by decide) ⟨congrArg (fun z : Int => (Sum.inl (some (vl z)) : AO)) (by decide +kernel : ((((((((((((112 - 96) * 32) + (101 - 96)) * 32) + (114 - 96)) * 32) + (115 - 96)) * 32) + (111 - 96)) * 32) + (110 - 96)) : Int) = pkWd 1), rfl⟩
set_option maxHeartbeats 4000000 in
set_option maxRecDepth 100000 in
theorem sX12_spelled_10 {h : HP}  : SpecK mX12_spelled [vi 98, vi 121, vi 0, vi 0, vi 0, vi 0] h (fun o h' => o = .inl (some (vl (pkWd 2))) ∧ h' = h) := by
  refine Spec_of (by decide +kernel) (Nat.le_of_ble_eq_true rfl) ?_
  refine K_iload_n (dt_at dtX12_spelled 0 rfl) rfl rfl ?_
  refine K_i2l (dt_at dtX12_spelled 1 rfl) (by first | assumption | exact ⟨by omega, by omega⟩) ?_
  refine K_ldc2 (n := 96) (dt_at dtX12_spelled 2 rfl) wK2_X12_151 (by decide) ?_
  refine K_lsub (dt_at dtX12_spelled 3 rfl) ?_
  refine K_iconst (dt_at dtX12_spelled 4 rfl) ?_
  refine K_lsh5 (dt_at dtX12_spelled 5 rfl) ?_
  refine K_iload_n (dt_at dtX12_spelled 6 rfl) rfl rfl ?_
  refine K_bipush (dt_at dtX12_spelled 7 rfl) (by decide) ?_
  refine K_isub (dt_at dtX12_spelled 8 rfl) ?_
  refine K_i2l (dt_at dtX12_spelled 9 rfl) (by first | assumption | exact ⟨by omega, by omega⟩) ?_
  refine K_lor (dt_at dtX12_spelled 10 rfl) (by omega) (by omega) ?_
  refine K_lstore (ls' := [(6, vl (((98 - 96) * 32) + (121 - 96))), (0, vi 98), (1, vi 121), (2, vi 0), (3, vi 0), (4, vi 0), (5, vi 0)]) (dt_at dtX12_spelled 11 rfl) (by decide) rfl ?_
  refine K_iload_n (dt_at dtX12_spelled 12 rfl) rfl rfl ?_
  refine K_if_eq (tgt := 32) (dt_at dtX12_spelled 13 rfl) (by decide) (by first | assumption | exact ⟨by omega, by omega⟩) (fun c1 => ?_) (fun c1 => absurd c1 (by omega))
  refine K_iload_n (dt_at dtX12_spelled 23 rfl) rfl rfl ?_
  refine K_if_eq (tgt := 48) (dt_at dtX12_spelled 24 rfl) (by decide) (by first | assumption | exact ⟨by omega, by omega⟩) (fun c2 => ?_) (fun c2 => absurd c2 (by omega))
  refine K_iload (dt_at dtX12_spelled 34 rfl) rfl ?_
  refine K_if_eq (tgt := 66) (dt_at dtX12_spelled 35 rfl) (by decide) (by first | assumption | exact ⟨by omega, by omega⟩) (fun c3 => ?_) (fun c3 => absurd c3 (by omega))
  refine K_iload (dt_at dtX12_spelled 45 rfl) rfl ?_
  refine K_if_eq (tgt := 84) (dt_at dtX12_spelled 46 rfl) (by decide) (by first | assumption | exact ⟨by omega, by omega⟩) (fun c4 => ?_) (fun c4 => absurd c4 (by omega))
  refine K_lload (dt_at dtX12_spelled 56 rfl) rfl ?_
  exact K_lret (dt_at dtX12_spelled 57 rfl) rfl (by decide) (by decide) ⟨congrArg (fun z : Int => (Sum.inl (some (vl z)) : AO)) (by decide +kernel : ((((98 - 96) * 32) + (121 - 96)) : Int) = pkWd 2), rfl⟩
set_option maxHeartbeats 4000000 in
set_option maxRecDepth 100000 in
theorem sX12_spelled_11 {h : HP}  : SpecK mX12_spelled [vi 112, vi 117, vi 116, vi 115, vi 0, vi 0] h (fun o h' => o = .inl (some (vl (pkWd 3))) ∧ h' = h) := by
  refine Spec_of (by decide +kernel) (Nat.le_of_ble_eq_true rfl) ?_
  refine K_iload_n (dt_at dtX12_spelled 0 rfl) rfl rfl ?_
  refine K_i2l (dt_at dtX12_spelled 1 rfl) (by first | assumption | exact ⟨by omega, by omega⟩) ?_
  refine K_ldc2 (n := 96) (dt_at dtX12_spelled 2 rfl) wK2_X12_151 (by decide) ?_
  refine K_lsub (dt_at dtX12_spelled 3 rfl) ?_
  refine K_iconst (dt_at dtX12_spelled 4 rfl) ?_
  refine K_lsh5 (dt_at dtX12_spelled 5 rfl) ?_
  refine K_iload_n (dt_at dtX12_spelled 6 rfl) rfl rfl ?_
  refine K_bipush (dt_at dtX12_spelled 7 rfl) (by decide) ?_
  refine K_isub (dt_at dtX12_spelled 8 rfl) ?_
  refine K_i2l (dt_at dtX12_spelled 9 rfl) (by first | assumption | exact ⟨by omega, by omega⟩) ?_
  refine K_lor (dt_at dtX12_spelled 10 rfl) (by omega) (by omega) ?_
  refine K_lstore (ls' := [(6, vl (((112 - 96) * 32) + (117 - 96))), (0, vi 112), (1, vi 117), (2, vi 116), (3, vi 115), (4, vi 0), (5, vi 0)]) (dt_at dtX12_spelled 11 rfl) (by decide) rfl ?_
  refine K_iload_n (dt_at dtX12_spelled 12 rfl) rfl rfl ?_
  refine K_if_eq (tgt := 32) (dt_at dtX12_spelled 13 rfl) (by decide) (by first | assumption | exact ⟨by omega, by omega⟩) (fun c1 => absurd c1 (by omega)) (fun c1 => ?_)
  refine K_lload (dt_at dtX12_spelled 14 rfl) rfl ?_
  refine K_iconst (dt_at dtX12_spelled 15 rfl) ?_
  refine K_lsh5 (dt_at dtX12_spelled 16 rfl) ?_
  refine K_iload_n (dt_at dtX12_spelled 17 rfl) rfl rfl ?_
  refine K_bipush (dt_at dtX12_spelled 18 rfl) (by decide) ?_
  refine K_isub (dt_at dtX12_spelled 19 rfl) ?_
  refine K_i2l (dt_at dtX12_spelled 20 rfl) (by first | assumption | exact ⟨by omega, by omega⟩) ?_
  refine K_lor (dt_at dtX12_spelled 21 rfl) (by omega) (by omega) ?_
  refine K_lstore (ls' := [(6, vl (((((112 - 96) * 32) + (117 - 96)) * 32) + (116 - 96))), (0, vi 112), (1, vi 117), (2, vi 116), (3, vi 115), (4, vi 0), (5, vi 0)]) (dt_at dtX12_spelled 22 rfl) (by decide) rfl ?_
  refine K_iload_n (dt_at dtX12_spelled 23 rfl) rfl rfl ?_
  refine K_if_eq (tgt := 48) (dt_at dtX12_spelled 24 rfl) (by decide) (by first | assumption | exact ⟨by omega, by omega⟩) (fun c2 => absurd c2 (by omega)) (fun c2 => ?_)
  refine K_lload (dt_at dtX12_spelled 25 rfl) rfl ?_
  refine K_iconst (dt_at dtX12_spelled 26 rfl) ?_
  refine K_lsh5 (dt_at dtX12_spelled 27 rfl) ?_
  refine K_iload_n (dt_at dtX12_spelled 28 rfl) rfl rfl ?_
  refine K_bipush (dt_at dtX12_spelled 29 rfl) (by decide) ?_
  refine K_isub (dt_at dtX12_spelled 30 rfl) ?_
  refine K_i2l (dt_at dtX12_spelled 31 rfl) (by first | assumption | exact ⟨by omega, by omega⟩) ?_
  refine K_lor (dt_at dtX12_spelled 32 rfl) (by omega) (by omega) ?_
  refine K_lstore (ls' := [(6, vl (((((((112 - 96) * 32) + (117 - 96)) * 32) + (116 - 96)) * 32) + (115 - 96))), (0, vi 112), (1, vi 117), (2, vi 116), (3, vi 115), (4, vi 0), (5, vi 0)]) (dt_at dtX12_spelled 33 rfl) (by decide) rfl ?_
  refine K_iload (dt_at dtX12_spelled 34 rfl) rfl ?_
  refine K_if_eq (tgt := 66) (dt_at dtX12_spelled 35 rfl) (by decide) (by first | assumption | exact ⟨by omega, by omega⟩) (fun c3 => ?_) (fun c3 => absurd c3 (by omega))
  refine K_iload (dt_at dtX12_spelled 45 rfl) rfl ?_
  refine K_if_eq (tgt := 84) (dt_at dtX12_spelled 46 rfl) (by decide) (by first | assumption | exact ⟨by omega, by omega⟩) (fun c4 => ?_) (fun c4 => absurd c4 (by omega))
  refine K_lload (dt_at dtX12_spelled 56 rfl) rfl ?_
  exact K_lret (dt_at dtX12_spelled 57 rfl) rfl (by decide) (by decide) ⟨congrArg (fun z : Int => (Sum.inl (some (vl z)) : AO)) (by decide +kernel : ((((((((112 - 96) * 32) + (117 - 96)) * 32) + (116 - 96)) * 32) + (115 - 96)) : Int) = pkWd 3), rfl⟩
set_option maxHeartbeats 4000000 in
set_option maxRecDepth 100000 in
theorem sX12_spelled_12 {h : HP}  : SpecK mX12_spelled [vi 102, vi 101, vi 101, vi 108, vi 115, vi 0] h (fun o h' => o = .inl (some (vl (pkWd 15))) ∧ h' = h) := by
  refine Spec_of (by decide +kernel) (Nat.le_of_ble_eq_true rfl) ?_
  refine K_iload_n (dt_at dtX12_spelled 0 rfl) rfl rfl ?_
  refine K_i2l (dt_at dtX12_spelled 1 rfl) (by first | assumption | exact ⟨by omega, by omega⟩) ?_
  refine K_ldc2 (n := 96) (dt_at dtX12_spelled 2 rfl) wK2_X12_151 (by decide) ?_
  refine K_lsub (dt_at dtX12_spelled 3 rfl) ?_
  refine K_iconst (dt_at dtX12_spelled 4 rfl) ?_
  refine K_lsh5 (dt_at dtX12_spelled 5 rfl) ?_
  refine K_iload_n (dt_at dtX12_spelled 6 rfl) rfl rfl ?_
  refine K_bipush (dt_at dtX12_spelled 7 rfl) (by decide) ?_
  refine K_isub (dt_at dtX12_spelled 8 rfl) ?_
  refine K_i2l (dt_at dtX12_spelled 9 rfl) (by first | assumption | exact ⟨by omega, by omega⟩) ?_
  refine K_lor (dt_at dtX12_spelled 10 rfl) (by omega) (by omega) ?_
  refine K_lstore (ls' := [(6, vl (((102 - 96) * 32) + (101 - 96))), (0, vi 102), (1, vi 101), (2, vi 101), (3, vi 108), (4, vi 115), (5, vi 0)]) (dt_at dtX12_spelled 11 rfl) (by decide) rfl ?_
  refine K_iload_n (dt_at dtX12_spelled 12 rfl) rfl rfl ?_
  refine K_if_eq (tgt := 32) (dt_at dtX12_spelled 13 rfl) (by decide) (by first | assumption | exact ⟨by omega, by omega⟩) (fun c1 => absurd c1 (by omega)) (fun c1 => ?_)
  refine K_lload (dt_at dtX12_spelled 14 rfl) rfl ?_
  refine K_iconst (dt_at dtX12_spelled 15 rfl) ?_
  refine K_lsh5 (dt_at dtX12_spelled 16 rfl) ?_
  refine K_iload_n (dt_at dtX12_spelled 17 rfl) rfl rfl ?_
  refine K_bipush (dt_at dtX12_spelled 18 rfl) (by decide) ?_
  refine K_isub (dt_at dtX12_spelled 19 rfl) ?_
  refine K_i2l (dt_at dtX12_spelled 20 rfl) (by first | assumption | exact ⟨by omega, by omega⟩) ?_
  refine K_lor (dt_at dtX12_spelled 21 rfl) (by omega) (by omega) ?_
  refine K_lstore (ls' := [(6, vl (((((102 - 96) * 32) + (101 - 96)) * 32) + (101 - 96))), (0, vi 102), (1, vi 101), (2, vi 101), (3, vi 108), (4, vi 115), (5, vi 0)]) (dt_at dtX12_spelled 22 rfl) (by decide) rfl ?_
  refine K_iload_n (dt_at dtX12_spelled 23 rfl) rfl rfl ?_
  refine K_if_eq (tgt := 48) (dt_at dtX12_spelled 24 rfl) (by decide) (by first | assumption | exact ⟨by omega, by omega⟩) (fun c2 => absurd c2 (by omega)) (fun c2 => ?_)
  refine K_lload (dt_at dtX12_spelled 25 rfl) rfl ?_
  refine K_iconst (dt_at dtX12_spelled 26 rfl) ?_
  refine K_lsh5 (dt_at dtX12_spelled 27 rfl) ?_
  refine K_iload_n (dt_at dtX12_spelled 28 rfl) rfl rfl ?_
  refine K_bipush (dt_at dtX12_spelled 29 rfl) (by decide) ?_
  refine K_isub (dt_at dtX12_spelled 30 rfl) ?_
  refine K_i2l (dt_at dtX12_spelled 31 rfl) (by first | assumption | exact ⟨by omega, by omega⟩) ?_
  refine K_lor (dt_at dtX12_spelled 32 rfl) (by omega) (by omega) ?_
  refine K_lstore (ls' := [(6, vl (((((((102 - 96) * 32) + (101 - 96)) * 32) + (101 - 96)) * 32) + (108 - 96))), (0, vi 102), (1, vi 101), (2, vi 101), (3, vi 108), (4, vi 115), (5, vi 0)]) (dt_at dtX12_spelled 33 rfl) (by decide) rfl ?_
  refine K_iload (dt_at dtX12_spelled 34 rfl) rfl ?_
  refine K_if_eq (tgt := 66) (dt_at dtX12_spelled 35 rfl) (by decide) (by first | assumption | exact ⟨by omega, by omega⟩) (fun c3 => absurd c3 (by omega)) (fun c3 => ?_)
  refine K_lload (dt_at dtX12_spelled 36 rfl) rfl ?_
  refine K_iconst (dt_at dtX12_spelled 37 rfl) ?_
  refine K_lsh5 (dt_at dtX12_spelled 38 rfl) ?_
  refine K_iload (dt_at dtX12_spelled 39 rfl) rfl ?_
  refine K_bipush (dt_at dtX12_spelled 40 rfl) (by decide) ?_
  refine K_isub (dt_at dtX12_spelled 41 rfl) ?_
  refine K_i2l (dt_at dtX12_spelled 42 rfl) (by first | assumption | exact ⟨by omega, by omega⟩) ?_
  refine K_lor (dt_at dtX12_spelled 43 rfl) (by omega) (by omega) ?_
  refine K_lstore (ls' := [(6, vl (((((((((102 - 96) * 32) + (101 - 96)) * 32) + (101 - 96)) * 32) + (108 - 96)) * 32) + (115 - 96))), (0, vi 102), (1, vi 101), (2, vi 101), (3, vi 108), (4, vi 115), (5, vi 0)]) (dt_at dtX12_spelled 44 rfl) (by decide) rfl ?_
  refine K_iload (dt_at dtX12_spelled 45 rfl) rfl ?_
  refine K_if_eq (tgt := 84) (dt_at dtX12_spelled 46 rfl) (by decide) (by first | assumption | exact ⟨by omega, by omega⟩) (fun c4 => ?_) (fun c4 => absurd c4 (by omega))
  refine K_lload (dt_at dtX12_spelled 56 rfl) rfl ?_
  exact K_lret (dt_at dtX12_spelled 57 rfl) rfl (by decide) (by decide) ⟨congrArg (fun z : Int => (Sum.inl (some (vl z)) : AO)) (by decide +kernel : ((((((((((102 - 96) * 32) + (101 - 96)) * 32) + (101 - 96)) * 32) + (108 - 96)) * 32) + (115 - 96)) : Int) = pkWd 15), rfl⟩
set_option maxHeartbeats 4000000 in
set_option maxRecDepth 100000 in
theorem sX12_spelled_13 {h : HP}  : SpecK mX12_spelled [vi 97, vi 110, vi 100, vi 0, vi 0, vi 0] h (fun o h' => o = .inl (some (vl (pkWd 13))) ∧ h' = h) := by
  refine Spec_of (by decide +kernel) (Nat.le_of_ble_eq_true rfl) ?_
  refine K_iload_n (dt_at dtX12_spelled 0 rfl) rfl rfl ?_
  refine K_i2l (dt_at dtX12_spelled 1 rfl) (by first | assumption | exact ⟨by omega, by omega⟩) ?_
  refine K_ldc2 (n := 96) (dt_at dtX12_spelled 2 rfl) wK2_X12_151 (by decide) ?_
  refine K_lsub (dt_at dtX12_spelled 3 rfl) ?_
  refine K_iconst (dt_at dtX12_spelled 4 rfl) ?_
  refine K_lsh5 (dt_at dtX12_spelled 5 rfl) ?_
  refine K_iload_n (dt_at dtX12_spelled 6 rfl) rfl rfl ?_
  refine K_bipush (dt_at dtX12_spelled 7 rfl) (by decide) ?_
  refine K_isub (dt_at dtX12_spelled 8 rfl) ?_
  refine K_i2l (dt_at dtX12_spelled 9 rfl) (by first | assumption | exact ⟨by omega, by omega⟩) ?_
  refine K_lor (dt_at dtX12_spelled 10 rfl) (by omega) (by omega) ?_
  refine K_lstore (ls' := [(6, vl (((97 - 96) * 32) + (110 - 96))), (0, vi 97), (1, vi 110), (2, vi 100), (3, vi 0), (4, vi 0), (5, vi 0)]) (dt_at dtX12_spelled 11 rfl) (by decide) rfl ?_
  refine K_iload_n (dt_at dtX12_spelled 12 rfl) rfl rfl ?_
  refine K_if_eq (tgt := 32) (dt_at dtX12_spelled 13 rfl) (by decide) (by first | assumption | exact ⟨by omega, by omega⟩) (fun c1 => absurd c1 (by omega)) (fun c1 => ?_)
  refine K_lload (dt_at dtX12_spelled 14 rfl) rfl ?_
  refine K_iconst (dt_at dtX12_spelled 15 rfl) ?_
  refine K_lsh5 (dt_at dtX12_spelled 16 rfl) ?_
  refine K_iload_n (dt_at dtX12_spelled 17 rfl) rfl rfl ?_
  refine K_bipush (dt_at dtX12_spelled 18 rfl) (by decide) ?_
  refine K_isub (dt_at dtX12_spelled 19 rfl) ?_
  refine K_i2l (dt_at dtX12_spelled 20 rfl) (by first | assumption | exact ⟨by omega, by omega⟩) ?_
  refine K_lor (dt_at dtX12_spelled 21 rfl) (by omega) (by omega) ?_
  refine K_lstore (ls' := [(6, vl (((((97 - 96) * 32) + (110 - 96)) * 32) + (100 - 96))), (0, vi 97), (1, vi 110), (2, vi 100), (3, vi 0), (4, vi 0), (5, vi 0)]) (dt_at dtX12_spelled 22 rfl) (by decide) rfl ?_
  refine K_iload_n (dt_at dtX12_spelled 23 rfl) rfl rfl ?_
  refine K_if_eq (tgt := 48) (dt_at dtX12_spelled 24 rfl) (by decide) (by first | assumption | exact ⟨by omega, by omega⟩) (fun c2 => ?_) (fun c2 => absurd c2 (by omega))
  refine K_iload (dt_at dtX12_spelled 34 rfl) rfl ?_
  refine K_if_eq (tgt := 66) (dt_at dtX12_spelled 35 rfl) (by decide) (by first | assumption | exact ⟨by omega, by omega⟩) (fun c3 => ?_) (fun c3 => absurd c3 (by omega))
  refine K_iload (dt_at dtX12_spelled 45 rfl) rfl ?_
  refine K_if_eq (tgt := 84) (dt_at dtX12_spelled 46 rfl) (by decide) (by first | assumption | exact ⟨by omega, by omega⟩) (fun c4 => ?_) (fun c4 => absurd c4 (by omega))
  refine K_lload (dt_at dtX12_spelled 56 rfl) rfl ?_
  exact K_lret (dt_at dtX12_spelled 57 rfl) rfl (by decide) (by decide) ⟨congrArg (fun z : Int => (Sum.inl (some (vl z)) : AO)) (by decide +kernel : ((((((97 - 96) * 32) + (110 - 96)) * 32) + (100 - 96)) : Int) = pkWd 13), rfl⟩
set_option maxHeartbeats 4000000 in
set_option maxRecDepth 100000 in
theorem sX12_spelled_14 {h : HP}  : SpecK mX12_spelled [vi 111, vi 114, vi 0, vi 0, vi 0, vi 0] h (fun o h' => o = .inl (some (vl (pkWd 14))) ∧ h' = h) := by
  refine Spec_of (by decide +kernel) (Nat.le_of_ble_eq_true rfl) ?_
  refine K_iload_n (dt_at dtX12_spelled 0 rfl) rfl rfl ?_
  refine K_i2l (dt_at dtX12_spelled 1 rfl) (by first | assumption | exact ⟨by omega, by omega⟩) ?_
  refine K_ldc2 (n := 96) (dt_at dtX12_spelled 2 rfl) wK2_X12_151 (by decide) ?_
  refine K_lsub (dt_at dtX12_spelled 3 rfl) ?_
  refine K_iconst (dt_at dtX12_spelled 4 rfl) ?_
  refine K_lsh5 (dt_at dtX12_spelled 5 rfl) ?_
  refine K_iload_n (dt_at dtX12_spelled 6 rfl) rfl rfl ?_
  refine K_bipush (dt_at dtX12_spelled 7 rfl) (by decide) ?_
  refine K_isub (dt_at dtX12_spelled 8 rfl) ?_
  refine K_i2l (dt_at dtX12_spelled 9 rfl) (by first | assumption | exact ⟨by omega, by omega⟩) ?_
  refine K_lor (dt_at dtX12_spelled 10 rfl) (by omega) (by omega) ?_
  refine K_lstore (ls' := [(6, vl (((111 - 96) * 32) + (114 - 96))), (0, vi 111), (1, vi 114), (2, vi 0), (3, vi 0), (4, vi 0), (5, vi 0)]) (dt_at dtX12_spelled 11 rfl) (by decide) rfl ?_
  refine K_iload_n (dt_at dtX12_spelled 12 rfl) rfl rfl ?_
  refine K_if_eq (tgt := 32) (dt_at dtX12_spelled 13 rfl) (by decide) (by first | assumption | exact ⟨by omega, by omega⟩) (fun c1 => ?_) (fun c1 => absurd c1 (by omega))
  refine K_iload_n (dt_at dtX12_spelled 23 rfl) rfl rfl ?_
  refine K_if_eq (tgt := 48) (dt_at dtX12_spelled 24 rfl) (by decide) (by first | assumption | exact ⟨by omega, by omega⟩) (fun c2 => ?_) (fun c2 => absurd c2 (by omega))
  refine K_iload (dt_at dtX12_spelled 34 rfl) rfl ?_
  refine K_if_eq (tgt := 66) (dt_at dtX12_spelled 35 rfl) (by decide) (by first | assumption | exact ⟨by omega, by omega⟩) (fun c3 => ?_) (fun c3 => absurd c3 (by omega))
  refine K_iload (dt_at dtX12_spelled 45 rfl) rfl ?_
  refine K_if_eq (tgt := 84) (dt_at dtX12_spelled 46 rfl) (by decide) (by first | assumption | exact ⟨by omega, by omega⟩) (fun c4 => ?_) (fun c4 => absurd c4 (by omega))
  refine K_lload (dt_at dtX12_spelled 56 rfl) rfl ?_
  exact K_lret (dt_at dtX12_spelled 57 rfl) rfl (by decide) (by decide) ⟨congrArg (fun z : Int => (Sum.inl (some (vl z)) : AO)) (by decide +kernel : ((((111 - 96) * 32) + (114 - 96)) : Int) = pkWd 14), rfl⟩
set_option maxHeartbeats 4000000 in
set_option maxRecDepth 100000 in
theorem sX12_spelled_15 {h : HP}  : SpecK mX12_spelled [vi 110, vi 111, vi 116, vi 0, vi 0, vi 0] h (fun o h' => o = .inl (some (vl (pkWd 4))) ∧ h' = h) := by
  refine Spec_of (by decide +kernel) (Nat.le_of_ble_eq_true rfl) ?_
  refine K_iload_n (dt_at dtX12_spelled 0 rfl) rfl rfl ?_
  refine K_i2l (dt_at dtX12_spelled 1 rfl) (by first | assumption | exact ⟨by omega, by omega⟩) ?_
  refine K_ldc2 (n := 96) (dt_at dtX12_spelled 2 rfl) wK2_X12_151 (by decide) ?_
  refine K_lsub (dt_at dtX12_spelled 3 rfl) ?_
  refine K_iconst (dt_at dtX12_spelled 4 rfl) ?_
  refine K_lsh5 (dt_at dtX12_spelled 5 rfl) ?_
  refine K_iload_n (dt_at dtX12_spelled 6 rfl) rfl rfl ?_
  refine K_bipush (dt_at dtX12_spelled 7 rfl) (by decide) ?_
  refine K_isub (dt_at dtX12_spelled 8 rfl) ?_
  refine K_i2l (dt_at dtX12_spelled 9 rfl) (by first | assumption | exact ⟨by omega, by omega⟩) ?_
  refine K_lor (dt_at dtX12_spelled 10 rfl) (by omega) (by omega) ?_
  refine K_lstore (ls' := [(6, vl (((110 - 96) * 32) + (111 - 96))), (0, vi 110), (1, vi 111), (2, vi 116), (3, vi 0), (4, vi 0), (5, vi 0)]) (dt_at dtX12_spelled 11 rfl) (by decide) rfl ?_
  refine K_iload_n (dt_at dtX12_spelled 12 rfl) rfl rfl ?_
  refine K_if_eq (tgt := 32) (dt_at dtX12_spelled 13 rfl) (by decide) (by first | assumption | exact ⟨by omega, by omega⟩) (fun c1 => absurd c1 (by omega)) (fun c1 => ?_)
  refine K_lload (dt_at dtX12_spelled 14 rfl) rfl ?_
  refine K_iconst (dt_at dtX12_spelled 15 rfl) ?_
  refine K_lsh5 (dt_at dtX12_spelled 16 rfl) ?_
  refine K_iload_n (dt_at dtX12_spelled 17 rfl) rfl rfl ?_
  refine K_bipush (dt_at dtX12_spelled 18 rfl) (by decide) ?_
  refine K_isub (dt_at dtX12_spelled 19 rfl) ?_
  refine K_i2l (dt_at dtX12_spelled 20 rfl) (by first | assumption | exact ⟨by omega, by omega⟩) ?_
  refine K_lor (dt_at dtX12_spelled 21 rfl) (by omega) (by omega) ?_
  refine K_lstore (ls' := [(6, vl (((((110 - 96) * 32) + (111 - 96)) * 32) + (116 - 96))), (0, vi 110), (1, vi 111), (2, vi 116), (3, vi 0), (4, vi 0), (5, vi 0)]) (dt_at dtX12_spelled 22 rfl) (by decide) rfl ?_
  refine K_iload_n (dt_at dtX12_spelled 23 rfl) rfl rfl ?_
  refine K_if_eq (tgt := 48) (dt_at dtX12_spelled 24 rfl) (by decide) (by first | assumption | exact ⟨by omega, by omega⟩) (fun c2 => ?_) (fun c2 => absurd c2 (by omega))
  refine K_iload (dt_at dtX12_spelled 34 rfl) rfl ?_
  refine K_if_eq (tgt := 66) (dt_at dtX12_spelled 35 rfl) (by decide) (by first | assumption | exact ⟨by omega, by omega⟩) (fun c3 => ?_) (fun c3 => absurd c3 (by omega))
  refine K_iload (dt_at dtX12_spelled 45 rfl) rfl ?_
  refine K_if_eq (tgt := 84) (dt_at dtX12_spelled 46 rfl) (by decide) (by first | assumption | exact ⟨by omega, by omega⟩) (fun c4 => ?_) (fun c4 => absurd c4 (by omega))
  refine K_lload (dt_at dtX12_spelled 56 rfl) rfl ?_
  exact K_lret (dt_at dtX12_spelled 57 rfl) rfl (by decide) (by decide) ⟨congrArg (fun z : Int => (Sum.inl (some (vl z)) : AO)) (by decide +kernel : ((((((110 - 96) * 32) + (111 - 96)) * 32) + (116 - 96)) : Int) = pkWd 4), rfl⟩
def mX12_letters : MI := (yX12_letters, cX12_letters, 1, (some .long), rmK 2 0)
def tX12_letters : List (Nat × Instr × Nat) := [(0, .iload_n 0, 1), (1, .tableswitch 284 0 14 #[75, 88, 104, 119, 133, 147, 160, 173, 187, 202, 218, 230, 244, 259, 272], 75), (76, .bipush 117, 2), (78, .bipush 115, 2), (80, .bipush 101, 2), (82, .iconst 0, 1), (83, .iconst 0, 1), (84, .iconst 0, 1), (85, .invokestatic 153, 3), (88, .lreturn, 1), (89, .bipush 119, 2), (91, .bipush 101, 2), (93, .bipush 105, 2), (95, .bipush 103, 2), (97, .bipush 104, 2), (99, .bipush 116, 2), (101, .invokestatic 153, 3), (104, .lreturn, 1), (105, .bipush 115, 2), (107, .bipush 116, 2), (109, .bipush 111, 2), (111, .bipush 99, 2), (113, .bipush 107, 2), (115, .iconst 0, 1), (116, .invokestatic 153, 3), (119, .lreturn, 1), (120, .bipush 114, 2), (122, .bipush 111, 2), (124, .bipush 111, 2), (126, .bipush 109, 2), (128, .iconst 0, 1), (129, .iconst 0, 1), (130, .invokestatic 153, 3), (133, .lreturn, 1), (134, .bipush 102, 2), (136, .bipush 111, 2), (138, .bipush 110, 2), (140, .bipush 100, 2), (142, .iconst 0, 1), (143, .iconst 0, 1), (144, .invokestatic 153, 3), (147, .lreturn, 1), (148, .bipush 100, 2), (150, .bipush 97, 2), (152, .bipush 121, 2), (154, .iconst 0, 1), (155, .iconst 0, 1), (156, .iconst 0, 1), (157, .invokestatic 153, 3), (160, .lreturn, 1), (161, .bipush 104, 2), (163, .bipush 97, 2), (165, .bipush 100, 2), (167, .iconst 0, 1), (168, .iconst 0, 1), (169, .iconst 0, 1), (170, .invokestatic 153, 3), (173, .lreturn, 1), (174, .bipush 97, 2), (176, .bipush 119, 2), (178, .bipush 97, 2), (180, .bipush 121, 2), (182, .iconst 0, 1), (183, .iconst 0, 1), (184, .invokestatic 153, 3), (187, .lreturn, 1), (188, .bipush 116, 2), (190, .bipush 104, 2), (192, .bipush 105, 2), (194, .bipush 110, 2), (196, .bipush 103, 2), (198, .iconst 0, 1), (199, .invokestatic 153, 3), (202, .lreturn, 1), (203, .bipush 112, 2), (205, .bipush 101, 2), (207, .bipush 114, 2), (209, .bipush 115, 2), (211, .bipush 111, 2), (213, .bipush 110, 2), (215, .invokestatic 153, 3), (218, .lreturn, 1), (219, .bipush 98, 2), (221, .bipush 121, 2), (223, .iconst 0, 1), (224, .iconst 0, 1), (225, .iconst 0, 1), (226, .iconst 0, 1), (227, .invokestatic 153, 3), (230, .lreturn, 1), (231, .bipush 112, 2), (233, .bipush 117, 2), (235, .bipush 116, 2), (237, .bipush 115, 2), (239, .iconst 0, 1), (240, .iconst 0, 1), (241, .invokestatic 153, 3), (244, .lreturn, 1), (245, .bipush 102, 2), (247, .bipush 101, 2), (249, .bipush 101, 2), (251, .bipush 108, 2), (253, .bipush 115, 2), (255, .iconst 0, 1), (256, .invokestatic 153, 3), (259, .lreturn, 1), (260, .bipush 97, 2), (262, .bipush 110, 2), (264, .bipush 100, 2), (266, .iconst 0, 1), (267, .iconst 0, 1), (268, .iconst 0, 1), (269, .invokestatic 153, 3), (272, .lreturn, 1), (273, .bipush 111, 2), (275, .bipush 114, 2), (277, .iconst 0, 1), (278, .iconst 0, 1), (279, .iconst 0, 1), (280, .iconst 0, 1), (281, .invokestatic 153, 3), (284, .lreturn, 1), (285, .bipush 110, 2), (287, .bipush 111, 2), (289, .bipush 116, 2), (291, .iconst 0, 1), (292, .iconst 0, 1), (293, .iconst 0, 1), (294, .invokestatic 153, 3), (297, .lreturn, 1)]
theorem dtX12_letters : tX12_letters.all (fun q => decide (decode cX12_letters q.1 = .ok (q.2.1, q.2.2))) = true := by decide +kernel
theorem npX12_letters : (parseMethodDescriptor (mY mX12_letters).desc).map (fun d => d.parameters.length) = some 1 := by decide +kernel
theorem vX12_letters : mS mX12_letters := ⟨wT_X12_letters, wN_X12, wC_X12_letters, by decide +kernel, by decide +kernel⟩
set_option maxHeartbeats 4000000 in
set_option maxRecDepth 100000 in
theorem sX12_letters_0 {h : HP}  : SpecK mX12_letters [vi 0] h (fun o h' => o = .inl (some (vl (pkWd 7))) ∧ h' = h) := by
  refine Spec_of (by decide +kernel) (Nat.le_of_ble_eq_true rfl) ?_
  refine K_iload_n (dt_at dtX12_letters 0 rfl) rfl rfl ?_
  refine K_tableIn (tgt := 76) (dt_at dtX12_letters 1 rfl) ⟨by decide, by decide⟩ (by decide) (by decide) rfl (by decide) ?_
  refine K_bipush (dt_at dtX12_letters 2 rfl) (by decide) ?_
  refine K_bipush (dt_at dtX12_letters 3 rfl) (by decide) ?_
  refine K_bipush (dt_at dtX12_letters 4 rfl) (by decide) ?_
  refine K_iconst (dt_at dtX12_letters 5 rfl) ?_
  refine K_iconst (dt_at dtX12_letters 6 rfl) ?_
  refine K_iconst (dt_at dtX12_letters 7 rfl) ?_
  refine K_callS (M' := mX12_spelled) (As := [vi 117, vi 115, vi 101, vi 0, vi 0, vi 0]) (st := []) (dt_at dtX12_letters 8 rfl) sX12_spelled_0 wL_X12_153 vX12_spelled rfl npX12_spelled (by decide) (by decide) (Nat.le_of_ble_eq_true rfl) (by decide) (by decide) GK_E (fun v9 h9 hq => ?_) (fun E h9 hq => by cases hq.1)
  obtain ⟨e9, e8⟩ := hq
  cases e9
  rw [e8]
  show K mX12_letters _ _ 0 0 88 [(0, vi 0)] [vl (pkWd 7)] h
  exact K_lret (dt_at dtX12_letters 9 rfl) rfl (by decide) (by decide) ⟨rfl, rfl⟩
set_option maxHeartbeats 4000000 in
set_option maxRecDepth 100000 in
theorem sX12_letters_1 {h : HP}  : SpecK mX12_letters [vi 1] h (fun o h' => o = .inl (some (vl (pkWd 8))) ∧ h' = h) := by
  refine Spec_of (by decide +kernel) (Nat.le_of_ble_eq_true rfl) ?_
  refine K_iload_n (dt_at dtX12_letters 0 rfl) rfl rfl ?_
  refine K_tableIn (tgt := 89) (dt_at dtX12_letters 1 rfl) ⟨by decide, by decide⟩ (by decide) (by decide) rfl (by decide) ?_
  refine K_bipush (dt_at dtX12_letters 10 rfl) (by decide) ?_
  refine K_bipush (dt_at dtX12_letters 11 rfl) (by decide) ?_
  refine K_bipush (dt_at dtX12_letters 12 rfl) (by decide) ?_
  refine K_bipush (dt_at dtX12_letters 13 rfl) (by decide) ?_
  refine K_bipush (dt_at dtX12_letters 14 rfl) (by decide) ?_
  refine K_bipush (dt_at dtX12_letters 15 rfl) (by decide) ?_
  refine K_callS (M' := mX12_spelled) (As := [vi 119, vi 101, vi 105, vi 103, vi 104, vi 116]) (st := []) (dt_at dtX12_letters 16 rfl) sX12_spelled_1 wL_X12_153 vX12_spelled rfl npX12_spelled (by decide) (by decide) (Nat.le_of_ble_eq_true rfl) (by decide) (by decide) GK_E (fun v9 h9 hq => ?_) (fun E h9 hq => by cases hq.1)
  obtain ⟨e9, e8⟩ := hq
  cases e9
  rw [e8]
  show K mX12_letters _ _ 0 0 104 [(0, vi 1)] [vl (pkWd 8)] h
  exact K_lret (dt_at dtX12_letters 17 rfl) rfl (by decide) (by decide) ⟨rfl, rfl⟩
set_option maxHeartbeats 4000000 in
set_option maxRecDepth 100000 in
theorem sX12_letters_2 {h : HP}  : SpecK mX12_letters [vi 2] h (fun o h' => o = .inl (some (vl (pkWd 9))) ∧ h' = h) := by
  refine Spec_of (by decide +kernel) (Nat.le_of_ble_eq_true rfl) ?_
  refine K_iload_n (dt_at dtX12_letters 0 rfl) rfl rfl ?_
  refine K_tableIn (tgt := 105) (dt_at dtX12_letters 1 rfl) ⟨by decide, by decide⟩ (by decide) (by decide) rfl (by decide) ?_
  refine K_bipush (dt_at dtX12_letters 18 rfl) (by decide) ?_
  refine K_bipush (dt_at dtX12_letters 19 rfl) (by decide) ?_
  refine K_bipush (dt_at dtX12_letters 20 rfl) (by decide) ?_
  refine K_bipush (dt_at dtX12_letters 21 rfl) (by decide) ?_
  refine K_bipush (dt_at dtX12_letters 22 rfl) (by decide) ?_
  refine K_iconst (dt_at dtX12_letters 23 rfl) ?_
  refine K_callS (M' := mX12_spelled) (As := [vi 115, vi 116, vi 111, vi 99, vi 107, vi 0]) (st := []) (dt_at dtX12_letters 24 rfl) sX12_spelled_2 wL_X12_153 vX12_spelled rfl npX12_spelled (by decide) (by decide) (Nat.le_of_ble_eq_true rfl) (by decide) (by decide) GK_E (fun v9 h9 hq => ?_) (fun E h9 hq => by cases hq.1)
  obtain ⟨e9, e8⟩ := hq
  cases e9
  rw [e8]
  show K mX12_letters _ _ 0 0 119 [(0, vi 2)] [vl (pkWd 9)] h
  exact K_lret (dt_at dtX12_letters 25 rfl) rfl (by decide) (by decide) ⟨rfl, rfl⟩
set_option maxHeartbeats 4000000 in
set_option maxRecDepth 100000 in
theorem sX12_letters_3 {h : HP}  : SpecK mX12_letters [vi 3] h (fun o h' => o = .inl (some (vl (pkWd 10))) ∧ h' = h) := by
  refine Spec_of (by decide +kernel) (Nat.le_of_ble_eq_true rfl) ?_
  refine K_iload_n (dt_at dtX12_letters 0 rfl) rfl rfl ?_
  refine K_tableIn (tgt := 120) (dt_at dtX12_letters 1 rfl) ⟨by decide, by decide⟩ (by decide) (by decide) rfl (by decide) ?_
  refine K_bipush (dt_at dtX12_letters 26 rfl) (by decide) ?_
  refine K_bipush (dt_at dtX12_letters 27 rfl) (by decide) ?_
  refine K_bipush (dt_at dtX12_letters 28 rfl) (by decide) ?_
  refine K_bipush (dt_at dtX12_letters 29 rfl) (by decide) ?_
  refine K_iconst (dt_at dtX12_letters 30 rfl) ?_
  refine K_iconst (dt_at dtX12_letters 31 rfl) ?_
  refine K_callS (M' := mX12_spelled) (As := [vi 114, vi 111, vi 111, vi 109, vi 0, vi 0]) (st := []) (dt_at dtX12_letters 32 rfl) sX12_spelled_3 wL_X12_153 vX12_spelled rfl npX12_spelled (by decide) (by decide) (Nat.le_of_ble_eq_true rfl) (by decide) (by decide) GK_E (fun v9 h9 hq => ?_) (fun E h9 hq => by cases hq.1)
  obtain ⟨e9, e8⟩ := hq
  cases e9
  rw [e8]
  show K mX12_letters _ _ 0 0 133 [(0, vi 3)] [vl (pkWd 10)] h
  exact K_lret (dt_at dtX12_letters 33 rfl) rfl (by decide) (by decide) ⟨rfl, rfl⟩
set_option maxHeartbeats 4000000 in
set_option maxRecDepth 100000 in
theorem sX12_letters_4 {h : HP}  : SpecK mX12_letters [vi 4] h (fun o h' => o = .inl (some (vl (pkWd 5))) ∧ h' = h) := by
  refine Spec_of (by decide +kernel) (Nat.le_of_ble_eq_true rfl) ?_
  refine K_iload_n (dt_at dtX12_letters 0 rfl) rfl rfl ?_
  refine K_tableIn (tgt := 134) (dt_at dtX12_letters 1 rfl) ⟨by decide, by decide⟩ (by decide) (by decide) rfl (by decide) ?_
  refine K_bipush (dt_at dtX12_letters 34 rfl) (by decide) ?_
  refine K_bipush (dt_at dtX12_letters 35 rfl) (by decide) ?_
  refine K_bipush (dt_at dtX12_letters 36 rfl) (by decide) ?_
  refine K_bipush (dt_at dtX12_letters 37 rfl) (by decide) ?_
  refine K_iconst (dt_at dtX12_letters 38 rfl) ?_
  refine K_iconst (dt_at dtX12_letters 39 rfl) ?_
  refine K_callS (M' := mX12_spelled) (As := [vi 102, vi 111, vi 110, vi 100, vi 0, vi 0]) (st := []) (dt_at dtX12_letters 40 rfl) sX12_spelled_4 wL_X12_153 vX12_spelled rfl npX12_spelled (by decide) (by decide) (Nat.le_of_ble_eq_true rfl) (by decide) (by decide) GK_E (fun v9 h9 hq => ?_) (fun E h9 hq => by cases hq.1)
  obtain ⟨e9, e8⟩ := hq
  cases e9
  rw [e8]
  show K mX12_letters _ _ 0 0 147 [(0, vi 4)] [vl (pkWd 5)] h
  exact K_lret (dt_at dtX12_letters 41 rfl) rfl (by decide) (by decide) ⟨rfl, rfl⟩
set_option maxHeartbeats 4000000 in
set_option maxRecDepth 100000 in
theorem sX12_letters_5 {h : HP}  : SpecK mX12_letters [vi 5] h (fun o h' => o = .inl (some (vl (pkWd 6))) ∧ h' = h) := by
  refine Spec_of (by decide +kernel) (Nat.le_of_ble_eq_true rfl) ?_
  refine K_iload_n (dt_at dtX12_letters 0 rfl) rfl rfl ?_
  refine K_tableIn (tgt := 148) (dt_at dtX12_letters 1 rfl) ⟨by decide, by decide⟩ (by decide) (by decide) rfl (by decide) ?_
  refine K_bipush (dt_at dtX12_letters 42 rfl) (by decide) ?_
  refine K_bipush (dt_at dtX12_letters 43 rfl) (by decide) ?_
  refine K_bipush (dt_at dtX12_letters 44 rfl) (by decide) ?_
  refine K_iconst (dt_at dtX12_letters 45 rfl) ?_
  refine K_iconst (dt_at dtX12_letters 46 rfl) ?_
  refine K_iconst (dt_at dtX12_letters 47 rfl) ?_
  refine K_callS (M' := mX12_spelled) (As := [vi 100, vi 97, vi 121, vi 0, vi 0, vi 0]) (st := []) (dt_at dtX12_letters 48 rfl) sX12_spelled_5 wL_X12_153 vX12_spelled rfl npX12_spelled (by decide) (by decide) (Nat.le_of_ble_eq_true rfl) (by decide) (by decide) GK_E (fun v9 h9 hq => ?_) (fun E h9 hq => by cases hq.1)
  obtain ⟨e9, e8⟩ := hq
  cases e9
  rw [e8]
  show K mX12_letters _ _ 0 0 160 [(0, vi 5)] [vl (pkWd 6)] h
  exact K_lret (dt_at dtX12_letters 49 rfl) rfl (by decide) (by decide) ⟨rfl, rfl⟩
set_option maxHeartbeats 4000000 in
set_option maxRecDepth 100000 in
theorem sX12_letters_6 {h : HP}  : SpecK mX12_letters [vi 6] h (fun o h' => o = .inl (some (vl (pkWd 11))) ∧ h' = h) := by
  refine Spec_of (by decide +kernel) (Nat.le_of_ble_eq_true rfl) ?_
  refine K_iload_n (dt_at dtX12_letters 0 rfl) rfl rfl ?_
  refine K_tableIn (tgt := 161) (dt_at dtX12_letters 1 rfl) ⟨by decide, by decide⟩ (by decide) (by decide) rfl (by decide) ?_
  refine K_bipush (dt_at dtX12_letters 50 rfl) (by decide) ?_
  refine K_bipush (dt_at dtX12_letters 51 rfl) (by decide) ?_
  refine K_bipush (dt_at dtX12_letters 52 rfl) (by decide) ?_
  refine K_iconst (dt_at dtX12_letters 53 rfl) ?_
  refine K_iconst (dt_at dtX12_letters 54 rfl) ?_
  refine K_iconst (dt_at dtX12_letters 55 rfl) ?_
  refine K_callS (M' := mX12_spelled) (As := [vi 104, vi 97, vi 100, vi 0, vi 0, vi 0]) (st := []) (dt_at dtX12_letters 56 rfl) sX12_spelled_6 wL_X12_153 vX12_spelled rfl npX12_spelled (by decide) (by decide) (Nat.le_of_ble_eq_true rfl) (by decide) (by decide) GK_E (fun v9 h9 hq => ?_) (fun E h9 hq => by cases hq.1)
  obtain ⟨e9, e8⟩ := hq
  cases e9
  rw [e8]
  show K mX12_letters _ _ 0 0 173 [(0, vi 6)] [vl (pkWd 11)] h
  exact K_lret (dt_at dtX12_letters 57 rfl) rfl (by decide) (by decide) ⟨rfl, rfl⟩
set_option maxHeartbeats 4000000 in
set_option maxRecDepth 100000 in
theorem sX12_letters_7 {h : HP}  : SpecK mX12_letters [vi 7] h (fun o h' => o = .inl (some (vl (pkWd 12))) ∧ h' = h) := by
  refine Spec_of (by decide +kernel) (Nat.le_of_ble_eq_true rfl) ?_
  refine K_iload_n (dt_at dtX12_letters 0 rfl) rfl rfl ?_
  refine K_tableIn (tgt := 174) (dt_at dtX12_letters 1 rfl) ⟨by decide, by decide⟩ (by decide) (by decide) rfl (by decide) ?_
  refine K_bipush (dt_at dtX12_letters 58 rfl) (by decide) ?_
  refine K_bipush (dt_at dtX12_letters 59 rfl) (by decide) ?_
  refine K_bipush (dt_at dtX12_letters 60 rfl) (by decide) ?_
  refine K_bipush (dt_at dtX12_letters 61 rfl) (by decide) ?_
  refine K_iconst (dt_at dtX12_letters 62 rfl) ?_
  refine K_iconst (dt_at dtX12_letters 63 rfl) ?_
  refine K_callS (M' := mX12_spelled) (As := [vi 97, vi 119, vi 97, vi 121, vi 0, vi 0]) (st := []) (dt_at dtX12_letters 64 rfl) sX12_spelled_7 wL_X12_153 vX12_spelled rfl npX12_spelled (by decide) (by decide) (Nat.le_of_ble_eq_true rfl) (by decide) (by decide) GK_E (fun v9 h9 hq => ?_) (fun E h9 hq => by cases hq.1)
  obtain ⟨e9, e8⟩ := hq
  cases e9
  rw [e8]
  show K mX12_letters _ _ 0 0 187 [(0, vi 7)] [vl (pkWd 12)] h
  exact K_lret (dt_at dtX12_letters 65 rfl) rfl (by decide) (by decide) ⟨rfl, rfl⟩
set_option maxHeartbeats 4000000 in
set_option maxRecDepth 100000 in
theorem sX12_letters_8 {h : HP}  : SpecK mX12_letters [vi 8] h (fun o h' => o = .inl (some (vl (pkWd 0))) ∧ h' = h) := by
  refine Spec_of (by decide +kernel) (Nat.le_of_ble_eq_true rfl) ?_
  refine K_iload_n (dt_at dtX12_letters 0 rfl) rfl rfl ?_
  refine K_tableIn (tgt := 188) (dt_at dtX12_letters 1 rfl) ⟨by decide, by decide⟩ (by decide) (by decide) rfl (by decide) ?_
  refine K_bipush (dt_at dtX12_letters 66 rfl) (by decide) ?_
  refine K_bipush (dt_at dtX12_letters 67 rfl) (by decide) ?_
  refine K_bipush (dt_at dtX12_letters 68 rfl) (by decide) ?_
  refine K_bipush (dt_at dtX12_letters 69 rfl) (by decide) ?_
  refine K_bipush (dt_at dtX12_letters 70 rfl) (by decide) ?_
  refine K_iconst (dt_at dtX12_letters 71 rfl) ?_
  refine K_callS (M' := mX12_spelled) (As := [vi 116, vi 104, vi 105, vi 110, vi 103, vi 0]) (st := []) (dt_at dtX12_letters 72 rfl) sX12_spelled_8 wL_X12_153 vX12_spelled rfl npX12_spelled (by decide) (by decide) (Nat.le_of_ble_eq_true rfl) (by decide) (by decide) GK_E (fun v9 h9 hq => ?_) (fun E h9 hq => by cases hq.1)
  obtain ⟨e9, e8⟩ := hq
  cases e9
  rw [e8]
  show K mX12_letters _ _ 0 0 202 [(0, vi 8)] [vl (pkWd 0)] h
  exact K_lret (dt_at dtX12_letters 73 rfl) rfl (by decide) (by decide) ⟨rfl, rfl⟩
set_option maxHeartbeats 4000000 in
set_option maxRecDepth 100000 in
theorem sX12_letters_9 {h : HP}  : SpecK mX12_letters [vi 9] h (fun o h' => o = .inl (some (vl (pkWd 1))) ∧ h' = h) := by
  refine Spec_of (by decide +kernel) (Nat.le_of_ble_eq_true rfl) ?_
  refine K_iload_n (dt_at dtX12_letters 0 rfl) rfl rfl ?_
  refine K_tableIn (tgt := 203) (dt_at dtX12_letters 1 rfl) ⟨by decide, by decide⟩ (by decide) (by decide) rfl (by decide) ?_
  refine K_bipush (dt_at dtX12_letters 74 rfl) (by decide) ?_
  refine K_bipush (dt_at dtX12_letters 75 rfl) (by decide) ?_
  refine K_bipush (dt_at dtX12_letters 76 rfl) (by decide) ?_
  refine K_bipush (dt_at dtX12_letters 77 rfl) (by decide) ?_
  refine K_bipush (dt_at dtX12_letters 78 rfl) (by decide) ?_
  refine K_bipush (dt_at dtX12_letters 79 rfl) (by decide) ?_
  refine K_callS (M' := mX12_spelled) (As := [vi 112, vi 101, vi 114, vi 115, vi 111, vi 110]) (st := []) (dt_at dtX12_letters 80 rfl) sX12_spelled_9 wL_X12_153 vX12_spelled rfl npX12_spelled (by decide) (by decide) (Nat.le_of_ble_eq_true rfl) (by decide) (by decide) GK_E (fun v9 h9 hq => ?_) (fun E h9 hq => by cases hq.1)
  obtain ⟨e9, e8⟩ := hq
  cases e9
  rw [e8]
  show K mX12_letters _ _ 0 0 218 [(0, vi 9)] [vl (pkWd 1)] h
  exact K_lret (dt_at dtX12_letters 81 rfl) rfl (by decide) (by decide) ⟨rfl, rfl⟩
set_option maxHeartbeats 4000000 in
set_option maxRecDepth 100000 in
theorem sX12_letters_10 {h : HP}  : SpecK mX12_letters [vi 10] h (fun o h' => o = .inl (some (vl (pkWd 2))) ∧ h' = h) := by
  refine Spec_of (by decide +kernel) (Nat.le_of_ble_eq_true rfl) ?_
  refine K_iload_n (dt_at dtX12_letters 0 rfl) rfl rfl ?_
  refine K_tableIn (tgt := 219) (dt_at dtX12_letters 1 rfl) ⟨by decide, by decide⟩ (by decide) (by decide) rfl (by decide) ?_
  refine K_bipush (dt_at dtX12_letters 82 rfl) (by decide) ?_
  refine K_bipush (dt_at dtX12_letters 83 rfl) (by decide) ?_
  refine K_iconst (dt_at dtX12_letters 84 rfl) ?_
  refine K_iconst (dt_at dtX12_letters 85 rfl) ?_
  refine K_iconst (dt_at dtX12_letters 86 rfl) ?_
  refine K_iconst (dt_at dtX12_letters 87 rfl) ?_
  refine K_callS (M' := mX12_spelled) (As := [vi 98, vi 121, vi 0, vi 0, vi 0, vi 0]) (st := []) (dt_at dtX12_letters 88 rfl) sX12_spelled_10 wL_X12_153 vX12_spelled rfl npX12_spelled (by decide) (by decide) (Nat.le_of_ble_eq_true rfl) (by decide) (by decide) GK_E (fun v9 h9 hq => ?_) (fun E h9 hq => by cases hq.1)
  obtain ⟨e9, e8⟩ := hq
  cases e9
  rw [e8]
  show K mX12_letters _ _ 0 0 230 [(0, vi 10)] [vl (pkWd 2)] h
  exact K_lret (dt_at dtX12_letters 89 rfl) rfl (by decide) (by decide) ⟨rfl, rfl⟩
set_option maxHeartbeats 4000000 in
set_option maxRecDepth 100000 in
theorem sX12_letters_11 {h : HP}  : SpecK mX12_letters [vi 11] h (fun o h' => o = .inl (some (vl (pkWd 3))) ∧ h' = h) := by
  refine Spec_of (by decide +kernel) (Nat.le_of_ble_eq_true rfl) ?_
  refine K_iload_n (dt_at dtX12_letters 0 rfl) rfl rfl ?_
  refine K_tableIn (tgt := 231) (dt_at dtX12_letters 1 rfl) ⟨by decide, by decide⟩ (by decide) (by decide) rfl (by decide) ?_
  refine K_bipush (dt_at dtX12_letters 90 rfl) (by decide) ?_
  refine K_bipush (dt_at dtX12_letters 91 rfl) (by decide) ?_
  refine K_bipush (dt_at dtX12_letters 92 rfl) (by decide) ?_
  refine K_bipush (dt_at dtX12_letters 93 rfl) (by decide) ?_
  refine K_iconst (dt_at dtX12_letters 94 rfl) ?_
  refine K_iconst (dt_at dtX12_letters 95 rfl) ?_
  refine K_callS (M' := mX12_spelled) (As := [vi 112, vi 117, vi 116, vi 115, vi 0, vi 0]) (st := []) (dt_at dtX12_letters 96 rfl) sX12_spelled_11 wL_X12_153 vX12_spelled rfl npX12_spelled (by decide) (by decide) (Nat.le_of_ble_eq_true rfl) (by decide) (by decide) GK_E (fun v9 h9 hq => ?_) (fun E h9 hq => by cases hq.1)
  obtain ⟨e9, e8⟩ := hq
  cases e9
  rw [e8]
  show K mX12_letters _ _ 0 0 244 [(0, vi 11)] [vl (pkWd 3)] h
  exact K_lret (dt_at dtX12_letters 97 rfl) rfl (by decide) (by decide) ⟨rfl, rfl⟩
set_option maxHeartbeats 4000000 in
set_option maxRecDepth 100000 in
theorem sX12_letters_12 {h : HP}  : SpecK mX12_letters [vi 12] h (fun o h' => o = .inl (some (vl (pkWd 15))) ∧ h' = h) := by
  refine Spec_of (by decide +kernel) (Nat.le_of_ble_eq_true rfl) ?_
  refine K_iload_n (dt_at dtX12_letters 0 rfl) rfl rfl ?_
  refine K_tableIn (tgt := 245) (dt_at dtX12_letters 1 rfl) ⟨by decide, by decide⟩ (by decide) (by decide) rfl (by decide) ?_
  refine K_bipush (dt_at dtX12_letters 98 rfl) (by decide) ?_
  refine K_bipush (dt_at dtX12_letters 99 rfl) (by decide) ?_
  refine K_bipush (dt_at dtX12_letters 100 rfl) (by decide) ?_
  refine K_bipush (dt_at dtX12_letters 101 rfl) (by decide) ?_
  refine K_bipush (dt_at dtX12_letters 102 rfl) (by decide) ?_
  refine K_iconst (dt_at dtX12_letters 103 rfl) ?_
  refine K_callS (M' := mX12_spelled) (As := [vi 102, vi 101, vi 101, vi 108, vi 115, vi 0]) (st := []) (dt_at dtX12_letters 104 rfl) sX12_spelled_12 wL_X12_153 vX12_spelled rfl npX12_spelled (by decide) (by decide) (Nat.le_of_ble_eq_true rfl) (by decide) (by decide) GK_E (fun v9 h9 hq => ?_) (fun E h9 hq => by cases hq.1)
  obtain ⟨e9, e8⟩ := hq
  cases e9
  rw [e8]
  show K mX12_letters _ _ 0 0 259 [(0, vi 12)] [vl (pkWd 15)] h
  exact K_lret (dt_at dtX12_letters 105 rfl) rfl (by decide) (by decide) ⟨rfl, rfl⟩
set_option maxHeartbeats 4000000 in
set_option maxRecDepth 100000 in
theorem sX12_letters_13 {h : HP}  : SpecK mX12_letters [vi 13] h (fun o h' => o = .inl (some (vl (pkWd 13))) ∧ h' = h) := by
  refine Spec_of (by decide +kernel) (Nat.le_of_ble_eq_true rfl) ?_
  refine K_iload_n (dt_at dtX12_letters 0 rfl) rfl rfl ?_
  refine K_tableIn (tgt := 260) (dt_at dtX12_letters 1 rfl) ⟨by decide, by decide⟩ (by decide) (by decide) rfl (by decide) ?_
  refine K_bipush (dt_at dtX12_letters 106 rfl) (by decide) ?_
  refine K_bipush (dt_at dtX12_letters 107 rfl) (by decide) ?_
  refine K_bipush (dt_at dtX12_letters 108 rfl) (by decide) ?_
  refine K_iconst (dt_at dtX12_letters 109 rfl) ?_
  refine K_iconst (dt_at dtX12_letters 110 rfl) ?_
  refine K_iconst (dt_at dtX12_letters 111 rfl) ?_
  refine K_callS (M' := mX12_spelled) (As := [vi 97, vi 110, vi 100, vi 0, vi 0, vi 0]) (st := []) (dt_at dtX12_letters 112 rfl) sX12_spelled_13 wL_X12_153 vX12_spelled rfl npX12_spelled (by decide) (by decide) (Nat.le_of_ble_eq_true rfl) (by decide) (by decide) GK_E (fun v9 h9 hq => ?_) (fun E h9 hq => by cases hq.1)
  obtain ⟨e9, e8⟩ := hq
  cases e9
  rw [e8]
  show K mX12_letters _ _ 0 0 272 [(0, vi 13)] [vl (pkWd 13)] h
  exact K_lret (dt_at dtX12_letters 113 rfl) rfl (by decide) (by decide) ⟨rfl, rfl⟩
set_option maxHeartbeats 4000000 in
set_option maxRecDepth 100000 in
theorem sX12_letters_14 {h : HP}  : SpecK mX12_letters [vi 14] h (fun o h' => o = .inl (some (vl (pkWd 14))) ∧ h' = h) := by
  refine Spec_of (by decide +kernel) (Nat.le_of_ble_eq_true rfl) ?_
  refine K_iload_n (dt_at dtX12_letters 0 rfl) rfl rfl ?_
  refine K_tableIn (tgt := 273) (dt_at dtX12_letters 1 rfl) ⟨by decide, by decide⟩ (by decide) (by decide) rfl (by decide) ?_
  refine K_bipush (dt_at dtX12_letters 114 rfl) (by decide) ?_
  refine K_bipush (dt_at dtX12_letters 115 rfl) (by decide) ?_
  refine K_iconst (dt_at dtX12_letters 116 rfl) ?_
  refine K_iconst (dt_at dtX12_letters 117 rfl) ?_
  refine K_iconst (dt_at dtX12_letters 118 rfl) ?_
  refine K_iconst (dt_at dtX12_letters 119 rfl) ?_
  refine K_callS (M' := mX12_spelled) (As := [vi 111, vi 114, vi 0, vi 0, vi 0, vi 0]) (st := []) (dt_at dtX12_letters 120 rfl) sX12_spelled_14 wL_X12_153 vX12_spelled rfl npX12_spelled (by decide) (by decide) (Nat.le_of_ble_eq_true rfl) (by decide) (by decide) GK_E (fun v9 h9 hq => ?_) (fun E h9 hq => by cases hq.1)
  obtain ⟨e9, e8⟩ := hq
  cases e9
  rw [e8]
  show K mX12_letters _ _ 0 0 284 [(0, vi 14)] [vl (pkWd 14)] h
  exact K_lret (dt_at dtX12_letters 121 rfl) rfl (by decide) (by decide) ⟨rfl, rfl⟩
set_option maxHeartbeats 4000000 in
set_option maxRecDepth 100000 in
theorem sX12_letters_15 {h : HP}  : SpecK mX12_letters [vi 15] h (fun o h' => o = .inl (some (vl (pkWd 4))) ∧ h' = h) := by
  refine Spec_of (by decide +kernel) (Nat.le_of_ble_eq_true rfl) ?_
  refine K_iload_n (dt_at dtX12_letters 0 rfl) rfl rfl ?_
  refine K_tableOut (tgt := 285) (dt_at dtX12_letters 1 rfl) ⟨by decide, by decide⟩ (by decide) (by decide) ?_
  refine K_bipush (dt_at dtX12_letters 122 rfl) (by decide) ?_
  refine K_bipush (dt_at dtX12_letters 123 rfl) (by decide) ?_
  refine K_bipush (dt_at dtX12_letters 124 rfl) (by decide) ?_
  refine K_iconst (dt_at dtX12_letters 125 rfl) ?_
  refine K_iconst (dt_at dtX12_letters 126 rfl) ?_
  refine K_iconst (dt_at dtX12_letters 127 rfl) ?_
  refine K_callS (M' := mX12_spelled) (As := [vi 110, vi 111, vi 116, vi 0, vi 0, vi 0]) (st := []) (dt_at dtX12_letters 128 rfl) sX12_spelled_15 wL_X12_153 vX12_spelled rfl npX12_spelled (by decide) (by decide) (Nat.le_of_ble_eq_true rfl) (by decide) (by decide) GK_E (fun v9 h9 hq => ?_) (fun E h9 hq => by cases hq.1)
  obtain ⟨e9, e8⟩ := hq
  cases e9
  rw [e8]
  show K mX12_letters _ _ 0 0 297 [(0, vi 15)] [vl (pkWd 4)] h
  exact K_lret (dt_at dtX12_letters 129 rfl) rfl (by decide) (by decide) ⟨rfl, rfl⟩
def mX12_knownWord : MI := (yX12_knownWord, cX12_knownWord, 2, (some .int), rmK 3 0)
def tX12_knownWord : List (Nat × Instr × Nat) := [(0, .aload_n 0, 1), (1, .getfield 138, 3), (4, .iconst 1, 1), (5, .if_icmp .ne 12, 3), (8, .aload_n 0, 1), (9, .getfield 148, 3), (12, .bipush 6, 2), (14, .if_icmp .le 5, 3), (17, .iconst (-1), 1), (18, .ireturn, 1), (19, .iconst 0, 1), (20, .istore_n 1, 1), (21, .iload_n 1, 1), (22, .bipush 16, 2), (24, .if_icmp .ge 23, 3), (27, .iload_n 1, 1), (28, .invokestatic 157, 3), (31, .aload_n 0, 1), (32, .getfield 128, 3), (35, .lcmp, 1), (36, .ifCond .ne 5, 3), (39, .iload_n 1, 1), (40, .ireturn, 1), (41, .iinc 1 1, 3), (44, .goto (-23), 3), (47, .iconst (-1), 1), (48, .ireturn, 1)]
theorem dtX12_knownWord : tX12_knownWord.all (fun q => decide (decode cX12_knownWord q.1 = .ok (q.2.1, q.2.2))) = true := by decide +kernel
theorem npX12_knownWord : (parseMethodDescriptor (mY mX12_knownWord).desc).map (fun d => d.parameters.length) = some 0 := by decide +kernel
theorem vX12_knownWord : mV mX12_knownWord := ⟨wI_X12_knownWord, wS_X12_knownWord, wN_X12, wC_X12_knownWord, by decide +kernel, by decide +kernel⟩
set_option maxHeartbeats 4000000 in
set_option maxRecDepth 100000 in
theorem sX12_knownWord {h : HP} {tp : Int → Int} {n : Nat} {t : TK} (T : MTk h tp t) (g : TkG tp n t) (hn7 : n ≤ 700) : SpecK mX12_knownWord [vr 0] h (fun o h' => o = .inl (some (vi (kwF tp t))) ∧ h' = h) := by
  refine Spec_of (by decide +kernel) (Nat.le_of_ble_eq_true rfl) ?_
  obtain ⟨⟨t1, t2, t3, t4⟩, -, -, tw, tW⟩ := id T
  obtain ⟨⟨g1, g2⟩, g3, g4, g5, g6⟩ := id g
  refine K_aload_n (dt_at dtX12_knownWord 0 rfl) rfl rfl ?_
  refine K_get (a := 0) (ci := 12) (k := 18) (v := vi (t.1)) (dt_at dtX12_knownWord 1 rfl) (show TT 0 = (0, 12) from rfl) rfl (by decide) wF_X12_138 (by show vi (hI h 0 18) = vi (t.1); rw [t1]) ?_
  refine K_iconst (dt_at dtX12_knownWord 2 rfl) ?_
  refine K_icmp_ne (tgt := 17) (dt_at dtX12_knownWord 3 rfl) (by decide) (by first | assumption | exact ⟨by omega, by omega⟩) (by first | assumption | exact ⟨by omega, by omega⟩) (fun c1 => ?_) (fun c1 => ?_)
  · refine K_iconst (dt_at dtX12_knownWord 8 rfl) ?_
    exact K_iret (dt_at dtX12_knownWord 9 rfl) rfl rfl (by decide) (by decide) ⟨by rw [kwF_no (fun i hi z => by have z1 := isWb_e z; have z2 := (wd_az i hi).1; omega)], rfl⟩
  · refine K_aload_n (dt_at dtX12_knownWord 4 rfl) rfl rfl ?_
    refine K_get (a := 0) (ci := 12) (k := 20) (v := vi ((t.2.2 : Int) - (t.2.1 : Int))) (dt_at dtX12_knownWord 5 rfl) (show TT 0 = (0, 12) from rfl) rfl (by decide) wF_X12_148 (by show vi (hI h 0 20) = vi ((t.2.2 : Int) - (t.2.1 : Int)); rw [t4]) ?_
    refine K_bipush (dt_at dtX12_knownWord 6 rfl) (by decide) ?_
    refine K_icmp_le (tgt := 19) (dt_at dtX12_knownWord 7 rfl) (by decide) (by first | assumption | exact ⟨by omega, by omega⟩) (by first | assumption | exact ⟨by omega, by omega⟩) (fun c2 => ?_) (fun c2 => ?_)
    · have hk1 : t.1 = 1 := by omega
      have hl6 : t.2.2 - t.2.1 ≤ 6 := by omega
      have hw9 := tW hk1
      have hq9 := fun (i : Nat) (hi : i < 16) => pk_isW g hk1 hl6 hi
      rw [← hw9] at hq9
      refine K_iconst (dt_at dtX12_knownWord 10 rfl) ?_
      refine K_istore_n (ls' := [(1, vi 0), (0, vr 0)]) (dt_at dtX12_knownWord 11 rfl) rfl (by decide) rfl ?_
      show K mX12_knownWord _ _ 0 0 21 [(1, vi 0), (0, vr 0)] [] h
      have pb0 := pkWd_b 7 (by decide)
      refine K_iload_n (dt_at dtX12_knownWord 12 rfl) rfl rfl ?_
      refine K_bipush (dt_at dtX12_knownWord 13 rfl) (by decide) ?_
      refine K_icmp_ge (tgt := 47) (dt_at dtX12_knownWord 14 rfl) (by decide) (by first | assumption | exact ⟨by omega, by omega⟩) (by first | assumption | exact ⟨by omega, by omega⟩) (fun c3 => absurd c3 (by omega)) (fun c3 => ?_)
      refine K_iload_n (dt_at dtX12_knownWord 15 rfl) rfl rfl ?_
      refine K_callS (M' := mX12_letters) (As := [vi 0]) (st := []) (dt_at dtX12_knownWord 16 rfl) sX12_letters_0 wL_X12_157 vX12_letters rfl npX12_letters (by decide) (by decide) (Nat.le_of_ble_eq_true rfl) (by decide) (by decide) GK_E (fun v9 h9 hq => ?_) (fun E h9 hq => by cases hq.1)
      obtain ⟨e9, e8⟩ := hq
      cases e9
      rw [e8]
      show K mX12_knownWord _ _ 0 0 31 [(1, vi 0), (0, vr 0)] [vl (pkWd 7)] h
      refine K_aload_n (dt_at dtX12_knownWord 17 rfl) rfl rfl ?_
      refine K_get (a := 0) (ci := 12) (k := 23) (v := vl (hI h 0 23)) (dt_at dtX12_knownWord 18 rfl) (show TT 0 = (0, 12) from rfl) rfl (by decide) wF_X12_128 rfl ?_
      refine K_lcmp (dt_at dtX12_knownWord 19 rfl) ⟨by omega, by omega⟩ ⟨by omega, by omega⟩ ?_
      by_cases z20 : hI h 0 23 = pkWd 7
      · rw [cmpL_0.mpr z20.symm]
        refine K_if_ne (tgt := 41) (dt_at dtX12_knownWord 20 rfl) (by decide) (by first | assumption | exact ⟨by omega, by omega⟩) (fun c4 => absurd c4 (by omega)) (fun c4 => ?_)
        refine K_iload_n (dt_at dtX12_knownWord 21 rfl) rfl rfl ?_
        exact K_iret (dt_at dtX12_knownWord 22 rfl) rfl rfl (by decide) (by decide) ⟨by rw [kwF_0 ((hq9 7 (by decide)).mp z20)], rfl⟩
      · have n20 : ¬ isWb tp t 7 = true := fun z => z20 ((hq9 7 (by decide)).mpr z)
        refine K_if_ne (tgt := 41) (dt_at dtX12_knownWord 20 rfl) (by decide) (cmpL_i _ _) (fun _ => ?_) (fun z => absurd (cmpL_0.mp z).symm z20)
        refine K_iinc (ls' := [(1, vi (0 + 1)), (0, vr 0)]) (dt_at dtX12_knownWord 23 rfl) rfl (by decide) rfl ?_
        refine K_goto (tgt := 21) (dt_at dtX12_knownWord 24 rfl) (by decide) ?_
        show K mX12_knownWord _ _ 0 0 21 [(1, vi 1), (0, vr 0)] [] h
        have pb1 := pkWd_b 8 (by decide)
        refine K_iload_n (dt_at dtX12_knownWord 12 rfl) rfl rfl ?_
        refine K_bipush (dt_at dtX12_knownWord 13 rfl) (by decide) ?_
        refine K_icmp_ge (tgt := 47) (dt_at dtX12_knownWord 14 rfl) (by decide) (by first | assumption | exact ⟨by omega, by omega⟩) (by first | assumption | exact ⟨by omega, by omega⟩) (fun c5 => absurd c5 (by omega)) (fun c5 => ?_)
        refine K_iload_n (dt_at dtX12_knownWord 15 rfl) rfl rfl ?_
        refine K_callS (M' := mX12_letters) (As := [vi 1]) (st := []) (dt_at dtX12_knownWord 16 rfl) sX12_letters_1 wL_X12_157 vX12_letters rfl npX12_letters (by decide) (by decide) (Nat.le_of_ble_eq_true rfl) (by decide) (by decide) GK_E (fun v9 h9 hq => ?_) (fun E h9 hq => by cases hq.1)
        obtain ⟨e9, e8⟩ := hq
        cases e9
        rw [e8]
        show K mX12_knownWord _ _ 0 0 31 [(1, vi 1), (0, vr 0)] [vl (pkWd 8)] h
        refine K_aload_n (dt_at dtX12_knownWord 17 rfl) rfl rfl ?_
        refine K_get (a := 0) (ci := 12) (k := 23) (v := vl (hI h 0 23)) (dt_at dtX12_knownWord 18 rfl) (show TT 0 = (0, 12) from rfl) rfl (by decide) wF_X12_128 rfl ?_
        refine K_lcmp (dt_at dtX12_knownWord 19 rfl) ⟨by omega, by omega⟩ ⟨by omega, by omega⟩ ?_
        by_cases z21 : hI h 0 23 = pkWd 8
        · rw [cmpL_0.mpr z21.symm]
          refine K_if_ne (tgt := 41) (dt_at dtX12_knownWord 20 rfl) (by decide) (by first | assumption | exact ⟨by omega, by omega⟩) (fun c6 => absurd c6 (by omega)) (fun c6 => ?_)
          refine K_iload_n (dt_at dtX12_knownWord 21 rfl) rfl rfl ?_
          exact K_iret (dt_at dtX12_knownWord 22 rfl) rfl rfl (by decide) (by decide) ⟨by rw [kwF_1 ((hq9 8 (by decide)).mp z21)], rfl⟩
        · have n21 : ¬ isWb tp t 8 = true := fun z => z21 ((hq9 8 (by decide)).mpr z)
          refine K_if_ne (tgt := 41) (dt_at dtX12_knownWord 20 rfl) (by decide) (cmpL_i _ _) (fun _ => ?_) (fun z => absurd (cmpL_0.mp z).symm z21)
          refine K_iinc (ls' := [(1, vi (1 + 1)), (0, vr 0)]) (dt_at dtX12_knownWord 23 rfl) rfl (by decide) rfl ?_
          refine K_goto (tgt := 21) (dt_at dtX12_knownWord 24 rfl) (by decide) ?_
          show K mX12_knownWord _ _ 0 0 21 [(1, vi 2), (0, vr 0)] [] h
          have pb2 := pkWd_b 9 (by decide)
          refine K_iload_n (dt_at dtX12_knownWord 12 rfl) rfl rfl ?_
          refine K_bipush (dt_at dtX12_knownWord 13 rfl) (by decide) ?_
          refine K_icmp_ge (tgt := 47) (dt_at dtX12_knownWord 14 rfl) (by decide) (by first | assumption | exact ⟨by omega, by omega⟩) (by first | assumption | exact ⟨by omega, by omega⟩) (fun c7 => absurd c7 (by omega)) (fun c7 => ?_)
          refine K_iload_n (dt_at dtX12_knownWord 15 rfl) rfl rfl ?_
          refine K_callS (M' := mX12_letters) (As := [vi 2]) (st := []) (dt_at dtX12_knownWord 16 rfl) sX12_letters_2 wL_X12_157 vX12_letters rfl npX12_letters (by decide) (by decide) (Nat.le_of_ble_eq_true rfl) (by decide) (by decide) GK_E (fun v9 h9 hq => ?_) (fun E h9 hq => by cases hq.1)
          obtain ⟨e9, e8⟩ := hq
          cases e9
          rw [e8]
          show K mX12_knownWord _ _ 0 0 31 [(1, vi 2), (0, vr 0)] [vl (pkWd 9)] h
          refine K_aload_n (dt_at dtX12_knownWord 17 rfl) rfl rfl ?_
          refine K_get (a := 0) (ci := 12) (k := 23) (v := vl (hI h 0 23)) (dt_at dtX12_knownWord 18 rfl) (show TT 0 = (0, 12) from rfl) rfl (by decide) wF_X12_128 rfl ?_
          refine K_lcmp (dt_at dtX12_knownWord 19 rfl) ⟨by omega, by omega⟩ ⟨by omega, by omega⟩ ?_
          by_cases z22 : hI h 0 23 = pkWd 9
          · rw [cmpL_0.mpr z22.symm]
            refine K_if_ne (tgt := 41) (dt_at dtX12_knownWord 20 rfl) (by decide) (by first | assumption | exact ⟨by omega, by omega⟩) (fun c8 => absurd c8 (by omega)) (fun c8 => ?_)
            refine K_iload_n (dt_at dtX12_knownWord 21 rfl) rfl rfl ?_
            exact K_iret (dt_at dtX12_knownWord 22 rfl) rfl rfl (by decide) (by decide) ⟨by rw [kwF_2 ((hq9 9 (by decide)).mp z22)], rfl⟩
          · have n22 : ¬ isWb tp t 9 = true := fun z => z22 ((hq9 9 (by decide)).mpr z)
            refine K_if_ne (tgt := 41) (dt_at dtX12_knownWord 20 rfl) (by decide) (cmpL_i _ _) (fun _ => ?_) (fun z => absurd (cmpL_0.mp z).symm z22)
            refine K_iinc (ls' := [(1, vi (2 + 1)), (0, vr 0)]) (dt_at dtX12_knownWord 23 rfl) rfl (by decide) rfl ?_
            refine K_goto (tgt := 21) (dt_at dtX12_knownWord 24 rfl) (by decide) ?_
            show K mX12_knownWord _ _ 0 0 21 [(1, vi 3), (0, vr 0)] [] h
            have pb3 := pkWd_b 10 (by decide)
            refine K_iload_n (dt_at dtX12_knownWord 12 rfl) rfl rfl ?_
            refine K_bipush (dt_at dtX12_knownWord 13 rfl) (by decide) ?_
            refine K_icmp_ge (tgt := 47) (dt_at dtX12_knownWord 14 rfl) (by decide) (by first | assumption | exact ⟨by omega, by omega⟩) (by first | assumption | exact ⟨by omega, by omega⟩) (fun c9 => absurd c9 (by omega)) (fun c9 => ?_)
            refine K_iload_n (dt_at dtX12_knownWord 15 rfl) rfl rfl ?_
            refine K_callS (M' := mX12_letters) (As := [vi 3]) (st := []) (dt_at dtX12_knownWord 16 rfl) sX12_letters_3 wL_X12_157 vX12_letters rfl npX12_letters (by decide) (by decide) (Nat.le_of_ble_eq_true rfl) (by decide) (by decide) GK_E (fun v9 h9 hq => ?_) (fun E h9 hq => by cases hq.1)
            obtain ⟨e9, e8⟩ := hq
            cases e9
            rw [e8]
            show K mX12_knownWord _ _ 0 0 31 [(1, vi 3), (0, vr 0)] [vl (pkWd 10)] h
            refine K_aload_n (dt_at dtX12_knownWord 17 rfl) rfl rfl ?_
            refine K_get (a := 0) (ci := 12) (k := 23) (v := vl (hI h 0 23)) (dt_at dtX12_knownWord 18 rfl) (show TT 0 = (0, 12) from rfl) rfl (by decide) wF_X12_128 rfl ?_
            refine K_lcmp (dt_at dtX12_knownWord 19 rfl) ⟨by omega, by omega⟩ ⟨by omega, by omega⟩ ?_
            by_cases z23 : hI h 0 23 = pkWd 10
            · rw [cmpL_0.mpr z23.symm]
              refine K_if_ne (tgt := 41) (dt_at dtX12_knownWord 20 rfl) (by decide) (by first | assumption | exact ⟨by omega, by omega⟩) (fun c10 => absurd c10 (by omega)) (fun c10 => ?_)
              refine K_iload_n (dt_at dtX12_knownWord 21 rfl) rfl rfl ?_
              exact K_iret (dt_at dtX12_knownWord 22 rfl) rfl rfl (by decide) (by decide) ⟨by rw [kwF_3 ((hq9 10 (by decide)).mp z23)], rfl⟩
            · have n23 : ¬ isWb tp t 10 = true := fun z => z23 ((hq9 10 (by decide)).mpr z)
              refine K_if_ne (tgt := 41) (dt_at dtX12_knownWord 20 rfl) (by decide) (cmpL_i _ _) (fun _ => ?_) (fun z => absurd (cmpL_0.mp z).symm z23)
              refine K_iinc (ls' := [(1, vi (3 + 1)), (0, vr 0)]) (dt_at dtX12_knownWord 23 rfl) rfl (by decide) rfl ?_
              refine K_goto (tgt := 21) (dt_at dtX12_knownWord 24 rfl) (by decide) ?_
              show K mX12_knownWord _ _ 0 0 21 [(1, vi 4), (0, vr 0)] [] h
              have pb4 := pkWd_b 5 (by decide)
              refine K_iload_n (dt_at dtX12_knownWord 12 rfl) rfl rfl ?_
              refine K_bipush (dt_at dtX12_knownWord 13 rfl) (by decide) ?_
              refine K_icmp_ge (tgt := 47) (dt_at dtX12_knownWord 14 rfl) (by decide) (by first | assumption | exact ⟨by omega, by omega⟩) (by first | assumption | exact ⟨by omega, by omega⟩) (fun c11 => absurd c11 (by omega)) (fun c11 => ?_)
              refine K_iload_n (dt_at dtX12_knownWord 15 rfl) rfl rfl ?_
              refine K_callS (M' := mX12_letters) (As := [vi 4]) (st := []) (dt_at dtX12_knownWord 16 rfl) sX12_letters_4 wL_X12_157 vX12_letters rfl npX12_letters (by decide) (by decide) (Nat.le_of_ble_eq_true rfl) (by decide) (by decide) GK_E (fun v9 h9 hq => ?_) (fun E h9 hq => by cases hq.1)
              obtain ⟨e9, e8⟩ := hq
              cases e9
              rw [e8]
              show K mX12_knownWord _ _ 0 0 31 [(1, vi 4), (0, vr 0)] [vl (pkWd 5)] h
              refine K_aload_n (dt_at dtX12_knownWord 17 rfl) rfl rfl ?_
              refine K_get (a := 0) (ci := 12) (k := 23) (v := vl (hI h 0 23)) (dt_at dtX12_knownWord 18 rfl) (show TT 0 = (0, 12) from rfl) rfl (by decide) wF_X12_128 rfl ?_
              refine K_lcmp (dt_at dtX12_knownWord 19 rfl) ⟨by omega, by omega⟩ ⟨by omega, by omega⟩ ?_
              by_cases z24 : hI h 0 23 = pkWd 5
              · rw [cmpL_0.mpr z24.symm]
                refine K_if_ne (tgt := 41) (dt_at dtX12_knownWord 20 rfl) (by decide) (by first | assumption | exact ⟨by omega, by omega⟩) (fun c12 => absurd c12 (by omega)) (fun c12 => ?_)
                refine K_iload_n (dt_at dtX12_knownWord 21 rfl) rfl rfl ?_
                exact K_iret (dt_at dtX12_knownWord 22 rfl) rfl rfl (by decide) (by decide) ⟨by rw [kwF_4 ((hq9 5 (by decide)).mp z24)], rfl⟩
              · have n24 : ¬ isWb tp t 5 = true := fun z => z24 ((hq9 5 (by decide)).mpr z)
                refine K_if_ne (tgt := 41) (dt_at dtX12_knownWord 20 rfl) (by decide) (cmpL_i _ _) (fun _ => ?_) (fun z => absurd (cmpL_0.mp z).symm z24)
                refine K_iinc (ls' := [(1, vi (4 + 1)), (0, vr 0)]) (dt_at dtX12_knownWord 23 rfl) rfl (by decide) rfl ?_
                refine K_goto (tgt := 21) (dt_at dtX12_knownWord 24 rfl) (by decide) ?_
                show K mX12_knownWord _ _ 0 0 21 [(1, vi 5), (0, vr 0)] [] h
                have pb5 := pkWd_b 6 (by decide)
                refine K_iload_n (dt_at dtX12_knownWord 12 rfl) rfl rfl ?_
                refine K_bipush (dt_at dtX12_knownWord 13 rfl) (by decide) ?_
                refine K_icmp_ge (tgt := 47) (dt_at dtX12_knownWord 14 rfl) (by decide) (by first | assumption | exact ⟨by omega, by omega⟩) (by first | assumption | exact ⟨by omega, by omega⟩) (fun c13 => absurd c13 (by omega)) (fun c13 => ?_)
                refine K_iload_n (dt_at dtX12_knownWord 15 rfl) rfl rfl ?_
                refine K_callS (M' := mX12_letters) (As := [vi 5]) (st := []) (dt_at dtX12_knownWord 16 rfl) sX12_letters_5 wL_X12_157 vX12_letters rfl npX12_letters (by decide) (by decide) (Nat.le_of_ble_eq_true rfl) (by decide) (by decide) GK_E (fun v9 h9 hq => ?_) (fun E h9 hq => by cases hq.1)
                obtain ⟨e9, e8⟩ := hq
                cases e9
                rw [e8]
                show K mX12_knownWord _ _ 0 0 31 [(1, vi 5), (0, vr 0)] [vl (pkWd 6)] h
                refine K_aload_n (dt_at dtX12_knownWord 17 rfl) rfl rfl ?_
                refine K_get (a := 0) (ci := 12) (k := 23) (v := vl (hI h 0 23)) (dt_at dtX12_knownWord 18 rfl) (show TT 0 = (0, 12) from rfl) rfl (by decide) wF_X12_128 rfl ?_
                refine K_lcmp (dt_at dtX12_knownWord 19 rfl) ⟨by omega, by omega⟩ ⟨by omega, by omega⟩ ?_
                by_cases z25 : hI h 0 23 = pkWd 6
                · rw [cmpL_0.mpr z25.symm]
                  refine K_if_ne (tgt := 41) (dt_at dtX12_knownWord 20 rfl) (by decide) (by first | assumption | exact ⟨by omega, by omega⟩) (fun c14 => absurd c14 (by omega)) (fun c14 => ?_)
                  refine K_iload_n (dt_at dtX12_knownWord 21 rfl) rfl rfl ?_
                  exact K_iret (dt_at dtX12_knownWord 22 rfl) rfl rfl (by decide) (by decide) ⟨by rw [kwF_5 ((hq9 6 (by decide)).mp z25)], rfl⟩
                · have n25 : ¬ isWb tp t 6 = true := fun z => z25 ((hq9 6 (by decide)).mpr z)
                  refine K_if_ne (tgt := 41) (dt_at dtX12_knownWord 20 rfl) (by decide) (cmpL_i _ _) (fun _ => ?_) (fun z => absurd (cmpL_0.mp z).symm z25)
                  refine K_iinc (ls' := [(1, vi (5 + 1)), (0, vr 0)]) (dt_at dtX12_knownWord 23 rfl) rfl (by decide) rfl ?_
                  refine K_goto (tgt := 21) (dt_at dtX12_knownWord 24 rfl) (by decide) ?_
                  show K mX12_knownWord _ _ 0 0 21 [(1, vi 6), (0, vr 0)] [] h
                  have pb6 := pkWd_b 11 (by decide)
                  refine K_iload_n (dt_at dtX12_knownWord 12 rfl) rfl rfl ?_
                  refine K_bipush (dt_at dtX12_knownWord 13 rfl) (by decide) ?_
                  refine K_icmp_ge (tgt := 47) (dt_at dtX12_knownWord 14 rfl) (by decide) (by first | assumption | exact ⟨by omega, by omega⟩) (by first | assumption | exact ⟨by omega, by omega⟩) (fun c15 => absurd c15 (by omega)) (fun c15 => ?_)
                  refine K_iload_n (dt_at dtX12_knownWord 15 rfl) rfl rfl ?_
                  refine K_callS (M' := mX12_letters) (As := [vi 6]) (st := []) (dt_at dtX12_knownWord 16 rfl) sX12_letters_6 wL_X12_157 vX12_letters rfl npX12_letters (by decide) (by decide) (Nat.le_of_ble_eq_true rfl) (by decide) (by decide) GK_E (fun v9 h9 hq => ?_) (fun E h9 hq => by cases hq.1)
                  obtain ⟨e9, e8⟩ := hq
                  cases e9
                  rw [e8]
                  show K mX12_knownWord _ _ 0 0 31 [(1, vi 6), (0, vr 0)] [vl (pkWd 11)] h
                  refine K_aload_n (dt_at dtX12_knownWord 17 rfl) rfl rfl ?_
                  refine K_get (a := 0) (ci := 12) (k := 23) (v := vl (hI h 0 23)) (dt_at dtX12_knownWord 18 rfl) (show TT 0 = (0, 12) from rfl) rfl (by decide) wF_X12_128 rfl ?_
                  refine K_lcmp (dt_at dtX12_knownWord 19 rfl) ⟨by omega, by omega⟩ ⟨by omega, by omega⟩ ?_
                  by_cases z26 : hI h 0 23 = pkWd 11
                  · rw [cmpL_0.mpr z26.symm]
                    refine K_if_ne (tgt := 41) (dt_at dtX12_knownWord 20 rfl) (by decide) (by first | assumption | exact ⟨by omega, by omega⟩) (fun c16 => absurd c16 (by omega)) (fun c16 => ?_)
                    refine K_iload_n (dt_at dtX12_knownWord 21 rfl) rfl rfl ?_
                    exact K_iret (dt_at dtX12_knownWord 22 rfl) rfl rfl (by decide) (by decide) ⟨by rw [kwF_6 ((hq9 11 (by decide)).mp z26)], rfl⟩
                  · have n26 : ¬ isWb tp t 11 = true := fun z => z26 ((hq9 11 (by decide)).mpr z)
                    refine K_if_ne (tgt := 41) (dt_at dtX12_knownWord 20 rfl) (by decide) (cmpL_i _ _) (fun _ => ?_) (fun z => absurd (cmpL_0.mp z).symm z26)
                    refine K_iinc (ls' := [(1, vi (6 + 1)), (0, vr 0)]) (dt_at dtX12_knownWord 23 rfl) rfl (by decide) rfl ?_
                    refine K_goto (tgt := 21) (dt_at dtX12_knownWord 24 rfl) (by decide) ?_
                    show K mX12_knownWord _ _ 0 0 21 [(1, vi 7), (0, vr 0)] [] h
                    have pb7 := pkWd_b 12 (by decide)
                    refine K_iload_n (dt_at dtX12_knownWord 12 rfl) rfl rfl ?_
                    refine K_bipush (dt_at dtX12_knownWord 13 rfl) (by decide) ?_
                    refine K_icmp_ge (tgt := 47) (dt_at dtX12_knownWord 14 rfl) (by decide) (by first | assumption | exact ⟨by omega, by omega⟩) (by first | assumption | exact ⟨by omega, by omega⟩) (fun c17 => absurd c17 (by omega)) (fun c17 => ?_)
                    refine K_iload_n (dt_at dtX12_knownWord 15 rfl) rfl rfl ?_
                    refine K_callS (M' := mX12_letters) (As := [vi 7]) (st := []) (dt_at dtX12_knownWord 16 rfl) sX12_letters_7 wL_X12_157 vX12_letters rfl npX12_letters (by decide) (by decide) (Nat.le_of_ble_eq_true rfl) (by decide) (by decide) GK_E (fun v9 h9 hq => ?_) (fun E h9 hq => by cases hq.1)
                    obtain ⟨e9, e8⟩ := hq
                    cases e9
                    rw [e8]
                    show K mX12_knownWord _ _ 0 0 31 [(1, vi 7), (0, vr 0)] [vl (pkWd 12)] h
                    refine K_aload_n (dt_at dtX12_knownWord 17 rfl) rfl rfl ?_
                    refine K_get (a := 0) (ci := 12) (k := 23) (v := vl (hI h 0 23)) (dt_at dtX12_knownWord 18 rfl) (show TT 0 = (0, 12) from rfl) rfl (by decide) wF_X12_128 rfl ?_
                    refine K_lcmp (dt_at dtX12_knownWord 19 rfl) ⟨by omega, by omega⟩ ⟨by omega, by omega⟩ ?_
                    by_cases z27 : hI h 0 23 = pkWd 12
                    · rw [cmpL_0.mpr z27.symm]
                      refine K_if_ne (tgt := 41) (dt_at dtX12_knownWord 20 rfl) (by decide) (by first | assumption | exact ⟨by omega, by omega⟩) (fun c18 => absurd c18 (by omega)) (fun c18 => ?_)
                      refine K_iload_n (dt_at dtX12_knownWord 21 rfl) rfl rfl ?_
                      exact K_iret (dt_at dtX12_knownWord 22 rfl) rfl rfl (by decide) (by decide) ⟨by rw [kwF_7 ((hq9 12 (by decide)).mp z27)], rfl⟩
                    · have n27 : ¬ isWb tp t 12 = true := fun z => z27 ((hq9 12 (by decide)).mpr z)
                      refine K_if_ne (tgt := 41) (dt_at dtX12_knownWord 20 rfl) (by decide) (cmpL_i _ _) (fun _ => ?_) (fun z => absurd (cmpL_0.mp z).symm z27)
                      refine K_iinc (ls' := [(1, vi (7 + 1)), (0, vr 0)]) (dt_at dtX12_knownWord 23 rfl) rfl (by decide) rfl ?_
                      refine K_goto (tgt := 21) (dt_at dtX12_knownWord 24 rfl) (by decide) ?_
                      show K mX12_knownWord _ _ 0 0 21 [(1, vi 8), (0, vr 0)] [] h
                      have pb8 := pkWd_b 0 (by decide)
                      refine K_iload_n (dt_at dtX12_knownWord 12 rfl) rfl rfl ?_
                      refine K_bipush (dt_at dtX12_knownWord 13 rfl) (by decide) ?_
                      refine K_icmp_ge (tgt := 47) (dt_at dtX12_knownWord 14 rfl) (by decide) (by first | assumption | exact ⟨by omega, by omega⟩) (by first | assumption | exact ⟨by omega, by omega⟩) (fun c19 => absurd c19 (by omega)) (fun c19 => ?_)
                      refine K_iload_n (dt_at dtX12_knownWord 15 rfl) rfl rfl ?_
                      refine K_callS (M' := mX12_letters) (As := [vi 8]) (st := []) (dt_at dtX12_knownWord 16 rfl) sX12_letters_8 wL_X12_157 vX12_letters rfl npX12_letters (by decide) (by decide) (Nat.le_of_ble_eq_true rfl) (by decide) (by decide) GK_E (fun v9 h9 hq => ?_) (fun E h9 hq => by cases hq.1)
                      obtain ⟨e9, e8⟩ := hq
                      cases e9
                      rw [e8]
                      show K mX12_knownWord _ _ 0 0 31 [(1, vi 8), (0, vr 0)] [vl (pkWd 0)] h
                      refine K_aload_n (dt_at dtX12_knownWord 17 rfl) rfl rfl ?_
                      refine K_get (a := 0) (ci := 12) (k := 23) (v := vl (hI h 0 23)) (dt_at dtX12_knownWord 18 rfl) (show TT 0 = (0, 12) from rfl) rfl (by decide) wF_X12_128 rfl ?_
                      refine K_lcmp (dt_at dtX12_knownWord 19 rfl) ⟨by omega, by omega⟩ ⟨by omega, by omega⟩ ?_
                      by_cases z28 : hI h 0 23 = pkWd 0
                      · rw [cmpL_0.mpr z28.symm]
                        refine K_if_ne (tgt := 41) (dt_at dtX12_knownWord 20 rfl) (by decide) (by first | assumption | exact ⟨by omega, by omega⟩) (fun c20 => absurd c20 (by omega)) (fun c20 => ?_)
                        refine K_iload_n (dt_at dtX12_knownWord 21 rfl) rfl rfl ?_
                        exact K_iret (dt_at dtX12_knownWord 22 rfl) rfl rfl (by decide) (by decide) ⟨by rw [kwF_8 ((hq9 0 (by decide)).mp z28)], rfl⟩
                      · have n28 : ¬ isWb tp t 0 = true := fun z => z28 ((hq9 0 (by decide)).mpr z)
                        refine K_if_ne (tgt := 41) (dt_at dtX12_knownWord 20 rfl) (by decide) (cmpL_i _ _) (fun _ => ?_) (fun z => absurd (cmpL_0.mp z).symm z28)
                        refine K_iinc (ls' := [(1, vi (8 + 1)), (0, vr 0)]) (dt_at dtX12_knownWord 23 rfl) rfl (by decide) rfl ?_
                        refine K_goto (tgt := 21) (dt_at dtX12_knownWord 24 rfl) (by decide) ?_
                        show K mX12_knownWord _ _ 0 0 21 [(1, vi 9), (0, vr 0)] [] h
                        have pb9 := pkWd_b 1 (by decide)
                        refine K_iload_n (dt_at dtX12_knownWord 12 rfl) rfl rfl ?_
                        refine K_bipush (dt_at dtX12_knownWord 13 rfl) (by decide) ?_
                        refine K_icmp_ge (tgt := 47) (dt_at dtX12_knownWord 14 rfl) (by decide) (by first | assumption | exact ⟨by omega, by omega⟩) (by first | assumption | exact ⟨by omega, by omega⟩) (fun c21 => absurd c21 (by omega)) (fun c21 => ?_)
                        refine K_iload_n (dt_at dtX12_knownWord 15 rfl) rfl rfl ?_
                        refine K_callS (M' := mX12_letters) (As := [vi 9]) (st := []) (dt_at dtX12_knownWord 16 rfl) sX12_letters_9 wL_X12_157 vX12_letters rfl npX12_letters (by decide) (by decide) (Nat.le_of_ble_eq_true rfl) (by decide) (by decide) GK_E (fun v9 h9 hq => ?_) (fun E h9 hq => by cases hq.1)
                        obtain ⟨e9, e8⟩ := hq
                        cases e9
                        rw [e8]
                        show K mX12_knownWord _ _ 0 0 31 [(1, vi 9), (0, vr 0)] [vl (pkWd 1)] h
                        refine K_aload_n (dt_at dtX12_knownWord 17 rfl) rfl rfl ?_
                        refine K_get (a := 0) (ci := 12) (k := 23) (v := vl (hI h 0 23)) (dt_at dtX12_knownWord 18 rfl) (show TT 0 = (0, 12) from rfl) rfl (by decide) wF_X12_128 rfl ?_
                        refine K_lcmp (dt_at dtX12_knownWord 19 rfl) ⟨by omega, by omega⟩ ⟨by omega, by omega⟩ ?_
                        by_cases z29 : hI h 0 23 = pkWd 1
                        · rw [cmpL_0.mpr z29.symm]
                          refine K_if_ne (tgt := 41) (dt_at dtX12_knownWord 20 rfl) (by decide) (by first | assumption | exact ⟨by omega, by omega⟩) (fun c22 => absurd c22 (by omega)) (fun c22 => ?_)
                          refine K_iload_n (dt_at dtX12_knownWord 21 rfl) rfl rfl ?_
                          exact K_iret (dt_at dtX12_knownWord 22 rfl) rfl rfl (by decide) (by decide) ⟨by rw [kwF_9 ((hq9 1 (by decide)).mp z29)], rfl⟩
                        · have n29 : ¬ isWb tp t 1 = true := fun z => z29 ((hq9 1 (by decide)).mpr z)
                          refine K_if_ne (tgt := 41) (dt_at dtX12_knownWord 20 rfl) (by decide) (cmpL_i _ _) (fun _ => ?_) (fun z => absurd (cmpL_0.mp z).symm z29)
                          refine K_iinc (ls' := [(1, vi (9 + 1)), (0, vr 0)]) (dt_at dtX12_knownWord 23 rfl) rfl (by decide) rfl ?_
                          refine K_goto (tgt := 21) (dt_at dtX12_knownWord 24 rfl) (by decide) ?_
                          show K mX12_knownWord _ _ 0 0 21 [(1, vi 10), (0, vr 0)] [] h
                          have pb10 := pkWd_b 2 (by decide)
                          refine K_iload_n (dt_at dtX12_knownWord 12 rfl) rfl rfl ?_
                          refine K_bipush (dt_at dtX12_knownWord 13 rfl) (by decide) ?_
                          refine K_icmp_ge (tgt := 47) (dt_at dtX12_knownWord 14 rfl) (by decide) (by first | assumption | exact ⟨by omega, by omega⟩) (by first | assumption | exact ⟨by omega, by omega⟩) (fun c23 => absurd c23 (by omega)) (fun c23 => ?_)
                          refine K_iload_n (dt_at dtX12_knownWord 15 rfl) rfl rfl ?_
                          refine K_callS (M' := mX12_letters) (As := [vi 10]) (st := []) (dt_at dtX12_knownWord 16 rfl) sX12_letters_10 wL_X12_157 vX12_letters rfl npX12_letters (by decide) (by decide) (Nat.le_of_ble_eq_true rfl) (by decide) (by decide) GK_E (fun v9 h9 hq => ?_) (fun E h9 hq => by cases hq.1)
                          obtain ⟨e9, e8⟩ := hq
                          cases e9
                          rw [e8]
                          show K mX12_knownWord _ _ 0 0 31 [(1, vi 10), (0, vr 0)] [vl (pkWd 2)] h
                          refine K_aload_n (dt_at dtX12_knownWord 17 rfl) rfl rfl ?_
                          refine K_get (a := 0) (ci := 12) (k := 23) (v := vl (hI h 0 23)) (dt_at dtX12_knownWord 18 rfl) (show TT 0 = (0, 12) from rfl) rfl (by decide) wF_X12_128 rfl ?_
                          refine K_lcmp (dt_at dtX12_knownWord 19 rfl) ⟨by omega, by omega⟩ ⟨by omega, by omega⟩ ?_
                          by_cases z30 : hI h 0 23 = pkWd 2
                          · rw [cmpL_0.mpr z30.symm]
                            refine K_if_ne (tgt := 41) (dt_at dtX12_knownWord 20 rfl) (by decide) (by first | assumption | exact ⟨by omega, by omega⟩) (fun c24 => absurd c24 (by omega)) (fun c24 => ?_)
                            refine K_iload_n (dt_at dtX12_knownWord 21 rfl) rfl rfl ?_
                            exact K_iret (dt_at dtX12_knownWord 22 rfl) rfl rfl (by decide) (by decide) ⟨by rw [kwF_10 ((hq9 2 (by decide)).mp z30)], rfl⟩
                          · have n30 : ¬ isWb tp t 2 = true := fun z => z30 ((hq9 2 (by decide)).mpr z)
                            refine K_if_ne (tgt := 41) (dt_at dtX12_knownWord 20 rfl) (by decide) (cmpL_i _ _) (fun _ => ?_) (fun z => absurd (cmpL_0.mp z).symm z30)
                            refine K_iinc (ls' := [(1, vi (10 + 1)), (0, vr 0)]) (dt_at dtX12_knownWord 23 rfl) rfl (by decide) rfl ?_
                            refine K_goto (tgt := 21) (dt_at dtX12_knownWord 24 rfl) (by decide) ?_
                            show K mX12_knownWord _ _ 0 0 21 [(1, vi 11), (0, vr 0)] [] h
                            have pb11 := pkWd_b 3 (by decide)
                            refine K_iload_n (dt_at dtX12_knownWord 12 rfl) rfl rfl ?_
                            refine K_bipush (dt_at dtX12_knownWord 13 rfl) (by decide) ?_
                            refine K_icmp_ge (tgt := 47) (dt_at dtX12_knownWord 14 rfl) (by decide) (by first | assumption | exact ⟨by omega, by omega⟩) (by first | assumption | exact ⟨by omega, by omega⟩) (fun c25 => absurd c25 (by omega)) (fun c25 => ?_)
                            refine K_iload_n (dt_at dtX12_knownWord 15 rfl) rfl rfl ?_
                            refine K_callS (M' := mX12_letters) (As := [vi 11]) (st := []) (dt_at dtX12_knownWord 16 rfl) sX12_letters_11 wL_X12_157 vX12_letters rfl npX12_letters (by decide) (by decide) (Nat.le_of_ble_eq_true rfl) (by decide) (by decide) GK_E (fun v9 h9 hq => ?_) (fun E h9 hq => by cases hq.1)
                            obtain ⟨e9, e8⟩ := hq
                            cases e9
                            rw [e8]
                            show K mX12_knownWord _ _ 0 0 31 [(1, vi 11), (0, vr 0)] [vl (pkWd 3)] h
                            refine K_aload_n (dt_at dtX12_knownWord 17 rfl) rfl rfl ?_
                            refine K_get (a := 0) (ci := 12) (k := 23) (v := vl (hI h 0 23)) (dt_at dtX12_knownWord 18 rfl) (show TT 0 = (0, 12) from rfl) rfl (by decide) wF_X12_128 rfl ?_
                            refine K_lcmp (dt_at dtX12_knownWord 19 rfl) ⟨by omega, by omega⟩ ⟨by omega, by omega⟩ ?_
                            by_cases z31 : hI h 0 23 = pkWd 3
                            · rw [cmpL_0.mpr z31.symm]
                              refine K_if_ne (tgt := 41) (dt_at dtX12_knownWord 20 rfl) (by decide) (by first | assumption | exact ⟨by omega, by omega⟩) (fun c26 => absurd c26 (by omega)) (fun c26 => ?_)
                              refine K_iload_n (dt_at dtX12_knownWord 21 rfl) rfl rfl ?_
                              exact K_iret (dt_at dtX12_knownWord 22 rfl) rfl rfl (by decide) (by decide) ⟨by rw [kwF_11 ((hq9 3 (by decide)).mp z31)], rfl⟩
                            · have n31 : ¬ isWb tp t 3 = true := fun z => z31 ((hq9 3 (by decide)).mpr z)
                              refine K_if_ne (tgt := 41) (dt_at dtX12_knownWord 20 rfl) (by decide) (cmpL_i _ _) (fun _ => ?_) (fun z => absurd (cmpL_0.mp z).symm z31)
                              refine K_iinc (ls' := [(1, vi (11 + 1)), (0, vr 0)]) (dt_at dtX12_knownWord 23 rfl) rfl (by decide) rfl ?_
                              refine K_goto (tgt := 21) (dt_at dtX12_knownWord 24 rfl) (by decide) ?_
                              show K mX12_knownWord _ _ 0 0 21 [(1, vi 12), (0, vr 0)] [] h
                              have pb12 := pkWd_b 15 (by decide)
                              refine K_iload_n (dt_at dtX12_knownWord 12 rfl) rfl rfl ?_
                              refine K_bipush (dt_at dtX12_knownWord 13 rfl) (by decide) ?_
                              refine K_icmp_ge (tgt := 47) (dt_at dtX12_knownWord 14 rfl) (by decide) (by first | assumption | exact ⟨by omega, by omega⟩) (by first | assumption | exact ⟨by omega, by omega⟩) (fun c27 => absurd c27 (by omega)) (fun c27 => ?_)
                              refine K_iload_n (dt_at dtX12_knownWord 15 rfl) rfl rfl ?_
                              refine K_callS (M' := mX12_letters) (As := [vi 12]) (st := []) (dt_at dtX12_knownWord 16 rfl) sX12_letters_12 wL_X12_157 vX12_letters rfl npX12_letters (by decide) (by decide) (Nat.le_of_ble_eq_true rfl) (by decide) (by decide) GK_E (fun v9 h9 hq => ?_) (fun E h9 hq => by cases hq.1)
                              obtain ⟨e9, e8⟩ := hq
                              cases e9
                              rw [e8]
                              show K mX12_knownWord _ _ 0 0 31 [(1, vi 12), (0, vr 0)] [vl (pkWd 15)] h
                              refine K_aload_n (dt_at dtX12_knownWord 17 rfl) rfl rfl ?_
                              refine K_get (a := 0) (ci := 12) (k := 23) (v := vl (hI h 0 23)) (dt_at dtX12_knownWord 18 rfl) (show TT 0 = (0, 12) from rfl) rfl (by decide) wF_X12_128 rfl ?_
                              refine K_lcmp (dt_at dtX12_knownWord 19 rfl) ⟨by omega, by omega⟩ ⟨by omega, by omega⟩ ?_
                              by_cases z32 : hI h 0 23 = pkWd 15
                              · rw [cmpL_0.mpr z32.symm]
                                refine K_if_ne (tgt := 41) (dt_at dtX12_knownWord 20 rfl) (by decide) (by first | assumption | exact ⟨by omega, by omega⟩) (fun c28 => absurd c28 (by omega)) (fun c28 => ?_)
                                refine K_iload_n (dt_at dtX12_knownWord 21 rfl) rfl rfl ?_
                                exact K_iret (dt_at dtX12_knownWord 22 rfl) rfl rfl (by decide) (by decide) ⟨by rw [kwF_12 ((hq9 15 (by decide)).mp z32)], rfl⟩
                              · have n32 : ¬ isWb tp t 15 = true := fun z => z32 ((hq9 15 (by decide)).mpr z)
                                refine K_if_ne (tgt := 41) (dt_at dtX12_knownWord 20 rfl) (by decide) (cmpL_i _ _) (fun _ => ?_) (fun z => absurd (cmpL_0.mp z).symm z32)
                                refine K_iinc (ls' := [(1, vi (12 + 1)), (0, vr 0)]) (dt_at dtX12_knownWord 23 rfl) rfl (by decide) rfl ?_
                                refine K_goto (tgt := 21) (dt_at dtX12_knownWord 24 rfl) (by decide) ?_
                                show K mX12_knownWord _ _ 0 0 21 [(1, vi 13), (0, vr 0)] [] h
                                have pb13 := pkWd_b 13 (by decide)
                                refine K_iload_n (dt_at dtX12_knownWord 12 rfl) rfl rfl ?_
                                refine K_bipush (dt_at dtX12_knownWord 13 rfl) (by decide) ?_
                                refine K_icmp_ge (tgt := 47) (dt_at dtX12_knownWord 14 rfl) (by decide) (by first | assumption | exact ⟨by omega, by omega⟩) (by first | assumption | exact ⟨by omega, by omega⟩) (fun c29 => absurd c29 (by omega)) (fun c29 => ?_)
                                refine K_iload_n (dt_at dtX12_knownWord 15 rfl) rfl rfl ?_
                                refine K_callS (M' := mX12_letters) (As := [vi 13]) (st := []) (dt_at dtX12_knownWord 16 rfl) sX12_letters_13 wL_X12_157 vX12_letters rfl npX12_letters (by decide) (by decide) (Nat.le_of_ble_eq_true rfl) (by decide) (by decide) GK_E (fun v9 h9 hq => ?_) (fun E h9 hq => by cases hq.1)
                                obtain ⟨e9, e8⟩ := hq
                                cases e9
                                rw [e8]
                                show K mX12_knownWord _ _ 0 0 31 [(1, vi 13), (0, vr 0)] [vl (pkWd 13)] h
                                refine K_aload_n (dt_at dtX12_knownWord 17 rfl) rfl rfl ?_
                                refine K_get (a := 0) (ci := 12) (k := 23) (v := vl (hI h 0 23)) (dt_at dtX12_knownWord 18 rfl) (show TT 0 = (0, 12) from rfl) rfl (by decide) wF_X12_128 rfl ?_
                                refine K_lcmp (dt_at dtX12_knownWord 19 rfl) ⟨by omega, by omega⟩ ⟨by omega, by omega⟩ ?_
                                by_cases z33 : hI h 0 23 = pkWd 13
                                · rw [cmpL_0.mpr z33.symm]
                                  refine K_if_ne (tgt := 41) (dt_at dtX12_knownWord 20 rfl) (by decide) (by first | assumption | exact ⟨by omega, by omega⟩) (fun c30 => absurd c30 (by omega)) (fun c30 => ?_)
                                  refine K_iload_n (dt_at dtX12_knownWord 21 rfl) rfl rfl ?_
                                  exact K_iret (dt_at dtX12_knownWord 22 rfl) rfl rfl (by decide) (by decide) ⟨by rw [kwF_13 ((hq9 13 (by decide)).mp z33)], rfl⟩
                                · have n33 : ¬ isWb tp t 13 = true := fun z => z33 ((hq9 13 (by decide)).mpr z)
                                  refine K_if_ne (tgt := 41) (dt_at dtX12_knownWord 20 rfl) (by decide) (cmpL_i _ _) (fun _ => ?_) (fun z => absurd (cmpL_0.mp z).symm z33)
                                  refine K_iinc (ls' := [(1, vi (13 + 1)), (0, vr 0)]) (dt_at dtX12_knownWord 23 rfl) rfl (by decide) rfl ?_
                                  refine K_goto (tgt := 21) (dt_at dtX12_knownWord 24 rfl) (by decide) ?_
                                  show K mX12_knownWord _ _ 0 0 21 [(1, vi 14), (0, vr 0)] [] h
                                  have pb14 := pkWd_b 14 (by decide)
                                  refine K_iload_n (dt_at dtX12_knownWord 12 rfl) rfl rfl ?_
                                  refine K_bipush (dt_at dtX12_knownWord 13 rfl) (by decide) ?_
                                  refine K_icmp_ge (tgt := 47) (dt_at dtX12_knownWord 14 rfl) (by decide) (by first | assumption | exact ⟨by omega, by omega⟩) (by first | assumption | exact ⟨by omega, by omega⟩) (fun c31 => absurd c31 (by omega)) (fun c31 => ?_)
                                  refine K_iload_n (dt_at dtX12_knownWord 15 rfl) rfl rfl ?_
                                  refine K_callS (M' := mX12_letters) (As := [vi 14]) (st := []) (dt_at dtX12_knownWord 16 rfl) sX12_letters_14 wL_X12_157 vX12_letters rfl npX12_letters (by decide) (by decide) (Nat.le_of_ble_eq_true rfl) (by decide) (by decide) GK_E (fun v9 h9 hq => ?_) (fun E h9 hq => by cases hq.1)
                                  obtain ⟨e9, e8⟩ := hq
                                  cases e9
                                  rw [e8]
                                  show K mX12_knownWord _ _ 0 0 31 [(1, vi 14), (0, vr 0)] [vl (pkWd 14)] h
                                  refine K_aload_n (dt_at dtX12_knownWord 17 rfl) rfl rfl ?_
                                  refine K_get (a := 0) (ci := 12) (k := 23) (v := vl (hI h 0 23)) (dt_at dtX12_knownWord 18 rfl) (show TT 0 = (0, 12) from rfl) rfl (by decide) wF_X12_128 rfl ?_
                                  refine K_lcmp (dt_at dtX12_knownWord 19 rfl) ⟨by omega, by omega⟩ ⟨by omega, by omega⟩ ?_
                                  by_cases z34 : hI h 0 23 = pkWd 14
                                  · rw [cmpL_0.mpr z34.symm]
                                    refine K_if_ne (tgt := 41) (dt_at dtX12_knownWord 20 rfl) (by decide) (by first | assumption | exact ⟨by omega, by omega⟩) (fun c32 => absurd c32 (by omega)) (fun c32 => ?_)
                                    refine K_iload_n (dt_at dtX12_knownWord 21 rfl) rfl rfl ?_
                                    exact K_iret (dt_at dtX12_knownWord 22 rfl) rfl rfl (by decide) (by decide) ⟨by rw [kwF_14 ((hq9 14 (by decide)).mp z34)], rfl⟩
                                  · have n34 : ¬ isWb tp t 14 = true := fun z => z34 ((hq9 14 (by decide)).mpr z)
                                    refine K_if_ne (tgt := 41) (dt_at dtX12_knownWord 20 rfl) (by decide) (cmpL_i _ _) (fun _ => ?_) (fun z => absurd (cmpL_0.mp z).symm z34)
                                    refine K_iinc (ls' := [(1, vi (14 + 1)), (0, vr 0)]) (dt_at dtX12_knownWord 23 rfl) rfl (by decide) rfl ?_
                                    refine K_goto (tgt := 21) (dt_at dtX12_knownWord 24 rfl) (by decide) ?_
                                    show K mX12_knownWord _ _ 0 0 21 [(1, vi 15), (0, vr 0)] [] h
                                    have pb15 := pkWd_b 4 (by decide)
                                    refine K_iload_n (dt_at dtX12_knownWord 12 rfl) rfl rfl ?_
                                    refine K_bipush (dt_at dtX12_knownWord 13 rfl) (by decide) ?_
                                    refine K_icmp_ge (tgt := 47) (dt_at dtX12_knownWord 14 rfl) (by decide) (by first | assumption | exact ⟨by omega, by omega⟩) (by first | assumption | exact ⟨by omega, by omega⟩) (fun c33 => absurd c33 (by omega)) (fun c33 => ?_)
                                    refine K_iload_n (dt_at dtX12_knownWord 15 rfl) rfl rfl ?_
                                    refine K_callS (M' := mX12_letters) (As := [vi 15]) (st := []) (dt_at dtX12_knownWord 16 rfl) sX12_letters_15 wL_X12_157 vX12_letters rfl npX12_letters (by decide) (by decide) (Nat.le_of_ble_eq_true rfl) (by decide) (by decide) GK_E (fun v9 h9 hq => ?_) (fun E h9 hq => by cases hq.1)
                                    obtain ⟨e9, e8⟩ := hq
                                    cases e9
                                    rw [e8]
                                    show K mX12_knownWord _ _ 0 0 31 [(1, vi 15), (0, vr 0)] [vl (pkWd 4)] h
                                    refine K_aload_n (dt_at dtX12_knownWord 17 rfl) rfl rfl ?_
                                    refine K_get (a := 0) (ci := 12) (k := 23) (v := vl (hI h 0 23)) (dt_at dtX12_knownWord 18 rfl) (show TT 0 = (0, 12) from rfl) rfl (by decide) wF_X12_128 rfl ?_
                                    refine K_lcmp (dt_at dtX12_knownWord 19 rfl) ⟨by omega, by omega⟩ ⟨by omega, by omega⟩ ?_
                                    by_cases z35 : hI h 0 23 = pkWd 4
                                    · rw [cmpL_0.mpr z35.symm]
                                      refine K_if_ne (tgt := 41) (dt_at dtX12_knownWord 20 rfl) (by decide) (by first | assumption | exact ⟨by omega, by omega⟩) (fun c34 => absurd c34 (by omega)) (fun c34 => ?_)
                                      refine K_iload_n (dt_at dtX12_knownWord 21 rfl) rfl rfl ?_
                                      exact K_iret (dt_at dtX12_knownWord 22 rfl) rfl rfl (by decide) (by decide) ⟨by rw [kwF_15 ((hq9 4 (by decide)).mp z35)], rfl⟩
                                    · have n35 : ¬ isWb tp t 4 = true := fun z => z35 ((hq9 4 (by decide)).mpr z)
                                      refine K_if_ne (tgt := 41) (dt_at dtX12_knownWord 20 rfl) (by decide) (cmpL_i _ _) (fun _ => ?_) (fun z => absurd (cmpL_0.mp z).symm z35)
                                      refine K_iinc (ls' := [(1, vi (15 + 1)), (0, vr 0)]) (dt_at dtX12_knownWord 23 rfl) rfl (by decide) rfl ?_
                                      refine K_goto (tgt := 21) (dt_at dtX12_knownWord 24 rfl) (by decide) ?_
                                      show K mX12_knownWord _ _ 0 0 21 [(1, vi 16), (0, vr 0)] [] h
                                      refine K_iload_n (dt_at dtX12_knownWord 12 rfl) rfl rfl ?_
                                      refine K_bipush (dt_at dtX12_knownWord 13 rfl) (by decide) ?_
                                      refine K_icmp_ge (tgt := 47) (dt_at dtX12_knownWord 14 rfl) (by decide) (by first | assumption | exact ⟨by omega, by omega⟩) (by first | assumption | exact ⟨by omega, by omega⟩) (fun c35 => ?_) (fun c35 => absurd c35 (by omega))
                                      refine K_iconst (dt_at dtX12_knownWord 25 rfl) ?_
                                      have nn : kwF tp t = -1 := by unfold kwF; rw [if_neg n20, if_neg n21, if_neg n22, if_neg n23, if_neg n24, if_neg n25, if_neg n26, if_neg n27, if_neg n28, if_neg n29, if_neg n30, if_neg n31, if_neg n32, if_neg n33, if_neg n34, if_neg n35]
                                      exact K_iret (dt_at dtX12_knownWord 26 rfl) rfl rfl (by decide) (by decide) ⟨by rw [nn], rfl⟩
    · refine K_iconst (dt_at dtX12_knownWord 8 rfl) ?_
      exact K_iret (dt_at dtX12_knownWord 9 rfl) rfl rfl (by decide) (by decide) ⟨by rw [kwF_no (fun i hi z => by have z1 := isWb_e z; have z2 := (wd_az i hi).1; omega)], rfl⟩
