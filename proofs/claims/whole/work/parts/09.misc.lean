theorem dt_at {b : ByteArray} {t : List (Nat × Instr × Nat)} (h : t.all (fun q => decide (decode b q.1 = .ok (q.2.1, q.2.2))) = true) (k : Nat) {pc len : Nat} {i : Instr} (hk : t[k]? = some (pc, i, len)) : decode b pc = .ok (i, len) := by
  have h1 := List.all_eq_true.mp h (pc, i, len) (List.mem_of_getElem? hk)
  simpa using h1
theorem nr_bool {x : Int} (h : x = 0 ∨ x = 1) : narrow .boolean (.int (Int32.ofInt x)) = .int (Int32.ofInt x) := by
  rcases h with rfl | rfl <;> decide
theorem ft_bool {x : Int} (h : x = 0 ∨ x = 1) : fits .boolean (.int (Int32.ofInt x)) = true := by
  rcases h with rfl | rfl <;> decide

theorem lay_0_0 {a : Nat} (h : TT a = (0, 0)) : TT (a + 1) = (1, 3080) := TT_all (P := fun a => TT (a + 1) = (1, 3080)) (by decide) (by decide +kernel) h
theorem lay_1_0 {a : Nat} (h : TT a = (0, 1)) : TT (a + 1) = (1, 4) := TT_all (P := fun a => TT (a + 1) = (1, 4)) (by decide) (by decide +kernel) h
theorem lay_1_1 {a : Nat} (h : TT a = (0, 1)) : TT (a + 2) = (1, 4) := TT_all (P := fun a => TT (a + 2) = (1, 4)) (by decide) (by decide +kernel) h
theorem lay_2_0 {a : Nat} (h : TT a = (0, 2)) : TT (a + 1) = (0, 10) := TT_all (P := fun a => TT (a + 1) = (0, 10)) (by decide) (by decide +kernel) h
theorem lay_2_1 {a : Nat} (h : TT a = (0, 2)) : TT (a + 8) = (1, 70) := TT_all (P := fun a => TT (a + 8) = (1, 70)) (by decide) (by decide +kernel) h
theorem lay_2_2 {a : Nat} (h : TT a = (0, 2)) : TT (a + 9) = (5, 6) := TT_all (P := fun a => TT (a + 9) = (5, 6)) (by decide) (by decide +kernel) h
theorem lay_2_3 {a : Nat} (h : TT a = (0, 2)) : TT (a + 16) = (1, 6) := TT_all (P := fun a => TT (a + 16) = (1, 6)) (by decide) (by decide +kernel) h
theorem lay_3_0 {a : Nat} (h : TT a = (0, 3)) : TT (a + 1) = (1, 6) := TT_all (P := fun a => TT (a + 1) = (1, 6)) (by decide) (by decide +kernel) h
theorem lay_3_1 {a : Nat} (h : TT a = (0, 3)) : TT (a + 2) = (1, 6) := TT_all (P := fun a => TT (a + 2) = (1, 6)) (by decide) (by decide +kernel) h
theorem lay_3_2 {a : Nat} (h : TT a = (0, 3)) : TT (a + 3) = (1, 6) := TT_all (P := fun a => TT (a + 3) = (1, 6)) (by decide) (by decide +kernel) h
theorem lay_3_3 {a : Nat} (h : TT a = (0, 3)) : TT (a + 4) = (1, 7) := TT_all (P := fun a => TT (a + 4) = (1, 7)) (by decide) (by decide +kernel) h
theorem lay_3_4 {a : Nat} (h : TT a = (0, 3)) : TT (a + 5) = (1, 7) := TT_all (P := fun a => TT (a + 5) = (1, 7)) (by decide) (by decide +kernel) h
theorem lay_3_5 {a : Nat} (h : TT a = (0, 3)) : TT (a + 6) = (1, 7) := TT_all (P := fun a => TT (a + 6) = (1, 7)) (by decide) (by decide +kernel) h
theorem lay_3_6 {a : Nat} (h : TT a = (0, 3)) : TT (a + 7) = (1, 7) := TT_all (P := fun a => TT (a + 7) = (1, 7)) (by decide) (by decide +kernel) h
theorem lay_3_7 {a : Nat} (h : TT a = (0, 3)) : TT (a + 8) = (1, 7) := TT_all (P := fun a => TT (a + 8) = (1, 7)) (by decide) (by decide +kernel) h
theorem lay_3_8 {a : Nat} (h : TT a = (0, 3)) : TT (a + 9) = (0, 6) := TT_all (P := fun a => TT (a + 9) = (0, 6)) (by decide) (by decide +kernel) h
theorem lay_3_9 {a : Nat} (h : TT a = (0, 3)) : TT (a + 12) = (0, 6) := TT_all (P := fun a => TT (a + 12) = (0, 6)) (by decide) (by decide +kernel) h
theorem lay_4_0 {a : Nat} (h : TT a = (0, 4)) : TT (a + 1) = (5, 7) := TT_all (P := fun a => TT (a + 1) = (5, 7)) (by decide) (by decide +kernel) h
theorem lay_5_0 {a : Nat} (h : TT a = (0, 5)) : TT (a + 1) = (0, 9) := TT_all (P := fun a => TT (a + 1) = (0, 9)) (by decide) (by decide +kernel) h
theorem lay_6_0 {a : Nat} (h : TT a = (0, 6)) : TT (a + 1) = (1, 700) := TT_all (P := fun a => TT (a + 1) = (1, 700)) (by decide) (by decide +kernel) h
theorem lay_6_1 {a : Nat} (h : TT a = (0, 6)) : TT (a + 2) = (1, 64) := TT_all (P := fun a => TT (a + 2) = (1, 64)) (by decide) (by decide +kernel) h
theorem lay_7_0 {a : Nat} (h : TT a = (0, 7)) : TT (a + 1) = (1, 8) := TT_all (P := fun a => TT (a + 1) = (1, 8)) (by decide) (by decide +kernel) h
theorem lay_7_1 {a : Nat} (h : TT a = (0, 7)) : TT (a + 2) = (1, 8) := TT_all (P := fun a => TT (a + 2) = (1, 8)) (by decide) (by decide +kernel) h
theorem lay_7_2 {a : Nat} (h : TT a = (0, 7)) : TT (a + 3) = (1, 8) := TT_all (P := fun a => TT (a + 3) = (1, 8)) (by decide) (by decide +kernel) h
theorem lay_7_3 {a : Nat} (h : TT a = (0, 7)) : TT (a + 4) = (1, 8) := TT_all (P := fun a => TT (a + 4) = (1, 8)) (by decide) (by decide +kernel) h
theorem lay_8_0 {a : Nat} (h : TT a = (0, 8)) : TT (a + 1) = (1, 77) := TT_all (P := fun a => TT (a + 1) = (1, 77)) (by decide) (by decide +kernel) h
theorem lay_10_0 {a : Nat} (h : TT a = (0, 10)) : TT (a + 1) = (0, 8) := TT_all (P := fun a => TT (a + 1) = (0, 8)) (by decide) (by decide +kernel) h
theorem lay_10_1 {a : Nat} (h : TT a = (0, 10)) : TT (a + 3) = (1, 8) := TT_all (P := fun a => TT (a + 3) = (1, 8)) (by decide) (by decide +kernel) h
theorem lay_10_2 {a : Nat} (h : TT a = (0, 10)) : TT (a + 4) = (1, 7) := TT_all (P := fun a => TT (a + 4) = (1, 7)) (by decide) (by decide +kernel) h
theorem lay_11_0 {a : Nat} (h : TT a = (0, 11)) : TT (a + 1) = (2, 700) := TT_all (P := fun a => TT (a + 1) = (2, 700)) (by decide) (by decide +kernel) h
theorem lay_11_1 {a : Nat} (h : TT a = (0, 11)) : TT (a + 2) = (1, 3) := TT_all (P := fun a => TT (a + 2) = (1, 3)) (by decide) (by decide +kernel) h
theorem lay_11_4 {a : Nat} (h : TT a = (0, 11)) : TT (a + 33) = (0, 5) := TT_all (P := fun a => TT (a + 33) = (0, 5)) (by decide) (by decide +kernel) h
theorem lay_11_5 {a : Nat} (h : TT a = (0, 11)) : TT (a + 36) = (0, 8) := TT_all (P := fun a => TT (a + 36) = (0, 8)) (by decide) (by decide +kernel) h
theorem lay_11_6 {a : Nat} (h : TT a = (0, 11)) : TT (a + 38) = (0, 0) := TT_all (P := fun a => TT (a + 38) = (0, 0)) (by decide) (by decide +kernel) h
theorem lay_11_7 {a : Nat} (h : TT a = (0, 11)) : TT (a + 40) = (0, 7) := TT_all (P := fun a => TT (a + 40) = (0, 7)) (by decide) (by decide +kernel) h
theorem lay_11_8 {a : Nat} (h : TT a = (0, 11)) : TT (a + 45) = (0, 8) := TT_all (P := fun a => TT (a + 45) = (0, 8)) (by decide) (by decide +kernel) h
theorem lay_11_9 {a : Nat} (h : TT a = (0, 11)) : TT (a + 47) = (0, 0) := TT_all (P := fun a => TT (a + 47) = (0, 0)) (by decide) (by decide +kernel) h
theorem lay_11_10 {a : Nat} (h : TT a = (0, 11)) : TT (a + 49) = (0, 7) := TT_all (P := fun a => TT (a + 49) = (0, 7)) (by decide) (by decide +kernel) h
theorem lay_11_11 {a : Nat} (h : TT a = (0, 11)) : TT (a + 54) = (0, 10) := TT_all (P := fun a => TT (a + 54) = (0, 10)) (by decide) (by decide +kernel) h
theorem lay_11_12 {a : Nat} (h : TT a = (0, 11)) : TT (a + 61) = (0, 4) := TT_all (P := fun a => TT (a + 61) = (0, 4)) (by decide) (by decide +kernel) h
theorem lay_11_13 {a : Nat} (h : TT a = (0, 11)) : TT (a + 70) = (0, 2) := TT_all (P := fun a => TT (a + 70) = (0, 2)) (by decide) (by decide +kernel) h
theorem lay_11_14 {a : Nat} (h : TT a = (0, 11)) : TT (a + 87) = (0, 1) := TT_all (P := fun a => TT (a + 87) = (0, 1)) (by decide) (by decide +kernel) h
theorem lay_12_5 {a : Nat} (h : TT a = (0, 12)) : TT (a + 1) = (1, 6) := TT_all (P := fun a => TT (a + 1) = (1, 6)) (by decide) (by decide +kernel) h
theorem lay_12_6 {a : Nat} (h : TT a = (0, 12)) : TT (a + 2) = (1, 6) := TT_all (P := fun a => TT (a + 2) = (1, 6)) (by decide) (by decide +kernel) h
theorem lay_12_7 {a : Nat} (h : TT a = (0, 12)) : TT (a + 3) = (1, 7) := TT_all (P := fun a => TT (a + 3) = (1, 7)) (by decide) (by decide +kernel) h
theorem lay_12_8 {a : Nat} (h : TT a = (0, 12)) : TT (a + 4) = (1, 7) := TT_all (P := fun a => TT (a + 4) = (1, 7)) (by decide) (by decide +kernel) h
theorem lay_12_9 {a : Nat} (h : TT a = (0, 12)) : TT (a + 5) = (1, 7) := TT_all (P := fun a => TT (a + 5) = (1, 7)) (by decide) (by decide +kernel) h
theorem lay_12_10 {a : Nat} (h : TT a = (0, 12)) : TT (a + 6) = (1, 1400) := TT_all (P := fun a => TT (a + 6) = (1, 1400)) (by decide) (by decide +kernel) h
theorem lay_12_11 {a : Nat} (h : TT a = (0, 12)) : TT (a + 7) = (1, 700) := TT_all (P := fun a => TT (a + 7) = (1, 700)) (by decide) (by decide +kernel) h
theorem lay_12_15 {a : Nat} (h : TT a = (0, 12)) : TT (a + 8) = (1, 3) := TT_all (P := fun a => TT (a + 8) = (1, 3)) (by decide) (by decide +kernel) h
theorem lay_12_33 {a : Nat} (h : TT a = (0, 12)) : TT (a + 9) = (1, 6) := TT_all (P := fun a => TT (a + 9) = (1, 6)) (by decide) (by decide +kernel) h
theorem lay_12_34 {a : Nat} (h : TT a = (0, 12)) : TT (a + 10) = (1, 6) := TT_all (P := fun a => TT (a + 10) = (1, 6)) (by decide) (by decide +kernel) h
theorem lay_12_35 {a : Nat} (h : TT a = (0, 12)) : TT (a + 11) = (1, 7) := TT_all (P := fun a => TT (a + 11) = (1, 7)) (by decide) (by decide +kernel) h
theorem lay_12_36 {a : Nat} (h : TT a = (0, 12)) : TT (a + 12) = (1, 7) := TT_all (P := fun a => TT (a + 12) = (1, 7)) (by decide) (by decide +kernel) h
theorem lay_12_37 {a : Nat} (h : TT a = (0, 12)) : TT (a + 13) = (1, 7) := TT_all (P := fun a => TT (a + 13) = (1, 7)) (by decide) (by decide +kernel) h
theorem lay_12_38 {a : Nat} (h : TT a = (0, 12)) : TT (a + 14) = (1, 77) := TT_all (P := fun a => TT (a + 14) = (1, 77)) (by decide) (by decide +kernel) h
theorem lay_12_39 {a : Nat} (h : TT a = (0, 12)) : TT (a + 15) = (1, 1400) := TT_all (P := fun a => TT (a + 15) = (1, 1400)) (by decide) (by decide +kernel) h
theorem lay_12_40 {a : Nat} (h : TT a = (0, 12)) : TT (a + 16) = (1, 950) := TT_all (P := fun a => TT (a + 16) = (1, 950)) (by decide) (by decide +kernel) h
theorem lay_12_41 {a : Nat} (h : TT a = (0, 12)) : TT (a + 17) = (3, 9) := TT_all (P := fun a => TT (a + 17) = (3, 9)) (by decide) (by decide +kernel) h
theorem lay_12_42 {a : Nat} (h : TT a = (0, 12)) : TT (a + 18) = (1, 154) := TT_all (P := fun a => TT (a + 18) = (1, 154)) (by decide) (by decide +kernel) h
theorem lay_12_43 {a : Nat} (h : TT a = (0, 12)) : TT (a + 19) = (1, 3080) := TT_all (P := fun a => TT (a + 19) = (1, 3080)) (by decide) (by decide +kernel) h
theorem lay_12_45 {a : Nat} (h : TT a = (0, 12)) : TT (a + 20) = (1, 8) := TT_all (P := fun a => TT (a + 20) = (1, 8)) (by decide) (by decide +kernel) h
theorem lay_12_46 {a : Nat} (h : TT a = (0, 12)) : TT (a + 21) = (1, 950) := TT_all (P := fun a => TT (a + 21) = (1, 950)) (by decide) (by decide +kernel) h
theorem lay_12_50 {a : Nat} (h : TT a = (0, 12)) : TT (a + 22) = (1, 427) := TT_all (P := fun a => TT (a + 22) = (1, 427)) (by decide) (by decide +kernel) h
theorem lay_12_52 {a : Nat} (h : TT a = (0, 12)) : TT (a + 23) = (1, 32) := TT_all (P := fun a => TT (a + 23) = (1, 32)) (by decide) (by decide +kernel) h
theorem lay_12_53 {a : Nat} (h : TT a = (0, 12)) : TT (a + 24) = (1, 6) := TT_all (P := fun a => TT (a + 24) = (1, 6)) (by decide) (by decide +kernel) h
theorem lay_12_54 {a : Nat} (h : TT a = (0, 12)) : TT (a + 25) = (1, 420) := TT_all (P := fun a => TT (a + 25) = (1, 420)) (by decide) (by decide +kernel) h
theorem lay_12_59 {a : Nat} (h : TT a = (0, 12)) : TT (a + 26) = (1, 77) := TT_all (P := fun a => TT (a + 26) = (1, 77)) (by decide) (by decide +kernel) h
theorem lay_12_60 {a : Nat} (h : TT a = (0, 12)) : TT (a + 27) = (1, 3080) := TT_all (P := fun a => TT (a + 27) = (1, 3080)) (by decide) (by decide +kernel) h
theorem lay_12_61 {a : Nat} (h : TT a = (0, 12)) : TT (a + 28) = (1, 32) := TT_all (P := fun a => TT (a + 28) = (1, 32)) (by decide) (by decide +kernel) h
theorem grid_7 {a : Nat} {i : Int} (h : TT a = (5, 7)) (h0 : 0 ≤ i) (h1 : i < 7) : TT (a + 1 + i.toNat) = (1, 61) := by
  have h9 : ∀ a, a < 120 → TT a = (5, 7) → ∀ j, j < 7 → TT (a + 1 + j) = (1, 61) := by decide +kernel
  exact h9 a (TT_lt h (by decide)) h i.toNat (by omega)
theorem grid_6 {a : Nat} {i : Int} (h : TT a = (5, 6)) (h0 : 0 ≤ i) (h1 : i < 6) : TT (a + 1 + i.toNat) = (1, 70) := by
  have h9 : ∀ a, a < 120 → TT a = (5, 6) → ∀ j, j < 6 → TT (a + 1 + j) = (1, 70) := by decide +kernel
  exact h9 a (TT_lt h (by decide)) h i.toNat (by omega)
theorem wSysN : Cond.native arraycopyName ∈ gw := gw_at 534 (by decide +kernel) (by decide +kernel)
theorem wSysS : Cond.static arraycopyName ∈ gw := gw_at 533 (by decide +kernel) (by decide +kernel)
theorem wSysI : Cond.initialized "java/lang/System" ∈ gw := gw_at 142 (by decide +kernel) (by decide +kernel)
theorem wA_X8_33 : Cond.methodLink RX8 33 arraycopyName ∈ gw := gw_at 532 (by decide +kernel) (by decide +kernel)
theorem wA_X0_31 : Cond.methodLink RX0 31 arraycopyName ∈ gw := gw_at 687 (by decide +kernel) (by decide +kernel)
theorem wMminS : Cond.static Lib.Math.min.name ∈ gw := gw_at 608 (by decide +kernel) (by decide +kernel)
theorem wMminC : Cond.code Lib.Math.min.name Lib.Math.min.code 2 (some .int) ∈ gw := gw_at 609 (by decide +kernel) (by decide +kernel)
theorem wMmaxS : Cond.static Lib.Math.max.name ∈ gw := gw_at 611 (by decide +kernel) (by decide +kernel)
theorem wMmaxC : Cond.code Lib.Math.max.name Lib.Math.max.code 2 (some .int) ∈ gw := gw_at 612 (by decide +kernel) (by decide +kernel)
theorem wMathI : Cond.initialized "java/lang/Math" ∈ gw := gw_at 136 (by decide +kernel) (by decide +kernel)
theorem K_min {M : MI} {G : CT → Prop} {Z : CT → State → Prop} {nc ns pc : Nat} {ls : List (Nat × AV)} {st : List AV} {h : HP} {ix : Nat} {x y : Int} (hd : decode (mB M) pc = .ok (.invokestatic ix, 3)) (hw : Cond.methodLink (mY M).cls ix Lib.Math.min.name ∈ gw) (hx0 : i32 x) (hy0 : i32 y)
    (hfr : 1 ≤ (mR M).frames) (hlo : wA st + 13 ≤ (mR M).locals) (hnc : nc ≤ (mR M).cells) (hns : ns ≤ (mR M).slots)
    (k : K M G Z nc ns (pc + 3) ls (vi (min x y) :: st) h) : K M G Z nc ns pc ls (vi y :: vi x :: st) h := by
  intro p l e s m args below meth c D C as ad av H locs lsA cx hG hP hS hl
  obtain ⟨hx, hb, hml, hr, hlk, hown, hts, hK, hj⟩ := id cx
  refine va_mmin hx hb (hml.trans hl.1.symm) hown (hts _ hw) (hts _ wMminS) (hts _ wMathI) (hts _ wMminC) hfr (by rw [wA_cat]; exact hlo) hnc hns hd ?_
  have h9 := k p l e s m args below meth c D C as ad av H locs lsA cx hG hP hS hl
  have e9 : (if Int32.ofInt y < Int32.ofInt x then Int32.ofInt y else Int32.ofInt x) = Int32.ofInt (min x y) := by
    by_cases q : y < x
    · rw [if_pos ((oI_lt hy0 hx0).mpr q), show min x y = y by omega]
    · rw [if_neg (fun z => q ((oI_lt hy0 hx0).mp z)), show min x y = x by omega]
  rw [e9]
  exact h9
theorem K_max {M : MI} {G : CT → Prop} {Z : CT → State → Prop} {nc ns pc : Nat} {ls : List (Nat × AV)} {st : List AV} {h : HP} {ix : Nat} {x y : Int} (hd : decode (mB M) pc = .ok (.invokestatic ix, 3)) (hw : Cond.methodLink (mY M).cls ix Lib.Math.max.name ∈ gw) (hx0 : i32 x) (hy0 : i32 y)
    (hfr : 1 ≤ (mR M).frames) (hlo : wA st + 13 ≤ (mR M).locals) (hnc : nc ≤ (mR M).cells) (hns : ns ≤ (mR M).slots)
    (k : K M G Z nc ns (pc + 3) ls (vi (max x y) :: st) h) : K M G Z nc ns pc ls (vi y :: vi x :: st) h := by
  intro p l e s m args below meth c D C as ad av H locs lsA cx hG hP hS hl
  obtain ⟨hx, hb, hml, hr, hlk, hown, hts, hK, hj⟩ := id cx
  refine va_mmax hx hb (hml.trans hl.1.symm) hown (hts _ hw) (hts _ wMmaxS) (hts _ wMathI) (hts _ wMmaxC) hfr (by rw [wA_cat]; exact hlo) hnc hns hd ?_
  have h9 := k p l e s m args below meth c D C as ad av H locs lsA cx hG hP hS hl
  have e9 : (if Int32.ofInt x < Int32.ofInt y then Int32.ofInt y else Int32.ofInt x) = Int32.ofInt (max x y) := by
    by_cases q : x < y
    · rw [if_pos ((oI_lt hx0 hy0).mpr q), show max x y = y by omega]
    · rw [if_neg (fun z => q ((oI_lt hx0 hy0).mp z)), show max x y = x by omega]
  rw [e9]
  exact h9
/-- n numbers from sp on of f, laid over g from dp on -/
def cpF (f g : Int → Int) (sp dp n : Int) : Int → Int := fun j => if dp ≤ j ∧ j < dp + n then f (sp + (j - dp)) else g j
theorem K_copy {M : MI} {G : CT → Prop} {Z : CT → State → Prop} {nc ns pc : Nat} {ls : List (Nat × AV)} {st : List AV} {h : HP} {a0 a n0 n1 ix : Nat} {sp dp n : Int} (hd : decode (mB M) pc = .ok (.invokestatic ix, 3)) (hw : Cond.methodLink (mY M).cls ix arraycopyName ∈ gw) (hT0 : TT a0 = (1, n0)) (hT : TT a = (1, n1))
    (h1 : 0 ≤ sp) (h2 : 0 ≤ dp) (h3 : 0 ≤ n) (h4 : sp + n ≤ n0) (h5 : dp + n ≤ n1) (hfr : 1 ≤ (mR M).frames) (hlo : wA st + 64 ≤ (mR M).locals)
    (k : K M G Z nc ns (pc + 3) ls st (sF h a (cpF (hA h a0) (hA h a) sp dp n))) : K M G Z nc ns pc ls (vi n :: vi dp :: vr a :: vi sp :: vr a0 :: st) h := by
  intro p l e s m args below meth c D C as ad av H locs lsA cx hG hP hS hl
  obtain ⟨hx, hb, hml, hr, hlk, hown, hts, hK, hj⟩ := id cx
  have ha : a < 120 := TT_lt hT (fun z => by simp at z)
  have ha0 : a0 < 120 := TT_lt hT0 (fun z => by simp at z)
  have hn9 := TT_n hT
  have hn8 := TT_n hT0
  have he := wsK_get as C h ha
  have he0 := wsK_get as C h ha0
  have hen : en as C h a = .inl (C 0, n1, .inl (fun i => Int32.ofInt (hA h a i))) := by unfold en; rw [hT]; try rfl
  have hen0 : en as C h a0 = .inl (C 0, n0, .inl (fun i => Int32.ofInt (hA h a0 i))) := by unfold en; rw [hT0]; try rfl
  rw [hen] at he
  rw [hen0] at he0
  have i1 : i32 sp := ⟨by omega, by omega⟩
  have i2 : i32 dp := ⟨by omega, by omega⟩
  have i3 : i32 n := ⟨by omega, by omega⟩
  have i0 : i32 0 := ⟨by omega, by omega⟩
  have e1 : (Int32.ofInt sp).toNatClampNeg = sp.toNat := by show (Int32.ofInt sp).toInt.toNat = _; rw [oI_to i1]
  have e2 : (Int32.ofInt dp).toNatClampNeg = dp.toNat := by show (Int32.ofInt dp).toInt.toNat = _; rw [oI_to i2]
  have e3 : (Int32.ofInt n).toNatClampNeg = n.toNat := by show (Int32.ofInt n).toInt.toNat = _; rw [oI_to i3]
  have nn : ∀ {x : Int}, i32 x → 0 ≤ x → ¬ Int32.ofInt x < 0 := fun hi h0 q => by
    have := (oI_lt hi i0).mp (by rw [oI_to0]; exact q)
    omega
  refine va_copyi hx hb (hml.trans hl.1.symm) hown (hts _ hw) (hts _ wSysN) (hts _ wSysS) (hts _ wSysI) hK hP (wsK_D hj) hS a0 a 0 0 he0 he rfl rfl rfl (nn i1 h1) (nn i2 h2) (nn i3 h3) (by rw [e1, e3]; omega) (by rw [e2, e3]; omega) (fun i _ => rfl) hfr ?_ hd (fun H1 locs1 hP1 hD1 hS1 => ?_)
  · rw [wA_cat]
    have q : nativeFrameWords "java/lang/System" "arraycopy" 5 + 11 ≤ 64 := by decide
    omega
  · rw [e1, e2, e3] at hP1
    have e9 : (wsK as C h).set a (as a, .inl (C 0, n1, .inl (va_cpy (fun i : Nat => Int32.ofInt (hA h a0 i)) (fun i : Nat => Int32.ofInt (hA h a i)) sp.toNat dp.toNat n.toNat))) = wsK as C (sF h a (cpF (hA h a0) (hA h a) sp dp n)) := by
      refine wsK_set ha ?_ (fun b hb => en_fo (fun ci j => rfl) (fun i => ?_))
      · unfold en
        rw [hT]
        have e8 : (fun i : Nat => Int32.ofInt (hA (sF h a (cpF (hA h a0) (hA h a) sp dp n)) a i)) = va_cpy (fun i : Nat => Int32.ofInt (hA h a0 i)) (fun i : Nat => Int32.ofInt (hA h a i)) sp.toNat dp.toNat n.toNat := by
          funext j
          show Int32.ofInt (if a = a then cpF (hA h a0) (hA h a) sp dp n j else h.2.1 a j) = if dp.toNat ≤ j ∧ j < dp.toNat + n.toNat then Int32.ofInt (hA h a0 ((sp.toNat + (j - dp.toNat) : Nat) : Int)) else Int32.ofInt (hA h a j)
          rw [if_pos rfl]
          unfold cpF
          by_cases q : dp ≤ (j : Int) ∧ (j : Int) < dp + n
          · rw [if_pos q, if_pos (by omega)]
            have e7 : sp + ((j : Int) - dp) = ((sp.toNat + (j - dp.toNat) : Nat) : Int) := by omega
            rw [e7]
          · rw [if_neg q, if_neg (by omega)]
        exact congrArg (fun z => (Sum.inl (C 0, n1, Sum.inl z) : va_E)) e8
      · show (if b = a then _ else h.2.1 b i) = h.2.1 b i
        rw [if_neg hb]
    rw [e9] at hP1
    exact k p l e s m args below meth c D C as ad av H1 locs1 lsA cx hG hP1 hS1 hl
theorem K_cg {M : MI} {G : CT → Prop} {Z : CT → State → Prop} {nc ns pc : Nat} {ls ls' : List (Nat × AV)} {st : List AV} {h h' : HP} (e1 : ls' = ls) (e2 : h' = h) (k : K M G Z nc ns pc ls' st h') : K M G Z nc ns pc ls st h := by
  subst e1
  subst e2
  exact k
theorem K_pk {M : MI} {G : CT → Prop} {Z : CT → State → Prop} {nc ns pc : Nat} {ls : List (Nat × AV)} {st : List AV} {h : HP} (ks : List Nat) {ls' : List (Nat × AV)} (hs : ks.filterMap (fun k => ls[k]?) = ls') (k : K M G Z nc ns pc ls' st h) : K M G Z nc ns pc ls st h := by
  refine K_ls (ls' := ls') (fun q hq => ?_) k
  rw [← hs] at hq
  obtain ⟨i, -, hi⟩ := List.mem_filterMap.mp hq
  exact List.mem_of_getElem? hi
/-- a number over 0 .. n - 1, one after the other -/
def itN (f : Nat → Int → Int) (x : Int) : Nat → Int
  | 0 => x
  | k + 1 => f k (itN f x k)
/-- the first that is found from k on, among d; else dflt -/
def srN (g : Nat → Option Int) (dflt : Int) : Nat → Nat → Int
  | _, 0 => dflt
  | k, d + 1 => match g k with
    | some v => v
    | none => srN g dflt (k + 1) d
theorem i32_to (x : Int32) : i32 x.toInt := by
  have h1 := Int32.le_toInt x
  have h2 := Int32.toInt_lt x
  exact ⟨by omega, by omega⟩
theorem bAnd32 (x y : Int) : i32 (bAnd x y) := i32_to _
theorem bOr32 (x y : Int) : i32 (bOr x y) := i32_to _
theorem bXor32 (x y : Int) : i32 (bXor x y) := i32_to _
theorem bShl32 (x y : Int) : i32 (bShl x y) := i32_to _
theorem bShr32 (x y : Int) : i32 (bShr x y) := i32_to _
theorem bUshr32 (x y : Int) : i32 (bUshr x y) := i32_to _
/-- bits of those below n of which p holds -/
def bitN (p : Nat → Bool) (n : Nat) : Int := itN (fun k v => if p k then bOr v (bShl 1 (k : Int)) else v) 0 n
theorem bitN_t {p : Nat → Bool} {k : Nat} (h : p k = true) : bitN p (k + 1) = bOr (bitN p k) (bShl 1 (k : Int)) := if_pos h
theorem bitN_f {p : Nat → Bool} {k : Nat} (h : p k = false) : bitN p (k + 1) = bitN p k := if_neg (by rw [h]; decide)
theorem bitN32 (p : Nat → Bool) : ∀ n, i32 (bitN p n)
  | 0 => ⟨(by decide : (-2147483648 : Int) ≤ 0), (by decide : (0 : Int) < 2147483648)⟩
  | k + 1 => by
    cases hp : p k
    · rw [bitN_f hp]; exact bitN32 p k
    · rw [bitN_t hp]; exact bOr32 _ _
/-- one of those below n, or -1 -/
def selN (p : Nat → Int → Bool) (n : Nat) : Int := itN (fun k v => if p k v then (k : Int) else v) (-1) n
theorem selN_t {p : Nat → Int → Bool} {k : Nat} (h : p k (selN p k) = true) : selN p (k + 1) = (k : Int) := if_pos h
theorem selN_f {p : Nat → Int → Bool} {k : Nat} (h : p k (selN p k) = false) : selN p (k + 1) = selN p k := if_neg (by rw [show itN (fun k v => if p k v then (k : Int) else v) (-1) k = selN p k from rfl, h]; decide)
theorem selN_b (p : Nat → Int → Bool) : ∀ n, -1 ≤ selN p n ∧ selN p n < n
  | 0 => ⟨(by decide : (-1 : Int) ≤ -1), (by decide : (-1 : Int) < 0)⟩
  | k + 1 => by
    have h := selN_b p k
    cases hp : p k (selN p k)
    · rw [selN_f hp]; constructor <;> omega
    · rw [selN_t hp]; constructor <;> omega
def ringF (f : Int → Int) (q : Int) : Nat → Int → Int → Int
  | 0, _, _ => 0
  | d + 1, u, b => if u = -1 then 0 else if u = q then bOr b (bShl 1 u) else ringF f q d (f (22 + u)) (bOr b (bShl 1 u))
def chainF (f : Int → Int) : Nat → Int → Int → Int
  | 0, _, _ => -1
  | d + 1, u, k => if u = -1 then k else chainF f d (f (22 + u)) (k + 1)
def roundF (f : Int → Int) : Nat → Int → Int → Int
  | 0, _, b => b
  | d + 1, u, b => roundF f d (f (8 + u)) (bOr b (bShl 1 u))
theorem roundF32 (f : Int → Int) : ∀ (d : Nat) (u b : Int), i32 b → i32 (roundF f d u b)
  | 0, _, _, h => h
  | d + 1, _, _, _ => roundF32 f d _ _ (bOr32 _ _)
def upI (f : Int → Int) (i x : Int) : Int → Int := fun j => if j = i then x else f j
theorem upI_s (f : Int → Int) (i x : Int) : upI f i x i = x := if_pos rfl
theorem upI_n {f : Int → Int} {i j x : Int} (h : j ≠ i) : upI f i x j = f j := if_neg h
/-- nobody of those below k has the packer q any more -/
def disF (f : Int → Int) (q : Int) (k : Nat) : Int → Int := fun i => if 22 ≤ i ∧ i < 22 + (k : Int) ∧ f i = q then -1 else f i
theorem disF_0 (f : Int → Int) (q : Int) : disF f q 0 = f := by
  funext i
  exact if_neg (by omega)
theorem disF_at (f : Int → Int) (q : Int) (k : Nat) : disF f q k (22 + (k : Int)) = f (22 + (k : Int)) := if_neg (by omega)
theorem disF_t {f : Int → Int} {q : Int} {k : Nat} (h : f (22 + (k : Int)) = q) : upI (disF f q k) (22 + (k : Int)) (-1) = disF f q (k + 1) := by
  funext i
  unfold upI disF
  by_cases e : i = 22 + (k : Int)
  · subst e
    rw [if_pos rfl, if_pos ⟨by omega, by omega, h⟩]
  · rw [if_neg e]
    by_cases e2 : 22 ≤ i ∧ i < 22 + (k : Int) ∧ f i = q
    · rw [if_pos e2, if_pos ⟨e2.1, by omega, e2.2.2⟩]
    · rw [if_neg e2, if_neg (fun z => e2 ⟨z.1, by omega, z.2.2⟩)]
theorem disF_f {f : Int → Int} {q : Int} {k : Nat} (h : f (22 + (k : Int)) ≠ q) : disF f q k = disF f q (k + 1) := by
  funext i
  unfold disF
  by_cases e2 : 22 ≤ i ∧ i < 22 + (k : Int) ∧ f i = q
  · rw [if_pos e2, if_pos ⟨e2.1, by omega, e2.2.2⟩]
  · rw [if_neg e2, if_neg (fun z => e2 ⟨z.1, (by
      have h1 := z.1
      have h2 := z.2.1
      by_cases e3 : i = 22 + (k : Int)
      · exact absurd (e3 ▸ z.2.2) h
      · omega), z.2.2⟩)]
/-- what a row of a state keeps to -/
def rW (f : Int → Int) : Prop := (∀ i, 0 ≤ i → i < 77 → -1 ≤ f i ∧ f i ≤ 100000000) ∧ ∀ p, 0 ≤ p → p < 7 → (0 ≤ f (1 + p) ∧ f (1 + p) ≤ 8) ∧ (0 ≤ f (8 + p) ∧ f (8 + p) < 7) ∧ (0 ≤ f (15 + p) ∧ f (15 + p) ≤ 9) ∧ (-1 ≤ f (22 + p) ∧ f (22 + p) < 7)
/-! the heap's own laws -/
theorem sA_F (h : HP) (a : Nat) (i x : Int) : sA h a i x = sF h a (upI (hA h a) i x) := by
  unfold sA sF upI hA
  congr 2
  funext a' i'
  by_cases q : a' = a
  · subst q
    by_cases q2 : i' = i
    · rw [if_pos ⟨rfl, q2⟩, if_pos rfl, if_pos q2]
    · rw [if_neg (fun z => q2 z.2), if_pos rfl, if_neg q2]
  · rw [if_neg (fun z => q z.1), if_neg q]
theorem sF_F (h : HP) (a : Nat) (f g : Int → Int) : sF (sF h a f) a g = sF h a g := by
  unfold sF
  congr 2
  funext a' i'
  dsimp only
  by_cases q : a' = a
  · rw [if_pos q, if_pos q]
  · rw [if_neg q, if_neg q, if_neg q]
theorem sF_self (h : HP) (a : Nat) : sF h a (hA h a) = h := by
  unfold sF hA
  obtain ⟨h1, h2, h3⟩ := h
  congr 2
  funext a' i'
  by_cases q : a' = a
  · rw [if_pos q, q]
  · rw [if_neg q]
theorem sF_C {h : HP} {a b : Nat} (n : a ≠ b) (f g : Int → Int) : sF (sF h a f) b g = sF (sF h b g) a f := by
  unfold sF
  congr 2
  funext a' i'
  dsimp only
  by_cases q : a' = a
  · rw [if_neg (fun z => n (q.symm.trans z)), if_pos q, if_pos q]
  · by_cases q2 : a' = b
    · rw [if_pos q2, if_neg q, if_pos q2]
    · rw [if_neg q2, if_neg q, if_neg q, if_neg q2]
theorem hA_F (h : HP) (a : Nat) (f : Int → Int) : hA (sF h a f) a = f := by
  funext i
  exact if_pos rfl
theorem hA_Fn {h : HP} {a b : Nat} {f : Int → Int} (n : b ≠ a) : hA (sF h a f) b = hA h b := by
  funext i
  exact if_neg n
theorem hI_F (h : HP) (a : Nat) (f : Int → Int) : hI (sF h a f) = hI h := rfl
theorem hR_F (h : HP) (a : Nat) (f : Int → Int) : hR (sF h a f) = hR h := rfl
theorem hA_I (h : HP) (a k : Nat) (x : Int) : hA (sI h a k x) = hA h := rfl
theorem hR_I (h : HP) (a k : Nat) (x : Int) : hR (sI h a k x) = hR h := rfl
theorem hA_R (h : HP) (a k b : Nat) : hA (sR h a k b) = hA h := rfl
theorem hI_R (h : HP) (a k b : Nat) : hI (sR h a k b) = hI h := rfl
theorem hI_I (h : HP) (a k : Nat) (x : Int) : hI (sI h a k x) a k = x := if_pos ⟨rfl, rfl⟩
theorem hI_In {h : HP} {a b k j : Nat} {x : Int} (n : b ≠ a ∨ j ≠ k) : hI (sI h a k x) b j = hI h b j := if_neg (fun z => by rcases n with q | q; exact q z.1; exact q z.2)
theorem hR_R (h : HP) (a k b : Nat) : hR (sR h a k b) a k = b := if_pos ⟨rfl, rfl⟩
theorem hR_Rn {h : HP} {a b k j x : Nat} (n : b ≠ a ∨ j ≠ k) : hR (sR h a k x) b j = hR h b j := if_neg (fun z => by rcases n with q | q; exact q z.1; exact q z.2)
theorem sA_fx {g h : HP} {a : Nat} {i x : Int} (e : g = sA h a i x) : hA g a = upI (hA h a) i x ∧ (∀ b, b ≠ a → hA g b = hA h b) ∧ hI g = hI h ∧ hR g = hR h := by
  subst e
  rw [sA_F]
  exact ⟨hA_F _ _ _, fun b hb => hA_Fn hb, rfl, rfl⟩
theorem sF_fx {g h : HP} {a : Nat} {f : Int → Int} (e : g = sF h a f) : hA g a = f ∧ (∀ b, b ≠ a → hA g b = hA h b) ∧ hI g = hI h ∧ hR g = hR h := by
  subst e
  exact ⟨hA_F _ _ _, fun b hb => hA_Fn hb, rfl, rfl⟩
theorem sI_fx {g h : HP} {a k : Nat} {x : Int} (e : g = sI h a k x) : hI g a k = x ∧ (∀ b j, (b ≠ a ∨ j ≠ k) → hI g b j = hI h b j) ∧ hA g = hA h ∧ hR g = hR h := by
  subst e
  exact ⟨hI_I _ _ _ _, fun b j hb => hI_In hb, rfl, rfl⟩
theorem sR_fx {g h : HP} {a k x : Nat} (e : g = sR h a k x) : hR g a k = x ∧ (∀ b j, (b ≠ a ∨ j ≠ k) → hR g b j = hR h b j) ∧ hA g = hA h ∧ hI g = hI h := by
  subst e
  exact ⟨hR_R _ _ _ _, fun b j hb => hR_Rn hb, rfl, rfl⟩
theorem sI_F (h : HP) (a b k : Nat) (x : Int) (f : Int → Int) : sI (sF h a f) b k x = sF (sI h b k x) a f := rfl

