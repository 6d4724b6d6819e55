def bI8 (x : Int) : Int := (Int32.ofInt x).toInt8.toInt32.toInt
def i64 (x : Int) : Prop := -9223372036854775808 ≤ x ∧ x < 9223372036854775808
theorem oL_to {x : Int} (h : i64 x) : (Int64.ofInt x).toInt = x := by
  rw [Int64.toInt_ofInt]
  show x.bmod (2 ^ 64) = x
  have h1 := h.1
  have h2 := h.2
  exact Int.bmod_eq_of_le (by omega) (by omega)
theorem i2l_eq {x : Int} (h : i32 x) : (Int32.ofInt x).toInt64 = Int64.ofInt x := by
  rw [← Int64.toInt_inj, Int32.toInt_toInt64, oI_to h, oL_to ⟨by have := h.1; omega, by have := h.2; omega⟩]
theorem sh5_eq (x : Int) : Int64.ofInt x <<< ((Int32.ofInt 5).toInt64 &&& 63) = Int64.ofInt (x * 32) := by
  rw [show (Int32.ofInt 5).toInt64 &&& 63 = 5 by decide, Int64.ofInt_mul, ← Int64.toBitVec_inj]
  rw [Int64.toBitVec_mul, Int64.toBitVec_shiftLeft]
  show (Int64.ofInt x).toBitVec <<< (BitVec.smod (5 : Int64).toBitVec 64) = _
  rw [show BitVec.smod (5 : Int64).toBitVec 64 = 5#64 by decide, BitVec.shiftLeft_eq', show (5#64).toNat = 5 by decide, BitVec.shiftLeft_eq_mul_twoPow]
  congr 1
theorem lor_eq {a y : Int} (ha : 0 ≤ a ∧ a < 100000000000) (hy : 0 ≤ y ∧ y < 32) : Int64.ofInt (a * 32) ||| Int64.ofInt y = Int64.ofInt (a * 32 + y) := by
  obtain ⟨n, rfl⟩ := Int.eq_ofNat_of_zero_le ha.1
  obtain ⟨m, rfl⟩ := Int.eq_ofNat_of_zero_le hy.1
  have h1 : n < 100000000000 := by omega
  have h2 : m < 32 := by omega
  rw [← Int64.toBitVec_inj, Int64.toBitVec_or]
  show BitVec.ofInt 64 _ ||| BitVec.ofInt 64 _ = BitVec.ofInt 64 _
  rw [show ((n : Int) * 32) = ((n * 32 : Nat) : Int) by omega, show (((n * 32 : Nat) : Int) + (m : Int)) = ((n * 32 + m : Nat) : Int) by omega, BitVec.ofInt_natCast, BitVec.ofInt_natCast, BitVec.ofInt_natCast]
  apply BitVec.eq_of_toNat_eq
  rw [BitVec.toNat_or, BitVec.toNat_ofNat, BitVec.toNat_ofNat, BitVec.toNat_ofNat, Nat.mod_eq_of_lt (by omega), Nat.mod_eq_of_lt (by omega), Nat.mod_eq_of_lt (by omega)]
  have := Nat.shiftLeft_add_eq_or_of_lt (i := 5) (b := m) h2 n
  rw [Nat.shiftLeft_eq] at this
  exact this.symm
def cmpL (x y : Int) : Int := if y < x then 1 else if x = y then 0 else -1
theorem cmpL_eq {x y : Int} (hx : i64 x) (hy : i64 y) : (if Int64.ofInt x > Int64.ofInt y then (1 : Int32) else if Int64.ofInt x == Int64.ofInt y then 0 else -1) = Int32.ofInt (cmpL x y) := by
  have e1 : Int64.ofInt x > Int64.ofInt y ↔ y < x := by
    show Int64.ofInt y < Int64.ofInt x ↔ _
    rw [Int64.lt_iff_toInt_lt, oL_to hx, oL_to hy]
  have e2 : (Int64.ofInt x == Int64.ofInt y) = decide (x = y) := by
    by_cases z : x = y
    · rw [z]; simp
    · rw [decide_eq_false z, beq_eq_false_iff_ne]
      intro w
      have := congrArg Int64.toInt w
      rw [oL_to hx, oL_to hy] at this
      exact z this
  unfold cmpL
  rw [e2]
  by_cases z : y < x
  · rw [if_pos (e1.mpr z), if_pos z]; rfl
  · rw [if_neg (fun w => z (e1.mp w)), if_neg z]
    by_cases w : x = y
    · rw [if_pos w, decide_eq_true w]; rfl
    · rw [if_neg w, decide_eq_false w]; rfl
section KL
variable {M : MI} {G : CT → Prop} {Z : CT → State → Prop} {nc ns pc : Nat} {ls : List (Nat × AV)} {st : List AV} {h : HP}
theorem K_i2b {x : Int} (hd : decode (mB M) pc = .ok (.i2b, 1)) (k : K M G Z nc ns (pc + 1) ls (vi (bI8 x) :: st) h) : K M G Z nc ns pc ls (vi x :: st) h := by
  intro p l e s m args below meth c D C as ad av H locs lsA cx hG hP hS hl
  obtain ⟨hx, hb, hml, hr, hlk, hown, hts, hK, hj⟩ := id cx
  refine lv_i2b hx hb hd rfl ?_
  have h9 := k p l e s m args below meth c D C as ad av H locs lsA cx hG hP hS hl
  simp only [List.map_cons, cv, bI8, Int32.ofInt_toInt] at h9
  exact h9

theorem K_lconst0 (hd : decode (mB M) pc = .ok (.lconst 0, 1)) (k : K M G Z nc ns (pc + 1) ls (vl 0 :: st) h) : K M G Z nc ns pc ls st h := by
  intro p l e s m args below meth c D C as ad av H locs lsA cx hG hP hS hl
  obtain ⟨hx, hb, hml, hr, hlk, hown, hts, hK, hj⟩ := id cx
  exact lv_lconst hx hb hd rfl (k p l e s m args below meth c D C as ad av H locs lsA cx hG hP hS hl)

theorem K_lconst1 (hd : decode (mB M) pc = .ok (.lconst 1, 1)) (k : K M G Z nc ns (pc + 1) ls (vl 1 :: st) h) : K M G Z nc ns pc ls st h := by
  intro p l e s m args below meth c D C as ad av H locs lsA cx hG hP hS hl
  obtain ⟨hx, hb, hml, hr, hlk, hown, hts, hK, hj⟩ := id cx
  exact lv_lconst hx hb hd rfl (k p l e s m args below meth c D C as ad av H locs lsA cx hG hP hS hl)

theorem K_i2l {x : Int} (hd : decode (mB M) pc = .ok (.i2l, 1)) (hx0 : i32 x) (k : K M G Z nc ns (pc + 1) ls (vl x :: st) h) : K M G Z nc ns pc ls (vi x :: st) h := by
  intro p l e s m args below meth c D C as ad av H locs lsA cx hG hP hS hl
  obtain ⟨hx, hb, hml, hr, hlk, hown, hts, hK, hj⟩ := id cx
  exact lv_i2l hx hb hd (i2l_eq hx0) (k p l e s m args below meth c D C as ad av H locs lsA cx hG hP hS hl)

theorem K_lsub {x y : Int} (hd : decode (mB M) pc = .ok (.lsub, 1)) (k : K M G Z nc ns (pc + 1) ls (vl (x - y) :: st) h) : K M G Z nc ns pc ls (vl y :: vl x :: st) h := by
  intro p l e s m args below meth c D C as ad av H locs lsA cx hG hP hS hl
  obtain ⟨hx, hb, hml, hr, hlk, hown, hts, hK, hj⟩ := id cx
  refine lv_lsub hx hb hd ?_
  rw [← Int64.ofInt_sub]
  exact k p l e s m args below meth c D C as ad av H locs lsA cx hG hP hS hl

theorem K_lsh5 {x : Int} (hd : decode (mB M) pc = .ok (.lshl, 1)) (k : K M G Z nc ns (pc + 1) ls (vl (x * 32) :: st) h) : K M G Z nc ns pc ls (vi 5 :: vl x :: st) h := by
  intro p l e s m args below meth c D C as ad av H locs lsA cx hG hP hS hl
  obtain ⟨hx, hb, hml, hr, hlk, hown, hts, hK, hj⟩ := id cx
  exact lv_lshl hx hb hd (sh5_eq x) (k p l e s m args below meth c D C as ad av H locs lsA cx hG hP hS hl)

theorem K_lor {x y : Int} (hd : decode (mB M) pc = .ok (.lor, 1)) (ha : 0 ≤ x ∧ x < 100000000000) (hy : 0 ≤ y ∧ y < 32) (k : K M G Z nc ns (pc + 1) ls (vl (x * 32 + y) :: st) h) : K M G Z nc ns pc ls (vl y :: vl (x * 32) :: st) h := by
  intro p l e s m args below meth c D C as ad av H locs lsA cx hG hP hS hl
  obtain ⟨hx, hb, hml, hr, hlk, hown, hts, hK, hj⟩ := id cx
  refine lv_lor hx hb hd ?_
  rw [lor_eq ha hy]
  exact k p l e s m args below meth c D C as ad av H locs lsA cx hG hP hS hl

theorem K_ldc2 {ix : Nat} {n : Int} {v : Int64} (hd : decode (mB M) pc = .ok (.ldc2_w ix, 3)) (hw : Jvm.Cond.constantLong (mY M).cls ix v ∈ gw) (hv : v = Int64.ofInt n) (k : K M G Z nc ns (pc + 3) ls (vl n :: st) h) : K M G Z nc ns pc ls st h := by
  intro p l e s m args below meth c D C as ad av H locs lsA cx hG hP hS hl
  obtain ⟨hx, hb, hml, hr, hlk, hown, hts, hK, hj⟩ := id cx
  subst hv
  exact lv_ldc2 hx hb hown (hts _ hw) hd (k p l e s m args below meth c D C as ad av H locs lsA cx hG hP hS hl)

theorem lv_lcmp {p : Program} {l : Launch} {e : Env} {R : Room} {s : State} {m : MethodId} {args : Array Value} {below : List Frame} {meth : Method} {c : Code} {H : Heap} {locs : List Loc} {cells slots : Nat} {Q : State → Prop} {cc : ByteArray} {lsA : Array Slot} {rest : List Value} (hexec : p.tables.exec = Jvm.exec) (hb : c.code = cc) {x y : Int64} {v : Int32} (hdg : decode cc pc = .ok (.lcmp, 1)) (hv : (if x > y then (1 : Int32) else if x == y then 0 else -1) = v)
    (k : W p l e R s m args below meth c H locs cells slots Q (F0 m (pc + 1) lsA (.int v :: rest))) : W p l e R s m args below meth c H locs cells slots Q (F0 m pc lsA (.long y :: .long x :: rest)) := by
  intro T hT X
  obtain ⟨t, a, b⟩ := k T hT X
  refine ⟨t, ?_, b⟩
  rw [← hv] at a
  jvm_step X.here [X.here.top, hexec, hb, hdg]
  by_cases h1 : x > y
  · simp only [h1, if_true] at a ⊢; exact a
  · by_cases h2 : x = y
    · simp [h2] at a ⊢; exact a
    · simp [h1, h2] at a ⊢; exact a
theorem K_lcmp {x y : Int} (hd : decode (mB M) pc = .ok (.lcmp, 1)) (hx0 : i64 x) (hy0 : i64 y) (k : K M G Z nc ns (pc + 1) ls (vi (cmpL x y) :: st) h) : K M G Z nc ns pc ls (vl y :: vl x :: st) h := by
  intro p l e s m args below meth c D C as ad av H locs lsA cx hG hP hS hl
  obtain ⟨hx, hb, hml, hr, hlk, hown, hts, hK, hj⟩ := id cx
  exact lv_lcmp hx hb hd (cmpL_eq hx0 hy0) (k p l e s m args below meth c D C as ad av H locs lsA cx hG hP hS hl)

end KL
theorem wK2_X12_151 : Jvm.Cond.constantLong RX12 151 96 ∈ gw := gw_at 1804 (by decide +kernel) (by decide +kernel)
/-! a byte, with its sign -/
theorem i8_key (b : BitVec 32) (s : Nat) (hs : s ≤ 24) : ((b >>> s).setWidth 8).toInt = sb ((b.sshiftRight s &&& 255#32).toInt) := by
  have m : ∀ i : Fin 32, (255#32).getLsbD i.val = decide (i.val < 8) := by decide
  have e : b.sshiftRight s &&& 255#32 = ((b >>> s).setWidth 8).setWidth 32 := by
    apply BitVec.eq_of_getLsbD_eq
    intro i hi
    rw [BitVec.getLsbD_and, BitVec.getLsbD_sshiftRight, m ⟨i, hi⟩, BitVec.getLsbD_setWidth, BitVec.getLsbD_setWidth, BitVec.getLsbD_ushiftRight]
    by_cases z : i < 8
    · have : s + i < 32 := by omega
      simp [z, hi, this]
    · simp [z]
  have n : (b.sshiftRight s &&& 255#32).toNat = ((b >>> s).setWidth 8).toNat := by
    rw [e, BitVec.toNat_setWidth]
    have := ((b >>> s).setWidth 8).isLt
    exact Nat.mod_eq_of_lt (by omega)
  have lt := ((b >>> s).setWidth 8).isLt
  rw [BitVec.toInt_eq_toNat_cond, BitVec.toInt_eq_toNat_cond, n]
  rw [show (if 2 * ((b >>> s).setWidth 8).toNat < 2 ^ 32 then ((((b >>> s).setWidth 8).toNat : Nat) : Int) else ((((b >>> s).setWidth 8).toNat : Nat) : Int) - ((2 ^ 32 : Nat) : Int)) = ((((b >>> s).setWidth 8).toNat : Nat) : Int) from if_pos (by omega)]
  unfold sb
  by_cases z : ((b >>> s).setWidth 8).toNat < 128
  · rw [if_pos (by omega), if_pos (by omega)]
  · rw [if_neg (by omega), if_neg (by omega)]
    omega
theorem by_24 (v : Int) : bI8 (bUshr v 24) = sb (bAnd (bShr v 24) 255) := by
  unfold bI8 bUshr bAnd bShr
  rw [Int32.ofInt_toInt, Int32.ofInt_toInt, Int8.toInt_toInt32]
  have l : ((Int32.ofInt v).toUInt32 >>> ((Int32.ofInt 24).toUInt32 &&& Int32.toUInt32 31)).toInt32.toInt8.toBitVec = ((Int32.ofInt v).toBitVec >>> 24).setWidth 8 := by
    rw [show (Int32.ofInt 24).toUInt32 &&& Int32.toUInt32 31 = 24 by decide]; exact BitVec.signExtend_eq_setWidth_of_le ((Int32.ofInt v).toBitVec >>> 24) (by decide)
  have r : (Int32.ofInt v >>> (Int32.ofInt 24 &&& 31) &&& Int32.ofInt 255).toBitVec = (Int32.ofInt v).toBitVec.sshiftRight 24 &&& 255#32 := by
    rw [show Int32.ofInt 24 &&& 31 = 24 by decide]; rfl
  show (((Int32.ofInt v).toUInt32 >>> ((Int32.ofInt 24).toUInt32 &&& Int32.toUInt32 31)).toInt32.toInt8.toBitVec).toInt = sb ((Int32.ofInt v >>> (Int32.ofInt 24 &&& 31) &&& Int32.ofInt 255).toBitVec).toInt
  rw [l, r]
  exact i8_key (Int32.ofInt v).toBitVec 24 (by omega)
theorem by_16 (v : Int) : bI8 (bUshr v 16) = sb (bAnd (bShr v 16) 255) := by
  unfold bI8 bUshr bAnd bShr
  rw [Int32.ofInt_toInt, Int32.ofInt_toInt, Int8.toInt_toInt32]
  have l : ((Int32.ofInt v).toUInt32 >>> ((Int32.ofInt 16).toUInt32 &&& Int32.toUInt32 31)).toInt32.toInt8.toBitVec = ((Int32.ofInt v).toBitVec >>> 16).setWidth 8 := by
    rw [show (Int32.ofInt 16).toUInt32 &&& Int32.toUInt32 31 = 16 by decide]; exact BitVec.signExtend_eq_setWidth_of_le ((Int32.ofInt v).toBitVec >>> 16) (by decide)
  have r : (Int32.ofInt v >>> (Int32.ofInt 16 &&& 31) &&& Int32.ofInt 255).toBitVec = (Int32.ofInt v).toBitVec.sshiftRight 16 &&& 255#32 := by
    rw [show Int32.ofInt 16 &&& 31 = 16 by decide]; rfl
  show (((Int32.ofInt v).toUInt32 >>> ((Int32.ofInt 16).toUInt32 &&& Int32.toUInt32 31)).toInt32.toInt8.toBitVec).toInt = sb ((Int32.ofInt v >>> (Int32.ofInt 16 &&& 31) &&& Int32.ofInt 255).toBitVec).toInt
  rw [l, r]
  exact i8_key (Int32.ofInt v).toBitVec 16 (by omega)
theorem by_8 (v : Int) : bI8 (bUshr v 8) = sb (bAnd (bShr v 8) 255) := by
  unfold bI8 bUshr bAnd bShr
  rw [Int32.ofInt_toInt, Int32.ofInt_toInt, Int8.toInt_toInt32]
  have l : ((Int32.ofInt v).toUInt32 >>> ((Int32.ofInt 8).toUInt32 &&& Int32.toUInt32 31)).toInt32.toInt8.toBitVec = ((Int32.ofInt v).toBitVec >>> 8).setWidth 8 := by
    rw [show (Int32.ofInt 8).toUInt32 &&& Int32.toUInt32 31 = 8 by decide]; exact BitVec.signExtend_eq_setWidth_of_le ((Int32.ofInt v).toBitVec >>> 8) (by decide)
  have r : (Int32.ofInt v >>> (Int32.ofInt 8 &&& 31) &&& Int32.ofInt 255).toBitVec = (Int32.ofInt v).toBitVec.sshiftRight 8 &&& 255#32 := by
    rw [show Int32.ofInt 8 &&& 31 = 8 by decide]; rfl
  show (((Int32.ofInt v).toUInt32 >>> ((Int32.ofInt 8).toUInt32 &&& Int32.toUInt32 31)).toInt32.toInt8.toBitVec).toInt = sb ((Int32.ofInt v >>> (Int32.ofInt 8 &&& 31) &&& Int32.ofInt 255).toBitVec).toInt
  rw [l, r]
  exact i8_key (Int32.ofInt v).toBitVec 8 (by omega)
theorem by_0 (v : Int) : bI8 (bUshr v 0) = sb (bAnd (bShr v 0) 255) := by
  unfold bI8 bUshr bAnd bShr
  rw [Int32.ofInt_toInt, Int32.ofInt_toInt, Int8.toInt_toInt32]
  have l : ((Int32.ofInt v).toUInt32 >>> ((Int32.ofInt 0).toUInt32 &&& Int32.toUInt32 31)).toInt32.toInt8.toBitVec = ((Int32.ofInt v).toBitVec >>> 0).setWidth 8 := by
    rw [show (Int32.ofInt 0).toUInt32 &&& Int32.toUInt32 31 = 0 by decide]; exact BitVec.signExtend_eq_setWidth_of_le ((Int32.ofInt v).toBitVec >>> 0) (by decide)
  have r : (Int32.ofInt v >>> (Int32.ofInt 0 &&& 31) &&& Int32.ofInt 255).toBitVec = (Int32.ofInt v).toBitVec.sshiftRight 0 &&& 255#32 := by
    rw [show Int32.ofInt 0 &&& 31 = 0 by decide]; rfl
  show (((Int32.ofInt v).toUInt32 >>> ((Int32.ofInt 0).toUInt32 &&& Int32.toUInt32 31)).toInt32.toInt8.toBitVec).toInt = sb ((Int32.ofInt v >>> (Int32.ofInt 0 &&& 31) &&& Int32.ofInt 255).toBitVec).toInt
  rw [l, r]
  exact i8_key (Int32.ofInt v).toBitVec 0 (by omega)
theorem b255 (x : Int) : 0 ≤ bAnd x 255 ∧ bAnd x 255 < 256 := by
  unfold bAnd
  have e : (Int32.ofInt x &&& Int32.ofInt 255).toBitVec = (Int32.ofInt x).toBitVec &&& 255#32 := rfl
  have n : ((Int32.ofInt x).toBitVec &&& 255#32).toNat ≤ 255 := by
    rw [BitVec.toNat_and]
    exact Nat.le_trans Nat.and_le_right (by decide)
  show 0 ≤ (Int32.ofInt x &&& Int32.ofInt 255).toBitVec.toInt ∧ (Int32.ofInt x &&& Int32.ofInt 255).toBitVec.toInt < 256
  rw [e, BitVec.toInt_eq_toNat_cond, if_pos (by omega)]
  omega
