def PW (h0 h : HP) (w t : Nat) (f tr : Int → Int) (em : Int) : Prop := WK h0 h w t ∧ hA h (w + 1 + 1) = f ∧ hA h (w + 4) = tr ∧ hI h w 6 = em
def mX10_leavesOn : MI := (yX10_leavesOn, cX10_leavesOn, 2, (some .boolean), rmK 1 0)
def tX10_leavesOn : List (Nat × Instr × Nat) := [(0, .iload_n 0, 1), (1, .ifCond .le 13, 3), (4, .iload_n 1, 1), (5, .iload_n 0, 1), (6, .irem, 1), (7, .ifCond .ne 7, 3), (10, .iconst 1, 1), (11, .goto 4, 3), (14, .iconst 0, 1), (15, .ireturn, 1)]
theorem dtX10_leavesOn : tX10_leavesOn.all (fun q => decide (decode cX10_leavesOn q.1 = .ok (q.2.1, q.2.2))) = true := by decide +kernel
theorem npX10_leavesOn : (parseMethodDescriptor (mY mX10_leavesOn).desc).map (fun d => d.parameters.length) = some 2 := by decide +kernel
theorem vX10_leavesOn : mS mX10_leavesOn := ⟨wT_X10_leavesOn, wN_X10, wC_X10_leavesOn, by decide +kernel, by decide +kernel⟩
theorem tm32 {x y : Int} (h0 : 0 ≤ y) (h : 2 ≤ x ∧ x ≤ 9 ∧ y ≤ 100000) : i32 (y.tmod x) := by
  rw [Int.tmod_eq_emod_of_nonneg h0]
  have h1 := Int.emod_nonneg y (show x ≠ 0 by omega)
  have h2 := Int.emod_lt_of_pos y (show 0 < x by omega)
  exact ⟨by omega, by omega⟩
set_option maxHeartbeats 4000000 in
set_option maxRecDepth 100000 in
theorem sX10_leavesOn {h : HP} {x y : Int} (hx : 2 ≤ x ∧ x ≤ 9) (hy : 0 ≤ y ∧ y ≤ 100000) : SpecK mX10_leavesOn [vi x, vi y] h (fun o h' => o = .inl (some (vi (if y.tmod x = 0 then 1 else 0))) ∧ h' = h) := by
  refine Spec_of (by decide +kernel) (Nat.le_of_ble_eq_true rfl) ?_
  refine K_iload_n (dt_at dtX10_leavesOn 0 rfl) rfl rfl ?_
  refine K_if_le (tgt := 14) (dt_at dtX10_leavesOn 1 rfl) (by decide) (by first | assumption | exact ⟨by omega, by omega⟩) (fun c1 => absurd c1 (by omega)) (fun c1 => ?_)
  refine K_iload_n (dt_at dtX10_leavesOn 2 rfl) rfl rfl ?_
  refine K_iload_n (dt_at dtX10_leavesOn 3 rfl) rfl rfl ?_
  refine K_irem (dt_at dtX10_leavesOn 4 rfl) (by first | assumption | exact ⟨by omega, by omega⟩) (by first | assumption | exact ⟨by omega, by omega⟩) (by omega) ?_
  refine K_if_ne (tgt := 14) (dt_at dtX10_leavesOn 5 rfl) (by decide) (tm32 hy.1 (by omega)) (fun c2 => ?_) (fun c2 => ?_)
  · refine K_iconst (dt_at dtX10_leavesOn 8 rfl) ?_
    exact K_iret (dt_at dtX10_leavesOn 9 rfl) rfl (by decide) (by decide) (by decide) ⟨by rw [if_neg (by assumption)], rfl⟩
  · refine K_iconst (dt_at dtX10_leavesOn 6 rfl) ?_
    refine K_goto (tgt := 15) (dt_at dtX10_leavesOn 7 rfl) (by decide) ?_
    exact K_iret (dt_at dtX10_leavesOn 9 rfl) rfl (by decide) (by decide) (by decide) ⟨by rw [if_pos (by assumption)], rfl⟩
theorem bit_t {b : Bool} (h : b = true) : (if b then (1 : Int) else 0) = 1 := if_pos h
theorem bit_f {b : Bool} (h : b = false) : (if b then (1 : Int) else 0) = 0 := if_neg (by rw [h]; decide)
def mX10_isPackerIn : MI := (yX10_isPackerIn, cX10_isPackerIn, 3, (some .boolean), rmK 2 0)
def tX10_isPackerIn : List (Nat × Instr × Nat) := [(0, .aload_n 0, 1), (1, .getfield 12, 3), (4, .iload_n 1, 1), (5, .invokevirtual 87, 3), (8, .istore_n 2, 1), (9, .iload_n 2, 1), (10, .iconst (-1), 1), (11, .if_icmp .eq 18, 3), (14, .aload_n 0, 1), (15, .getfield 12, 3), (18, .iload_n 2, 1), (19, .invokevirtual 56, 3), (22, .ifCond .eq 7, 3), (25, .iconst 1, 1), (26, .goto 4, 3), (29, .iconst 0, 1), (30, .ireturn, 1)]
theorem dtX10_isPackerIn : tX10_isPackerIn.all (fun q => decide (decode cX10_isPackerIn q.1 = .ok (q.2.1, q.2.2))) = true := by decide +kernel
theorem npX10_isPackerIn : (parseMethodDescriptor (mY mX10_isPackerIn).desc).map (fun d => d.parameters.length) = some 1 := by decide +kernel
theorem vX10_isPackerIn : mV mX10_isPackerIn := ⟨wI_X10_isPackerIn, wS_X10_isPackerIn, wN_X10, wC_X10_isPackerIn, by decide +kernel, by decide +kernel⟩
set_option maxHeartbeats 4000000 in
set_option maxRecDepth 100000 in
theorem sX10_isPackerIn {h0 h : HP} {w t : Nat} {S : HS} {B : Int} {f tr : Int → Int} {em : Int} {p : Int} (X : WX h0 w t S) (P0 : PW h0 h w t f tr em) (hT : rT B f) (hp : 0 ≤ p ∧ p < sNp S) : SpecK mX10_isPackerIn [vr w, vi p] h (fun o h' => o = .inl (some (vi (if inP f p then 1 else 0))) ∧ PW h0 h' w t f tr em) := by
  refine Spec_of (by decide +kernel) (Nat.le_of_ble_eq_true rfl) ?_
  obtain ⟨hw, ht, hR5, hS, hB⟩ := id X
  obtain ⟨Kw, hf, htr, hem⟩ := id P0
  have hW10 := TTw hw
  have hH := TTt ht
  have hNt := hB.1
  have hNp := hB.2.1
  have w1 := hT.1.2 p (by omega) (by omega)
  have w2 : 0 ≤ f (22 + p) → 0 ≤ f (1 + f (22 + p)) ∧ f (1 + f (22 + p)) ≤ 8 := fun z => (hT.1.2 (f (22 + p)) z (by omega)).1
  refine K_aload_n (dt_at dtX10_isPackerIn 0 rfl) rfl rfl ?_
  refine K_get (a := w) (ci := 10) (k := 0) (v := vr (w + 1)) (dt_at dtX10_isPackerIn 1 rfl) hW10 rfl (by decide) wF_X10_12 rfl ?_
  refine K_iload_n (dt_at dtX10_isPackerIn 2 rfl) rfl rfl ?_
  refine K_callV (M' := mX8_packerOf) (a := (w + 1)) (ci := 8) (As := [vi p]) (st := []) (dt_at dtX10_isPackerIn 3 rfl) (sX8_packerOf (lay_10_0 hW10) ⟨by omega, by omega⟩) (lay_10_0 hW10) rfl wL_X10_87 vX8_packerOf rfl npX8_packerOf (by decide) (by decide) (Nat.le_of_ble_eq_true rfl) (by decide) (by decide) GK_E (fun v9 h9 hq => ?_) (fun E h9 hq => by cases hq.1)
  obtain ⟨e9, e8⟩ := hq
  cases e9
  rw [e8]
  show K mX10_isPackerIn _ _ 0 0 8 [(0, vr w), (1, vi p)] [vi (hA h (w + 1 + 1) (22 + p))] h
  rw [hf]
  refine K_istore_n (ls' := [(2, vi (f (22 + p))), (0, vr w), (1, vi p)]) (dt_at dtX10_isPackerIn 4 rfl) rfl (by decide) rfl ?_
  refine K_iload_n (dt_at dtX10_isPackerIn 5 rfl) rfl rfl ?_
  refine K_iconst (dt_at dtX10_isPackerIn 6 rfl) ?_
  refine K_icmp_eq (tgt := 29) (dt_at dtX10_isPackerIn 7 rfl) (by decide) (by first | assumption | exact ⟨by omega, by omega⟩) (by first | assumption | exact ⟨by omega, by omega⟩) (fun c1 => ?_) (fun c1 => ?_)
  · refine K_iconst (dt_at dtX10_isPackerIn 15 rfl) ?_
    exact K_iret (dt_at dtX10_isPackerIn 16 rfl) rfl (by decide) (by decide) (by decide) ⟨by rw [bit_f (show inP f p = false by unfold inP; simp only [Bool.and_eq_true, Bool.and_eq_false_iff, decide_eq_true_eq, decide_eq_false_iff_not]; omega)], ⟨Kw, hf, htr, hem⟩⟩
  · refine K_aload_n (dt_at dtX10_isPackerIn 8 rfl) rfl rfl ?_
    refine K_get (a := w) (ci := 10) (k := 0) (v := vr (w + 1)) (dt_at dtX10_isPackerIn 9 rfl) hW10 rfl (by decide) wF_X10_12 rfl ?_
    refine K_iload_n (dt_at dtX10_isPackerIn 10 rfl) rfl rfl ?_
    refine K_callV (M' := mX8_isIn) (a := (w + 1)) (ci := 8) (As := [vi (f (22 + p))]) (st := []) (dt_at dtX10_isPackerIn 11 rfl) (sX8_isIn (lay_10_0 hW10) ⟨by omega, by omega⟩ (by rw [hf]; exact ⟨by omega, by omega⟩)) (lay_10_0 hW10) rfl wL_X10_56 vX8_isIn rfl npX8_isIn (by decide) (by decide) (Nat.le_of_ble_eq_true rfl) (by decide) (by decide) GK_E (fun v9 h9 hq => ?_) (fun E h9 hq => by cases hq.1)
    obtain ⟨e9, e8⟩ := hq
    cases e9
    rw [e8]
    show K mX10_isPackerIn _ _ 0 0 22 [(2, vi (f (22 + p))), (0, vr w), (1, vi p)] [vi (if hA h (w + 1 + 1) (1 + (f (22 + p))) = 0 then 1 else 0)] h
    rw [hf]
    by_cases z2 : (f (1 + (f (22 + p)))) = 0
    · rw [if_pos z2]
      refine K_if_eq (tgt := 29) (dt_at dtX10_isPackerIn 12 rfl) (by decide) (by first | assumption | exact ⟨by omega, by omega⟩) (fun c3 => absurd c3 (by omega)) (fun c3 => ?_)
      refine K_iconst (dt_at dtX10_isPackerIn 13 rfl) ?_
      refine K_goto (tgt := 30) (dt_at dtX10_isPackerIn 14 rfl) (by decide) ?_
      exact K_iret (dt_at dtX10_isPackerIn 16 rfl) rfl (by decide) (by decide) (by decide) ⟨by rw [bit_t (show inP f p = true by unfold inP; simp only [Bool.and_eq_true, Bool.and_eq_false_iff, decide_eq_true_eq, decide_eq_false_iff_not]; omega)], ⟨Kw, hf, htr, hem⟩⟩
    · rw [if_neg z2]
      refine K_if_eq (tgt := 29) (dt_at dtX10_isPackerIn 12 rfl) (by decide) (by first | assumption | exact ⟨by omega, by omega⟩) (fun c4 => ?_) (fun c4 => absurd c4 (by omega))
      refine K_iconst (dt_at dtX10_isPackerIn 15 rfl) ?_
      exact K_iret (dt_at dtX10_isPackerIn 16 rfl) rfl (by decide) (by decide) (by decide) ⟨by rw [bit_f (show inP f p = false by unfold inP; simp only [Bool.and_eq_true, Bool.and_eq_false_iff, decide_eq_true_eq, decide_eq_false_iff_not]; omega)], ⟨Kw, hf, htr, hem⟩⟩
def mX10_setValue : MI := (yX10_setValue, cX10_setValue, 3, none, rmK 1 0)
def tX10_setValue : List (Nat × Instr × Nat) := [(0, .aload_n 0, 1), (1, .getfield 20, 3), (4, .iconst (-1), 1), (5, .iload_n 1, 1), (6, .isub, 1), (7, .iload_n 2, 1), (8, .iastore, 1), (9, .return_, 1)]
theorem dtX10_setValue : tX10_setValue.all (fun q => decide (decode cX10_setValue q.1 = .ok (q.2.1, q.2.2))) = true := by decide +kernel
theorem npX10_setValue : (parseMethodDescriptor (mY mX10_setValue).desc).map (fun d => d.parameters.length) = some 2 := by decide +kernel
theorem vX10_setValue : mV mX10_setValue := ⟨wI_X10_setValue, wS_X10_setValue, wN_X10, wC_X10_setValue, by decide +kernel, by decide +kernel⟩
set_option maxHeartbeats 4000000 in
set_option maxRecDepth 100000 in
theorem sX10_setValue {h : HP} {w : Nat} {v x : Int} (hW10 : TT w = (0, 10)) (hv : -8 ≤ v ∧ v ≤ -1) : SpecK mX10_setValue [vr w, vi v, vi x] h (fun o h' => o = .inl (none) ∧ h' = sA h (w + 3) (-1 - v) x) := by
  refine Spec_of (by decide +kernel) (Nat.le_of_ble_eq_true rfl) ?_
  refine K_aload_n (dt_at dtX10_setValue 0 rfl) rfl rfl ?_
  refine K_get (a := w) (ci := 10) (k := 1) (v := vr (w + 3)) (dt_at dtX10_setValue 1 rfl) hW10 rfl (by decide) wF_X10_20 rfl ?_
  refine K_iconst (dt_at dtX10_setValue 2 rfl) ?_
  refine K_iload_n (dt_at dtX10_setValue 3 rfl) rfl rfl ?_
  refine K_isub (dt_at dtX10_setValue 4 rfl) ?_
  refine K_iload_n (dt_at dtX10_setValue 5 rfl) rfl rfl ?_
  refine K_iast (dt_at dtX10_setValue 6 rfl) (lay_10_1 hW10) (by omega) (by omega) ?_
  exact K_vret (dt_at dtX10_setValue 7 rfl) rfl (by decide) (by decide) ⟨rfl, rfl⟩
def mX10_wanted : MI := (yX10_wanted, cX10_wanted, 5, (some .int), rmK 3 0)
def tX10_wanted : List (Nat × Instr × Nat) := [(0, .aload_n 0, 1), (1, .getfield 12, 3), (4, .iload_n 1, 1), (5, .invokevirtual 111, 3), (8, .istore 4, 2), (10, .aload_n 0, 1), (11, .getfield 40, 3), (14, .getfield 166, 3), (17, .invokevirtual 118, 3), (20, .ifCond .ne 23, 3), (23, .aload_n 0, 1), (24, .getfield 40, 3), (27, .getfield 169, 3), (30, .iload_n 2, 1), (31, .iaload, 1), (32, .iload 4, 2), (34, .if_icmp .gt 7, 3), (37, .iconst 1, 1), (38, .goto 4, 3), (41, .iconst 0, 1), (42, .ireturn, 1), (43, .aload_n 0, 1), (44, .iconst (-1), 1), (45, .iload 4, 2), (47, .invokevirtual 121, 3), (50, .aload_n 0, 1), (51, .bipush (-2), 2), (53, .aload_n 0, 1), (54, .getfield 12, 3), (57, .invokevirtual 67, 3), (60, .invokevirtual 121, 3), (63, .aload_n 0, 1), (64, .bipush (-3), 2), (66, .aload_n 0, 1), (67, .getfield 40, 3), (70, .getfield 169, 3), (73, .iload_n 2, 1), (74, .iaload, 1), (75, .invokevirtual 121, 3), (78, .aload_n 0, 1), (79, .bipush (-4), 2), (81, .aload_n 0, 1), (82, .getfield 40, 3), (85, .getfield 151, 3), (88, .iload_n 2, 1), (89, .iaload, 1), (90, .invokevirtual 121, 3), (93, .aload_n 0, 1), (94, .bipush (-5), 2), (96, .aload_n 0, 1), (97, .getfield 12, 3), (100, .iload_n 2, 1), (101, .invokevirtual 158, 3), (104, .invokevirtual 121, 3), (107, .aload_n 0, 1), (108, .bipush (-6), 2), (110, .iload_n 3, 1), (111, .invokevirtual 121, 3), (114, .aload_n 0, 1), (115, .getfield 40, 3), (118, .getfield 166, 3), (121, .aload_n 0, 1), (122, .getfield 20, 3), (125, .invokevirtual 127, 3), (128, .bipush 9, 2), (130, .invokestatic 161, 3), (133, .ireturn, 1)]
theorem dtX10_wanted : tX10_wanted.all (fun q => decide (decode cX10_wanted q.1 = .ok (q.2.1, q.2.2))) = true := by decide +kernel
theorem npX10_wanted : (parseMethodDescriptor (mY mX10_wanted).desc).map (fun d => d.parameters.length) = some 3 := by decide +kernel
theorem vX10_wanted : mV mX10_wanted := ⟨wI_X10_wanted, wS_X10_wanted, wN_X10, wC_X10_wanted, by decide +kernel, by decide +kernel⟩
set_option maxHeartbeats 4000000 in
set_option maxRecDepth 100000 in
theorem sX10_wanted {h0 h : HP} {w t : Nat} {S : HS} {B : Int} {f tr : Int → Int} {em : Int} {p q x : Int} (X : WX h0 w t S) (P0 : PW h0 h w t f tr em) (hT : rT B f) (hp : 0 ≤ p ∧ p < sNp S) (hq0 : 0 ≤ q ∧ q < sNt S) (hx : i32 x) : SpecK mX10_wanted [vr w, vi p, vi q, vi x] h (fun o h' => o = .inl (some (vi (wantF S f p q x))) ∧ PW h0 h' w t f tr em) := by
  refine Spec_of (by decide +kernel) (Nat.le_of_ble_eq_true rfl) ?_
  obtain ⟨hw, ht, hR5, hS, hB⟩ := id X
  obtain ⟨Kw, hf, htr, hem⟩ := id P0
  have hW10 := TTw hw
  have hH := TTt ht
  have hNt := hB.1
  have hNp := hB.2.1
  have w1 := hT.1.2 p (by omega) (by omega)
  have w2 := hB.2.2.1 q (by omega) (by omega)
  have w3 := hT.1.1 (29 + q) (by omega) (by omega)
  have w4 := hT.2.2.2.1
  have w5 := hT.2.2.2.2.1
  have hrl := hS.2.2.1
  cases hpu : sPu S with
  | none =>
    rw [hpu] at hrl
    have r0 := hrl
    refine K_aload_n (dt_at dtX10_wanted 0 rfl) rfl rfl ?_
    refine K_get (a := w) (ci := 10) (k := 0) (v := vr (w + 1)) (dt_at dtX10_wanted 1 rfl) hW10 rfl (by decide) wF_X10_12 rfl ?_
    refine K_iload_n (dt_at dtX10_wanted 2 rfl) rfl rfl ?_
    refine K_callV (M' := mX8_fond) (a := (w + 1)) (ci := 8) (As := [vi p]) (st := []) (dt_at dtX10_wanted 3 rfl) (sX8_fond (lay_10_0 hW10) ⟨by omega, by omega⟩) (lay_10_0 hW10) rfl wL_X10_111 vX8_fond rfl npX8_fond (by decide) (by decide) (Nat.le_of_ble_eq_true rfl) (by decide) (by decide) GK_E (fun v9 h9 hq => ?_) (fun E h9 hq => by cases hq.1)
    obtain ⟨e9, e8⟩ := hq
    cases e9
    rw [e8]
    show K mX10_wanted _ _ 0 0 8 [(0, vr w), (1, vi p), (2, vi q), (3, vi x)] [vi (hA h (w + 1 + 1) (15 + p))] h
    rw [hf]
    refine K_istore (ls' := [(4, vi (f (15 + p))), (0, vr w), (1, vi p), (2, vi q), (3, vi x)]) (dt_at dtX10_wanted 4 rfl) (by decide) rfl ?_
    refine K_aload_n (dt_at dtX10_wanted 5 rfl) rfl rfl ?_
    refine K_get (a := w) (ci := 10) (k := 5) (v := vr t) (dt_at dtX10_wanted 6 rfl) hW10 rfl (by decide) wF_X10_40 (by show vr (hR h w 5) = vr t; rw [Kw.2.2.2, hR5]) ?_
    refine K_get (a := t) (ci := 3) (k := 8) (v := vr (t + 9)) (dt_at dtX10_wanted 7 rfl) hH rfl (by decide) wF_X10_166 rfl ?_
    refine K_callV (M' := mX6_told) (a := (t + 9)) (ci := 6) (As := []) (st := []) (dt_at dtX10_wanted 8 rfl) (sX6_told (lay_3_8 hH) (by rw [Kw.2.2.1 (t + 9) 3 (by omega), r0]; decide)) (lay_3_8 hH) rfl wL_X10_118 vX6_told rfl npX6_told (by decide) (by decide) (Nat.le_of_ble_eq_true rfl) (by decide) (by decide) GK_E (fun v9 h9 hq => ?_) (fun E h9 hq => by cases hq.1)
    obtain ⟨e9, e8⟩ := hq
    cases e9
    rw [e8]
    show K mX10_wanted _ _ 0 0 20 [(4, vi (f (15 + p))), (0, vr w), (1, vi p), (2, vi q), (3, vi x)] [vi (hI h (t + 9) 3)] h
    rw [Kw.2.2.1 (t + 9) 3 (by omega), r0]
    refine K_if_ne (tgt := 43) (dt_at dtX10_wanted 9 rfl) (by decide) (by first | assumption | exact ⟨by omega, by omega⟩) (fun c1 => absurd c1 (by omega)) (fun c1 => ?_)
    refine K_aload_n (dt_at dtX10_wanted 10 rfl) rfl rfl ?_
    refine K_get (a := w) (ci := 10) (k := 5) (v := vr t) (dt_at dtX10_wanted 11 rfl) hW10 rfl (by decide) wF_X10_40 (by show vr (hR h w 5) = vr t; rw [Kw.2.2.2, hR5]) ?_
    refine K_get (a := t) (ci := 3) (k := 1) (v := vr (t + 2)) (dt_at dtX10_wanted 12 rfl) hH rfl (by decide) wF_X10_169 rfl ?_
    refine K_iload_n (dt_at dtX10_wanted 13 rfl) rfl rfl ?_
    refine K_iald (dt_at dtX10_wanted 14 rfl) (lay_3_1 hH) (by omega) (by omega) ?_
    rw [(Kw.1 (t + 2) (by omega) (by omega) (by omega) (by omega) (by omega)), hS.1.2.1]
    refine K_iload (dt_at dtX10_wanted 15 rfl) rfl ?_
    refine K_icmp_gt (tgt := 41) (dt_at dtX10_wanted 16 rfl) (by decide) (by first | assumption | exact ⟨by omega, by omega⟩) (by first | assumption | exact ⟨by omega, by omega⟩) (fun c2 => ?_) (fun c2 => ?_)
    · refine K_iconst (dt_at dtX10_wanted 19 rfl) ?_
      exact K_iret (dt_at dtX10_wanted 20 rfl) rfl rfl (by decide) (by decide) ⟨by rw [show wantF S f p q x = (if f (15 + p) < sU S q then 0 else 1) from by unfold wantF; rw [hpu], if_pos (by omega)], ⟨Kw, hf, htr, hem⟩⟩
    · refine K_iconst (dt_at dtX10_wanted 17 rfl) ?_
      refine K_goto (tgt := 42) (dt_at dtX10_wanted 18 rfl) (by decide) ?_
      exact K_iret (dt_at dtX10_wanted 20 rfl) rfl rfl (by decide) (by decide) ⟨by rw [show wantF S f p q x = (if f (15 + p) < sU S q then 0 else 1) from by unfold wantF; rw [hpu], if_neg (by omega)], ⟨Kw, hf, htr, hem⟩⟩
  | some F =>
    rw [hpu] at hrl
    obtain ⟨r0, n, r2, r3, r4, r5⟩ := hrl
    have hF := hB.2.2.2.2.1 F hpu
    refine K_aload_n (dt_at dtX10_wanted 0 rfl) rfl rfl ?_
    refine K_get (a := w) (ci := 10) (k := 0) (v := vr (w + 1)) (dt_at dtX10_wanted 1 rfl) hW10 rfl (by decide) wF_X10_12 rfl ?_
    refine K_iload_n (dt_at dtX10_wanted 2 rfl) rfl rfl ?_
    refine K_callV (M' := mX8_fond) (a := (w + 1)) (ci := 8) (As := [vi p]) (st := []) (dt_at dtX10_wanted 3 rfl) (sX8_fond (lay_10_0 hW10) ⟨by omega, by omega⟩) (lay_10_0 hW10) rfl wL_X10_111 vX8_fond rfl npX8_fond (by decide) (by decide) (Nat.le_of_ble_eq_true rfl) (by decide) (by decide) GK_E (fun v9 h9 hq => ?_) (fun E h9 hq => by cases hq.1)
    obtain ⟨e9, e8⟩ := hq
    cases e9
    rw [e8]
    show K mX10_wanted _ _ 0 0 8 [(0, vr w), (1, vi p), (2, vi q), (3, vi x)] [vi (hA h (w + 1 + 1) (15 + p))] h
    rw [hf]
    refine K_istore (ls' := [(4, vi (f (15 + p))), (0, vr w), (1, vi p), (2, vi q), (3, vi x)]) (dt_at dtX10_wanted 4 rfl) (by decide) rfl ?_
    refine K_aload_n (dt_at dtX10_wanted 5 rfl) rfl rfl ?_
    refine K_get (a := w) (ci := 10) (k := 5) (v := vr t) (dt_at dtX10_wanted 6 rfl) hW10 rfl (by decide) wF_X10_40 (by show vr (hR h w 5) = vr t; rw [Kw.2.2.2, hR5]) ?_
    refine K_get (a := t) (ci := 3) (k := 8) (v := vr (t + 9)) (dt_at dtX10_wanted 7 rfl) hH rfl (by decide) wF_X10_166 rfl ?_
    refine K_callV (M' := mX6_told) (a := (t + 9)) (ci := 6) (As := []) (st := []) (dt_at dtX10_wanted 8 rfl) (sX6_told (lay_3_8 hH) (by rw [Kw.2.2.1 (t + 9) 3 (by omega), r0]; decide)) (lay_3_8 hH) rfl wL_X10_118 vX6_told rfl npX6_told (by decide) (by decide) (Nat.le_of_ble_eq_true rfl) (by decide) (by decide) GK_E (fun v9 h9 hq => ?_) (fun E h9 hq => by cases hq.1)
    obtain ⟨e9, e8⟩ := hq
    cases e9
    rw [e8]
    show K mX10_wanted _ _ 0 0 20 [(4, vi (f (15 + p))), (0, vr w), (1, vi p), (2, vi q), (3, vi x)] [vi (hI h (t + 9) 3)] h
    rw [Kw.2.2.1 (t + 9) 3 (by omega), r0]
    refine K_if_ne (tgt := 43) (dt_at dtX10_wanted 9 rfl) (by decide) (by first | assumption | exact ⟨by omega, by omega⟩) (fun c1 => ?_) (fun c1 => absurd c1 (by omega))
    refine K_aload_n (dt_at dtX10_wanted 21 rfl) rfl rfl ?_
    refine K_iconst (dt_at dtX10_wanted 22 rfl) ?_
    refine K_iload (dt_at dtX10_wanted 23 rfl) rfl ?_
    refine K_callV (M' := mX10_setValue) (a := w) (ci := 10) (As := [vi (-1), vi (f (15 + p))]) (st := []) (dt_at dtX10_wanted 24 rfl) (sX10_setValue hW10 ⟨by omega, by omega⟩) hW10 rfl wL_X10_121 vX10_setValue rfl npX10_setValue (by decide) (by decide) (Nat.le_of_ble_eq_true rfl) (by decide) (by decide) GK_E (fun v9 hc1 hq => ?_) (fun E h9 hq => by cases hq.1)
    have hqq2 := hq
    obtain ⟨e9q2, e8q2⟩ := hqq2
    obtain ⟨avq2, frq2, hiq2, hrq2⟩ := sA_fx e8q2
    have Kwq2 := WK_V X Kw e8q2 (by first | assumption | exact ⟨by omega, by omega⟩)
    have hfq2 : hA hc1 (w + 1 + 1) = f := by rw [frq2 _ (by omega)]; exact hf
    have htrq2 : hA hc1 (w + 4) = tr := by rw [frq2 _ (by omega)]; exact htr
    have hemq2 : hI hc1 w 6 = em := by rw [hiq2]; exact hem
    cases e9q2
    show K mX10_wanted _ _ 0 0 50 [(4, vi (f (15 + p))), (0, vr w), (1, vi p), (2, vi q), (3, vi x)] [] hc1
    refine K_aload_n (dt_at dtX10_wanted 25 rfl) rfl rfl ?_
    refine K_bipush (dt_at dtX10_wanted 26 rfl) (by decide) ?_
    refine K_aload_n (dt_at dtX10_wanted 27 rfl) rfl rfl ?_
    refine K_get (a := w) (ci := 10) (k := 0) (v := vr (w + 1)) (dt_at dtX10_wanted 28 rfl) hW10 rfl (by decide) wF_X10_12 rfl ?_
    refine K_callV (M' := mX8_day) (a := (w + 1)) (ci := 8) (As := []) (st := [vi (-2), vr w]) (dt_at dtX10_wanted 29 rfl) (sX8_day (lay_10_0 hW10)) (lay_10_0 hW10) rfl wL_X10_67 vX8_day rfl npX8_day (by decide) (by decide) (Nat.le_of_ble_eq_true rfl) (by decide) (by decide) GK_E (fun v9 h9 hq => ?_) (fun E h9 hq => by cases hq.1)
    obtain ⟨e9, e8⟩ := hq
    cases e9
    rw [e8]
    show K mX10_wanted _ _ 0 0 60 [(4, vi (f (15 + p))), (0, vr w), (1, vi p), (2, vi q), (3, vi x)] [vi (hA hc1 (w + 1 + 1) 0), vi (-2), vr w] hc1
    rw [hfq2]
    refine K_callV (M' := mX10_setValue) (a := w) (ci := 10) (As := [vi (-2), vi (f 0)]) (st := []) (dt_at dtX10_wanted 30 rfl) (sX10_setValue hW10 ⟨by omega, by omega⟩) hW10 rfl wL_X10_121 vX10_setValue rfl npX10_setValue (by decide) (by decide) (Nat.le_of_ble_eq_true rfl) (by decide) (by decide) GK_E (fun v9 hc3 hq => ?_) (fun E h9 hq => by cases hq.1)
    have hqq4 := hq
    obtain ⟨e9q4, e8q4⟩ := hqq4
    obtain ⟨avq4, frq4, hiq4, hrq4⟩ := sA_fx e8q4
    have Kwq4 := WK_V X Kwq2 e8q4 (by first | assumption | exact ⟨by omega, by omega⟩)
    rw [avq2] at avq4
    have hfq4 : hA hc3 (w + 1 + 1) = f := by rw [frq4 _ (by omega)]; exact hfq2
    have htrq4 : hA hc3 (w + 4) = tr := by rw [frq4 _ (by omega)]; exact htrq2
    have hemq4 : hI hc3 w 6 = em := by rw [hiq4]; exact hemq2
    cases e9q4
    show K mX10_wanted _ _ 0 0 63 [(4, vi (f (15 + p))), (0, vr w), (1, vi p), (2, vi q), (3, vi x)] [] hc3
    refine K_aload_n (dt_at dtX10_wanted 31 rfl) rfl rfl ?_
    refine K_bipush (dt_at dtX10_wanted 32 rfl) (by decide) ?_
    refine K_aload_n (dt_at dtX10_wanted 33 rfl) rfl rfl ?_
    refine K_get (a := w) (ci := 10) (k := 5) (v := vr t) (dt_at dtX10_wanted 34 rfl) hW10 rfl (by decide) wF_X10_40 (by show vr (hR hc3 w 5) = vr t; rw [Kwq4.2.2.2, hR5]) ?_
    refine K_get (a := t) (ci := 3) (k := 1) (v := vr (t + 2)) (dt_at dtX10_wanted 35 rfl) hH rfl (by decide) wF_X10_169 rfl ?_
    refine K_iload_n (dt_at dtX10_wanted 36 rfl) rfl rfl ?_
    refine K_iald (dt_at dtX10_wanted 37 rfl) (lay_3_1 hH) (by omega) (by omega) ?_
    rw [(Kwq4.1 (t + 2) (by omega) (by omega) (by omega) (by omega) (by omega)), hS.1.2.1]
    refine K_callV (M' := mX10_setValue) (a := w) (ci := 10) (As := [vi (-3), vi ((sU S) q)]) (st := []) (dt_at dtX10_wanted 38 rfl) (sX10_setValue hW10 ⟨by omega, by omega⟩) hW10 rfl wL_X10_121 vX10_setValue rfl npX10_setValue (by decide) (by decide) (Nat.le_of_ble_eq_true rfl) (by decide) (by decide) GK_E (fun v9 hc5 hq => ?_) (fun E h9 hq => by cases hq.1)
    have hqq6 := hq
    obtain ⟨e9q6, e8q6⟩ := hqq6
    obtain ⟨avq6, frq6, hiq6, hrq6⟩ := sA_fx e8q6
    have Kwq6 := WK_V X Kwq4 e8q6 (by first | assumption | exact ⟨by omega, by omega⟩)
    rw [avq4] at avq6
    have hfq6 : hA hc5 (w + 1 + 1) = f := by rw [frq6 _ (by omega)]; exact hfq4
    have htrq6 : hA hc5 (w + 4) = tr := by rw [frq6 _ (by omega)]; exact htrq4
    have hemq6 : hI hc5 w 6 = em := by rw [hiq6]; exact hemq4
    cases e9q6
    show K mX10_wanted _ _ 0 0 78 [(4, vi (f (15 + p))), (0, vr w), (1, vi p), (2, vi q), (3, vi x)] [] hc5
    refine K_aload_n (dt_at dtX10_wanted 39 rfl) rfl rfl ?_
    refine K_bipush (dt_at dtX10_wanted 40 rfl) (by decide) ?_
    refine K_aload_n (dt_at dtX10_wanted 41 rfl) rfl rfl ?_
    refine K_get (a := w) (ci := 10) (k := 5) (v := vr t) (dt_at dtX10_wanted 42 rfl) hW10 rfl (by decide) wF_X10_40 (by show vr (hR hc5 w 5) = vr t; rw [Kwq6.2.2.2, hR5]) ?_
    refine K_get (a := t) (ci := 3) (k := 0) (v := vr (t + 1)) (dt_at dtX10_wanted 43 rfl) hH rfl (by decide) wF_X10_151 rfl ?_
    refine K_iload_n (dt_at dtX10_wanted 44 rfl) rfl rfl ?_
    refine K_iald (dt_at dtX10_wanted 45 rfl) (lay_3_0 hH) (by omega) (by omega) ?_
    rw [(Kwq6.1 (t + 1) (by omega) (by omega) (by omega) (by omega) (by omega)), hS.1.1]
    refine K_callV (M' := mX10_setValue) (a := w) (ci := 10) (As := [vi (-4), vi ((sW S) q)]) (st := []) (dt_at dtX10_wanted 46 rfl) (sX10_setValue hW10 ⟨by omega, by omega⟩) hW10 rfl wL_X10_121 vX10_setValue rfl npX10_setValue (by decide) (by decide) (Nat.le_of_ble_eq_true rfl) (by decide) (by decide) GK_E (fun v9 hc7 hq => ?_) (fun E h9 hq => by cases hq.1)
    have hqq8 := hq
    obtain ⟨e9q8, e8q8⟩ := hqq8
    obtain ⟨avq8, frq8, hiq8, hrq8⟩ := sA_fx e8q8
    have Kwq8 := WK_V X Kwq6 e8q8 (by first | assumption | exact ⟨by omega, by omega⟩)
    rw [avq6] at avq8
    have hfq8 : hA hc7 (w + 1 + 1) = f := by rw [frq8 _ (by omega)]; exact hfq6
    have htrq8 : hA hc7 (w + 4) = tr := by rw [frq8 _ (by omega)]; exact htrq6
    have hemq8 : hI hc7 w 6 = em := by rw [hiq8]; exact hemq6
    cases e9q8
    show K mX10_wanted _ _ 0 0 93 [(4, vi (f (15 + p))), (0, vr w), (1, vi p), (2, vi q), (3, vi x)] [] hc7
    refine K_aload_n (dt_at dtX10_wanted 47 rfl) rfl rfl ?_
    refine K_bipush (dt_at dtX10_wanted 48 rfl) (by decide) ?_
    refine K_aload_n (dt_at dtX10_wanted 49 rfl) rfl rfl ?_
    refine K_get (a := w) (ci := 10) (k := 0) (v := vr (w + 1)) (dt_at dtX10_wanted 50 rfl) hW10 rfl (by decide) wF_X10_12 rfl ?_
    refine K_iload_n (dt_at dtX10_wanted 51 rfl) rfl rfl ?_
    refine K_callV (M' := mX8_stock) (a := (w + 1)) (ci := 8) (As := [vi q]) (st := [vi (-5), vr w]) (dt_at dtX10_wanted 52 rfl) (sX8_stock (lay_10_0 hW10) ⟨by omega, by omega⟩) (lay_10_0 hW10) rfl wL_X10_158 vX8_stock rfl npX8_stock (by decide) (by decide) (Nat.le_of_ble_eq_true rfl) (by decide) (by decide) GK_E (fun v9 h9 hq => ?_) (fun E h9 hq => by cases hq.1)
    obtain ⟨e9, e8⟩ := hq
    cases e9
    rw [e8]
    show K mX10_wanted _ _ 0 0 104 [(4, vi (f (15 + p))), (0, vr w), (1, vi p), (2, vi q), (3, vi x)] [vi (hA hc7 (w + 1 + 1) (29 + q)), vi (-5), vr w] hc7
    rw [hfq8]
    refine K_callV (M' := mX10_setValue) (a := w) (ci := 10) (As := [vi (-5), vi (f (29 + q))]) (st := []) (dt_at dtX10_wanted 53 rfl) (sX10_setValue hW10 ⟨by omega, by omega⟩) hW10 rfl wL_X10_121 vX10_setValue rfl npX10_setValue (by decide) (by decide) (Nat.le_of_ble_eq_true rfl) (by decide) (by decide) GK_E (fun v9 hc9 hq => ?_) (fun E h9 hq => by cases hq.1)
    have hqq10 := hq
    obtain ⟨e9q10, e8q10⟩ := hqq10
    obtain ⟨avq10, frq10, hiq10, hrq10⟩ := sA_fx e8q10
    have Kwq10 := WK_V X Kwq8 e8q10 (by first | assumption | exact ⟨by omega, by omega⟩)
    rw [avq8] at avq10
    have hfq10 : hA hc9 (w + 1 + 1) = f := by rw [frq10 _ (by omega)]; exact hfq8
    have htrq10 : hA hc9 (w + 4) = tr := by rw [frq10 _ (by omega)]; exact htrq8
    have hemq10 : hI hc9 w 6 = em := by rw [hiq10]; exact hemq8
    cases e9q10
    show K mX10_wanted _ _ 0 0 107 [(4, vi (f (15 + p))), (0, vr w), (1, vi p), (2, vi q), (3, vi x)] [] hc9
    refine K_aload_n (dt_at dtX10_wanted 54 rfl) rfl rfl ?_
    refine K_bipush (dt_at dtX10_wanted 55 rfl) (by decide) ?_
    refine K_iload_n (dt_at dtX10_wanted 56 rfl) rfl rfl ?_
    refine K_callV (M' := mX10_setValue) (a := w) (ci := 10) (As := [vi (-6), vi x]) (st := []) (dt_at dtX10_wanted 57 rfl) (sX10_setValue hW10 ⟨by omega, by omega⟩) hW10 rfl wL_X10_121 vX10_setValue rfl npX10_setValue (by decide) (by decide) (Nat.le_of_ble_eq_true rfl) (by decide) (by decide) GK_E (fun v9 hc11 hq => ?_) (fun E h9 hq => by cases hq.1)
    have hqq12 := hq
    obtain ⟨e9q12, e8q12⟩ := hqq12
    obtain ⟨avq12, frq12, hiq12, hrq12⟩ := sA_fx e8q12
    have Kwq12 := WK_V X Kwq10 e8q12 (by first | assumption | exact ⟨by omega, by omega⟩)
    rw [avq10] at avq12
    have hfq12 : hA hc11 (w + 1 + 1) = f := by rw [frq12 _ (by omega)]; exact hfq10
    have htrq12 : hA hc11 (w + 4) = tr := by rw [frq12 _ (by omega)]; exact htrq10
    have hemq12 : hI hc11 w 6 = em := by rw [hiq12]; exact hemq10
    cases e9q12
    show K mX10_wanted _ _ 0 0 114 [(4, vi (f (15 + p))), (0, vr w), (1, vi p), (2, vi q), (3, vi x)] [] hc11
    refine K_aload_n (dt_at dtX10_wanted 58 rfl) rfl rfl ?_
    refine K_get (a := w) (ci := 10) (k := 5) (v := vr t) (dt_at dtX10_wanted 59 rfl) hW10 rfl (by decide) wF_X10_40 (by show vr (hR hc11 w 5) = vr t; rw [Kwq12.2.2.2, hR5]) ?_
    refine K_get (a := t) (ci := 3) (k := 8) (v := vr (t + 9)) (dt_at dtX10_wanted 60 rfl) hH rfl (by decide) wF_X10_166 rfl ?_
    refine K_aload_n (dt_at dtX10_wanted 61 rfl) rfl rfl ?_
    refine K_get (a := w) (ci := 10) (k := 1) (v := vr (w + 3)) (dt_at dtX10_wanted 62 rfl) hW10 rfl (by decide) wF_X10_20 rfl ?_
    refine K_callV (M' := mX6_answer) (a := (t + 9)) (ci := 6) (As := [vr (w + 3)]) (st := []) (dt_at dtX10_wanted 63 rfl) (sX6_answer (n := n) (lay_3_8 hH) (lay_10_1 hW10) (by omega) (by rw [Kwq12.2.2.1 (t + 9) 2 (by omega)]; exact r3) r2 (by rw [Kwq12.1 ((t + 9) + 1) (by omega) (by omega) (by omega) (by omega) (by omega)]; exact r4) (fun i _ _ => Kwq12.2.1.2.2 i) Kwq12.2.1.1) (lay_3_8 hH) rfl wL_X10_127 vX6_answer rfl npX6_answer (by decide) (by decide) (Nat.le_of_ble_eq_true rfl) (by decide) (by decide) GK_E (fun v9 hc13 hq => ?_) (fun E h9 hq => by cases hq.1)
    have hqq14 := hq
    obtain ⟨e9q14, p1q14, frq14, hiq14, hrq14⟩ := hqq14
    have Kwq14 := WK_P X Kwq12 (c := (t + 9 + 2)) (Or.inl rfl) p1q14 frq14 hiq14 hrq14
    have hfq14 : hA hc13 (w + 1 + 1) = f := by rw [frq14 _ (by omega)]; exact hfq12
    have htrq14 : hA hc13 (w + 4) = tr := by rw [frq14 _ (by omega)]; exact htrq12
    have hemq14 : hI hc13 w 6 = em := by rw [hiq14]; exact hemq12
    cases e9q14
    show K mX10_wanted _ _ 0 0 128 [(4, vi (f (15 + p))), (0, vr w), (1, vi p), (2, vi q), (3, vi x)] [vi (evR (hA hc11 ((t + 9) + 1)) (hA hc11 (w + 3)) (hA hc11 ((t + 9) + 2)) n)] hc13
    rw [Kwq12.1 ((t + 9) + 1) (by omega) (by omega) (by omega) (by omega) (by omega), r5 _ _ Kwq12.2.1.2.2, avq12, show mkP (upI (upI (upI (upI (upI (upI (hA h (w + 3)) (-1 - (-1)) (f (15 + p))) (-1 - (-2)) (f 0)) (-1 - (-3)) ((sU S) q)) (-1 - (-4)) ((sW S) q)) (-1 - (-5)) (f (29 + q))) (-1 - (-6)) x) = (vP S f p q x) from by funext i; simp only [mkP, vP, upI]; (repeat' split) <;> first | rfl | omega | (exfalso; omega)]
    refine K_bipush (dt_at dtX10_wanted 64 rfl) (by decide) ?_
    refine K_min (dt_at dtX10_wanted 65 rfl) wL_X10_161 (hF _) (by first | assumption | exact ⟨by omega, by omega⟩) (by decide) (Nat.le_of_ble_eq_true rfl) (by decide) (by decide) ?_
    exact K_iret (dt_at dtX10_wanted 66 rfl) rfl rfl (by decide) (by decide) ⟨by rw [show wantF S f p q x = min (F (vP S f p q x)) 9 from by unfold wantF; rw [hpu]], ⟨Kwq14, hfq14, htrq14, hemq14⟩⟩
def mX10_fondBehind : MI := (yX10_fondBehind, cX10_fondBehind, 4, (some .int), rmK 3 0)
def tX10_fondBehind : List (Nat × Instr × Nat) := [(0, .aload_n 0, 1), (1, .getfield 40, 3), (4, .aload_n 0, 1), (5, .getfield 12, 3), (8, .iload_n 1, 1), (9, .invokevirtual 107, 3), (12, .istore_n 2, 1), (13, .aload_n 0, 1), (14, .getfield 12, 3), (17, .iload_n 1, 1), (18, .invokevirtual 111, 3), (21, .istore_n 3, 1), (22, .aload_n 0, 1), (23, .getfield 40, 3), (26, .getfield 114, 3), (29, .invokevirtual 118, 3), (32, .ifCond .ne 19, 3), (35, .iload_n 2, 1), (36, .bipush 10, 2), (38, .if_icmp .lt 9, 3), (41, .iload_n 3, 1), (42, .iconst 1, 1), (43, .iadd, 1), (44, .goto 6, 3), (47, .iload_n 3, 1), (48, .iconst 1, 1), (49, .isub, 1), (50, .ireturn, 1), (51, .aload_n 0, 1), (52, .iconst (-1), 1), (53, .iload_n 3, 1), (54, .invokevirtual 121, 3), (57, .aload_n 0, 1), (58, .bipush (-2), 2), (60, .aload_n 0, 1), (61, .getfield 12, 3), (64, .invokevirtual 67, 3), (67, .invokevirtual 121, 3), (70, .aload_n 0, 1), (71, .bipush (-7), 2), (73, .iload_n 2, 1), (74, .invokevirtual 121, 3), (77, .aload_n 0, 1), (78, .bipush (-8), 2), (80, .aload_n 0, 1), (81, .getfield 40, 3), (84, .getfield 124, 3), (87, .iload_n 1, 1), (88, .iaload, 1), (89, .invokevirtual 121, 3), (92, .aload_n 0, 1), (93, .getfield 40, 3), (96, .getfield 114, 3), (99, .aload_n 0, 1), (100, .getfield 20, 3), (103, .invokevirtual 127, 3), (106, .ireturn, 1)]
theorem dtX10_fondBehind : tX10_fondBehind.all (fun q => decide (decode cX10_fondBehind q.1 = .ok (q.2.1, q.2.2))) = true := by decide +kernel
theorem npX10_fondBehind : (parseMethodDescriptor (mY mX10_fondBehind).desc).map (fun d => d.parameters.length) = some 1 := by decide +kernel
theorem vX10_fondBehind : mV mX10_fondBehind := ⟨wI_X10_fondBehind, wS_X10_fondBehind, wN_X10, wC_X10_fondBehind, by decide +kernel, by decide +kernel⟩
set_option maxHeartbeats 4000000 in
set_option maxRecDepth 100000 in
theorem sX10_fondBehind {h0 h : HP} {w t : Nat} {S : HS} {B : Int} {f tr : Int → Int} {em : Int} {p : Int} (X : WX h0 w t S) (P0 : PW h0 h w t f tr em) (hT : rT B f) (hp : 0 ≤ p ∧ p < sNp S) : SpecK mX10_fondBehind [vr w, vi p] h (fun o h' => o = .inl (some (vi (fondB S f p))) ∧ PW h0 h' w t f tr em) := by
  refine Spec_of (by decide +kernel) (Nat.le_of_ble_eq_true rfl) ?_
  obtain ⟨hw, ht, hR5, hS, hB⟩ := id X
  obtain ⟨Kw, hf, htr, hem⟩ := id P0
  have hW10 := TTw hw
  have hH := TTt ht
  have hNt := hB.1
  have hNp := hB.2.1
  have w1 := hT.1.2 p (by omega) (by omega)
  have wu := sumF_rT (us := sU S) (n := sNt S) hT ⟨hp.1, by omega⟩ hNt (fun i a b => by have := (hB.2.2.1 i a b).2; constructor <;> omega)
  have w4 := hT.2.2.2.1
  have w5 := hT.2.2.2.2.1
  have w6 := (hB.2.2.2.1 p (by omega) (by omega)).2.2
  have hrl := hS.2.2.2
  cases hpu : sFe S with
  | none =>
    rw [hpu] at hrl
    have r0 := hrl
    refine K_aload_n (dt_at dtX10_fondBehind 0 rfl) rfl rfl ?_
    refine K_get (a := w) (ci := 10) (k := 5) (v := vr t) (dt_at dtX10_fondBehind 1 rfl) hW10 rfl (by decide) wF_X10_40 (by show vr (hR h w 5) = vr t; rw [Kw.2.2.2, hR5]) ?_
    refine K_aload_n (dt_at dtX10_fondBehind 2 rfl) rfl rfl ?_
    refine K_get (a := w) (ci := 10) (k := 0) (v := vr (w + 1)) (dt_at dtX10_fondBehind 3 rfl) hW10 rfl (by decide) wF_X10_12 rfl ?_
    refine K_iload_n (dt_at dtX10_fondBehind 4 rfl) rfl rfl ?_
    refine K_callV (M' := mX3_useWith) (a := t) (ci := 3) (As := [vr (w + 1), vi p]) (st := []) (dt_at dtX10_fondBehind 5 rfl) (sX3_useWith hH (lay_10_0 hW10) (by rw [hf]; exact hT.1) hNt (by rw [Kw.2.2.1 t 10 (by omega)]; exact hS.2.1.1) ⟨by omega, by omega⟩) hH rfl wL_X10_107 vX3_useWith rfl npX3_useWith (by decide) (by decide) (Nat.le_of_ble_eq_true rfl) (by decide) (by decide) GK_E (fun v9 h9 hq => ?_) (fun E h9 hq => by cases hq.1)
    obtain ⟨e9, e8⟩ := hq
    cases e9
    rw [e8]
    show K mX10_fondBehind _ _ 0 0 12 [(0, vr w), (1, vi p)] [vi (sumF (hA h (t + 2)) (hA h (w + 1 + 1)) p (sNt S))] h
    rw [hf, Kw.1 (t + 2) (by omega) (by omega) (by omega) (by omega) (by omega), hS.1.2.1]
    refine K_istore_n (ls' := [(2, vi (sumF (sU S) f p (sNt S))), (0, vr w), (1, vi p)]) (dt_at dtX10_fondBehind 6 rfl) rfl (by decide) rfl ?_
    refine K_aload_n (dt_at dtX10_fondBehind 7 rfl) rfl rfl ?_
    refine K_get (a := w) (ci := 10) (k := 0) (v := vr (w + 1)) (dt_at dtX10_fondBehind 8 rfl) hW10 rfl (by decide) wF_X10_12 rfl ?_
    refine K_iload_n (dt_at dtX10_fondBehind 9 rfl) rfl rfl ?_
    refine K_callV (M' := mX8_fond) (a := (w + 1)) (ci := 8) (As := [vi p]) (st := []) (dt_at dtX10_fondBehind 10 rfl) (sX8_fond (lay_10_0 hW10) ⟨by omega, by omega⟩) (lay_10_0 hW10) rfl wL_X10_111 vX8_fond rfl npX8_fond (by decide) (by decide) (Nat.le_of_ble_eq_true rfl) (by decide) (by decide) GK_E (fun v9 h9 hq => ?_) (fun E h9 hq => by cases hq.1)
    obtain ⟨e9, e8⟩ := hq
    cases e9
    rw [e8]
    show K mX10_fondBehind _ _ 0 0 21 [(2, vi (sumF (sU S) f p (sNt S))), (0, vr w), (1, vi p)] [vi (hA h (w + 1 + 1) (15 + p))] h
    rw [hf]
    refine K_istore_n (ls' := [(3, vi (f (15 + p))), (2, vi (sumF (sU S) f p (sNt S))), (0, vr w), (1, vi p)]) (dt_at dtX10_fondBehind 11 rfl) rfl (by decide) rfl ?_
    refine K_aload_n (dt_at dtX10_fondBehind 12 rfl) rfl rfl ?_
    refine K_get (a := w) (ci := 10) (k := 5) (v := vr t) (dt_at dtX10_fondBehind 13 rfl) hW10 rfl (by decide) wF_X10_40 (by show vr (hR h w 5) = vr t; rw [Kw.2.2.2, hR5]) ?_
    refine K_get (a := t) (ci := 3) (k := 9) (v := vr (t + 12)) (dt_at dtX10_fondBehind 14 rfl) hH rfl (by decide) wF_X10_114 rfl ?_
    refine K_callV (M' := mX6_told) (a := (t + 12)) (ci := 6) (As := []) (st := []) (dt_at dtX10_fondBehind 15 rfl) (sX6_told (lay_3_9 hH) (by rw [Kw.2.2.1 (t + 12) 3 (by omega), r0]; decide)) (lay_3_9 hH) rfl wL_X10_118 vX6_told rfl npX6_told (by decide) (by decide) (Nat.le_of_ble_eq_true rfl) (by decide) (by decide) GK_E (fun v9 h9 hq => ?_) (fun E h9 hq => by cases hq.1)
    obtain ⟨e9, e8⟩ := hq
    cases e9
    rw [e8]
    show K mX10_fondBehind _ _ 0 0 32 [(3, vi (f (15 + p))), (2, vi (sumF (sU S) f p (sNt S))), (0, vr w), (1, vi p)] [vi (hI h (t + 12) 3)] h
    rw [Kw.2.2.1 (t + 12) 3 (by omega), r0]
    refine K_if_ne (tgt := 51) (dt_at dtX10_fondBehind 16 rfl) (by decide) (by first | assumption | exact ⟨by omega, by omega⟩) (fun c1 => absurd c1 (by omega)) (fun c1 => ?_)
    refine K_iload_n (dt_at dtX10_fondBehind 17 rfl) rfl rfl ?_
    refine K_bipush (dt_at dtX10_fondBehind 18 rfl) (by decide) ?_
    refine K_icmp_lt (tgt := 47) (dt_at dtX10_fondBehind 19 rfl) (by decide) (by first | assumption | exact ⟨by omega, by omega⟩) (by first | assumption | exact ⟨by omega, by omega⟩) (fun c2 => ?_) (fun c2 => ?_)
    · refine K_iload_n (dt_at dtX10_fondBehind 24 rfl) rfl rfl ?_
      refine K_iconst (dt_at dtX10_fondBehind 25 rfl) ?_
      refine K_isub (dt_at dtX10_fondBehind 26 rfl) ?_
      exact K_iret (dt_at dtX10_fondBehind 27 rfl) rfl rfl (by decide) (by decide) ⟨by rw [show fondB S f p = (if sumF (sU S) f p (sNt S) < 10 then f (15 + p) - 1 else f (15 + p) + 1) from by unfold fondB; rw [hpu], if_pos (by omega)], ⟨Kw, hf, htr, hem⟩⟩
    · refine K_iload_n (dt_at dtX10_fondBehind 20 rfl) rfl rfl ?_
      refine K_iconst (dt_at dtX10_fondBehind 21 rfl) ?_
      refine K_iadd (dt_at dtX10_fondBehind 22 rfl) ?_
      refine K_goto (tgt := 50) (dt_at dtX10_fondBehind 23 rfl) (by decide) ?_
      exact K_iret (dt_at dtX10_fondBehind 27 rfl) rfl rfl (by decide) (by decide) ⟨by rw [show fondB S f p = (if sumF (sU S) f p (sNt S) < 10 then f (15 + p) - 1 else f (15 + p) + 1) from by unfold fondB; rw [hpu], if_neg (by omega)], ⟨Kw, hf, htr, hem⟩⟩
  | some F =>
    rw [hpu] at hrl
    obtain ⟨r0, n, r2, r3, r4, r5⟩ := hrl
    have hF := hB.2.2.2.2.2 F hpu
    refine K_aload_n (dt_at dtX10_fondBehind 0 rfl) rfl rfl ?_
    refine K_get (a := w) (ci := 10) (k := 5) (v := vr t) (dt_at dtX10_fondBehind 1 rfl) hW10 rfl (by decide) wF_X10_40 (by show vr (hR h w 5) = vr t; rw [Kw.2.2.2, hR5]) ?_
    refine K_aload_n (dt_at dtX10_fondBehind 2 rfl) rfl rfl ?_
    refine K_get (a := w) (ci := 10) (k := 0) (v := vr (w + 1)) (dt_at dtX10_fondBehind 3 rfl) hW10 rfl (by decide) wF_X10_12 rfl ?_
    refine K_iload_n (dt_at dtX10_fondBehind 4 rfl) rfl rfl ?_
    refine K_callV (M' := mX3_useWith) (a := t) (ci := 3) (As := [vr (w + 1), vi p]) (st := []) (dt_at dtX10_fondBehind 5 rfl) (sX3_useWith hH (lay_10_0 hW10) (by rw [hf]; exact hT.1) hNt (by rw [Kw.2.2.1 t 10 (by omega)]; exact hS.2.1.1) ⟨by omega, by omega⟩) hH rfl wL_X10_107 vX3_useWith rfl npX3_useWith (by decide) (by decide) (Nat.le_of_ble_eq_true rfl) (by decide) (by decide) GK_E (fun v9 h9 hq => ?_) (fun E h9 hq => by cases hq.1)
    obtain ⟨e9, e8⟩ := hq
    cases e9
    rw [e8]
    show K mX10_fondBehind _ _ 0 0 12 [(0, vr w), (1, vi p)] [vi (sumF (hA h (t + 2)) (hA h (w + 1 + 1)) p (sNt S))] h
    rw [hf, Kw.1 (t + 2) (by omega) (by omega) (by omega) (by omega) (by omega), hS.1.2.1]
    refine K_istore_n (ls' := [(2, vi (sumF (sU S) f p (sNt S))), (0, vr w), (1, vi p)]) (dt_at dtX10_fondBehind 6 rfl) rfl (by decide) rfl ?_
    refine K_aload_n (dt_at dtX10_fondBehind 7 rfl) rfl rfl ?_
    refine K_get (a := w) (ci := 10) (k := 0) (v := vr (w + 1)) (dt_at dtX10_fondBehind 8 rfl) hW10 rfl (by decide) wF_X10_12 rfl ?_
    refine K_iload_n (dt_at dtX10_fondBehind 9 rfl) rfl rfl ?_
    refine K_callV (M' := mX8_fond) (a := (w + 1)) (ci := 8) (As := [vi p]) (st := []) (dt_at dtX10_fondBehind 10 rfl) (sX8_fond (lay_10_0 hW10) ⟨by omega, by omega⟩) (lay_10_0 hW10) rfl wL_X10_111 vX8_fond rfl npX8_fond (by decide) (by decide) (Nat.le_of_ble_eq_true rfl) (by decide) (by decide) GK_E (fun v9 h9 hq => ?_) (fun E h9 hq => by cases hq.1)
    obtain ⟨e9, e8⟩ := hq
    cases e9
    rw [e8]
    show K mX10_fondBehind _ _ 0 0 21 [(2, vi (sumF (sU S) f p (sNt S))), (0, vr w), (1, vi p)] [vi (hA h (w + 1 + 1) (15 + p))] h
    rw [hf]
    refine K_istore_n (ls' := [(3, vi (f (15 + p))), (2, vi (sumF (sU S) f p (sNt S))), (0, vr w), (1, vi p)]) (dt_at dtX10_fondBehind 11 rfl) rfl (by decide) rfl ?_
    refine K_aload_n (dt_at dtX10_fondBehind 12 rfl) rfl rfl ?_
    refine K_get (a := w) (ci := 10) (k := 5) (v := vr t) (dt_at dtX10_fondBehind 13 rfl) hW10 rfl (by decide) wF_X10_40 (by show vr (hR h w 5) = vr t; rw [Kw.2.2.2, hR5]) ?_
    refine K_get (a := t) (ci := 3) (k := 9) (v := vr (t + 12)) (dt_at dtX10_fondBehind 14 rfl) hH rfl (by decide) wF_X10_114 rfl ?_
    refine K_callV (M' := mX6_told) (a := (t + 12)) (ci := 6) (As := []) (st := []) (dt_at dtX10_fondBehind 15 rfl) (sX6_told (lay_3_9 hH) (by rw [Kw.2.2.1 (t + 12) 3 (by omega), r0]; decide)) (lay_3_9 hH) rfl wL_X10_118 vX6_told rfl npX6_told (by decide) (by decide) (Nat.le_of_ble_eq_true rfl) (by decide) (by decide) GK_E (fun v9 h9 hq => ?_) (fun E h9 hq => by cases hq.1)
    obtain ⟨e9, e8⟩ := hq
    cases e9
    rw [e8]
    show K mX10_fondBehind _ _ 0 0 32 [(3, vi (f (15 + p))), (2, vi (sumF (sU S) f p (sNt S))), (0, vr w), (1, vi p)] [vi (hI h (t + 12) 3)] h
    rw [Kw.2.2.1 (t + 12) 3 (by omega), r0]
    refine K_if_ne (tgt := 51) (dt_at dtX10_fondBehind 16 rfl) (by decide) (by first | assumption | exact ⟨by omega, by omega⟩) (fun c1 => ?_) (fun c1 => absurd c1 (by omega))
    refine K_aload_n (dt_at dtX10_fondBehind 28 rfl) rfl rfl ?_
    refine K_iconst (dt_at dtX10_fondBehind 29 rfl) ?_
    refine K_iload_n (dt_at dtX10_fondBehind 30 rfl) rfl rfl ?_
    refine K_callV (M' := mX10_setValue) (a := w) (ci := 10) (As := [vi (-1), vi (f (15 + p))]) (st := []) (dt_at dtX10_fondBehind 31 rfl) (sX10_setValue hW10 ⟨by omega, by omega⟩) hW10 rfl wL_X10_121 vX10_setValue rfl npX10_setValue (by decide) (by decide) (Nat.le_of_ble_eq_true rfl) (by decide) (by decide) GK_E (fun v9 hc1 hq => ?_) (fun E h9 hq => by cases hq.1)
    have hqq2 := hq
    obtain ⟨e9q2, e8q2⟩ := hqq2
    obtain ⟨avq2, frq2, hiq2, hrq2⟩ := sA_fx e8q2
    have Kwq2 := WK_V X Kw e8q2 (by first | assumption | exact ⟨by omega, by omega⟩)
    have hfq2 : hA hc1 (w + 1 + 1) = f := by rw [frq2 _ (by omega)]; exact hf
    have htrq2 : hA hc1 (w + 4) = tr := by rw [frq2 _ (by omega)]; exact htr
    have hemq2 : hI hc1 w 6 = em := by rw [hiq2]; exact hem
    cases e9q2
    show K mX10_fondBehind _ _ 0 0 57 [(3, vi (f (15 + p))), (2, vi (sumF (sU S) f p (sNt S))), (0, vr w), (1, vi p)] [] hc1
    refine K_aload_n (dt_at dtX10_fondBehind 32 rfl) rfl rfl ?_
    refine K_bipush (dt_at dtX10_fondBehind 33 rfl) (by decide) ?_
    refine K_aload_n (dt_at dtX10_fondBehind 34 rfl) rfl rfl ?_
    refine K_get (a := w) (ci := 10) (k := 0) (v := vr (w + 1)) (dt_at dtX10_fondBehind 35 rfl) hW10 rfl (by decide) wF_X10_12 rfl ?_
    refine K_callV (M' := mX8_day) (a := (w + 1)) (ci := 8) (As := []) (st := [vi (-2), vr w]) (dt_at dtX10_fondBehind 36 rfl) (sX8_day (lay_10_0 hW10)) (lay_10_0 hW10) rfl wL_X10_67 vX8_day rfl npX8_day (by decide) (by decide) (Nat.le_of_ble_eq_true rfl) (by decide) (by decide) GK_E (fun v9 h9 hq => ?_) (fun E h9 hq => by cases hq.1)
    obtain ⟨e9, e8⟩ := hq
    cases e9
    rw [e8]
    show K mX10_fondBehind _ _ 0 0 67 [(3, vi (f (15 + p))), (2, vi (sumF (sU S) f p (sNt S))), (0, vr w), (1, vi p)] [vi (hA hc1 (w + 1 + 1) 0), vi (-2), vr w] hc1
    rw [hfq2]
    refine K_callV (M' := mX10_setValue) (a := w) (ci := 10) (As := [vi (-2), vi (f 0)]) (st := []) (dt_at dtX10_fondBehind 37 rfl) (sX10_setValue hW10 ⟨by omega, by omega⟩) hW10 rfl wL_X10_121 vX10_setValue rfl npX10_setValue (by decide) (by decide) (Nat.le_of_ble_eq_true rfl) (by decide) (by decide) GK_E (fun v9 hc3 hq => ?_) (fun E h9 hq => by cases hq.1)
    have hqq4 := hq
    obtain ⟨e9q4, e8q4⟩ := hqq4
    obtain ⟨avq4, frq4, hiq4, hrq4⟩ := sA_fx e8q4
    have Kwq4 := WK_V X Kwq2 e8q4 (by first | assumption | exact ⟨by omega, by omega⟩)
    rw [avq2] at avq4
    have hfq4 : hA hc3 (w + 1 + 1) = f := by rw [frq4 _ (by omega)]; exact hfq2
    have htrq4 : hA hc3 (w + 4) = tr := by rw [frq4 _ (by omega)]; exact htrq2
    have hemq4 : hI hc3 w 6 = em := by rw [hiq4]; exact hemq2
    cases e9q4
    show K mX10_fondBehind _ _ 0 0 70 [(3, vi (f (15 + p))), (2, vi (sumF (sU S) f p (sNt S))), (0, vr w), (1, vi p)] [] hc3
    refine K_aload_n (dt_at dtX10_fondBehind 38 rfl) rfl rfl ?_
    refine K_bipush (dt_at dtX10_fondBehind 39 rfl) (by decide) ?_
    refine K_iload_n (dt_at dtX10_fondBehind 40 rfl) rfl rfl ?_
    refine K_callV (M' := mX10_setValue) (a := w) (ci := 10) (As := [vi (-7), vi (sumF (sU S) f p (sNt S))]) (st := []) (dt_at dtX10_fondBehind 41 rfl) (sX10_setValue hW10 ⟨by omega, by omega⟩) hW10 rfl wL_X10_121 vX10_setValue rfl npX10_setValue (by decide) (by decide) (Nat.le_of_ble_eq_true rfl) (by decide) (by decide) GK_E (fun v9 hc5 hq => ?_) (fun E h9 hq => by cases hq.1)
    have hqq6 := hq
    obtain ⟨e9q6, e8q6⟩ := hqq6
    obtain ⟨avq6, frq6, hiq6, hrq6⟩ := sA_fx e8q6
    have Kwq6 := WK_V X Kwq4 e8q6 (by first | assumption | exact ⟨by omega, by omega⟩)
    rw [avq4] at avq6
    have hfq6 : hA hc5 (w + 1 + 1) = f := by rw [frq6 _ (by omega)]; exact hfq4
    have htrq6 : hA hc5 (w + 4) = tr := by rw [frq6 _ (by omega)]; exact htrq4
    have hemq6 : hI hc5 w 6 = em := by rw [hiq6]; exact hemq4
    cases e9q6
    show K mX10_fondBehind _ _ 0 0 77 [(3, vi (f (15 + p))), (2, vi (sumF (sU S) f p (sNt S))), (0, vr w), (1, vi p)] [] hc5
    refine K_aload_n (dt_at dtX10_fondBehind 42 rfl) rfl rfl ?_
    refine K_bipush (dt_at dtX10_fondBehind 43 rfl) (by decide) ?_
    refine K_aload_n (dt_at dtX10_fondBehind 44 rfl) rfl rfl ?_
    refine K_get (a := w) (ci := 10) (k := 5) (v := vr t) (dt_at dtX10_fondBehind 45 rfl) hW10 rfl (by decide) wF_X10_40 (by show vr (hR hc5 w 5) = vr t; rw [Kwq6.2.2.2, hR5]) ?_
    refine K_get (a := t) (ci := 3) (k := 5) (v := vr (t + 6)) (dt_at dtX10_fondBehind 46 rfl) hH rfl (by decide) wF_X10_124 rfl ?_
    refine K_iload_n (dt_at dtX10_fondBehind 47 rfl) rfl rfl ?_
    refine K_iald (dt_at dtX10_fondBehind 48 rfl) (lay_3_5 hH) (by omega) (by omega) ?_
    rw [(Kwq6.1 (t + 6) (by omega) (by omega) (by omega) (by omega) (by omega)), hS.1.2.2.2.2]
    refine K_callV (M' := mX10_setValue) (a := w) (ci := 10) (As := [vi (-8), vi ((sAw S) p)]) (st := []) (dt_at dtX10_fondBehind 49 rfl) (sX10_setValue hW10 ⟨by omega, by omega⟩) hW10 rfl wL_X10_121 vX10_setValue rfl npX10_setValue (by decide) (by decide) (Nat.le_of_ble_eq_true rfl) (by decide) (by decide) GK_E (fun v9 hc7 hq => ?_) (fun E h9 hq => by cases hq.1)
    have hqq8 := hq
    obtain ⟨e9q8, e8q8⟩ := hqq8
    obtain ⟨avq8, frq8, hiq8, hrq8⟩ := sA_fx e8q8
    have Kwq8 := WK_V X Kwq6 e8q8 (by first | assumption | exact ⟨by omega, by omega⟩)
    rw [avq6] at avq8
    have hfq8 : hA hc7 (w + 1 + 1) = f := by rw [frq8 _ (by omega)]; exact hfq6
    have htrq8 : hA hc7 (w + 4) = tr := by rw [frq8 _ (by omega)]; exact htrq6
    have hemq8 : hI hc7 w 6 = em := by rw [hiq8]; exact hemq6
    cases e9q8
    show K mX10_fondBehind _ _ 0 0 92 [(3, vi (f (15 + p))), (2, vi (sumF (sU S) f p (sNt S))), (0, vr w), (1, vi p)] [] hc7
    refine K_aload_n (dt_at dtX10_fondBehind 50 rfl) rfl rfl ?_
    refine K_get (a := w) (ci := 10) (k := 5) (v := vr t) (dt_at dtX10_fondBehind 51 rfl) hW10 rfl (by decide) wF_X10_40 (by show vr (hR hc7 w 5) = vr t; rw [Kwq8.2.2.2, hR5]) ?_
    refine K_get (a := t) (ci := 3) (k := 9) (v := vr (t + 12)) (dt_at dtX10_fondBehind 52 rfl) hH rfl (by decide) wF_X10_114 rfl ?_
    refine K_aload_n (dt_at dtX10_fondBehind 53 rfl) rfl rfl ?_
    refine K_get (a := w) (ci := 10) (k := 1) (v := vr (w + 3)) (dt_at dtX10_fondBehind 54 rfl) hW10 rfl (by decide) wF_X10_20 rfl ?_
    refine K_callV (M' := mX6_answer) (a := (t + 12)) (ci := 6) (As := [vr (w + 3)]) (st := []) (dt_at dtX10_fondBehind 55 rfl) (sX6_answer (n := n) (lay_3_9 hH) (lay_10_1 hW10) (by omega) (by rw [Kwq8.2.2.1 (t + 12) 2 (by omega)]; exact r3) r2 (by rw [Kwq8.1 ((t + 12) + 1) (by omega) (by omega) (by omega) (by omega) (by omega)]; exact r4) (fun i _ _ => Kwq8.2.1.2.2 i) Kwq8.2.1.2.1) (lay_3_9 hH) rfl wL_X10_127 vX6_answer rfl npX6_answer (by decide) (by decide) (Nat.le_of_ble_eq_true rfl) (by decide) (by decide) GK_E (fun v9 hc9 hq => ?_) (fun E h9 hq => by cases hq.1)
    have hqq10 := hq
    obtain ⟨e9q10, p1q10, frq10, hiq10, hrq10⟩ := hqq10
    have Kwq10 := WK_P X Kwq8 (c := (t + 12 + 2)) (Or.inr rfl) p1q10 frq10 hiq10 hrq10
    have hfq10 : hA hc9 (w + 1 + 1) = f := by rw [frq10 _ (by omega)]; exact hfq8
    have htrq10 : hA hc9 (w + 4) = tr := by rw [frq10 _ (by omega)]; exact htrq8
    have hemq10 : hI hc9 w 6 = em := by rw [hiq10]; exact hemq8
    cases e9q10
    show K mX10_fondBehind _ _ 0 0 106 [(3, vi (f (15 + p))), (2, vi (sumF (sU S) f p (sNt S))), (0, vr w), (1, vi p)] [vi (evR (hA hc7 ((t + 12) + 1)) (hA hc7 (w + 3)) (hA hc7 ((t + 12) + 2)) n)] hc9
    rw [Kwq8.1 ((t + 12) + 1) (by omega) (by omega) (by omega) (by omega) (by omega), r5 _ _ Kwq8.2.1.2.2, avq8, show mkF (upI (upI (upI (upI (hA h (w + 3)) (-1 - (-1)) (f (15 + p))) (-1 - (-2)) (f 0)) (-1 - (-7)) (sumF (sU S) f p (sNt S))) (-1 - (-8)) ((sAw S) p)) = (vF S f p (sumF (sU S) f p (sNt S))) from by funext i; simp only [mkF, vF, upI]; (repeat' split) <;> first | rfl | omega | (exfalso; omega)]
    exact K_iret (dt_at dtX10_fondBehind 56 rfl) rfl rfl (by decide) (by decide) ⟨by rw [show fondB S f p = F (vF S f p (sumF (sU S) f p (sNt S))) from by unfold fondB; rw [hpu]], ⟨Kwq10, hfq10, htrq10, hemq10⟩⟩
