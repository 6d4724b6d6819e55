/-- the number that 32 bits hold -/
def wr (x : Int) : Int := (Int32.ofInt x).toInt
theorem wr_same (x : Int) : Int32.ofInt x = Int32.ofInt (wr x) := (Int32.ofInt_toInt _).symm
theorem wr32 (x : Int) : i32 (wr x) := i32_to _
def joinF (s a b : Int) : Int := if s = -10 then (if a ≠ 0 ∨ b ≠ 0 then 1 else 0) else if s = -11 then (if a ≠ 0 ∧ b ≠ 0 then 1 else 0) else if s = -12 then (if a < b then 1 else 0) else if s = -13 then (if a = b then 1 else 0) else if s = -14 then wr (a + b) else if s = -15 then wr (a - b) else if s = -16 then wr (a * b) else (if b = 0 then 0 else wr (a.tdiv b))
theorem i32_01 {c : Prop} [Decidable c] : i32 (if c then 1 else 0) := by
  by_cases h : c
  · rw [if_pos h]; exact ⟨by decide, by decide⟩
  · rw [if_neg h]; exact ⟨by decide, by decide⟩
theorem i32_if {c : Prop} [Decidable c] {x y : Int} (hx : i32 x) (hy : i32 y) : i32 (if c then x else y) := by
  by_cases h : c
  · rw [if_pos h]; exact hx
  · rw [if_neg h]; exact hy
theorem joinF32 (s a b : Int) : i32 (joinF s a b) := by
  unfold joinF
  exact i32_if i32_01 (i32_if i32_01 (i32_if i32_01 (i32_if i32_01 (i32_if (wr32 _) (i32_if (wr32 _) (i32_if (wr32 _) (i32_if ⟨by decide, by decide⟩ (wr32 _))))))))
def stR (S vals : Int → Int) (u : Int) (x : Int × (Int → Int)) : Int × (Int → Int) :=
  if S u < -8 then (if S u = -9 then (if 0 < x.1 then (x.1, upI x.2 (x.1 - 1) (if x.2 (x.1 - 1) = 0 then 1 else 0)) else x) else (if 1 < x.1 then (x.1 - 1, upI x.2 (x.1 - 1 - 1) (joinF (S u) (x.2 (x.1 - 1 - 1)) (x.2 (x.1 - 1)))) else x))
  else (if x.1 < 64 then (x.1 + 1, upI x.2 x.1 (if S u < 0 then vals (-1 - S u) else S u)) else x)
def itR (S vals g : Int → Int) : Nat → Int × (Int → Int)
  | 0 => (0, g)
  | k + 1 => stR S vals (k : Int) (itR S vals g k)
/-- what a rule answers -/
def evR (S vals g : Int → Int) (n : Nat) : Int := if 0 < (itR S vals g n).1 then (itR S vals g n).2 0 else 0

def mX6_clear : MI := (yX6_clear, cX6_clear, 1, none, rmK 1 0)
def tX6_clear : List (Nat × Instr × Nat) := [(0, .aload_n 0, 1), (1, .iconst 0, 1), (2, .putfield 18, 3), (5, .aload_n 0, 1), (6, .iconst 0, 1), (7, .putfield 22, 3), (10, .return_, 1)]
theorem dtX6_clear : tX6_clear.all (fun q => decide (decode cX6_clear q.1 = .ok (q.2.1, q.2.2))) = true := by decide +kernel
theorem npX6_clear : (parseMethodDescriptor (mY mX6_clear).desc).map (fun d => d.parameters.length) = some 0 := by decide +kernel
theorem vX6_clear : mV mX6_clear := ⟨wI_X6_clear, wS_X6_clear, wN_X6, wC_X6_clear, by decide +kernel, by decide +kernel⟩
set_option maxHeartbeats 4000000 in
set_option maxRecDepth 100000 in
theorem sX6_clear {h : HP} {r : Nat} (hr : TT r = (0, 6)) : SpecK mX6_clear [vr r] h (fun o h' => o = .inl (none) ∧ h' = sI (sI h r 2 0) r 3 0) := by
  refine Spec_of (by decide +kernel) (Nat.le_of_ble_eq_true rfl) ?_
  refine K_aload_n (dt_at dtX6_clear 0 rfl) rfl rfl ?_
  refine K_iconst (dt_at dtX6_clear 1 rfl) ?_
  refine K_putI (a := r) (ci := 6) (k := 2) (dt_at dtX6_clear 2 rfl) hr rfl (by decide) wF_X6_18 rfl (Or.inl rfl) rfl rfl ?_
  refine K_aload_n (dt_at dtX6_clear 3 rfl) rfl rfl ?_
  refine K_iconst (dt_at dtX6_clear 4 rfl) ?_
  refine K_putI (a := r) (ci := 6) (k := 3) (dt_at dtX6_clear 5 rfl) hr rfl (by decide) wF_X6_22 rfl (Or.inr rfl) (by decide) (by decide) ?_
  exact K_vret (dt_at dtX6_clear 6 rfl) rfl (by decide) (by decide) ⟨rfl, rfl⟩
def mX6_open : MI := (yX6_open, cX6_open, 1, none, rmK 1 0)
def tX6_open : List (Nat × Instr × Nat) := [(0, .aload_n 0, 1), (1, .iconst 1, 1), (2, .putfield 22, 3), (5, .return_, 1)]
theorem dtX6_open : tX6_open.all (fun q => decide (decode cX6_open q.1 = .ok (q.2.1, q.2.2))) = true := by decide +kernel
theorem npX6_open : (parseMethodDescriptor (mY mX6_open).desc).map (fun d => d.parameters.length) = some 0 := by decide +kernel
theorem vX6_open : mV mX6_open := ⟨wI_X6_open, wS_X6_open, wN_X6, wC_X6_open, by decide +kernel, by decide +kernel⟩
set_option maxHeartbeats 4000000 in
set_option maxRecDepth 100000 in
theorem sX6_open {h : HP} {r : Nat} (hr : TT r = (0, 6)) : SpecK mX6_open [vr r] h (fun o h' => o = .inl (none) ∧ h' = sI h r 3 1) := by
  refine Spec_of (by decide +kernel) (Nat.le_of_ble_eq_true rfl) ?_
  refine K_aload_n (dt_at dtX6_open 0 rfl) rfl rfl ?_
  refine K_iconst (dt_at dtX6_open 1 rfl) ?_
  refine K_putI (a := r) (ci := 6) (k := 3) (dt_at dtX6_open 2 rfl) hr rfl (by decide) wF_X6_22 rfl (Or.inr rfl) (by decide) (by decide) ?_
  exact K_vret (dt_at dtX6_open 3 rfl) rfl (by decide) (by decide) ⟨rfl, rfl⟩
def mX6_told : MI := (yX6_told, cX6_told, 1, (some .boolean), rmK 1 0)
def tX6_told : List (Nat × Instr × Nat) := [(0, .aload_n 0, 1), (1, .getfield 22, 3), (4, .ireturn, 1)]
theorem dtX6_told : tX6_told.all (fun q => decide (decode cX6_told q.1 = .ok (q.2.1, q.2.2))) = true := by decide +kernel
theorem npX6_told : (parseMethodDescriptor (mY mX6_told).desc).map (fun d => d.parameters.length) = some 0 := by decide +kernel
theorem vX6_told : mV mX6_told := ⟨wI_X6_told, wS_X6_told, wN_X6, wC_X6_told, by decide +kernel, by decide +kernel⟩
set_option maxHeartbeats 4000000 in
set_option maxRecDepth 100000 in
theorem sX6_told {h : HP} {r : Nat} (hr : TT r = (0, 6)) (hb : hI h r 3 = 0 ∨ hI h r 3 = 1) : SpecK mX6_told [vr r] h (fun o h' => o = .inl (some (vi (hI h r 3))) ∧ h' = h) := by
  refine Spec_of (by decide +kernel) (Nat.le_of_ble_eq_true rfl) ?_
  refine K_aload_n (dt_at dtX6_told 0 rfl) rfl rfl ?_
  refine K_get (a := r) (ci := 6) (k := 3) (v := vi (hI h r 3)) (dt_at dtX6_told 1 rfl) hr rfl (by decide) wF_X6_22 rfl ?_
  exact K_iret (dt_at dtX6_told 2 rfl) rfl (nr_bool hb) (by decide) (by decide) ⟨rfl, rfl⟩
def mX6_add : MI := (yX6_add, cX6_add, 2, none, rmK 1 0)
def tX6_add : List (Nat × Instr × Nat) := [(0, .aload_n 0, 1), (1, .getfield 18, 3), (4, .sipush 700, 3), (7, .if_icmp .ge 23, 3), (10, .aload_n 0, 1), (11, .getfield 9, 3), (14, .aload_n 0, 1), (15, .getfield 18, 3), (18, .iload_n 1, 1), (19, .iastore, 1), (20, .aload_n 0, 1), (21, .dup, 1), (22, .getfield 18, 3), (25, .iconst 1, 1), (26, .iadd, 1), (27, .putfield 18, 3), (30, .return_, 1)]
theorem dtX6_add : tX6_add.all (fun q => decide (decode cX6_add q.1 = .ok (q.2.1, q.2.2))) = true := by decide +kernel
theorem npX6_add : (parseMethodDescriptor (mY mX6_add).desc).map (fun d => d.parameters.length) = some 1 := by decide +kernel
theorem vX6_add : mV mX6_add := ⟨wI_X6_add, wS_X6_add, wN_X6, wC_X6_add, by decide +kernel, by decide +kernel⟩
set_option maxHeartbeats 4000000 in
set_option maxRecDepth 100000 in
theorem sX6_add {h : HP} {r : Nat} {x : Int} (hr : TT r = (0, 6)) (hl : 0 ≤ hI h r 2 ∧ hI h r 2 < 700) : SpecK mX6_add [vr r, vi x] h (fun o h' => o = .inl (none) ∧ h' = sI (sA h (r + 1) (hI h r 2) x) r 2 (hI h r 2 + 1)) := by
  refine Spec_of (by decide +kernel) (Nat.le_of_ble_eq_true rfl) ?_
  refine K_aload_n (dt_at dtX6_add 0 rfl) rfl rfl ?_
  refine K_get (a := r) (ci := 6) (k := 2) (v := vi (hI h r 2)) (dt_at dtX6_add 1 rfl) hr rfl (by decide) wF_X6_18 rfl ?_
  refine K_sipush (dt_at dtX6_add 2 rfl) (by decide) ?_
  refine K_icmp_ge (tgt := 30) (dt_at dtX6_add 3 rfl) (by decide) (by first | assumption | exact ⟨by omega, by omega⟩) (by first | assumption | exact ⟨by omega, by omega⟩) (fun c1 => absurd c1 (by omega)) (fun c1 => ?_)
  refine K_aload_n (dt_at dtX6_add 4 rfl) rfl rfl ?_
  refine K_get (a := r) (ci := 6) (k := 0) (v := vr (r + 1)) (dt_at dtX6_add 5 rfl) hr rfl (by decide) wF_X6_9 rfl ?_
  refine K_aload_n (dt_at dtX6_add 6 rfl) rfl rfl ?_
  refine K_get (a := r) (ci := 6) (k := 2) (v := vi (hI h r 2)) (dt_at dtX6_add 7 rfl) hr rfl (by decide) wF_X6_18 rfl ?_
  refine K_iload_n (dt_at dtX6_add 8 rfl) rfl rfl ?_
  refine K_iast (dt_at dtX6_add 9 rfl) (lay_6_0 hr) (by omega) (by omega) ?_
  refine K_aload_n (dt_at dtX6_add 10 rfl) rfl rfl ?_
  refine K_dup (dt_at dtX6_add 11 rfl) rfl ?_
  refine K_get (a := r) (ci := 6) (k := 2) (v := vi (hI (sA h (r + 1) (hI h r 2) x) r 2)) (dt_at dtX6_add 12 rfl) hr rfl (by decide) wF_X6_18 rfl ?_
  refine K_iconst (dt_at dtX6_add 13 rfl) ?_
  refine K_iadd (dt_at dtX6_add 14 rfl) ?_
  refine K_putI (a := r) (ci := 6) (k := 2) (dt_at dtX6_add 15 rfl) hr rfl (by decide) wF_X6_18 rfl (Or.inl rfl) rfl rfl ?_
  exact K_vret (dt_at dtX6_add 16 rfl) rfl (by decide) (by decide) ⟨rfl, rfl⟩
def mX6_join : MI := (yX6_join, cX6_join, 3, (some .int), rmK 1 0)
def tX6_join : List (Nat × Instr × Nat) := [(0, .iload_n 0, 1), (1, .tableswitch 105 (-16) (-10) #[101, 97, 93, 82, 71, 57, 43], 43), (44, .iload_n 1, 1), (45, .ifCond .ne 7, 3), (48, .iload_n 2, 1), (49, .ifCond .eq 7, 3), (52, .iconst 1, 1), (53, .goto 4, 3), (56, .iconst 0, 1), (57, .ireturn, 1), (58, .iload_n 1, 1), (59, .ifCond .eq 11, 3), (62, .iload_n 2, 1), (63, .ifCond .eq 7, 3), (66, .iconst 1, 1), (67, .goto 4, 3), (70, .iconst 0, 1), (71, .ireturn, 1), (72, .iload_n 1, 1), (73, .iload_n 2, 1), (74, .if_icmp .ge 7, 3), (77, .iconst 1, 1), (78, .goto 4, 3), (81, .iconst 0, 1), (82, .ireturn, 1), (83, .iload_n 1, 1), (84, .iload_n 2, 1), (85, .if_icmp .ne 7, 3), (88, .iconst 1, 1), (89, .goto 4, 3), (92, .iconst 0, 1), (93, .ireturn, 1), (94, .iload_n 1, 1), (95, .iload_n 2, 1), (96, .iadd, 1), (97, .ireturn, 1), (98, .iload_n 1, 1), (99, .iload_n 2, 1), (100, .isub, 1), (101, .ireturn, 1), (102, .iload_n 1, 1), (103, .iload_n 2, 1), (104, .imul, 1), (105, .ireturn, 1), (106, .iload_n 2, 1), (107, .ifCond .ne 7, 3), (110, .iconst 0, 1), (111, .goto 6, 3), (114, .iload_n 1, 1), (115, .iload_n 2, 1), (116, .idiv, 1), (117, .ireturn, 1)]
theorem dtX6_join : tX6_join.all (fun q => decide (decode cX6_join q.1 = .ok (q.2.1, q.2.2))) = true := by decide +kernel
theorem npX6_join : (parseMethodDescriptor (mY mX6_join).desc).map (fun d => d.parameters.length) = some 3 := by decide +kernel
theorem vX6_join : mS mX6_join := ⟨wT_X6_join, wN_X6, wC_X6_join, by decide +kernel, by decide +kernel⟩
set_option maxHeartbeats 4000000 in
set_option maxRecDepth 100000 in
theorem sX6_join_17 {h : HP} {a b : Int} (ha : i32 a) (hb : i32 b) : SpecK mX6_join [vi (-17), vi a, vi b] h (fun o h' => o = .inl (some (vi (joinF (-17) a b))) ∧ h' = h) := by
  refine Spec_of (by decide +kernel) (Nat.le_of_ble_eq_true rfl) ?_
  refine K_iload_n (dt_at dtX6_join 0 rfl) rfl rfl ?_
  refine K_tableOut (tgt := 106) (dt_at dtX6_join 1 rfl) ⟨by decide, by decide⟩ (by decide) (by decide) ?_
  refine K_iload_n (dt_at dtX6_join 44 rfl) rfl rfl ?_
  refine K_if_ne (tgt := 114) (dt_at dtX6_join 45 rfl) (by decide) hb (fun c1 => ?_) (fun c1 => ?_)
  · refine K_iload_n (dt_at dtX6_join 48 rfl) rfl rfl ?_
    refine K_iload_n (dt_at dtX6_join 49 rfl) rfl rfl ?_
    refine K_idiv (dt_at dtX6_join 50 rfl) ha hb (by omega) ?_
    refine K_same (y := wr (a.tdiv b)) (wr_same _) ?_
    exact K_iret (dt_at dtX6_join 51 rfl) rfl rfl (by decide) (by decide) ⟨by rw [show joinF (-17) a b = (if b = 0 then 0 else wr (a.tdiv b)) from rfl, if_neg (by assumption)], rfl⟩
  · refine K_iconst (dt_at dtX6_join 46 rfl) ?_
    refine K_goto (tgt := 117) (dt_at dtX6_join 47 rfl) (by decide) ?_
    exact K_iret (dt_at dtX6_join 51 rfl) rfl rfl (by decide) (by decide) ⟨by rw [show joinF (-17) a b = (if b = 0 then 0 else wr (a.tdiv b)) from rfl, if_pos (by assumption)], rfl⟩
set_option maxHeartbeats 4000000 in
set_option maxRecDepth 100000 in
theorem sX6_join_16 {h : HP} {a b : Int} (ha : i32 a) (hb : i32 b) : SpecK mX6_join [vi (-16), vi a, vi b] h (fun o h' => o = .inl (some (vi (joinF (-16) a b))) ∧ h' = h) := by
  refine Spec_of (by decide +kernel) (Nat.le_of_ble_eq_true rfl) ?_
  refine K_iload_n (dt_at dtX6_join 0 rfl) rfl rfl ?_
  refine K_tableIn (tgt := 102) (dt_at dtX6_join 1 rfl) ⟨by decide, by decide⟩ (by decide) (by decide) rfl (by decide) ?_
  refine K_iload_n (dt_at dtX6_join 40 rfl) rfl rfl ?_
  refine K_iload_n (dt_at dtX6_join 41 rfl) rfl rfl ?_
  refine K_imul (dt_at dtX6_join 42 rfl) ?_
  refine K_same (y := wr (a * b)) (wr_same _) ?_
  exact K_iret (dt_at dtX6_join 43 rfl) rfl rfl (by decide) (by decide) ⟨rfl, rfl⟩
set_option maxHeartbeats 4000000 in
set_option maxRecDepth 100000 in
theorem sX6_join_15 {h : HP} {a b : Int} (ha : i32 a) (hb : i32 b) : SpecK mX6_join [vi (-15), vi a, vi b] h (fun o h' => o = .inl (some (vi (joinF (-15) a b))) ∧ h' = h) := by
  refine Spec_of (by decide +kernel) (Nat.le_of_ble_eq_true rfl) ?_
  refine K_iload_n (dt_at dtX6_join 0 rfl) rfl rfl ?_
  refine K_tableIn (tgt := 98) (dt_at dtX6_join 1 rfl) ⟨by decide, by decide⟩ (by decide) (by decide) rfl (by decide) ?_
  refine K_iload_n (dt_at dtX6_join 36 rfl) rfl rfl ?_
  refine K_iload_n (dt_at dtX6_join 37 rfl) rfl rfl ?_
  refine K_isub (dt_at dtX6_join 38 rfl) ?_
  refine K_same (y := wr (a - b)) (wr_same _) ?_
  exact K_iret (dt_at dtX6_join 39 rfl) rfl rfl (by decide) (by decide) ⟨rfl, rfl⟩
set_option maxHeartbeats 4000000 in
set_option maxRecDepth 100000 in
theorem sX6_join_14 {h : HP} {a b : Int} (ha : i32 a) (hb : i32 b) : SpecK mX6_join [vi (-14), vi a, vi b] h (fun o h' => o = .inl (some (vi (joinF (-14) a b))) ∧ h' = h) := by
  refine Spec_of (by decide +kernel) (Nat.le_of_ble_eq_true rfl) ?_
  refine K_iload_n (dt_at dtX6_join 0 rfl) rfl rfl ?_
  refine K_tableIn (tgt := 94) (dt_at dtX6_join 1 rfl) ⟨by decide, by decide⟩ (by decide) (by decide) rfl (by decide) ?_
  refine K_iload_n (dt_at dtX6_join 32 rfl) rfl rfl ?_
  refine K_iload_n (dt_at dtX6_join 33 rfl) rfl rfl ?_
  refine K_iadd (dt_at dtX6_join 34 rfl) ?_
  refine K_same (y := wr (a + b)) (wr_same _) ?_
  exact K_iret (dt_at dtX6_join 35 rfl) rfl rfl (by decide) (by decide) ⟨rfl, rfl⟩
set_option maxHeartbeats 4000000 in
set_option maxRecDepth 100000 in
theorem sX6_join_13 {h : HP} {a b : Int} (ha : i32 a) (hb : i32 b) : SpecK mX6_join [vi (-13), vi a, vi b] h (fun o h' => o = .inl (some (vi (joinF (-13) a b))) ∧ h' = h) := by
  refine Spec_of (by decide +kernel) (Nat.le_of_ble_eq_true rfl) ?_
  refine K_iload_n (dt_at dtX6_join 0 rfl) rfl rfl ?_
  refine K_tableIn (tgt := 83) (dt_at dtX6_join 1 rfl) ⟨by decide, by decide⟩ (by decide) (by decide) rfl (by decide) ?_
  refine K_iload_n (dt_at dtX6_join 25 rfl) rfl rfl ?_
  refine K_iload_n (dt_at dtX6_join 26 rfl) rfl rfl ?_
  refine K_icmp_ne (tgt := 92) (dt_at dtX6_join 27 rfl) (by decide) ha hb (fun c1 => ?_) (fun c1 => ?_)
  · refine K_iconst (dt_at dtX6_join 30 rfl) ?_
    exact K_iret (dt_at dtX6_join 31 rfl) rfl rfl (by decide) (by decide) ⟨by rw [show joinF (-13) a b = (if a = b then 1 else 0) from rfl, if_neg (by omega)], rfl⟩
  · refine K_iconst (dt_at dtX6_join 28 rfl) ?_
    refine K_goto (tgt := 93) (dt_at dtX6_join 29 rfl) (by decide) ?_
    exact K_iret (dt_at dtX6_join 31 rfl) rfl rfl (by decide) (by decide) ⟨by rw [show joinF (-13) a b = (if a = b then 1 else 0) from rfl, if_pos (by omega)], rfl⟩
set_option maxHeartbeats 4000000 in
set_option maxRecDepth 100000 in
theorem sX6_join_12 {h : HP} {a b : Int} (ha : i32 a) (hb : i32 b) : SpecK mX6_join [vi (-12), vi a, vi b] h (fun o h' => o = .inl (some (vi (joinF (-12) a b))) ∧ h' = h) := by
  refine Spec_of (by decide +kernel) (Nat.le_of_ble_eq_true rfl) ?_
  refine K_iload_n (dt_at dtX6_join 0 rfl) rfl rfl ?_
  refine K_tableIn (tgt := 72) (dt_at dtX6_join 1 rfl) ⟨by decide, by decide⟩ (by decide) (by decide) rfl (by decide) ?_
  refine K_iload_n (dt_at dtX6_join 18 rfl) rfl rfl ?_
  refine K_iload_n (dt_at dtX6_join 19 rfl) rfl rfl ?_
  refine K_icmp_ge (tgt := 81) (dt_at dtX6_join 20 rfl) (by decide) ha hb (fun c1 => ?_) (fun c1 => ?_)
  · refine K_iconst (dt_at dtX6_join 23 rfl) ?_
    exact K_iret (dt_at dtX6_join 24 rfl) rfl rfl (by decide) (by decide) ⟨by rw [show joinF (-12) a b = (if a < b then 1 else 0) from rfl, if_neg (by omega)], rfl⟩
  · refine K_iconst (dt_at dtX6_join 21 rfl) ?_
    refine K_goto (tgt := 82) (dt_at dtX6_join 22 rfl) (by decide) ?_
    exact K_iret (dt_at dtX6_join 24 rfl) rfl rfl (by decide) (by decide) ⟨by rw [show joinF (-12) a b = (if a < b then 1 else 0) from rfl, if_pos (by omega)], rfl⟩
set_option maxHeartbeats 4000000 in
set_option maxRecDepth 100000 in
theorem sX6_join_11 {h : HP} {a b : Int} (ha : i32 a) (hb : i32 b) : SpecK mX6_join [vi (-11), vi a, vi b] h (fun o h' => o = .inl (some (vi (joinF (-11) a b))) ∧ h' = h) := by
  refine Spec_of (by decide +kernel) (Nat.le_of_ble_eq_true rfl) ?_
  refine K_iload_n (dt_at dtX6_join 0 rfl) rfl rfl ?_
  refine K_tableIn (tgt := 58) (dt_at dtX6_join 1 rfl) ⟨by decide, by decide⟩ (by decide) (by decide) rfl (by decide) ?_
  refine K_iload_n (dt_at dtX6_join 10 rfl) rfl rfl ?_
  refine K_if_eq (tgt := 70) (dt_at dtX6_join 11 rfl) (by decide) ha (fun c1 => ?_) (fun c1 => ?_)
  · refine K_iconst (dt_at dtX6_join 16 rfl) ?_
    exact K_iret (dt_at dtX6_join 17 rfl) rfl rfl (by decide) (by decide) ⟨by rw [show joinF (-11) a b = (if a ≠ 0 ∧ b ≠ 0 then 1 else 0) from rfl, if_neg (by omega)], rfl⟩
  · refine K_iload_n (dt_at dtX6_join 12 rfl) rfl rfl ?_
    refine K_if_eq (tgt := 70) (dt_at dtX6_join 13 rfl) (by decide) hb (fun c2 => ?_) (fun c2 => ?_)
    · refine K_iconst (dt_at dtX6_join 16 rfl) ?_
      exact K_iret (dt_at dtX6_join 17 rfl) rfl rfl (by decide) (by decide) ⟨by rw [show joinF (-11) a b = (if a ≠ 0 ∧ b ≠ 0 then 1 else 0) from rfl, if_neg (by omega)], rfl⟩
    · refine K_iconst (dt_at dtX6_join 14 rfl) ?_
      refine K_goto (tgt := 71) (dt_at dtX6_join 15 rfl) (by decide) ?_
      exact K_iret (dt_at dtX6_join 17 rfl) rfl rfl (by decide) (by decide) ⟨by rw [show joinF (-11) a b = (if a ≠ 0 ∧ b ≠ 0 then 1 else 0) from rfl, if_pos (by omega)], rfl⟩
set_option maxHeartbeats 4000000 in
set_option maxRecDepth 100000 in
theorem sX6_join_10 {h : HP} {a b : Int} (ha : i32 a) (hb : i32 b) : SpecK mX6_join [vi (-10), vi a, vi b] h (fun o h' => o = .inl (some (vi (joinF (-10) a b))) ∧ h' = h) := by
  refine Spec_of (by decide +kernel) (Nat.le_of_ble_eq_true rfl) ?_
  refine K_iload_n (dt_at dtX6_join 0 rfl) rfl rfl ?_
  refine K_tableIn (tgt := 44) (dt_at dtX6_join 1 rfl) ⟨by decide, by decide⟩ (by decide) (by decide) rfl (by decide) ?_
  refine K_iload_n (dt_at dtX6_join 2 rfl) rfl rfl ?_
  refine K_if_ne (tgt := 52) (dt_at dtX6_join 3 rfl) (by decide) ha (fun c1 => ?_) (fun c1 => ?_)
  · refine K_iconst (dt_at dtX6_join 6 rfl) ?_
    refine K_goto (tgt := 57) (dt_at dtX6_join 7 rfl) (by decide) ?_
    exact K_iret (dt_at dtX6_join 9 rfl) rfl rfl (by decide) (by decide) ⟨by rw [show joinF (-10) a b = (if a ≠ 0 ∨ b ≠ 0 then 1 else 0) from rfl, if_pos (by omega)], rfl⟩
  · refine K_iload_n (dt_at dtX6_join 4 rfl) rfl rfl ?_
    refine K_if_eq (tgt := 56) (dt_at dtX6_join 5 rfl) (by decide) hb (fun c2 => ?_) (fun c2 => ?_)
    · refine K_iconst (dt_at dtX6_join 8 rfl) ?_
      exact K_iret (dt_at dtX6_join 9 rfl) rfl rfl (by decide) (by decide) ⟨by rw [show joinF (-10) a b = (if a ≠ 0 ∨ b ≠ 0 then 1 else 0) from rfl, if_neg (by omega)], rfl⟩
    · refine K_iconst (dt_at dtX6_join 6 rfl) ?_
      refine K_goto (tgt := 57) (dt_at dtX6_join 7 rfl) (by decide) ?_
      exact K_iret (dt_at dtX6_join 9 rfl) rfl rfl (by decide) (by decide) ⟨by rw [show joinF (-10) a b = (if a ≠ 0 ∨ b ≠ 0 then 1 else 0) from rfl, if_pos (by omega)], rfl⟩
theorem sX6_join {h : HP} {s a b : Int} (hs : -17 ≤ s ∧ s < -9) (ha : i32 a) (hb : i32 b) : SpecK mX6_join [vi s, vi a, vi b] h (fun o h' => o = .inl (some (vi (joinF s a b))) ∧ h' = h) := by
  rcases (show s = -10 ∨ s = -11 ∨ s = -12 ∨ s = -13 ∨ s = -14 ∨ s = -15 ∨ s = -16 ∨ s = -17 by omega) with rfl | rfl | rfl | rfl | rfl | rfl | rfl | rfl
  · exact sX6_join_10 ha hb
  · exact sX6_join_11 ha hb
  · exact sX6_join_12 ha hb
  · exact sX6_join_13 ha hb
  · exact sX6_join_14 ha hb
  · exact sX6_join_15 ha hb
  · exact sX6_join_16 ha hb
  · exact sX6_join_17 ha hb
def mX6_answer : MI := (yX6_answer, cX6_answer, 5, (some .int), rmK 2 0)
def tX6_answer : List (Nat × Instr × Nat) := [(0, .iconst 0, 1), (1, .istore_n 2, 1), (2, .iconst 0, 1), (3, .istore_n 3, 1), (4, .iload_n 3, 1), (5, .aload_n 0, 1), (6, .getfield 18, 3), (9, .if_icmp .ge 131, 3), (12, .aload_n 0, 1), (13, .getfield 9, 3), (16, .iload_n 3, 1), (17, .iaload, 1), (18, .istore 4, 2), (20, .iload 4, 2), (22, .bipush (-8), 2), (24, .if_icmp .lt 37, 3), (27, .iload_n 2, 1), (28, .bipush 64, 2), (30, .if_icmp .ge 104, 3), (33, .aload_n 0, 1), (34, .getfield 15, 3), (37, .iload_n 2, 1), (38, .iload 4, 2), (40, .ifCond .lt 8, 3), (43, .iload 4, 2), (45, .goto 9, 3), (48, .aload_n 1, 1), (49, .iconst (-1), 1), (50, .iload 4, 2), (52, .isub, 1), (53, .iaload, 1), (54, .iastore, 1), (55, .iinc 2 1, 3), (58, .goto 76, 3), (61, .iload 4, 2), (63, .bipush (-9), 2), (65, .if_icmp .ne 34, 3), (68, .iload_n 2, 1), (69, .ifCond .le 65, 3), (72, .aload_n 0, 1), (73, .getfield 15, 3), (76, .iload_n 2, 1), (77, .iconst 1, 1), (78, .isub, 1), (79, .aload_n 0, 1), (80, .getfield 15, 3), (83, .iload_n 2, 1), (84, .iconst 1, 1), (85, .isub, 1), (86, .iaload, 1), (87, .ifCond .ne 7, 3), (90, .iconst 1, 1), (91, .goto 4, 3), (94, .iconst 0, 1), (95, .iastore, 1), (96, .goto 38, 3), (99, .iload_n 2, 1), (100, .iconst 1, 1), (101, .if_icmp .le 33, 3), (104, .iinc 2 (-1), 3), (107, .aload_n 0, 1), (108, .getfield 15, 3), (111, .iload_n 2, 1), (112, .iconst 1, 1), (113, .isub, 1), (114, .iload 4, 2), (116, .aload_n 0, 1), (117, .getfield 15, 3), (120, .iload_n 2, 1), (121, .iconst 1, 1), (122, .isub, 1), (123, .iaload, 1), (124, .aload_n 0, 1), (125, .getfield 15, 3), (128, .iload_n 2, 1), (129, .iaload, 1), (130, .invokestatic 26, 3), (133, .iastore, 1), (134, .iinc 3 1, 3), (137, .goto (-133), 3), (140, .iload_n 2, 1), (141, .ifCond .le 12, 3), (144, .aload_n 0, 1), (145, .getfield 15, 3), (148, .iconst 0, 1), (149, .iaload, 1), (150, .goto 4, 3), (153, .iconst 0, 1), (154, .ireturn, 1)]
theorem dtX6_answer : tX6_answer.all (fun q => decide (decode cX6_answer q.1 = .ok (q.2.1, q.2.2))) = true := by decide +kernel
theorem npX6_answer : (parseMethodDescriptor (mY mX6_answer).desc).map (fun d => d.parameters.length) = some 1 := by decide +kernel
theorem vX6_answer : mV mX6_answer := ⟨wI_X6_answer, wS_X6_answer, wN_X6, wC_X6_answer, by decide +kernel, by decide +kernel⟩
theorem stR_pN {S vals : Int → Int} {k u : Int} {g : Int → Int} (h : -8 ≤ S k) (h2 : u < 64) (h3 : 0 ≤ S k) : stR S vals k (u, g) = (u + 1, upI g u (S k)) := by
  unfold stR; rw [if_neg (by omega), if_pos h2, if_neg (by omega)]
theorem stR_pV {S vals : Int → Int} {k u : Int} {g : Int → Int} (h : -8 ≤ S k) (h2 : u < 64) (h3 : S k < 0) : stR S vals k (u, g) = (u + 1, upI g u (vals (-1 - S k))) := by
  unfold stR; rw [if_neg (by omega), if_pos h2, if_pos h3]
theorem stR_pF {S vals : Int → Int} {k u : Int} {g : Int → Int} (h : -8 ≤ S k) (h2 : 64 ≤ u) : stR S vals k (u, g) = (u, g) := by
  unfold stR; rw [if_neg (by omega), if_neg (show ¬ (u, g).1 < 64 from by show ¬ u < 64; omega)]
theorem stR_n1 {S vals : Int → Int} {k u : Int} {g : Int → Int} (h : S k = -9) (h2 : 0 < u) (h3 : g (u - 1) = 0) : stR S vals k (u, g) = (u, upI g (u - 1) 1) := by
  unfold stR; rw [if_pos (by omega), if_pos h, if_pos h2, if_pos h3]
theorem stR_n0 {S vals : Int → Int} {k u : Int} {g : Int → Int} (h : S k = -9) (h2 : 0 < u) (h3 : g (u - 1) ≠ 0) : stR S vals k (u, g) = (u, upI g (u - 1) 0) := by
  unfold stR; rw [if_pos (by omega), if_pos h, if_pos h2, if_neg h3]
theorem stR_nF {S vals : Int → Int} {k u : Int} {g : Int → Int} (h : S k = -9) (h2 : u ≤ 0) : stR S vals k (u, g) = (u, g) := by
  unfold stR; rw [if_pos (by omega), if_pos h, if_neg (show ¬ 0 < (u, g).1 from by show ¬ 0 < u; omega)]
theorem stR_j {S vals : Int → Int} {k u : Int} {g : Int → Int} (h : S k < -8) (h1 : S k ≠ -9) (h2 : 1 < u) : stR S vals k (u, g) = (u + -1, upI g (u + -1 - 1) (joinF (S k) (g (u + -1 - 1)) (g (u + -1)))) := by
  unfold stR; rw [if_pos h, if_neg h1, if_pos h2]; rfl
theorem stR_jF {S vals : Int → Int} {k u : Int} {g : Int → Int} (h : S k < -8) (h1 : S k ≠ -9) (h2 : u ≤ 1) : stR S vals k (u, g) = (u, g) := by
  unfold stR; rw [if_pos h, if_neg h1, if_neg (show ¬ 1 < (u, g).1 from by show ¬ 1 < u; omega)]
set_option maxHeartbeats 4000000 in
set_option maxRecDepth 100000 in
theorem lp_X6_answer {Q : AO → HP → Prop} {h : HP} {r w n : Nat} (hr : TT r = (0, 6)) (hw : TT w = (1, 8)) (hne : w ≠ r + 2) (hl : hI h r 2 = (n : Int)) (hn : n ≤ 700) (hS : ∀ i : Int, 0 ≤ i → i < n → -17 ≤ hA h (r + 1) i ∧ hA h (r + 1) i ≤ 9999) (hv : ∀ i : Int, 0 ≤ i → i < 8 → i32 (hA h w i)) (hg : ∀ i, i32 (hA h (r + 2) i)) (hQ : ∀ h1 : HP, (∀ i, i32 (hA h1 (r + 2) i)) → (∀ a, a ≠ r + 2 → hA h1 a = hA h a) → hI h1 = hI h → hR h1 = hR h → Q (.inl (some (vi (evR (hA h (r + 1)) (hA h w) (hA h (r + 2)) n)))) h1) : ∀ (d k : Nat) (u : Int) (g : Int → Int) (hh : HP), k + d = n → (itR (hA h (r + 1)) (hA h w) (hA h (r + 2)) k) = (u, g) → 0 ≤ u ∧ u ≤ 64 → (∀ i, i32 (g i)) → hA hh (r + 2) = g → (∀ a, a ≠ r + 2 → hA hh a = hA h a) → hI hh = hI h → hR hh = hR h → K mX6_answer GK (ZK Q 0 0) 0 0 4 [(3, vi (k : Int)), (2, vi u), (0, vr r), (1, vr w)] [] hh := by
  intro d
  induction d with
  | zero =>
    intro k u g hh hk hx hu hgi ha hf hi hRR
    obtain rfl : n = k := by omega
    refine K_iload_n (dt_at dtX6_answer 4 rfl) rfl rfl ?_
    refine K_aload_n (dt_at dtX6_answer 5 rfl) rfl rfl ?_
    refine K_get (a := r) (ci := 6) (k := 2) (v := vi (n : Int)) (dt_at dtX6_answer 6 rfl) hr rfl (by decide) wF_X6_18 (by show vi (hI hh r 2) = vi (n : Int); rw [hi, hl]) ?_
    refine K_icmp_ge (tgt := 140) (dt_at dtX6_answer 7 rfl) (by decide) (by first | assumption | exact ⟨by omega, by omega⟩) (by first | assumption | exact ⟨by omega, by omega⟩) (fun c1 => ?_) (fun c1 => absurd c1 (by omega))
    refine K_iload_n (dt_at dtX6_answer 80 rfl) rfl rfl ?_
    refine K_if_le (tgt := 153) (dt_at dtX6_answer 81 rfl) (by decide) (by first | assumption | exact ⟨by omega, by omega⟩) (fun c2 => ?_) (fun c2 => ?_)
    · refine K_iconst (dt_at dtX6_answer 87 rfl) ?_
      exact K_iret (dt_at dtX6_answer 88 rfl) rfl rfl (by decide) (by decide) (by have e7 : (evR (hA h (r + 1)) (hA h w) (hA h (r + 2)) n) = 0 := (by unfold evR; rw [hx]; exact if_neg (by omega)); rw [← e7]; exact hQ hh (fun i => by rw [ha]; exact hgi i) hf hi hRR)
    · refine K_aload_n (dt_at dtX6_answer 82 rfl) rfl rfl ?_
      refine K_get (a := r) (ci := 6) (k := 1) (v := vr (r + 2)) (dt_at dtX6_answer 83 rfl) hr rfl (by decide) wF_X6_15 rfl ?_
      refine K_iconst (dt_at dtX6_answer 84 rfl) ?_
      refine K_iald (dt_at dtX6_answer 85 rfl) (lay_6_1 hr) (by omega) (by omega) ?_
      rw [ha]
      refine K_goto (tgt := 154) (dt_at dtX6_answer 86 rfl) (by decide) ?_
      exact K_iret (dt_at dtX6_answer 88 rfl) rfl rfl (by decide) (by decide) (by have e7 : (evR (hA h (r + 1)) (hA h w) (hA h (r + 2)) n) = (g 0) := (by unfold evR; rw [hx]; exact if_pos (by omega)); rw [← e7]; exact hQ hh (fun i => by rw [ha]; exact hgi i) hf hi hRR)
  | succ d ih =>
    intro k u g hh hk hx hu hgi ha hf hi hRR
    have w1 := hS k (by omega) (by omega)
    refine K_iload_n (dt_at dtX6_answer 4 rfl) rfl rfl ?_
    refine K_aload_n (dt_at dtX6_answer 5 rfl) rfl rfl ?_
    refine K_get (a := r) (ci := 6) (k := 2) (v := vi (n : Int)) (dt_at dtX6_answer 6 rfl) hr rfl (by decide) wF_X6_18 (by show vi (hI hh r 2) = vi (n : Int); rw [hi, hl]) ?_
    refine K_icmp_ge (tgt := 140) (dt_at dtX6_answer 7 rfl) (by decide) (by first | assumption | exact ⟨by omega, by omega⟩) (by first | assumption | exact ⟨by omega, by omega⟩) (fun c1 => absurd c1 (by omega)) (fun c1 => ?_)
    refine K_aload_n (dt_at dtX6_answer 8 rfl) rfl rfl ?_
    refine K_get (a := r) (ci := 6) (k := 0) (v := vr (r + 1)) (dt_at dtX6_answer 9 rfl) hr rfl (by decide) wF_X6_9 rfl ?_
    refine K_iload_n (dt_at dtX6_answer 10 rfl) rfl rfl ?_
    refine K_iald (dt_at dtX6_answer 11 rfl) (lay_6_0 hr) (by omega) (by omega) ?_
    rw [(hf (r + 1) (by omega))]
    refine K_istore (ls' := [(4, vi (hA h (r + 1) (k : Int))), (3, vi (k : Int)), (2, vi u), (0, vr r), (1, vr w)]) (dt_at dtX6_answer 12 rfl) (by decide) rfl ?_
    refine K_iload (dt_at dtX6_answer 13 rfl) rfl ?_
    refine K_bipush (dt_at dtX6_answer 14 rfl) (by decide) ?_
    refine K_icmp_lt (tgt := 61) (dt_at dtX6_answer 15 rfl) (by decide) (by first | assumption | exact ⟨by omega, by omega⟩) (by first | assumption | exact ⟨by omega, by omega⟩) (fun c2 => ?_) (fun c2 => ?_)
    · refine K_iload (dt_at dtX6_answer 34 rfl) rfl ?_
      refine K_bipush (dt_at dtX6_answer 35 rfl) (by decide) ?_
      refine K_icmp_ne (tgt := 99) (dt_at dtX6_answer 36 rfl) (by decide) (by first | assumption | exact ⟨by omega, by omega⟩) (by first | assumption | exact ⟨by omega, by omega⟩) (fun c3 => ?_) (fun c3 => ?_)
      · refine K_iload_n (dt_at dtX6_answer 56 rfl) rfl rfl ?_
        refine K_iconst (dt_at dtX6_answer 57 rfl) ?_
        refine K_icmp_le (tgt := 134) (dt_at dtX6_answer 58 rfl) (by decide) (by first | assumption | exact ⟨by omega, by omega⟩) (by first | assumption | exact ⟨by omega, by omega⟩) (fun c4 => ?_) (fun c4 => ?_)
        · refine K_iinc (ls' := [(3, vi ((k : Int) + 1)), (4, vi (hA h (r + 1) (k : Int))), (2, vi u), (0, vr r), (1, vr w)]) (dt_at dtX6_answer 78 rfl) rfl (by decide) rfl ?_
          refine K_goto (tgt := 4) (dt_at dtX6_answer 79 rfl) (by decide) ?_
          refine K_pk [0, 2, 3, 4] rfl ?_
          exact ih (k + 1) u g hh (by omega) (by show stR _ _ _ (itR (hA h (r + 1)) (hA h w) (hA h (r + 2)) k) = _; rw [hx]; first | exact stR_pN (by omega) (by omega) (by omega) | exact stR_pV (by omega) (by omega) (by omega) | exact stR_pF (by omega) (by omega) | exact stR_n1 (by omega) (by omega) (by assumption) | exact stR_n0 (by omega) (by omega) (by assumption) | exact stR_nF (by omega) (by omega) | exact stR_j (by omega) (by omega) (by omega) | exact stR_jF (by omega) (by omega) (by omega)) (by omega) hgi (by rw [ha]) (fun a z => by rw [(hf a z)]) (by rw [hi]) (by rw [hRR])
        · refine K_iinc (ls' := [(2, vi (u + (-1))), (4, vi (hA h (r + 1) (k : Int))), (3, vi (k : Int)), (0, vr r), (1, vr w)]) (dt_at dtX6_answer 59 rfl) rfl (by decide) rfl ?_
          refine K_aload_n (dt_at dtX6_answer 60 rfl) rfl rfl ?_
          refine K_get (a := r) (ci := 6) (k := 1) (v := vr (r + 2)) (dt_at dtX6_answer 61 rfl) hr rfl (by decide) wF_X6_15 rfl ?_
          refine K_iload_n (dt_at dtX6_answer 62 rfl) rfl rfl ?_
          refine K_iconst (dt_at dtX6_answer 63 rfl) ?_
          refine K_isub (dt_at dtX6_answer 64 rfl) ?_
          refine K_iload (dt_at dtX6_answer 65 rfl) rfl ?_
          refine K_aload_n (dt_at dtX6_answer 66 rfl) rfl rfl ?_
          refine K_get (a := r) (ci := 6) (k := 1) (v := vr (r + 2)) (dt_at dtX6_answer 67 rfl) hr rfl (by decide) wF_X6_15 rfl ?_
          refine K_iload_n (dt_at dtX6_answer 68 rfl) rfl rfl ?_
          refine K_iconst (dt_at dtX6_answer 69 rfl) ?_
          refine K_isub (dt_at dtX6_answer 70 rfl) ?_
          refine K_iald (dt_at dtX6_answer 71 rfl) (lay_6_1 hr) (by omega) (by omega) ?_
          rw [ha]
          refine K_aload_n (dt_at dtX6_answer 72 rfl) rfl rfl ?_
          refine K_get (a := r) (ci := 6) (k := 1) (v := vr (r + 2)) (dt_at dtX6_answer 73 rfl) hr rfl (by decide) wF_X6_15 rfl ?_
          refine K_iload_n (dt_at dtX6_answer 74 rfl) rfl rfl ?_
          refine K_iald (dt_at dtX6_answer 75 rfl) (lay_6_1 hr) (by omega) (by omega) ?_
          rw [ha]
          refine K_callS (M' := mX6_join) (As := [vi (hA h (r + 1) (k : Int)), vi (g ((u + (-1)) - 1)), vi (g (u + (-1)))]) (st := [vi ((u + (-1)) - 1), vr (r + 2)]) (dt_at dtX6_answer 76 rfl) (sX6_join ⟨by omega, by omega⟩ (hgi _) (hgi _)) wL_X6_26 vX6_join rfl npX6_join (by decide) (by decide) (Nat.le_of_ble_eq_true rfl) (by decide) (by decide) GK_E (fun v9 h9 hq => ?_) (fun E h9 hq => by cases hq.1)
          obtain ⟨e9, e8⟩ := hq
          cases e9
          rw [e8]
          show K mX6_answer _ _ 0 0 133 [(2, vi (u + (-1))), (4, vi (hA h (r + 1) (k : Int))), (3, vi (k : Int)), (0, vr r), (1, vr w)] [vi (joinF (hA h (r + 1) (k : Int)) (g ((u + (-1)) - 1)) (g (u + (-1)))), vi ((u + (-1)) - 1), vr (r + 2)] hh
          refine K_iast (dt_at dtX6_answer 77 rfl) (lay_6_1 hr) (by omega) (by omega) ?_
          obtain ⟨hq1, eq1⟩ : ∃ z, z = sA hh (r + 2) ((u + (-1)) - 1) (joinF (hA h (r + 1) (k : Int)) (g ((u + (-1)) - 1)) (g (u + (-1)))) := ⟨_, rfl⟩
          rw [← eq1]
          obtain ⟨aq1, fq1, iq1, rq1⟩ := sA_fx eq1
          rw [ha] at aq1
          refine K_iinc (ls' := [(3, vi ((k : Int) + 1)), (2, vi (u + (-1))), (4, vi (hA h (r + 1) (k : Int))), (0, vr r), (1, vr w)]) (dt_at dtX6_answer 78 rfl) rfl (by decide) rfl ?_
          refine K_goto (tgt := 4) (dt_at dtX6_answer 79 rfl) (by decide) ?_
          refine K_pk [0, 1, 3, 4] rfl ?_
          exact ih (k + 1) (u + (-1)) (upI g ((u + (-1)) - 1) (joinF (hA h (r + 1) (k : Int)) (g ((u + (-1)) - 1)) (g (u + (-1))))) hq1 (by omega) (by show stR _ _ _ (itR (hA h (r + 1)) (hA h w) (hA h (r + 2)) k) = _; rw [hx]; first | exact stR_pN (by omega) (by omega) (by omega) | exact stR_pV (by omega) (by omega) (by omega) | exact stR_pF (by omega) (by omega) | exact stR_n1 (by omega) (by omega) (by assumption) | exact stR_n0 (by omega) (by omega) (by assumption) | exact stR_nF (by omega) (by omega) | exact stR_j (by omega) (by omega) (by omega) | exact stR_jF (by omega) (by omega) (by omega)) (by omega) (fun i => by unfold upI; exact i32_if (by first | exact joinF32 _ _ _ | exact hv _ (by omega) (by omega) | exact ⟨by omega, by omega⟩) (hgi i)) (by rw [aq1]) (fun a z => by rw [(fq1 a z), (hf a z)]) (by rw [iq1, hi]) (by rw [rq1, hRR])
      · refine K_iload_n (dt_at dtX6_answer 37 rfl) rfl rfl ?_
        refine K_if_le (tgt := 134) (dt_at dtX6_answer 38 rfl) (by decide) (by first | assumption | exact ⟨by omega, by omega⟩) (fun c5 => ?_) (fun c5 => ?_)
        · refine K_iinc (ls' := [(3, vi ((k : Int) + 1)), (4, vi (hA h (r + 1) (k : Int))), (2, vi u), (0, vr r), (1, vr w)]) (dt_at dtX6_answer 78 rfl) rfl (by decide) rfl ?_
          refine K_goto (tgt := 4) (dt_at dtX6_answer 79 rfl) (by decide) ?_
          refine K_pk [0, 2, 3, 4] rfl ?_
          exact ih (k + 1) u g hh (by omega) (by show stR _ _ _ (itR (hA h (r + 1)) (hA h w) (hA h (r + 2)) k) = _; rw [hx]; first | exact stR_pN (by omega) (by omega) (by omega) | exact stR_pV (by omega) (by omega) (by omega) | exact stR_pF (by omega) (by omega) | exact stR_n1 (by omega) (by omega) (by assumption) | exact stR_n0 (by omega) (by omega) (by assumption) | exact stR_nF (by omega) (by omega) | exact stR_j (by omega) (by omega) (by omega) | exact stR_jF (by omega) (by omega) (by omega)) (by omega) hgi (by rw [ha]) (fun a z => by rw [(hf a z)]) (by rw [hi]) (by rw [hRR])
        · refine K_aload_n (dt_at dtX6_answer 39 rfl) rfl rfl ?_
          refine K_get (a := r) (ci := 6) (k := 1) (v := vr (r + 2)) (dt_at dtX6_answer 40 rfl) hr rfl (by decide) wF_X6_15 rfl ?_
          refine K_iload_n (dt_at dtX6_answer 41 rfl) rfl rfl ?_
          refine K_iconst (dt_at dtX6_answer 42 rfl) ?_
          refine K_isub (dt_at dtX6_answer 43 rfl) ?_
          refine K_aload_n (dt_at dtX6_answer 44 rfl) rfl rfl ?_
          refine K_get (a := r) (ci := 6) (k := 1) (v := vr (r + 2)) (dt_at dtX6_answer 45 rfl) hr rfl (by decide) wF_X6_15 rfl ?_
          refine K_iload_n (dt_at dtX6_answer 46 rfl) rfl rfl ?_
          refine K_iconst (dt_at dtX6_answer 47 rfl) ?_
          refine K_isub (dt_at dtX6_answer 48 rfl) ?_
          refine K_iald (dt_at dtX6_answer 49 rfl) (lay_6_1 hr) (by omega) (by omega) ?_
          rw [ha]
          refine K_if_ne (tgt := 94) (dt_at dtX6_answer 50 rfl) (by decide) (hgi _) (fun c6 => ?_) (fun c6 => ?_)
          · refine K_iconst (dt_at dtX6_answer 53 rfl) ?_
            refine K_iast (dt_at dtX6_answer 54 rfl) (lay_6_1 hr) (by omega) (by omega) ?_
            obtain ⟨hq2, eq2⟩ : ∃ z, z = sA hh (r + 2) (u - 1) 0 := ⟨_, rfl⟩
            rw [← eq2]
            obtain ⟨aq2, fq2, iq2, rq2⟩ := sA_fx eq2
            rw [ha] at aq2
            refine K_goto (tgt := 134) (dt_at dtX6_answer 55 rfl) (by decide) ?_
            refine K_iinc (ls' := [(3, vi ((k : Int) + 1)), (4, vi (hA h (r + 1) (k : Int))), (2, vi u), (0, vr r), (1, vr w)]) (dt_at dtX6_answer 78 rfl) rfl (by decide) rfl ?_
            refine K_goto (tgt := 4) (dt_at dtX6_answer 79 rfl) (by decide) ?_
            refine K_pk [0, 2, 3, 4] rfl ?_
            exact ih (k + 1) u (upI g (u - 1) 0) hq2 (by omega) (by show stR _ _ _ (itR (hA h (r + 1)) (hA h w) (hA h (r + 2)) k) = _; rw [hx]; first | exact stR_pN (by omega) (by omega) (by omega) | exact stR_pV (by omega) (by omega) (by omega) | exact stR_pF (by omega) (by omega) | exact stR_n1 (by omega) (by omega) (by assumption) | exact stR_n0 (by omega) (by omega) (by assumption) | exact stR_nF (by omega) (by omega) | exact stR_j (by omega) (by omega) (by omega) | exact stR_jF (by omega) (by omega) (by omega)) (by omega) (fun i => by unfold upI; exact i32_if (by first | exact joinF32 _ _ _ | exact hv _ (by omega) (by omega) | exact ⟨by omega, by omega⟩) (hgi i)) (by rw [aq2]) (fun a z => by rw [(fq2 a z), (hf a z)]) (by rw [iq2, hi]) (by rw [rq2, hRR])
          · refine K_iconst (dt_at dtX6_answer 51 rfl) ?_
            refine K_goto (tgt := 95) (dt_at dtX6_answer 52 rfl) (by decide) ?_
            refine K_iast (dt_at dtX6_answer 54 rfl) (lay_6_1 hr) (by omega) (by omega) ?_
            obtain ⟨hq3, eq3⟩ : ∃ z, z = sA hh (r + 2) (u - 1) 1 := ⟨_, rfl⟩
            rw [← eq3]
            obtain ⟨aq3, fq3, iq3, rq3⟩ := sA_fx eq3
            rw [ha] at aq3
            refine K_goto (tgt := 134) (dt_at dtX6_answer 55 rfl) (by decide) ?_
            refine K_iinc (ls' := [(3, vi ((k : Int) + 1)), (4, vi (hA h (r + 1) (k : Int))), (2, vi u), (0, vr r), (1, vr w)]) (dt_at dtX6_answer 78 rfl) rfl (by decide) rfl ?_
            refine K_goto (tgt := 4) (dt_at dtX6_answer 79 rfl) (by decide) ?_
            refine K_pk [0, 2, 3, 4] rfl ?_
            exact ih (k + 1) u (upI g (u - 1) 1) hq3 (by omega) (by show stR _ _ _ (itR (hA h (r + 1)) (hA h w) (hA h (r + 2)) k) = _; rw [hx]; first | exact stR_pN (by omega) (by omega) (by omega) | exact stR_pV (by omega) (by omega) (by omega) | exact stR_pF (by omega) (by omega) | exact stR_n1 (by omega) (by omega) (by assumption) | exact stR_n0 (by omega) (by omega) (by assumption) | exact stR_nF (by omega) (by omega) | exact stR_j (by omega) (by omega) (by omega) | exact stR_jF (by omega) (by omega) (by omega)) (by omega) (fun i => by unfold upI; exact i32_if (by first | exact joinF32 _ _ _ | exact hv _ (by omega) (by omega) | exact ⟨by omega, by omega⟩) (hgi i)) (by rw [aq3]) (fun a z => by rw [(fq3 a z), (hf a z)]) (by rw [iq3, hi]) (by rw [rq3, hRR])
    · refine K_iload_n (dt_at dtX6_answer 16 rfl) rfl rfl ?_
      refine K_bipush (dt_at dtX6_answer 17 rfl) (by decide) ?_
      refine K_icmp_ge (tgt := 134) (dt_at dtX6_answer 18 rfl) (by decide) (by first | assumption | exact ⟨by omega, by omega⟩) (by first | assumption | exact ⟨by omega, by omega⟩) (fun c7 => ?_) (fun c7 => ?_)
      · refine K_iinc (ls' := [(3, vi ((k : Int) + 1)), (4, vi (hA h (r + 1) (k : Int))), (2, vi u), (0, vr r), (1, vr w)]) (dt_at dtX6_answer 78 rfl) rfl (by decide) rfl ?_
        refine K_goto (tgt := 4) (dt_at dtX6_answer 79 rfl) (by decide) ?_
        refine K_pk [0, 2, 3, 4] rfl ?_
        exact ih (k + 1) u g hh (by omega) (by show stR _ _ _ (itR (hA h (r + 1)) (hA h w) (hA h (r + 2)) k) = _; rw [hx]; first | exact stR_pN (by omega) (by omega) (by omega) | exact stR_pV (by omega) (by omega) (by omega) | exact stR_pF (by omega) (by omega) | exact stR_n1 (by omega) (by omega) (by assumption) | exact stR_n0 (by omega) (by omega) (by assumption) | exact stR_nF (by omega) (by omega) | exact stR_j (by omega) (by omega) (by omega) | exact stR_jF (by omega) (by omega) (by omega)) (by omega) hgi (by rw [ha]) (fun a z => by rw [(hf a z)]) (by rw [hi]) (by rw [hRR])
      · refine K_aload_n (dt_at dtX6_answer 19 rfl) rfl rfl ?_
        refine K_get (a := r) (ci := 6) (k := 1) (v := vr (r + 2)) (dt_at dtX6_answer 20 rfl) hr rfl (by decide) wF_X6_15 rfl ?_
        refine K_iload_n (dt_at dtX6_answer 21 rfl) rfl rfl ?_
        refine K_iload (dt_at dtX6_answer 22 rfl) rfl ?_
        refine K_if_lt (tgt := 48) (dt_at dtX6_answer 23 rfl) (by decide) (by first | assumption | exact ⟨by omega, by omega⟩) (fun c8 => ?_) (fun c8 => ?_)
        · refine K_aload_n (dt_at dtX6_answer 26 rfl) rfl rfl ?_
          refine K_iconst (dt_at dtX6_answer 27 rfl) ?_
          refine K_iload (dt_at dtX6_answer 28 rfl) rfl ?_
          refine K_isub (dt_at dtX6_answer 29 rfl) ?_
          refine K_iald (dt_at dtX6_answer 30 rfl) hw (by omega) (by omega) ?_
          rw [(hf w (by omega))]
          refine K_iast (dt_at dtX6_answer 31 rfl) (lay_6_1 hr) (by omega) (by omega) ?_
          obtain ⟨hq4, eq4⟩ : ∃ z, z = sA hh (r + 2) u (hA h w ((-1) - (hA h (r + 1) (k : Int)))) := ⟨_, rfl⟩
          rw [← eq4]
          obtain ⟨aq4, fq4, iq4, rq4⟩ := sA_fx eq4
          rw [ha] at aq4
          refine K_iinc (ls' := [(2, vi (u + 1)), (4, vi (hA h (r + 1) (k : Int))), (3, vi (k : Int)), (0, vr r), (1, vr w)]) (dt_at dtX6_answer 32 rfl) rfl (by decide) rfl ?_
          refine K_goto (tgt := 134) (dt_at dtX6_answer 33 rfl) (by decide) ?_
          refine K_iinc (ls' := [(3, vi ((k : Int) + 1)), (2, vi (u + 1)), (4, vi (hA h (r + 1) (k : Int))), (0, vr r), (1, vr w)]) (dt_at dtX6_answer 78 rfl) rfl (by decide) rfl ?_
          refine K_goto (tgt := 4) (dt_at dtX6_answer 79 rfl) (by decide) ?_
          refine K_pk [0, 1, 3, 4] rfl ?_
          exact ih (k + 1) (u + 1) (upI g u (hA h w ((-1) - (hA h (r + 1) (k : Int))))) hq4 (by omega) (by show stR _ _ _ (itR (hA h (r + 1)) (hA h w) (hA h (r + 2)) k) = _; rw [hx]; first | exact stR_pN (by omega) (by omega) (by omega) | exact stR_pV (by omega) (by omega) (by omega) | exact stR_pF (by omega) (by omega) | exact stR_n1 (by omega) (by omega) (by assumption) | exact stR_n0 (by omega) (by omega) (by assumption) | exact stR_nF (by omega) (by omega) | exact stR_j (by omega) (by omega) (by omega) | exact stR_jF (by omega) (by omega) (by omega)) (by omega) (fun i => by unfold upI; exact i32_if (by first | exact joinF32 _ _ _ | exact hv _ (by omega) (by omega) | exact ⟨by omega, by omega⟩) (hgi i)) (by rw [aq4]) (fun a z => by rw [(fq4 a z), (hf a z)]) (by rw [iq4, hi]) (by rw [rq4, hRR])
        · refine K_iload (dt_at dtX6_answer 24 rfl) rfl ?_
          refine K_goto (tgt := 54) (dt_at dtX6_answer 25 rfl) (by decide) ?_
          refine K_iast (dt_at dtX6_answer 31 rfl) (lay_6_1 hr) (by omega) (by omega) ?_
          obtain ⟨hq5, eq5⟩ : ∃ z, z = sA hh (r + 2) u (hA h (r + 1) (k : Int)) := ⟨_, rfl⟩
          rw [← eq5]
          obtain ⟨aq5, fq5, iq5, rq5⟩ := sA_fx eq5
          rw [ha] at aq5
          refine K_iinc (ls' := [(2, vi (u + 1)), (4, vi (hA h (r + 1) (k : Int))), (3, vi (k : Int)), (0, vr r), (1, vr w)]) (dt_at dtX6_answer 32 rfl) rfl (by decide) rfl ?_
          refine K_goto (tgt := 134) (dt_at dtX6_answer 33 rfl) (by decide) ?_
          refine K_iinc (ls' := [(3, vi ((k : Int) + 1)), (2, vi (u + 1)), (4, vi (hA h (r + 1) (k : Int))), (0, vr r), (1, vr w)]) (dt_at dtX6_answer 78 rfl) rfl (by decide) rfl ?_
          refine K_goto (tgt := 4) (dt_at dtX6_answer 79 rfl) (by decide) ?_
          refine K_pk [0, 1, 3, 4] rfl ?_
          exact ih (k + 1) (u + 1) (upI g u (hA h (r + 1) (k : Int))) hq5 (by omega) (by show stR _ _ _ (itR (hA h (r + 1)) (hA h w) (hA h (r + 2)) k) = _; rw [hx]; first | exact stR_pN (by omega) (by omega) (by omega) | exact stR_pV (by omega) (by omega) (by omega) | exact stR_pF (by omega) (by omega) | exact stR_n1 (by omega) (by omega) (by assumption) | exact stR_n0 (by omega) (by omega) (by assumption) | exact stR_nF (by omega) (by omega) | exact stR_j (by omega) (by omega) (by omega) | exact stR_jF (by omega) (by omega) (by omega)) (by omega) (fun i => by unfold upI; exact i32_if (by first | exact joinF32 _ _ _ | exact hv _ (by omega) (by omega) | exact ⟨by omega, by omega⟩) (hgi i)) (by rw [aq5]) (fun a z => by rw [(fq5 a z), (hf a z)]) (by rw [iq5, hi]) (by rw [rq5, hRR])
set_option maxHeartbeats 4000000 in
set_option maxRecDepth 100000 in
theorem sX6_answer {h : HP} {r w n : Nat} (hr : TT r = (0, 6)) (hw : TT w = (1, 8)) (hne : w ≠ r + 2) (hl : hI h r 2 = (n : Int)) (hn : n ≤ 700) (hS : ∀ i : Int, 0 ≤ i → i < n → -17 ≤ hA h (r + 1) i ∧ hA h (r + 1) i ≤ 9999) (hv : ∀ i : Int, 0 ≤ i → i < 8 → i32 (hA h w i)) (hg : ∀ i, i32 (hA h (r + 2) i)) : SpecK mX6_answer [vr r, vr w] h (fun o h' => o = .inl (some (vi (evR (hA h (r + 1)) (hA h w) (hA h (r + 2)) n))) ∧ (∀ i, i32 (hA h' (r + 2) i)) ∧ (∀ a, a ≠ r + 2 → hA h' a = hA h a) ∧ hI h' = hI h ∧ hR h' = hR h) := by
  refine Spec_of (by decide +kernel) (Nat.le_of_ble_eq_true rfl) ?_
  refine K_iconst (dt_at dtX6_answer 0 rfl) ?_
  refine K_istore_n (ls' := [(2, vi 0), (0, vr r), (1, vr w)]) (dt_at dtX6_answer 1 rfl) rfl (by decide) rfl ?_
  refine K_iconst (dt_at dtX6_answer 2 rfl) ?_
  refine K_istore_n (ls' := [(3, vi 0), (2, vi 0), (0, vr r), (1, vr w)]) (dt_at dtX6_answer 3 rfl) rfl (by decide) rfl ?_
  exact K_pk [0, 1, 2, 3] rfl (lp_X6_answer hr hw hne hl hn hS hv hg (fun h1 a1 a2 a3 a4 => ⟨rfl, a1, a2, a3, a4⟩) n 0 0 (hA h (r + 2)) h (by omega) rfl (by omega) hg rfl (fun _ _ => rfl) rfl rfl)
