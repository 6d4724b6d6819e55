def mX8_day : MI := (yX8_day, cX8_day, 1, (some .int), rmK 1 0)
def tX8_day : List (Nat × Instr × Nat) := [(0, .aload_n 0, 1), (1, .getfield 11, 3), (4, .iconst 0, 1), (5, .iaload, 1), (6, .ireturn, 1)]
theorem dtX8_day : tX8_day.all (fun q => decide (decode cX8_day q.1 = .ok (q.2.1, q.2.2))) = true := by decide +kernel
theorem npX8_day : (parseMethodDescriptor (mY mX8_day).desc).map (fun d => d.parameters.length) = some 0 := by decide +kernel
theorem vX8_day : mV mX8_day := ⟨wI_X8_day, wS_X8_day, wN_X8, wC_X8_day, by decide +kernel, by decide +kernel⟩
set_option maxHeartbeats 4000000 in
set_option maxRecDepth 100000 in
theorem sX8_day {h : HP} {a : Nat} (hT : TT a = (0, 8)) : SpecK mX8_day [vr a] h (fun o h' => o = .inl (some (vi (hA h (a + 1) 0))) ∧ h' = h) := by
  refine Spec_of (by decide +kernel) (Nat.le_of_ble_eq_true rfl) ?_
  refine K_aload_n (dt_at dtX8_day 0 rfl) rfl rfl ?_
  refine K_get (a := a) (ci := 8) (k := 0) (v := vr (a + 1)) (dt_at dtX8_day 1 rfl) hT rfl (by decide) wF_X8_11 rfl ?_
  refine K_iconst (dt_at dtX8_day 2 rfl) ?_
  refine K_iald (dt_at dtX8_day 3 rfl) (lay_8_0 hT) (by omega) (by omega) ?_
  exact K_iret (dt_at dtX8_day 4 rfl) rfl rfl (by decide) (by decide) ⟨rfl, rfl⟩
def mX8_addDay : MI := (yX8_addDay, cX8_addDay, 1, none, rmK 1 0)
def tX8_addDay : List (Nat × Instr × Nat) := [(0, .aload_n 0, 1), (1, .getfield 11, 3), (4, .iconst 0, 1), (5, .dup2, 1), (6, .iaload, 1), (7, .iconst 1, 1), (8, .iadd, 1), (9, .iastore, 1), (10, .return_, 1)]
theorem dtX8_addDay : tX8_addDay.all (fun q => decide (decode cX8_addDay q.1 = .ok (q.2.1, q.2.2))) = true := by decide +kernel
theorem npX8_addDay : (parseMethodDescriptor (mY mX8_addDay).desc).map (fun d => d.parameters.length) = some 0 := by decide +kernel
theorem vX8_addDay : mV mX8_addDay := ⟨wI_X8_addDay, wS_X8_addDay, wN_X8, wC_X8_addDay, by decide +kernel, by decide +kernel⟩
set_option maxHeartbeats 4000000 in
set_option maxRecDepth 100000 in
theorem sX8_addDay {h : HP} {a : Nat} (hT : TT a = (0, 8)) : SpecK mX8_addDay [vr a] h (fun o h' => o = .inl (none) ∧ h' = sA h (a + 1) 0 ((hA h (a + 1) 0) + 1)) := by
  refine Spec_of (by decide +kernel) (Nat.le_of_ble_eq_true rfl) ?_
  refine K_aload_n (dt_at dtX8_addDay 0 rfl) rfl rfl ?_
  refine K_get (a := a) (ci := 8) (k := 0) (v := vr (a + 1)) (dt_at dtX8_addDay 1 rfl) hT rfl (by decide) wF_X8_11 rfl ?_
  refine K_iconst (dt_at dtX8_addDay 2 rfl) ?_
  refine K_dup2 (dt_at dtX8_addDay 3 rfl) rfl rfl ?_
  refine K_iald (dt_at dtX8_addDay 4 rfl) (lay_8_0 hT) (by omega) (by omega) ?_
  refine K_iconst (dt_at dtX8_addDay 5 rfl) ?_
  refine K_iadd (dt_at dtX8_addDay 6 rfl) ?_
  refine K_iast (dt_at dtX8_addDay 7 rfl) (lay_8_0 hT) (by omega) (by omega) ?_
  exact K_vret (dt_at dtX8_addDay 8 rfl) rfl (by decide) (by decide) ⟨rfl, rfl⟩
def mX8_out : MI := (yX8_out, cX8_out, 2, (some .int), rmK 1 0)
def tX8_out : List (Nat × Instr × Nat) := [(0, .aload_n 0, 1), (1, .getfield 11, 3), (4, .iconst 1, 1), (5, .iload_n 1, 1), (6, .iadd, 1), (7, .iaload, 1), (8, .ireturn, 1)]
theorem dtX8_out : tX8_out.all (fun q => decide (decode cX8_out q.1 = .ok (q.2.1, q.2.2))) = true := by decide +kernel
theorem npX8_out : (parseMethodDescriptor (mY mX8_out).desc).map (fun d => d.parameters.length) = some 1 := by decide +kernel
theorem vX8_out : mV mX8_out := ⟨wI_X8_out, wS_X8_out, wN_X8, wC_X8_out, by decide +kernel, by decide +kernel⟩
set_option maxHeartbeats 4000000 in
set_option maxRecDepth 100000 in
theorem sX8_out {h : HP} {a : Nat} {p : Int} (hT : TT a = (0, 8)) (hp : 0 ≤ p ∧ p < 7) : SpecK mX8_out [vr a, vi p] h (fun o h' => o = .inl (some (vi (hA h (a + 1) (1 + p)))) ∧ h' = h) := by
  refine Spec_of (by decide +kernel) (Nat.le_of_ble_eq_true rfl) ?_
  refine K_aload_n (dt_at dtX8_out 0 rfl) rfl rfl ?_
  refine K_get (a := a) (ci := 8) (k := 0) (v := vr (a + 1)) (dt_at dtX8_out 1 rfl) hT rfl (by decide) wF_X8_11 rfl ?_
  refine K_iconst (dt_at dtX8_out 2 rfl) ?_
  refine K_iload_n (dt_at dtX8_out 3 rfl) rfl rfl ?_
  refine K_iadd (dt_at dtX8_out 4 rfl) ?_
  refine K_iald (dt_at dtX8_out 5 rfl) (lay_8_0 hT) (by omega) (by omega) ?_
  exact K_iret (dt_at dtX8_out 6 rfl) rfl rfl (by decide) (by decide) ⟨rfl, rfl⟩
def mX8_isIn : MI := (yX8_isIn, cX8_isIn, 2, (some .boolean), rmK 1 0)
def tX8_isIn : List (Nat × Instr × Nat) := [(0, .aload_n 0, 1), (1, .getfield 11, 3), (4, .iconst 1, 1), (5, .iload_n 1, 1), (6, .iadd, 1), (7, .iaload, 1), (8, .ifCond .ne 7, 3), (11, .iconst 1, 1), (12, .goto 4, 3), (15, .iconst 0, 1), (16, .ireturn, 1)]
theorem dtX8_isIn : tX8_isIn.all (fun q => decide (decode cX8_isIn q.1 = .ok (q.2.1, q.2.2))) = true := by decide +kernel
theorem npX8_isIn : (parseMethodDescriptor (mY mX8_isIn).desc).map (fun d => d.parameters.length) = some 1 := by decide +kernel
theorem vX8_isIn : mV mX8_isIn := ⟨wI_X8_isIn, wS_X8_isIn, wN_X8, wC_X8_isIn, by decide +kernel, by decide +kernel⟩
set_option maxHeartbeats 4000000 in
set_option maxRecDepth 100000 in
theorem sX8_isIn {h : HP} {a : Nat} {p : Int} (hT : TT a = (0, 8)) (hp : 0 ≤ p ∧ p < 7) (hi : i32 (hA h (a + 1) (1 + p))) : SpecK mX8_isIn [vr a, vi p] h (fun o h' => o = .inl (some (vi (if (hA h (a + 1) (1 + p)) = 0 then 1 else 0))) ∧ h' = h) := by
  refine Spec_of (by decide +kernel) (Nat.le_of_ble_eq_true rfl) ?_
  refine K_aload_n (dt_at dtX8_isIn 0 rfl) rfl rfl ?_
  refine K_get (a := a) (ci := 8) (k := 0) (v := vr (a + 1)) (dt_at dtX8_isIn 1 rfl) hT rfl (by decide) wF_X8_11 rfl ?_
  refine K_iconst (dt_at dtX8_isIn 2 rfl) ?_
  refine K_iload_n (dt_at dtX8_isIn 3 rfl) rfl rfl ?_
  refine K_iadd (dt_at dtX8_isIn 4 rfl) ?_
  refine K_iald (dt_at dtX8_isIn 5 rfl) (lay_8_0 hT) (by omega) (by omega) ?_
  refine K_if_ne (tgt := 15) (dt_at dtX8_isIn 6 rfl) (by decide) hi (fun c1 => ?_) (fun c1 => ?_)
  · refine K_iconst (dt_at dtX8_isIn 9 rfl) ?_
    exact K_iret (dt_at dtX8_isIn 10 rfl) rfl (by decide) (by decide) (by decide) ⟨by rw [if_neg (by assumption)], rfl⟩
  · refine K_iconst (dt_at dtX8_isIn 7 rfl) ?_
    refine K_goto (tgt := 16) (dt_at dtX8_isIn 8 rfl) (by decide) ?_
    exact K_iret (dt_at dtX8_isIn 10 rfl) rfl (by decide) (by decide) (by decide) ⟨by rw [if_pos (by assumption)], rfl⟩
def mX8_setOut : MI := (yX8_setOut, cX8_setOut, 3, none, rmK 1 0)
def tX8_setOut : List (Nat × Instr × Nat) := [(0, .aload_n 0, 1), (1, .getfield 11, 3), (4, .iconst 1, 1), (5, .iload_n 1, 1), (6, .iadd, 1), (7, .iload_n 2, 1), (8, .iastore, 1), (9, .return_, 1)]
theorem dtX8_setOut : tX8_setOut.all (fun q => decide (decode cX8_setOut q.1 = .ok (q.2.1, q.2.2))) = true := by decide +kernel
theorem npX8_setOut : (parseMethodDescriptor (mY mX8_setOut).desc).map (fun d => d.parameters.length) = some 2 := by decide +kernel
theorem vX8_setOut : mV mX8_setOut := ⟨wI_X8_setOut, wS_X8_setOut, wN_X8, wC_X8_setOut, by decide +kernel, by decide +kernel⟩
set_option maxHeartbeats 4000000 in
set_option maxRecDepth 100000 in
theorem sX8_setOut {h : HP} {a : Nat} {p : Int} {d : Int} (hT : TT a = (0, 8)) (hp : 0 ≤ p ∧ p < 7) : SpecK mX8_setOut [vr a, vi p, vi d] h (fun o h' => o = .inl (none) ∧ h' = sA h (a + 1) (1 + p) d) := by
  refine Spec_of (by decide +kernel) (Nat.le_of_ble_eq_true rfl) ?_
  refine K_aload_n (dt_at dtX8_setOut 0 rfl) rfl rfl ?_
  refine K_get (a := a) (ci := 8) (k := 0) (v := vr (a + 1)) (dt_at dtX8_setOut 1 rfl) hT rfl (by decide) wF_X8_11 rfl ?_
  refine K_iconst (dt_at dtX8_setOut 2 rfl) ?_
  refine K_iload_n (dt_at dtX8_setOut 3 rfl) rfl rfl ?_
  refine K_iadd (dt_at dtX8_setOut 4 rfl) ?_
  refine K_iload_n (dt_at dtX8_setOut 5 rfl) rfl rfl ?_
  refine K_iast (dt_at dtX8_setOut 6 rfl) (lay_8_0 hT) (by omega) (by omega) ?_
  exact K_vret (dt_at dtX8_setOut 7 rfl) rfl (by decide) (by decide) ⟨rfl, rfl⟩
def mX8_caseOf : MI := (yX8_caseOf, cX8_caseOf, 2, (some .int), rmK 1 0)
def tX8_caseOf : List (Nat × Instr × Nat) := [(0, .aload_n 0, 1), (1, .getfield 11, 3), (4, .bipush 8, 2), (6, .iload_n 1, 1), (7, .iadd, 1), (8, .iaload, 1), (9, .ireturn, 1)]
theorem dtX8_caseOf : tX8_caseOf.all (fun q => decide (decode cX8_caseOf q.1 = .ok (q.2.1, q.2.2))) = true := by decide +kernel
theorem npX8_caseOf : (parseMethodDescriptor (mY mX8_caseOf).desc).map (fun d => d.parameters.length) = some 1 := by decide +kernel
theorem vX8_caseOf : mV mX8_caseOf := ⟨wI_X8_caseOf, wS_X8_caseOf, wN_X8, wC_X8_caseOf, by decide +kernel, by decide +kernel⟩
set_option maxHeartbeats 4000000 in
set_option maxRecDepth 100000 in
theorem sX8_caseOf {h : HP} {a : Nat} {p : Int} (hT : TT a = (0, 8)) (hp : 0 ≤ p ∧ p < 7) : SpecK mX8_caseOf [vr a, vi p] h (fun o h' => o = .inl (some (vi (hA h (a + 1) (8 + p)))) ∧ h' = h) := by
  refine Spec_of (by decide +kernel) (Nat.le_of_ble_eq_true rfl) ?_
  refine K_aload_n (dt_at dtX8_caseOf 0 rfl) rfl rfl ?_
  refine K_get (a := a) (ci := 8) (k := 0) (v := vr (a + 1)) (dt_at dtX8_caseOf 1 rfl) hT rfl (by decide) wF_X8_11 rfl ?_
  refine K_bipush (dt_at dtX8_caseOf 2 rfl) (by decide) ?_
  refine K_iload_n (dt_at dtX8_caseOf 3 rfl) rfl rfl ?_
  refine K_iadd (dt_at dtX8_caseOf 4 rfl) ?_
  refine K_iald (dt_at dtX8_caseOf 5 rfl) (lay_8_0 hT) (by omega) (by omega) ?_
  exact K_iret (dt_at dtX8_caseOf 6 rfl) rfl rfl (by decide) (by decide) ⟨rfl, rfl⟩
def mX8_fond : MI := (yX8_fond, cX8_fond, 2, (some .int), rmK 1 0)
def tX8_fond : List (Nat × Instr × Nat) := [(0, .aload_n 0, 1), (1, .getfield 11, 3), (4, .bipush 15, 2), (6, .iload_n 1, 1), (7, .iadd, 1), (8, .iaload, 1), (9, .ireturn, 1)]
theorem dtX8_fond : tX8_fond.all (fun q => decide (decode cX8_fond q.1 = .ok (q.2.1, q.2.2))) = true := by decide +kernel
theorem npX8_fond : (parseMethodDescriptor (mY mX8_fond).desc).map (fun d => d.parameters.length) = some 1 := by decide +kernel
theorem vX8_fond : mV mX8_fond := ⟨wI_X8_fond, wS_X8_fond, wN_X8, wC_X8_fond, by decide +kernel, by decide +kernel⟩
set_option maxHeartbeats 4000000 in
set_option maxRecDepth 100000 in
theorem sX8_fond {h : HP} {a : Nat} {p : Int} (hT : TT a = (0, 8)) (hp : 0 ≤ p ∧ p < 7) : SpecK mX8_fond [vr a, vi p] h (fun o h' => o = .inl (some (vi (hA h (a + 1) (15 + p)))) ∧ h' = h) := by
  refine Spec_of (by decide +kernel) (Nat.le_of_ble_eq_true rfl) ?_
  refine K_aload_n (dt_at dtX8_fond 0 rfl) rfl rfl ?_
  refine K_get (a := a) (ci := 8) (k := 0) (v := vr (a + 1)) (dt_at dtX8_fond 1 rfl) hT rfl (by decide) wF_X8_11 rfl ?_
  refine K_bipush (dt_at dtX8_fond 2 rfl) (by decide) ?_
  refine K_iload_n (dt_at dtX8_fond 3 rfl) rfl rfl ?_
  refine K_iadd (dt_at dtX8_fond 4 rfl) ?_
  refine K_iald (dt_at dtX8_fond 5 rfl) (lay_8_0 hT) (by omega) (by omega) ?_
  exact K_iret (dt_at dtX8_fond 6 rfl) rfl rfl (by decide) (by decide) ⟨rfl, rfl⟩
def mX8_packerOf : MI := (yX8_packerOf, cX8_packerOf, 2, (some .int), rmK 1 0)
def tX8_packerOf : List (Nat × Instr × Nat) := [(0, .aload_n 0, 1), (1, .getfield 11, 3), (4, .bipush 22, 2), (6, .iload_n 1, 1), (7, .iadd, 1), (8, .iaload, 1), (9, .ireturn, 1)]
theorem dtX8_packerOf : tX8_packerOf.all (fun q => decide (decode cX8_packerOf q.1 = .ok (q.2.1, q.2.2))) = true := by decide +kernel
theorem npX8_packerOf : (parseMethodDescriptor (mY mX8_packerOf).desc).map (fun d => d.parameters.length) = some 1 := by decide +kernel
theorem vX8_packerOf : mV mX8_packerOf := ⟨wI_X8_packerOf, wS_X8_packerOf, wN_X8, wC_X8_packerOf, by decide +kernel, by decide +kernel⟩
set_option maxHeartbeats 4000000 in
set_option maxRecDepth 100000 in
theorem sX8_packerOf {h : HP} {a : Nat} {p : Int} (hT : TT a = (0, 8)) (hp : 0 ≤ p ∧ p < 7) : SpecK mX8_packerOf [vr a, vi p] h (fun o h' => o = .inl (some (vi (hA h (a + 1) (22 + p)))) ∧ h' = h) := by
  refine Spec_of (by decide +kernel) (Nat.le_of_ble_eq_true rfl) ?_
  refine K_aload_n (dt_at dtX8_packerOf 0 rfl) rfl rfl ?_
  refine K_get (a := a) (ci := 8) (k := 0) (v := vr (a + 1)) (dt_at dtX8_packerOf 1 rfl) hT rfl (by decide) wF_X8_11 rfl ?_
  refine K_bipush (dt_at dtX8_packerOf 2 rfl) (by decide) ?_
  refine K_iload_n (dt_at dtX8_packerOf 3 rfl) rfl rfl ?_
  refine K_iadd (dt_at dtX8_packerOf 4 rfl) ?_
  refine K_iald (dt_at dtX8_packerOf 5 rfl) (lay_8_0 hT) (by omega) (by omega) ?_
  exact K_iret (dt_at dtX8_packerOf 6 rfl) rfl rfl (by decide) (by decide) ⟨rfl, rfl⟩
def mX8_setPacker : MI := (yX8_setPacker, cX8_setPacker, 3, none, rmK 1 0)
def tX8_setPacker : List (Nat × Instr × Nat) := [(0, .aload_n 0, 1), (1, .getfield 11, 3), (4, .bipush 22, 2), (6, .iload_n 1, 1), (7, .iadd, 1), (8, .iload_n 2, 1), (9, .iastore, 1), (10, .return_, 1)]
theorem dtX8_setPacker : tX8_setPacker.all (fun q => decide (decode cX8_setPacker q.1 = .ok (q.2.1, q.2.2))) = true := by decide +kernel
theorem npX8_setPacker : (parseMethodDescriptor (mY mX8_setPacker).desc).map (fun d => d.parameters.length) = some 2 := by decide +kernel
theorem vX8_setPacker : mV mX8_setPacker := ⟨wI_X8_setPacker, wS_X8_setPacker, wN_X8, wC_X8_setPacker, by decide +kernel, by decide +kernel⟩
set_option maxHeartbeats 4000000 in
set_option maxRecDepth 100000 in
theorem sX8_setPacker {h : HP} {a : Nat} {p : Int} {q : Int} (hT : TT a = (0, 8)) (hp : 0 ≤ p ∧ p < 7) : SpecK mX8_setPacker [vr a, vi p, vi q] h (fun o h' => o = .inl (none) ∧ h' = sA h (a + 1) (22 + p) q) := by
  refine Spec_of (by decide +kernel) (Nat.le_of_ble_eq_true rfl) ?_
  refine K_aload_n (dt_at dtX8_setPacker 0 rfl) rfl rfl ?_
  refine K_get (a := a) (ci := 8) (k := 0) (v := vr (a + 1)) (dt_at dtX8_setPacker 1 rfl) hT rfl (by decide) wF_X8_11 rfl ?_
  refine K_bipush (dt_at dtX8_setPacker 2 rfl) (by decide) ?_
  refine K_iload_n (dt_at dtX8_setPacker 3 rfl) rfl rfl ?_
  refine K_iadd (dt_at dtX8_setPacker 4 rfl) ?_
  refine K_iload_n (dt_at dtX8_setPacker 5 rfl) rfl rfl ?_
  refine K_iast (dt_at dtX8_setPacker 6 rfl) (lay_8_0 hT) (by omega) (by omega) ?_
  exact K_vret (dt_at dtX8_setPacker 7 rfl) rfl (by decide) (by decide) ⟨rfl, rfl⟩
def mX8_stock : MI := (yX8_stock, cX8_stock, 2, (some .int), rmK 1 0)
def tX8_stock : List (Nat × Instr × Nat) := [(0, .aload_n 0, 1), (1, .getfield 11, 3), (4, .bipush 29, 2), (6, .iload_n 1, 1), (7, .iadd, 1), (8, .iaload, 1), (9, .ireturn, 1)]
theorem dtX8_stock : tX8_stock.all (fun q => decide (decode cX8_stock q.1 = .ok (q.2.1, q.2.2))) = true := by decide +kernel
theorem npX8_stock : (parseMethodDescriptor (mY mX8_stock).desc).map (fun d => d.parameters.length) = some 1 := by decide +kernel
theorem vX8_stock : mV mX8_stock := ⟨wI_X8_stock, wS_X8_stock, wN_X8, wC_X8_stock, by decide +kernel, by decide +kernel⟩
set_option maxHeartbeats 4000000 in
set_option maxRecDepth 100000 in
theorem sX8_stock {h : HP} {a : Nat} {t : Int} (hT : TT a = (0, 8)) (ht : 0 ≤ t ∧ t < 6) : SpecK mX8_stock [vr a, vi t] h (fun o h' => o = .inl (some (vi (hA h (a + 1) (29 + t)))) ∧ h' = h) := by
  refine Spec_of (by decide +kernel) (Nat.le_of_ble_eq_true rfl) ?_
  refine K_aload_n (dt_at dtX8_stock 0 rfl) rfl rfl ?_
  refine K_get (a := a) (ci := 8) (k := 0) (v := vr (a + 1)) (dt_at dtX8_stock 1 rfl) hT rfl (by decide) wF_X8_11 rfl ?_
  refine K_bipush (dt_at dtX8_stock 2 rfl) (by decide) ?_
  refine K_iload_n (dt_at dtX8_stock 3 rfl) rfl rfl ?_
  refine K_iadd (dt_at dtX8_stock 4 rfl) ?_
  refine K_iald (dt_at dtX8_stock 5 rfl) (lay_8_0 hT) (by omega) (by omega) ?_
  exact K_iret (dt_at dtX8_stock 6 rfl) rfl rfl (by decide) (by decide) ⟨rfl, rfl⟩
def mX8_addStock : MI := (yX8_addStock, cX8_addStock, 3, none, rmK 1 0)
def tX8_addStock : List (Nat × Instr × Nat) := [(0, .aload_n 0, 1), (1, .getfield 11, 3), (4, .bipush 29, 2), (6, .iload_n 1, 1), (7, .iadd, 1), (8, .dup2, 1), (9, .iaload, 1), (10, .iload_n 2, 1), (11, .iadd, 1), (12, .iastore, 1), (13, .return_, 1)]
theorem dtX8_addStock : tX8_addStock.all (fun q => decide (decode cX8_addStock q.1 = .ok (q.2.1, q.2.2))) = true := by decide +kernel
theorem npX8_addStock : (parseMethodDescriptor (mY mX8_addStock).desc).map (fun d => d.parameters.length) = some 2 := by decide +kernel
theorem vX8_addStock : mV mX8_addStock := ⟨wI_X8_addStock, wS_X8_addStock, wN_X8, wC_X8_addStock, by decide +kernel, by decide +kernel⟩
set_option maxHeartbeats 4000000 in
set_option maxRecDepth 100000 in
theorem sX8_addStock {h : HP} {a : Nat} {t : Int} {n : Int} (hT : TT a = (0, 8)) (ht : 0 ≤ t ∧ t < 6) : SpecK mX8_addStock [vr a, vi t, vi n] h (fun o h' => o = .inl (none) ∧ h' = sA h (a + 1) (29 + t) ((hA h (a + 1) (29 + t)) + n)) := by
  refine Spec_of (by decide +kernel) (Nat.le_of_ble_eq_true rfl) ?_
  refine K_aload_n (dt_at dtX8_addStock 0 rfl) rfl rfl ?_
  refine K_get (a := a) (ci := 8) (k := 0) (v := vr (a + 1)) (dt_at dtX8_addStock 1 rfl) hT rfl (by decide) wF_X8_11 rfl ?_
  refine K_bipush (dt_at dtX8_addStock 2 rfl) (by decide) ?_
  refine K_iload_n (dt_at dtX8_addStock 3 rfl) rfl rfl ?_
  refine K_iadd (dt_at dtX8_addStock 4 rfl) ?_
  refine K_dup2 (dt_at dtX8_addStock 5 rfl) rfl rfl ?_
  refine K_iald (dt_at dtX8_addStock 6 rfl) (lay_8_0 hT) (by omega) (by omega) ?_
  refine K_iload_n (dt_at dtX8_addStock 7 rfl) rfl rfl ?_
  refine K_iadd (dt_at dtX8_addStock 8 rfl) ?_
  refine K_iast (dt_at dtX8_addStock 9 rfl) (lay_8_0 hT) (by omega) (by omega) ?_
  exact K_vret (dt_at dtX8_addStock 10 rfl) rfl (by decide) (by decide) ⟨rfl, rfl⟩
def mX8_pieces : MI := (yX8_pieces, cX8_pieces, 3, (some .int), rmK 1 0)
def tX8_pieces : List (Nat × Instr × Nat) := [(0, .aload_n 0, 1), (1, .getfield 11, 3), (4, .bipush 35, 2), (6, .aload_n 0, 1), (7, .getfield 11, 3), (10, .bipush 8, 2), (12, .iload_n 1, 1), (13, .iadd, 1), (14, .iaload, 1), (15, .bipush 6, 2), (17, .imul, 1), (18, .iadd, 1), (19, .iload_n 2, 1), (20, .iadd, 1), (21, .iaload, 1), (22, .ireturn, 1)]
theorem dtX8_pieces : tX8_pieces.all (fun q => decide (decode cX8_pieces q.1 = .ok (q.2.1, q.2.2))) = true := by decide +kernel
theorem npX8_pieces : (parseMethodDescriptor (mY mX8_pieces).desc).map (fun d => d.parameters.length) = some 2 := by decide +kernel
theorem vX8_pieces : mV mX8_pieces := ⟨wI_X8_pieces, wS_X8_pieces, wN_X8, wC_X8_pieces, by decide +kernel, by decide +kernel⟩
set_option maxHeartbeats 4000000 in
set_option maxRecDepth 100000 in
theorem sX8_pieces {h : HP} {a : Nat} {p : Int} {t : Int} (hT : TT a = (0, 8)) (hp : 0 ≤ p ∧ p < 7) (ht : 0 ≤ t ∧ t < 6) (hc : 0 ≤ (hA h (a + 1) (8 + p)) ∧ (hA h (a + 1) (8 + p)) < 7) : SpecK mX8_pieces [vr a, vi p, vi t] h (fun o h' => o = .inl (some (vi (hA h (a + 1) (35 + (hA h (a + 1) (8 + p)) * 6 + t)))) ∧ h' = h) := by
  refine Spec_of (by decide +kernel) (Nat.le_of_ble_eq_true rfl) ?_
  refine K_aload_n (dt_at dtX8_pieces 0 rfl) rfl rfl ?_
  refine K_get (a := a) (ci := 8) (k := 0) (v := vr (a + 1)) (dt_at dtX8_pieces 1 rfl) hT rfl (by decide) wF_X8_11 rfl ?_
  refine K_bipush (dt_at dtX8_pieces 2 rfl) (by decide) ?_
  refine K_aload_n (dt_at dtX8_pieces 3 rfl) rfl rfl ?_
  refine K_get (a := a) (ci := 8) (k := 0) (v := vr (a + 1)) (dt_at dtX8_pieces 4 rfl) hT rfl (by decide) wF_X8_11 rfl ?_
  refine K_bipush (dt_at dtX8_pieces 5 rfl) (by decide) ?_
  refine K_iload_n (dt_at dtX8_pieces 6 rfl) rfl rfl ?_
  refine K_iadd (dt_at dtX8_pieces 7 rfl) ?_
  refine K_iald (dt_at dtX8_pieces 8 rfl) (lay_8_0 hT) (by omega) (by omega) ?_
  refine K_bipush (dt_at dtX8_pieces 9 rfl) (by decide) ?_
  refine K_imul (dt_at dtX8_pieces 10 rfl) ?_
  refine K_iadd (dt_at dtX8_pieces 11 rfl) ?_
  refine K_iload_n (dt_at dtX8_pieces 12 rfl) rfl rfl ?_
  refine K_iadd (dt_at dtX8_pieces 13 rfl) ?_
  refine K_iald (dt_at dtX8_pieces 14 rfl) (lay_8_0 hT) (by omega) (by omega) ?_
  exact K_iret (dt_at dtX8_pieces 15 rfl) rfl rfl (by decide) (by decide) ⟨rfl, rfl⟩
def mX8_changeCases : MI := (yX8_changeCases, cX8_changeCases, 4, none, rmK 1 0)
def tX8_changeCases : List (Nat × Instr × Nat) := [(0, .aload_n 0, 1), (1, .getfield 11, 3), (4, .bipush 8, 2), (6, .iload_n 1, 1), (7, .iadd, 1), (8, .iaload, 1), (9, .istore_n 3, 1), (10, .aload_n 0, 1), (11, .getfield 11, 3), (14, .bipush 8, 2), (16, .iload_n 1, 1), (17, .iadd, 1), (18, .aload_n 0, 1), (19, .getfield 11, 3), (22, .bipush 8, 2), (24, .iload_n 2, 1), (25, .iadd, 1), (26, .iaload, 1), (27, .iastore, 1), (28, .aload_n 0, 1), (29, .getfield 11, 3), (32, .bipush 8, 2), (34, .iload_n 2, 1), (35, .iadd, 1), (36, .iload_n 3, 1), (37, .iastore, 1), (38, .return_, 1)]
theorem dtX8_changeCases : tX8_changeCases.all (fun q => decide (decode cX8_changeCases q.1 = .ok (q.2.1, q.2.2))) = true := by decide +kernel
theorem npX8_changeCases : (parseMethodDescriptor (mY mX8_changeCases).desc).map (fun d => d.parameters.length) = some 2 := by decide +kernel
theorem vX8_changeCases : mV mX8_changeCases := ⟨wI_X8_changeCases, wS_X8_changeCases, wN_X8, wC_X8_changeCases, by decide +kernel, by decide +kernel⟩
set_option maxHeartbeats 4000000 in
set_option maxRecDepth 100000 in
theorem sX8_changeCases {h : HP} {a : Nat} {p : Int} {q : Int} (hT : TT a = (0, 8)) (hp : 0 ≤ p ∧ p < 7) (hq : 0 ≤ q ∧ q < 7) : SpecK mX8_changeCases [vr a, vi p, vi q] h (fun o h' => o = .inl (none) ∧ h' = sA (sA h (a + 1) (8 + p) (hA h (a + 1) (8 + q))) (a + 1) (8 + q) (hA h (a + 1) (8 + p))) := by
  refine Spec_of (by decide +kernel) (Nat.le_of_ble_eq_true rfl) ?_
  refine K_aload_n (dt_at dtX8_changeCases 0 rfl) rfl rfl ?_
  refine K_get (a := a) (ci := 8) (k := 0) (v := vr (a + 1)) (dt_at dtX8_changeCases 1 rfl) hT rfl (by decide) wF_X8_11 rfl ?_
  refine K_bipush (dt_at dtX8_changeCases 2 rfl) (by decide) ?_
  refine K_iload_n (dt_at dtX8_changeCases 3 rfl) rfl rfl ?_
  refine K_iadd (dt_at dtX8_changeCases 4 rfl) ?_
  refine K_iald (dt_at dtX8_changeCases 5 rfl) (lay_8_0 hT) (by omega) (by omega) ?_
  refine K_istore_n (ls' := [(3, vi (hA h (a + 1) (8 + p))), (0, vr a), (1, vi p), (2, vi q)]) (dt_at dtX8_changeCases 6 rfl) rfl (by decide) rfl ?_
  refine K_aload_n (dt_at dtX8_changeCases 7 rfl) rfl rfl ?_
  refine K_get (a := a) (ci := 8) (k := 0) (v := vr (a + 1)) (dt_at dtX8_changeCases 8 rfl) hT rfl (by decide) wF_X8_11 rfl ?_
  refine K_bipush (dt_at dtX8_changeCases 9 rfl) (by decide) ?_
  refine K_iload_n (dt_at dtX8_changeCases 10 rfl) rfl rfl ?_
  refine K_iadd (dt_at dtX8_changeCases 11 rfl) ?_
  refine K_aload_n (dt_at dtX8_changeCases 12 rfl) rfl rfl ?_
  refine K_get (a := a) (ci := 8) (k := 0) (v := vr (a + 1)) (dt_at dtX8_changeCases 13 rfl) hT rfl (by decide) wF_X8_11 rfl ?_
  refine K_bipush (dt_at dtX8_changeCases 14 rfl) (by decide) ?_
  refine K_iload_n (dt_at dtX8_changeCases 15 rfl) rfl rfl ?_
  refine K_iadd (dt_at dtX8_changeCases 16 rfl) ?_
  refine K_iald (dt_at dtX8_changeCases 17 rfl) (lay_8_0 hT) (by omega) (by omega) ?_
  refine K_iast (dt_at dtX8_changeCases 18 rfl) (lay_8_0 hT) (by omega) (by omega) ?_
  refine K_aload_n (dt_at dtX8_changeCases 19 rfl) rfl rfl ?_
  refine K_get (a := a) (ci := 8) (k := 0) (v := vr (a + 1)) (dt_at dtX8_changeCases 20 rfl) hT rfl (by decide) wF_X8_11 rfl ?_
  refine K_bipush (dt_at dtX8_changeCases 21 rfl) (by decide) ?_
  refine K_iload_n (dt_at dtX8_changeCases 22 rfl) rfl rfl ?_
  refine K_iadd (dt_at dtX8_changeCases 23 rfl) ?_
  refine K_iload_n (dt_at dtX8_changeCases 24 rfl) rfl rfl ?_
  refine K_iast (dt_at dtX8_changeCases 25 rfl) (lay_8_0 hT) (by omega) (by omega) ?_
  exact K_vret (dt_at dtX8_changeCases 26 rfl) rfl (by decide) (by decide) ⟨rfl, rfl⟩
def mX8_move : MI := (yX8_move, cX8_move, 4, none, rmK 1 0)
def tX8_move : List (Nat × Instr × Nat) := [(0, .aload_n 0, 1), (1, .getfield 11, 3), (4, .bipush 35, 2), (6, .aload_n 0, 1), (7, .getfield 11, 3), (10, .bipush 8, 2), (12, .iload_n 1, 1), (13, .iadd, 1), (14, .iaload, 1), (15, .bipush 6, 2), (17, .imul, 1), (18, .iadd, 1), (19, .iload_n 2, 1), (20, .iadd, 1), (21, .dup2, 1), (22, .iaload, 1), (23, .iload_n 3, 1), (24, .iadd, 1), (25, .iastore, 1), (26, .aload_n 0, 1), (27, .getfield 11, 3), (30, .bipush 29, 2), (32, .iload_n 2, 1), (33, .iadd, 1), (34, .dup2, 1), (35, .iaload, 1), (36, .iload_n 3, 1), (37, .isub, 1), (38, .iastore, 1), (39, .return_, 1)]
theorem dtX8_move : tX8_move.all (fun q => decide (decode cX8_move q.1 = .ok (q.2.1, q.2.2))) = true := by decide +kernel
theorem npX8_move : (parseMethodDescriptor (mY mX8_move).desc).map (fun d => d.parameters.length) = some 3 := by decide +kernel
theorem vX8_move : mV mX8_move := ⟨wI_X8_move, wS_X8_move, wN_X8, wC_X8_move, by decide +kernel, by decide +kernel⟩
set_option maxHeartbeats 4000000 in
set_option maxRecDepth 100000 in
theorem sX8_move {h : HP} {a : Nat} {p : Int} {t : Int} {n : Int} (hT : TT a = (0, 8)) (hp : 0 ≤ p ∧ p < 7) (ht : 0 ≤ t ∧ t < 6) (hc : 0 ≤ (hA h (a + 1) (8 + p)) ∧ (hA h (a + 1) (8 + p)) < 7) : SpecK mX8_move [vr a, vi p, vi t, vi n] h (fun o h' => o = .inl none ∧ h' = sA (sA h (a + 1) (35 + (hA h (a + 1) (8 + p)) * 6 + t) ((hA h (a + 1) (35 + (hA h (a + 1) (8 + p)) * 6 + t)) + n)) (a + 1) (29 + t) (hA (sA h (a + 1) (35 + (hA h (a + 1) (8 + p)) * 6 + t) ((hA h (a + 1) (35 + (hA h (a + 1) (8 + p)) * 6 + t)) + n)) (a + 1) (29 + t) - n)) := by
  refine Spec_of (by decide +kernel) (Nat.le_of_ble_eq_true rfl) ?_
  refine K_aload_n (dt_at dtX8_move 0 rfl) rfl rfl ?_
  refine K_get (a := a) (ci := 8) (k := 0) (v := vr (a + 1)) (dt_at dtX8_move 1 rfl) hT rfl (by decide) wF_X8_11 rfl ?_
  refine K_bipush (dt_at dtX8_move 2 rfl) (by decide) ?_
  refine K_aload_n (dt_at dtX8_move 3 rfl) rfl rfl ?_
  refine K_get (a := a) (ci := 8) (k := 0) (v := vr (a + 1)) (dt_at dtX8_move 4 rfl) hT rfl (by decide) wF_X8_11 rfl ?_
  refine K_bipush (dt_at dtX8_move 5 rfl) (by decide) ?_
  refine K_iload_n (dt_at dtX8_move 6 rfl) rfl rfl ?_
  refine K_iadd (dt_at dtX8_move 7 rfl) ?_
  refine K_iald (dt_at dtX8_move 8 rfl) (lay_8_0 hT) (by omega) (by omega) ?_
  refine K_bipush (dt_at dtX8_move 9 rfl) (by decide) ?_
  refine K_imul (dt_at dtX8_move 10 rfl) ?_
  refine K_iadd (dt_at dtX8_move 11 rfl) ?_
  refine K_iload_n (dt_at dtX8_move 12 rfl) rfl rfl ?_
  refine K_iadd (dt_at dtX8_move 13 rfl) ?_
  refine K_dup2 (dt_at dtX8_move 14 rfl) rfl rfl ?_
  refine K_iald (dt_at dtX8_move 15 rfl) (lay_8_0 hT) (by omega) (by omega) ?_
  refine K_iload_n (dt_at dtX8_move 16 rfl) rfl rfl ?_
  refine K_iadd (dt_at dtX8_move 17 rfl) ?_
  refine K_iast (dt_at dtX8_move 18 rfl) (lay_8_0 hT) (by omega) (by omega) ?_
  refine K_aload_n (dt_at dtX8_move 19 rfl) rfl rfl ?_
  refine K_get (a := a) (ci := 8) (k := 0) (v := vr (a + 1)) (dt_at dtX8_move 20 rfl) hT rfl (by decide) wF_X8_11 rfl ?_
  refine K_bipush (dt_at dtX8_move 21 rfl) (by decide) ?_
  refine K_iload_n (dt_at dtX8_move 22 rfl) rfl rfl ?_
  refine K_iadd (dt_at dtX8_move 23 rfl) ?_
  refine K_dup2 (dt_at dtX8_move 24 rfl) rfl rfl ?_
  refine K_iald (dt_at dtX8_move 25 rfl) (lay_8_0 hT) (by omega) (by omega) ?_
  refine K_iload_n (dt_at dtX8_move 26 rfl) rfl rfl ?_
  refine K_isub (dt_at dtX8_move 27 rfl) ?_
  refine K_iast (dt_at dtX8_move 28 rfl) (lay_8_0 hT) (by omega) (by omega) ?_
  exact K_vret (dt_at dtX8_move 29 rfl) rfl (by decide) (by decide) ⟨rfl, rfl⟩
