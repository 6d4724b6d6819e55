def mX8_whoIsOut : MI := (yX8_whoIsOut, cX8_whoIsOut, 4, (some .int), rmK 2 0)
def tX8_whoIsOut : List (Nat × Instr × Nat) := [(0, .iconst 0, 1), (1, .istore_n 2, 1), (2, .iconst 0, 1), (3, .istore_n 3, 1), (4, .iload_n 3, 1), (5, .iload_n 1, 1), (6, .if_icmp .ge 23, 3), (9, .aload_n 0, 1), (10, .iload_n 3, 1), (11, .invokevirtual 48, 3), (14, .ifCond .ne 9, 3), (17, .iload_n 2, 1), (18, .iconst 1, 1), (19, .iload_n 3, 1), (20, .ishl, 1), (21, .ior, 1), (22, .istore_n 2, 1), (23, .iinc 3 1, 3), (26, .goto (-22), 3), (29, .iload_n 2, 1), (30, .ireturn, 1)]
theorem dtX8_whoIsOut : tX8_whoIsOut.all (fun q => decide (decode cX8_whoIsOut q.1 = .ok (q.2.1, q.2.2))) = true := by decide +kernel
theorem npX8_whoIsOut : (parseMethodDescriptor (mY mX8_whoIsOut).desc).map (fun d => d.parameters.length) = some 1 := by decide +kernel
theorem vX8_whoIsOut : mV mX8_whoIsOut := ⟨wI_X8_whoIsOut, wS_X8_whoIsOut, wN_X8, wC_X8_whoIsOut, by decide +kernel, by decide +kernel⟩
set_option maxHeartbeats 4000000 in
set_option maxRecDepth 100000 in
theorem lp_X8_whoIsOut {Z : CT → State → Prop} {h : HP} {a n : Nat} (hT : TT a = (0, 8)) (hW : rW (hA h (a + 1))) (hn : n ≤ 7) (kx : K mX8_whoIsOut GK Z 0 0 29 [(3, vi (n : Int)), (2, vi (bitN (fun k => decide ((hA h (a + 1) (1 + (k : Int))) ≠ 0)) n)), (0, vr a), (1, vi (n : Int))] [] h) : ∀ (d k : Nat), k + d = n → K mX8_whoIsOut GK Z 0 0 4 [(3, vi (k : Int)), (2, vi (bitN (fun k => decide ((hA h (a + 1) (1 + (k : Int))) ≠ 0)) k)), (0, vr a), (1, vi (n : Int))] [] h := by
  intro d
  induction d with
  | zero =>
    intro k hk
    obtain rfl : k = n := by omega
    refine K_iload_n (dt_at dtX8_whoIsOut 4 rfl) rfl rfl ?_
    refine K_iload_n (dt_at dtX8_whoIsOut 5 rfl) rfl rfl ?_
    refine K_icmp_ge (tgt := 29) (dt_at dtX8_whoIsOut 6 rfl) (by decide) (by first | assumption | exact ⟨by omega, by omega⟩) (by first | assumption | exact ⟨by omega, by omega⟩) (fun c1 => ?_) (fun c1 => absurd c1 (by omega))
    exact K_pk [0, 1, 2, 3] rfl kx
  | succ d ih =>
    intro k hk
    have w1 := hW.2 k (by omega) (by omega)
    refine K_iload_n (dt_at dtX8_whoIsOut 4 rfl) rfl rfl ?_
    refine K_iload_n (dt_at dtX8_whoIsOut 5 rfl) rfl rfl ?_
    refine K_icmp_ge (tgt := 29) (dt_at dtX8_whoIsOut 6 rfl) (by decide) (by first | assumption | exact ⟨by omega, by omega⟩) (by first | assumption | exact ⟨by omega, by omega⟩) (fun c1 => absurd c1 (by omega)) (fun c1 => ?_)
    refine K_aload_n (dt_at dtX8_whoIsOut 7 rfl) rfl rfl ?_
    refine K_iload_n (dt_at dtX8_whoIsOut 8 rfl) rfl rfl ?_
    refine K_callV (M' := mX8_isIn) (a := a) (ci := 8) (As := [vi (k : Int)]) (st := []) (dt_at dtX8_whoIsOut 9 rfl) (sX8_isIn hT (by constructor <;> omega) ⟨by omega, by omega⟩) hT rfl wL_X8_48 vX8_isIn rfl npX8_isIn (by decide) (by decide) (Nat.le_of_ble_eq_true rfl) (by decide) (by decide) GK_E (fun v9 h9 hq => ?_) (fun E h9 hq => by cases hq.1)
    obtain ⟨e9, e8⟩ := hq
    cases e9
    rw [e8]
    show K mX8_whoIsOut _ _ 0 0 14 [(3, vi (k : Int)), (2, vi (bitN (fun k => decide ((hA h (a + 1) (1 + (k : Int))) ≠ 0)) k)), (0, vr a), (1, vi (n : Int))] [vi (if (hA h (a + 1) (1 + (k : Int))) = 0 then 1 else 0)] h
    by_cases z2 : (hA h (a + 1) (1 + (k : Int))) = 0
    · rw [if_pos z2]
      refine K_if_ne (tgt := 23) (dt_at dtX8_whoIsOut 10 rfl) (by decide) (by first | assumption | exact ⟨by omega, by omega⟩) (fun c3 => ?_) (fun c3 => absurd c3 (by omega))
      refine K_iinc (ls' := [(3, vi ((k : Int) + 1)), (2, vi (bitN (fun k => decide ((hA h (a + 1) (1 + (k : Int))) ≠ 0)) k)), (0, vr a), (1, vi (n : Int))]) (dt_at dtX8_whoIsOut 17 rfl) rfl (by decide) rfl ?_
      refine K_goto (tgt := 4) (dt_at dtX8_whoIsOut 18 rfl) (by decide) ?_
      refine K_pk [0, 1, 2, 3] (ls' := [(3, vi ((k : Int) + 1)), (2, vi (bitN (fun k => decide ((hA h (a + 1) (1 + (k : Int))) ≠ 0)) k)), (0, vr a), (1, vi (n : Int))]) rfl ?_
      exact K_cg (ls' := [(3, vi ((k + 1 : Nat) : Int)), (2, vi (bitN (fun k => decide ((hA h (a + 1) (1 + (k : Int))) ≠ 0)) (k + 1))), (0, vr a), (1, vi (n : Int))]) (h' := h) (by rw [bitN_f (by simpa using by assumption)]; rfl) (by rfl) (ih (k + 1) (by omega))
    · rw [if_neg z2]
      refine K_if_ne (tgt := 23) (dt_at dtX8_whoIsOut 10 rfl) (by decide) (by first | assumption | exact ⟨by omega, by omega⟩) (fun c4 => absurd c4 (by omega)) (fun c4 => ?_)
      refine K_iload_n (dt_at dtX8_whoIsOut 11 rfl) rfl rfl ?_
      refine K_iconst (dt_at dtX8_whoIsOut 12 rfl) ?_
      refine K_iload_n (dt_at dtX8_whoIsOut 13 rfl) rfl rfl ?_
      refine K_ishl (dt_at dtX8_whoIsOut 14 rfl) ?_
      refine K_ior (dt_at dtX8_whoIsOut 15 rfl) ?_
      refine K_istore_n (ls' := [(2, vi (bOr (bitN (fun k => decide ((hA h (a + 1) (1 + (k : Int))) ≠ 0)) k) (bShl 1 (k : Int)))), (3, vi (k : Int)), (0, vr a), (1, vi (n : Int))]) (dt_at dtX8_whoIsOut 16 rfl) rfl (by decide) rfl ?_
      refine K_iinc (ls' := [(3, vi ((k : Int) + 1)), (2, vi (bOr (bitN (fun k => decide ((hA h (a + 1) (1 + (k : Int))) ≠ 0)) k) (bShl 1 (k : Int)))), (0, vr a), (1, vi (n : Int))]) (dt_at dtX8_whoIsOut 17 rfl) rfl (by decide) rfl ?_
      refine K_goto (tgt := 4) (dt_at dtX8_whoIsOut 18 rfl) (by decide) ?_
      refine K_pk [0, 1, 2, 3] (ls' := [(3, vi ((k : Int) + 1)), (2, vi (bOr (bitN (fun k => decide ((hA h (a + 1) (1 + (k : Int))) ≠ 0)) k) (bShl 1 (k : Int)))), (0, vr a), (1, vi (n : Int))]) rfl ?_
      exact K_cg (ls' := [(3, vi ((k + 1 : Nat) : Int)), (2, vi (bitN (fun k => decide ((hA h (a + 1) (1 + (k : Int))) ≠ 0)) (k + 1))), (0, vr a), (1, vi (n : Int))]) (h' := h) (by rw [bitN_t (by simpa using by assumption)]; rfl) (by rfl) (ih (k + 1) (by omega))
set_option maxHeartbeats 4000000 in
set_option maxRecDepth 100000 in
theorem sX8_whoIsOut {h : HP} {a n : Nat}  (hT : TT a = (0, 8)) (hW : rW (hA h (a + 1))) (hn : n ≤ 7) : SpecK mX8_whoIsOut [vr a, vi (n : Int)] h (fun o h' => o = .inl (some (vi (bitN (fun k => decide ((hA h (a + 1) (1 + (k : Int))) ≠ 0)) n))) ∧ h' = h) := by
  refine Spec_of (by decide +kernel) (Nat.le_of_ble_eq_true rfl) ?_
  refine K_iconst (dt_at dtX8_whoIsOut 0 rfl) ?_
  refine K_istore_n (ls' := [(2, vi 0), (0, vr a), (1, vi (n : Int))]) (dt_at dtX8_whoIsOut 1 rfl) rfl (by decide) rfl ?_
  refine K_iconst (dt_at dtX8_whoIsOut 2 rfl) ?_
  refine K_istore_n (ls' := [(3, vi 0), (2, vi 0), (0, vr a), (1, vi (n : Int))]) (dt_at dtX8_whoIsOut 3 rfl) rfl (by decide) rfl ?_
  refine K_pk [0, 1, 2, 3] rfl (lp_X8_whoIsOut hT hW hn ?_ n 0 (by omega))
  refine K_iload_n (dt_at dtX8_whoIsOut 19 rfl) rfl rfl ?_
  exact K_iret (dt_at dtX8_whoIsOut 20 rfl) rfl rfl (by decide) (by decide) ⟨rfl, rfl⟩
def mX8_packsFor : MI := (yX8_packsFor, cX8_packsFor, 5, (some .int), rmK 2 0)
def tX8_packsFor : List (Nat × Instr × Nat) := [(0, .iconst 0, 1), (1, .istore_n 3, 1), (2, .iconst 0, 1), (3, .istore 4, 2), (5, .iload 4, 2), (7, .iload_n 2, 1), (8, .if_icmp .ge 26, 3), (11, .aload_n 0, 1), (12, .iload 4, 2), (14, .invokevirtual 58, 3), (17, .iload_n 1, 1), (18, .if_icmp .ne 10, 3), (21, .iload_n 3, 1), (22, .iconst 1, 1), (23, .iload 4, 2), (25, .ishl, 1), (26, .ior, 1), (27, .istore_n 3, 1), (28, .iinc 4 1, 3), (31, .goto (-26), 3), (34, .iload_n 3, 1), (35, .ireturn, 1)]
theorem dtX8_packsFor : tX8_packsFor.all (fun q => decide (decode cX8_packsFor q.1 = .ok (q.2.1, q.2.2))) = true := by decide +kernel
theorem npX8_packsFor : (parseMethodDescriptor (mY mX8_packsFor).desc).map (fun d => d.parameters.length) = some 2 := by decide +kernel
theorem vX8_packsFor : mV mX8_packsFor := ⟨wI_X8_packsFor, wS_X8_packsFor, wN_X8, wC_X8_packsFor, by decide +kernel, by decide +kernel⟩
set_option maxHeartbeats 4000000 in
set_option maxRecDepth 100000 in
theorem lp_X8_packsFor {Z : CT → State → Prop} {h : HP} {a n : Nat} {q : Int} (hT : TT a = (0, 8)) (hW : rW (hA h (a + 1))) (hn : n ≤ 7) (hq : i32 q) (kx : K mX8_packsFor GK Z 0 0 34 [(4, vi (n : Int)), (3, vi (bitN (fun k => decide ((hA h (a + 1) (22 + (k : Int))) = q)) n)), (0, vr a), (1, vi q), (2, vi (n : Int))] [] h) : ∀ (d k : Nat), k + d = n → K mX8_packsFor GK Z 0 0 5 [(4, vi (k : Int)), (3, vi (bitN (fun k => decide ((hA h (a + 1) (22 + (k : Int))) = q)) k)), (0, vr a), (1, vi q), (2, vi (n : Int))] [] h := by
  intro d
  induction d with
  | zero =>
    intro k hk
    obtain rfl : k = n := by omega
    refine K_iload (dt_at dtX8_packsFor 4 rfl) rfl ?_
    refine K_iload_n (dt_at dtX8_packsFor 5 rfl) rfl rfl ?_
    refine K_icmp_ge (tgt := 34) (dt_at dtX8_packsFor 6 rfl) (by decide) (by first | assumption | exact ⟨by omega, by omega⟩) (by first | assumption | exact ⟨by omega, by omega⟩) (fun c1 => ?_) (fun c1 => absurd c1 (by omega))
    exact K_pk [0, 1, 2, 3, 4] rfl kx
  | succ d ih =>
    intro k hk
    have w1 := hW.2 k (by omega) (by omega)
    refine K_iload (dt_at dtX8_packsFor 4 rfl) rfl ?_
    refine K_iload_n (dt_at dtX8_packsFor 5 rfl) rfl rfl ?_
    refine K_icmp_ge (tgt := 34) (dt_at dtX8_packsFor 6 rfl) (by decide) (by first | assumption | exact ⟨by omega, by omega⟩) (by first | assumption | exact ⟨by omega, by omega⟩) (fun c1 => absurd c1 (by omega)) (fun c1 => ?_)
    refine K_aload_n (dt_at dtX8_packsFor 7 rfl) rfl rfl ?_
    refine K_iload (dt_at dtX8_packsFor 8 rfl) rfl ?_
    refine K_callV (M' := mX8_packerOf) (a := a) (ci := 8) (As := [vi (k : Int)]) (st := []) (dt_at dtX8_packsFor 9 rfl) (sX8_packerOf hT (by constructor <;> omega)) hT rfl wL_X8_58 vX8_packerOf rfl npX8_packerOf (by decide) (by decide) (Nat.le_of_ble_eq_true rfl) (by decide) (by decide) GK_E (fun v9 h9 hq => ?_) (fun E h9 hq => by cases hq.1)
    obtain ⟨e9, e8⟩ := hq
    cases e9
    rw [e8]
    show K mX8_packsFor _ _ 0 0 17 [(4, vi (k : Int)), (3, vi (bitN (fun k => decide ((hA h (a + 1) (22 + (k : Int))) = q)) k)), (0, vr a), (1, vi q), (2, vi (n : Int))] [vi (hA h (a + 1) (22 + (k : Int)))] h
    refine K_iload_n (dt_at dtX8_packsFor 10 rfl) rfl rfl ?_
    refine K_icmp_ne (tgt := 28) (dt_at dtX8_packsFor 11 rfl) (by decide) (by first | assumption | exact ⟨by omega, by omega⟩) (by first | assumption | exact ⟨by omega, by omega⟩) (fun c2 => ?_) (fun c2 => ?_)
    · refine K_iinc (ls' := [(4, vi ((k : Int) + 1)), (3, vi (bitN (fun k => decide ((hA h (a + 1) (22 + (k : Int))) = q)) k)), (0, vr a), (1, vi q), (2, vi (n : Int))]) (dt_at dtX8_packsFor 18 rfl) rfl (by decide) rfl ?_
      refine K_goto (tgt := 5) (dt_at dtX8_packsFor 19 rfl) (by decide) ?_
      refine K_pk [0, 1, 2, 3, 4] (ls' := [(4, vi ((k : Int) + 1)), (3, vi (bitN (fun k => decide ((hA h (a + 1) (22 + (k : Int))) = q)) k)), (0, vr a), (1, vi q), (2, vi (n : Int))]) rfl ?_
      exact K_cg (ls' := [(4, vi ((k + 1 : Nat) : Int)), (3, vi (bitN (fun k => decide ((hA h (a + 1) (22 + (k : Int))) = q)) (k + 1))), (0, vr a), (1, vi q), (2, vi (n : Int))]) (h' := h) (by rw [bitN_f (by simpa using by assumption)]; rfl) (by rfl) (ih (k + 1) (by omega))
    · refine K_iload_n (dt_at dtX8_packsFor 12 rfl) rfl rfl ?_
      refine K_iconst (dt_at dtX8_packsFor 13 rfl) ?_
      refine K_iload (dt_at dtX8_packsFor 14 rfl) rfl ?_
      refine K_ishl (dt_at dtX8_packsFor 15 rfl) ?_
      refine K_ior (dt_at dtX8_packsFor 16 rfl) ?_
      refine K_istore_n (ls' := [(3, vi (bOr (bitN (fun k => decide ((hA h (a + 1) (22 + (k : Int))) = q)) k) (bShl 1 (k : Int)))), (4, vi (k : Int)), (0, vr a), (1, vi q), (2, vi (n : Int))]) (dt_at dtX8_packsFor 17 rfl) rfl (by decide) rfl ?_
      refine K_iinc (ls' := [(4, vi ((k : Int) + 1)), (3, vi (bOr (bitN (fun k => decide ((hA h (a + 1) (22 + (k : Int))) = q)) k) (bShl 1 (k : Int)))), (0, vr a), (1, vi q), (2, vi (n : Int))]) (dt_at dtX8_packsFor 18 rfl) rfl (by decide) rfl ?_
      refine K_goto (tgt := 5) (dt_at dtX8_packsFor 19 rfl) (by decide) ?_
      refine K_pk [0, 1, 2, 3, 4] (ls' := [(4, vi ((k : Int) + 1)), (3, vi (bOr (bitN (fun k => decide ((hA h (a + 1) (22 + (k : Int))) = q)) k) (bShl 1 (k : Int)))), (0, vr a), (1, vi q), (2, vi (n : Int))]) rfl ?_
      exact K_cg (ls' := [(4, vi ((k + 1 : Nat) : Int)), (3, vi (bitN (fun k => decide ((hA h (a + 1) (22 + (k : Int))) = q)) (k + 1))), (0, vr a), (1, vi q), (2, vi (n : Int))]) (h' := h) (by rw [bitN_t (by simpa using by assumption)]; rfl) (by rfl) (ih (k + 1) (by omega))
set_option maxHeartbeats 4000000 in
set_option maxRecDepth 100000 in
theorem sX8_packsFor {h : HP} {a n : Nat} {q : Int} (hT : TT a = (0, 8)) (hW : rW (hA h (a + 1))) (hn : n ≤ 7) (hq : i32 q) : SpecK mX8_packsFor [vr a, vi q, vi (n : Int)] h (fun o h' => o = .inl (some (vi (bitN (fun k => decide ((hA h (a + 1) (22 + (k : Int))) = q)) n))) ∧ h' = h) := by
  refine Spec_of (by decide +kernel) (Nat.le_of_ble_eq_true rfl) ?_
  refine K_iconst (dt_at dtX8_packsFor 0 rfl) ?_
  refine K_istore_n (ls' := [(3, vi 0), (0, vr a), (1, vi q), (2, vi (n : Int))]) (dt_at dtX8_packsFor 1 rfl) rfl (by decide) rfl ?_
  refine K_iconst (dt_at dtX8_packsFor 2 rfl) ?_
  refine K_istore (ls' := [(4, vi 0), (3, vi 0), (0, vr a), (1, vi q), (2, vi (n : Int))]) (dt_at dtX8_packsFor 3 rfl) (by decide) rfl ?_
  refine K_pk [0, 1, 2, 3, 4] rfl (lp_X8_packsFor hT hW hn hq ?_ n 0 (by omega))
  refine K_iload_n (dt_at dtX8_packsFor 20 rfl) rfl rfl ?_
  exact K_iret (dt_at dtX8_packsFor 21 rfl) rfl rfl (by decide) (by decide) ⟨rfl, rfl⟩
def mX8_mixed : MI := (yX8_mixed, cX8_mixed, 4, (some .int), rmK 2 0)
def tX8_mixed : List (Nat × Instr × Nat) := [(0, .iconst 0, 1), (1, .istore_n 2, 1), (2, .iconst 0, 1), (3, .istore_n 3, 1), (4, .iload_n 3, 1), (5, .iload_n 1, 1), (6, .if_icmp .ge 24, 3), (9, .aload_n 0, 1), (10, .iload_n 3, 1), (11, .invokevirtual 65, 3), (14, .iload_n 3, 1), (15, .if_icmp .eq 9, 3), (18, .iload_n 2, 1), (19, .iconst 1, 1), (20, .iload_n 3, 1), (21, .ishl, 1), (22, .ior, 1), (23, .istore_n 2, 1), (24, .iinc 3 1, 3), (27, .goto (-23), 3), (30, .iload_n 2, 1), (31, .ireturn, 1)]
theorem dtX8_mixed : tX8_mixed.all (fun q => decide (decode cX8_mixed q.1 = .ok (q.2.1, q.2.2))) = true := by decide +kernel
theorem npX8_mixed : (parseMethodDescriptor (mY mX8_mixed).desc).map (fun d => d.parameters.length) = some 1 := by decide +kernel
theorem vX8_mixed : mV mX8_mixed := ⟨wI_X8_mixed, wS_X8_mixed, wN_X8, wC_X8_mixed, by decide +kernel, by decide +kernel⟩
set_option maxHeartbeats 4000000 in
set_option maxRecDepth 100000 in
theorem lp_X8_mixed {Z : CT → State → Prop} {h : HP} {a n : Nat} (hT : TT a = (0, 8)) (hW : rW (hA h (a + 1))) (hn : n ≤ 7) (kx : K mX8_mixed GK Z 0 0 30 [(3, vi (n : Int)), (2, vi (bitN (fun k => decide ((hA h (a + 1) (8 + (k : Int))) ≠ (k : Int))) n)), (0, vr a), (1, vi (n : Int))] [] h) : ∀ (d k : Nat), k + d = n → K mX8_mixed GK Z 0 0 4 [(3, vi (k : Int)), (2, vi (bitN (fun k => decide ((hA h (a + 1) (8 + (k : Int))) ≠ (k : Int))) k)), (0, vr a), (1, vi (n : Int))] [] h := by
  intro d
  induction d with
  | zero =>
    intro k hk
    obtain rfl : k = n := by omega
    refine K_iload_n (dt_at dtX8_mixed 4 rfl) rfl rfl ?_
    refine K_iload_n (dt_at dtX8_mixed 5 rfl) rfl rfl ?_
    refine K_icmp_ge (tgt := 30) (dt_at dtX8_mixed 6 rfl) (by decide) (by first | assumption | exact ⟨by omega, by omega⟩) (by first | assumption | exact ⟨by omega, by omega⟩) (fun c1 => ?_) (fun c1 => absurd c1 (by omega))
    exact K_pk [0, 1, 2, 3] rfl kx
  | succ d ih =>
    intro k hk
    have w1 := hW.2 k (by omega) (by omega)
    refine K_iload_n (dt_at dtX8_mixed 4 rfl) rfl rfl ?_
    refine K_iload_n (dt_at dtX8_mixed 5 rfl) rfl rfl ?_
    refine K_icmp_ge (tgt := 30) (dt_at dtX8_mixed 6 rfl) (by decide) (by first | assumption | exact ⟨by omega, by omega⟩) (by first | assumption | exact ⟨by omega, by omega⟩) (fun c1 => absurd c1 (by omega)) (fun c1 => ?_)
    refine K_aload_n (dt_at dtX8_mixed 7 rfl) rfl rfl ?_
    refine K_iload_n (dt_at dtX8_mixed 8 rfl) rfl rfl ?_
    refine K_callV (M' := mX8_caseOf) (a := a) (ci := 8) (As := [vi (k : Int)]) (st := []) (dt_at dtX8_mixed 9 rfl) (sX8_caseOf hT (by constructor <;> omega)) hT rfl wL_X8_65 vX8_caseOf rfl npX8_caseOf (by decide) (by decide) (Nat.le_of_ble_eq_true rfl) (by decide) (by decide) GK_E (fun v9 h9 hq => ?_) (fun E h9 hq => by cases hq.1)
    obtain ⟨e9, e8⟩ := hq
    cases e9
    rw [e8]
    show K mX8_mixed _ _ 0 0 14 [(3, vi (k : Int)), (2, vi (bitN (fun k => decide ((hA h (a + 1) (8 + (k : Int))) ≠ (k : Int))) k)), (0, vr a), (1, vi (n : Int))] [vi (hA h (a + 1) (8 + (k : Int)))] h
    refine K_iload_n (dt_at dtX8_mixed 10 rfl) rfl rfl ?_
    refine K_icmp_eq (tgt := 24) (dt_at dtX8_mixed 11 rfl) (by decide) (by first | assumption | exact ⟨by omega, by omega⟩) (by first | assumption | exact ⟨by omega, by omega⟩) (fun c2 => ?_) (fun c2 => ?_)
    · refine K_iinc (ls' := [(3, vi ((k : Int) + 1)), (2, vi (bitN (fun k => decide ((hA h (a + 1) (8 + (k : Int))) ≠ (k : Int))) k)), (0, vr a), (1, vi (n : Int))]) (dt_at dtX8_mixed 18 rfl) rfl (by decide) rfl ?_
      refine K_goto (tgt := 4) (dt_at dtX8_mixed 19 rfl) (by decide) ?_
      refine K_pk [0, 1, 2, 3] (ls' := [(3, vi ((k : Int) + 1)), (2, vi (bitN (fun k => decide ((hA h (a + 1) (8 + (k : Int))) ≠ (k : Int))) k)), (0, vr a), (1, vi (n : Int))]) rfl ?_
      exact K_cg (ls' := [(3, vi ((k + 1 : Nat) : Int)), (2, vi (bitN (fun k => decide ((hA h (a + 1) (8 + (k : Int))) ≠ (k : Int))) (k + 1))), (0, vr a), (1, vi (n : Int))]) (h' := h) (by rw [bitN_f (by simpa using by assumption)]; rfl) (by rfl) (ih (k + 1) (by omega))
    · refine K_iload_n (dt_at dtX8_mixed 12 rfl) rfl rfl ?_
      refine K_iconst (dt_at dtX8_mixed 13 rfl) ?_
      refine K_iload_n (dt_at dtX8_mixed 14 rfl) rfl rfl ?_
      refine K_ishl (dt_at dtX8_mixed 15 rfl) ?_
      refine K_ior (dt_at dtX8_mixed 16 rfl) ?_
      refine K_istore_n (ls' := [(2, vi (bOr (bitN (fun k => decide ((hA h (a + 1) (8 + (k : Int))) ≠ (k : Int))) k) (bShl 1 (k : Int)))), (3, vi (k : Int)), (0, vr a), (1, vi (n : Int))]) (dt_at dtX8_mixed 17 rfl) rfl (by decide) rfl ?_
      refine K_iinc (ls' := [(3, vi ((k : Int) + 1)), (2, vi (bOr (bitN (fun k => decide ((hA h (a + 1) (8 + (k : Int))) ≠ (k : Int))) k) (bShl 1 (k : Int)))), (0, vr a), (1, vi (n : Int))]) (dt_at dtX8_mixed 18 rfl) rfl (by decide) rfl ?_
      refine K_goto (tgt := 4) (dt_at dtX8_mixed 19 rfl) (by decide) ?_
      refine K_pk [0, 1, 2, 3] (ls' := [(3, vi ((k : Int) + 1)), (2, vi (bOr (bitN (fun k => decide ((hA h (a + 1) (8 + (k : Int))) ≠ (k : Int))) k) (bShl 1 (k : Int)))), (0, vr a), (1, vi (n : Int))]) rfl ?_
      exact K_cg (ls' := [(3, vi ((k + 1 : Nat) : Int)), (2, vi (bitN (fun k => decide ((hA h (a + 1) (8 + (k : Int))) ≠ (k : Int))) (k + 1))), (0, vr a), (1, vi (n : Int))]) (h' := h) (by rw [bitN_t (by simpa using by assumption)]; rfl) (by rfl) (ih (k + 1) (by omega))
set_option maxHeartbeats 4000000 in
set_option maxRecDepth 100000 in
theorem sX8_mixed {h : HP} {a n : Nat}  (hT : TT a = (0, 8)) (hW : rW (hA h (a + 1))) (hn : n ≤ 7) : SpecK mX8_mixed [vr a, vi (n : Int)] h (fun o h' => o = .inl (some (vi (bitN (fun k => decide ((hA h (a + 1) (8 + (k : Int))) ≠ (k : Int))) n))) ∧ h' = h) := by
  refine Spec_of (by decide +kernel) (Nat.le_of_ble_eq_true rfl) ?_
  refine K_iconst (dt_at dtX8_mixed 0 rfl) ?_
  refine K_istore_n (ls' := [(2, vi 0), (0, vr a), (1, vi (n : Int))]) (dt_at dtX8_mixed 1 rfl) rfl (by decide) rfl ?_
  refine K_iconst (dt_at dtX8_mixed 2 rfl) ?_
  refine K_istore_n (ls' := [(3, vi 0), (2, vi 0), (0, vr a), (1, vi (n : Int))]) (dt_at dtX8_mixed 3 rfl) rfl (by decide) rfl ?_
  refine K_pk [0, 1, 2, 3] rfl (lp_X8_mixed hT hW hn ?_ n 0 (by omega))
  refine K_iload_n (dt_at dtX8_mixed 20 rfl) rfl rfl ?_
  exact K_iret (dt_at dtX8_mixed 21 rfl) rfl rfl (by decide) (by decide) ⟨rfl, rfl⟩
def mX8_allFond : MI := (yX8_allFond, cX8_allFond, 4, (some .int), rmK 2 0)
def tX8_allFond : List (Nat × Instr × Nat) := [(0, .iconst 0, 1), (1, .istore_n 2, 1), (2, .iconst 0, 1), (3, .istore_n 3, 1), (4, .iload_n 3, 1), (5, .iload_n 1, 1), (6, .if_icmp .ge 17, 3), (9, .iload_n 2, 1), (10, .aload_n 0, 1), (11, .iload_n 3, 1), (12, .invokevirtual 56, 3), (15, .iadd, 1), (16, .istore_n 2, 1), (17, .iinc 3 1, 3), (20, .goto (-16), 3), (23, .iload_n 2, 1), (24, .ireturn, 1)]
theorem dtX8_allFond : tX8_allFond.all (fun q => decide (decode cX8_allFond q.1 = .ok (q.2.1, q.2.2))) = true := by decide +kernel
theorem npX8_allFond : (parseMethodDescriptor (mY mX8_allFond).desc).map (fun d => d.parameters.length) = some 1 := by decide +kernel
theorem vX8_allFond : mV mX8_allFond := ⟨wI_X8_allFond, wS_X8_allFond, wN_X8, wC_X8_allFond, by decide +kernel, by decide +kernel⟩
set_option maxHeartbeats 4000000 in
set_option maxRecDepth 100000 in
theorem lp_X8_allFond {Z : CT → State → Prop} {h : HP} {a n : Nat} (hT : TT a = (0, 8)) (hW : rW (hA h (a + 1))) (hn : n ≤ 7) (kx : K mX8_allFond GK Z 0 0 23 [(3, vi (n : Int)), (2, vi (itN (fun k v => v + (hA h (a + 1) (15 + (k : Int)))) 0 n)), (0, vr a), (1, vi (n : Int))] [] h) : ∀ (d k : Nat), k + d = n → K mX8_allFond GK Z 0 0 4 [(3, vi (k : Int)), (2, vi (itN (fun k v => v + (hA h (a + 1) (15 + (k : Int)))) 0 k)), (0, vr a), (1, vi (n : Int))] [] h := by
  intro d
  induction d with
  | zero =>
    intro k hk
    obtain rfl : k = n := by omega
    refine K_iload_n (dt_at dtX8_allFond 4 rfl) rfl rfl ?_
    refine K_iload_n (dt_at dtX8_allFond 5 rfl) rfl rfl ?_
    refine K_icmp_ge (tgt := 23) (dt_at dtX8_allFond 6 rfl) (by decide) (by first | assumption | exact ⟨by omega, by omega⟩) (by first | assumption | exact ⟨by omega, by omega⟩) (fun c1 => ?_) (fun c1 => absurd c1 (by omega))
    exact K_pk [0, 1, 2, 3] rfl kx
  | succ d ih =>
    intro k hk
    have w1 := hW.2 k (by omega) (by omega)
    refine K_iload_n (dt_at dtX8_allFond 4 rfl) rfl rfl ?_
    refine K_iload_n (dt_at dtX8_allFond 5 rfl) rfl rfl ?_
    refine K_icmp_ge (tgt := 23) (dt_at dtX8_allFond 6 rfl) (by decide) (by first | assumption | exact ⟨by omega, by omega⟩) (by first | assumption | exact ⟨by omega, by omega⟩) (fun c1 => absurd c1 (by omega)) (fun c1 => ?_)
    refine K_iload_n (dt_at dtX8_allFond 7 rfl) rfl rfl ?_
    refine K_aload_n (dt_at dtX8_allFond 8 rfl) rfl rfl ?_
    refine K_iload_n (dt_at dtX8_allFond 9 rfl) rfl rfl ?_
    refine K_callV (M' := mX8_fond) (a := a) (ci := 8) (As := [vi (k : Int)]) (st := [vi (itN (fun k v => v + (hA h (a + 1) (15 + (k : Int)))) 0 k)]) (dt_at dtX8_allFond 10 rfl) (sX8_fond hT (by constructor <;> omega)) hT rfl wL_X8_56 vX8_fond rfl npX8_fond (by decide) (by decide) (Nat.le_of_ble_eq_true rfl) (by decide) (by decide) GK_E (fun v9 h9 hq => ?_) (fun E h9 hq => by cases hq.1)
    obtain ⟨e9, e8⟩ := hq
    cases e9
    rw [e8]
    show K mX8_allFond _ _ 0 0 15 [(3, vi (k : Int)), (2, vi (itN (fun k v => v + (hA h (a + 1) (15 + (k : Int)))) 0 k)), (0, vr a), (1, vi (n : Int))] [vi (hA h (a + 1) (15 + (k : Int))), vi (itN (fun k v => v + (hA h (a + 1) (15 + (k : Int)))) 0 k)] h
    refine K_iadd (dt_at dtX8_allFond 11 rfl) ?_
    refine K_istore_n (ls' := [(2, vi ((itN (fun k v => v + (hA h (a + 1) (15 + (k : Int)))) 0 k) + (hA h (a + 1) (15 + (k : Int))))), (3, vi (k : Int)), (0, vr a), (1, vi (n : Int))]) (dt_at dtX8_allFond 12 rfl) rfl (by decide) rfl ?_
    refine K_iinc (ls' := [(3, vi ((k : Int) + 1)), (2, vi ((itN (fun k v => v + (hA h (a + 1) (15 + (k : Int)))) 0 k) + (hA h (a + 1) (15 + (k : Int))))), (0, vr a), (1, vi (n : Int))]) (dt_at dtX8_allFond 13 rfl) rfl (by decide) rfl ?_
    refine K_goto (tgt := 4) (dt_at dtX8_allFond 14 rfl) (by decide) ?_
    refine K_pk [0, 1, 2, 3] (ls' := [(3, vi ((k : Int) + 1)), (2, vi ((itN (fun k v => v + (hA h (a + 1) (15 + (k : Int)))) 0 k) + (hA h (a + 1) (15 + (k : Int))))), (0, vr a), (1, vi (n : Int))]) rfl ?_
    exact K_cg (ls' := [(3, vi ((k + 1 : Nat) : Int)), (2, vi (itN (fun k v => v + (hA h (a + 1) (15 + (k : Int)))) 0 (k + 1))), (0, vr a), (1, vi (n : Int))]) (h' := h) (by rfl) (by rfl) (ih (k + 1) (by omega))
set_option maxHeartbeats 4000000 in
set_option maxRecDepth 100000 in
theorem sX8_allFond {h : HP} {a n : Nat}  (hT : TT a = (0, 8)) (hW : rW (hA h (a + 1))) (hn : n ≤ 7) : SpecK mX8_allFond [vr a, vi (n : Int)] h (fun o h' => o = .inl (some (vi (itN (fun k v => v + (hA h (a + 1) (15 + (k : Int)))) 0 n))) ∧ h' = h) := by
  refine Spec_of (by decide +kernel) (Nat.le_of_ble_eq_true rfl) ?_
  refine K_iconst (dt_at dtX8_allFond 0 rfl) ?_
  refine K_istore_n (ls' := [(2, vi 0), (0, vr a), (1, vi (n : Int))]) (dt_at dtX8_allFond 1 rfl) rfl (by decide) rfl ?_
  refine K_iconst (dt_at dtX8_allFond 2 rfl) ?_
  refine K_istore_n (ls' := [(3, vi 0), (2, vi 0), (0, vr a), (1, vi (n : Int))]) (dt_at dtX8_allFond 3 rfl) rfl (by decide) rfl ?_
  refine K_pk [0, 1, 2, 3] rfl (lp_X8_allFond hT hW hn ?_ n 0 (by omega))
  refine K_iload_n (dt_at dtX8_allFond 15 rfl) rfl rfl ?_
  exact K_iret (dt_at dtX8_allFond 16 rfl) rfl rfl (by decide) (by decide) ⟨rfl, rfl⟩
def mX8_crossest : MI := (yX8_crossest, cX8_crossest, 4, (some .int), rmK 2 0)
def tX8_crossest : List (Nat × Instr × Nat) := [(0, .iconst (-1), 1), (1, .istore_n 2, 1), (2, .iconst 0, 1), (3, .istore_n 3, 1), (4, .iload_n 3, 1), (5, .iload_n 1, 1), (6, .if_icmp .ge 38, 3), (9, .aload_n 0, 1), (10, .iload_n 3, 1), (11, .invokevirtual 58, 3), (14, .iconst (-1), 1), (15, .if_icmp .eq 23, 3), (18, .iload_n 2, 1), (19, .iconst (-1), 1), (20, .if_icmp .eq 16, 3), (23, .aload_n 0, 1), (24, .iload_n 3, 1), (25, .invokevirtual 56, 3), (28, .aload_n 0, 1), (29, .iload_n 2, 1), (30, .invokevirtual 56, 3), (33, .if_icmp .ge 5, 3), (36, .iload_n 3, 1), (37, .istore_n 2, 1), (38, .iinc 3 1, 3), (41, .goto (-37), 3), (44, .iload_n 2, 1), (45, .ireturn, 1)]
theorem dtX8_crossest : tX8_crossest.all (fun q => decide (decode cX8_crossest q.1 = .ok (q.2.1, q.2.2))) = true := by decide +kernel
theorem npX8_crossest : (parseMethodDescriptor (mY mX8_crossest).desc).map (fun d => d.parameters.length) = some 1 := by decide +kernel
theorem vX8_crossest : mV mX8_crossest := ⟨wI_X8_crossest, wS_X8_crossest, wN_X8, wC_X8_crossest, by decide +kernel, by decide +kernel⟩
set_option maxHeartbeats 4000000 in
set_option maxRecDepth 100000 in
theorem lp_X8_crossest {Z : CT → State → Prop} {h : HP} {a n : Nat} (hT : TT a = (0, 8)) (hW : rW (hA h (a + 1))) (hn : n ≤ 7) (kx : K mX8_crossest GK Z 0 0 44 [(3, vi (n : Int)), (2, vi (selN (fun k v => decide ((hA h (a + 1) (22 + (k : Int))) ≠ -1) && (decide (v = -1) || decide ((hA h (a + 1) (15 + (k : Int))) < (hA h (a + 1) (15 + v))))) n)), (0, vr a), (1, vi (n : Int))] [] h) : ∀ (d k : Nat), k + d = n → K mX8_crossest GK Z 0 0 4 [(3, vi (k : Int)), (2, vi (selN (fun k v => decide ((hA h (a + 1) (22 + (k : Int))) ≠ -1) && (decide (v = -1) || decide ((hA h (a + 1) (15 + (k : Int))) < (hA h (a + 1) (15 + v))))) k)), (0, vr a), (1, vi (n : Int))] [] h := by
  intro d
  induction d with
  | zero =>
    intro k hk
    obtain rfl : k = n := by omega
    refine K_iload_n (dt_at dtX8_crossest 4 rfl) rfl rfl ?_
    refine K_iload_n (dt_at dtX8_crossest 5 rfl) rfl rfl ?_
    refine K_icmp_ge (tgt := 44) (dt_at dtX8_crossest 6 rfl) (by decide) (by first | assumption | exact ⟨by omega, by omega⟩) (by first | assumption | exact ⟨by omega, by omega⟩) (fun c1 => ?_) (fun c1 => absurd c1 (by omega))
    exact K_pk [0, 1, 2, 3] rfl kx
  | succ d ih =>
    intro k hk
    have w1 := hW.2 k (by omega) (by omega)
    have w2 := selN_b (fun k v => decide ((hA h (a + 1) (22 + (k : Int))) ≠ -1) && (decide (v = -1) || decide ((hA h (a + 1) (15 + (k : Int))) < (hA h (a + 1) (15 + v))))) k
    have w4 : ∀ q, 0 ≤ q → q < 7 → 0 ≤ (hA h (a + 1) (15 + q)) ∧ (hA h (a + 1) (15 + q)) ≤ 9 := fun q h1 h2 => (hW.2 q h1 h2).2.2.1
    refine K_iload_n (dt_at dtX8_crossest 4 rfl) rfl rfl ?_
    refine K_iload_n (dt_at dtX8_crossest 5 rfl) rfl rfl ?_
    refine K_icmp_ge (tgt := 44) (dt_at dtX8_crossest 6 rfl) (by decide) (by first | assumption | exact ⟨by omega, by omega⟩) (by first | assumption | exact ⟨by omega, by omega⟩) (fun c1 => absurd c1 (by omega)) (fun c1 => ?_)
    refine K_aload_n (dt_at dtX8_crossest 7 rfl) rfl rfl ?_
    refine K_iload_n (dt_at dtX8_crossest 8 rfl) rfl rfl ?_
    refine K_callV (M' := mX8_packerOf) (a := a) (ci := 8) (As := [vi (k : Int)]) (st := []) (dt_at dtX8_crossest 9 rfl) (sX8_packerOf hT (by constructor <;> omega)) hT rfl wL_X8_58 vX8_packerOf rfl npX8_packerOf (by decide) (by decide) (Nat.le_of_ble_eq_true rfl) (by decide) (by decide) GK_E (fun v9 h9 hq => ?_) (fun E h9 hq => by cases hq.1)
    obtain ⟨e9, e8⟩ := hq
    cases e9
    rw [e8]
    show K mX8_crossest _ _ 0 0 14 [(3, vi (k : Int)), (2, vi (selN (fun k v => decide ((hA h (a + 1) (22 + (k : Int))) ≠ -1) && (decide (v = -1) || decide ((hA h (a + 1) (15 + (k : Int))) < (hA h (a + 1) (15 + v))))) k)), (0, vr a), (1, vi (n : Int))] [vi (hA h (a + 1) (22 + (k : Int)))] h
    refine K_iconst (dt_at dtX8_crossest 10 rfl) ?_
    refine K_icmp_eq (tgt := 38) (dt_at dtX8_crossest 11 rfl) (by decide) (by first | assumption | exact ⟨by omega, by omega⟩) (by first | assumption | exact ⟨by omega, by omega⟩) (fun c2 => ?_) (fun c2 => ?_)
    · refine K_iinc (ls' := [(3, vi ((k : Int) + 1)), (2, vi (selN (fun k v => decide ((hA h (a + 1) (22 + (k : Int))) ≠ -1) && (decide (v = -1) || decide ((hA h (a + 1) (15 + (k : Int))) < (hA h (a + 1) (15 + v))))) k)), (0, vr a), (1, vi (n : Int))]) (dt_at dtX8_crossest 24 rfl) rfl (by decide) rfl ?_
      refine K_goto (tgt := 4) (dt_at dtX8_crossest 25 rfl) (by decide) ?_
      refine K_pk [0, 1, 2, 3] (ls' := [(3, vi ((k : Int) + 1)), (2, vi (selN (fun k v => decide ((hA h (a + 1) (22 + (k : Int))) ≠ -1) && (decide (v = -1) || decide ((hA h (a + 1) (15 + (k : Int))) < (hA h (a + 1) (15 + v))))) k)), (0, vr a), (1, vi (n : Int))]) rfl ?_
      exact K_cg (ls' := [(3, vi ((k + 1 : Nat) : Int)), (2, vi (selN (fun k v => decide ((hA h (a + 1) (22 + (k : Int))) ≠ -1) && (decide (v = -1) || decide ((hA h (a + 1) (15 + (k : Int))) < (hA h (a + 1) (15 + v))))) (k + 1))), (0, vr a), (1, vi (n : Int))]) (h' := h) (by rw [selN_f (by simp only [Bool.and_eq_true, Bool.or_eq_true, Bool.and_eq_false_iff, Bool.or_eq_false_iff, decide_eq_true_eq, decide_eq_false_iff_not]; omega)]; rfl) (by rfl) (ih (k + 1) (by omega))
    · refine K_iload_n (dt_at dtX8_crossest 12 rfl) rfl rfl ?_
      refine K_iconst (dt_at dtX8_crossest 13 rfl) ?_
      refine K_icmp_eq (tgt := 36) (dt_at dtX8_crossest 14 rfl) (by decide) (by first | assumption | exact ⟨by omega, by omega⟩) (by first | assumption | exact ⟨by omega, by omega⟩) (fun c3 => ?_) (fun c3 => ?_)
      · refine K_iload_n (dt_at dtX8_crossest 22 rfl) rfl rfl ?_
        refine K_istore_n (ls' := [(2, vi (k : Int)), (3, vi (k : Int)), (0, vr a), (1, vi (n : Int))]) (dt_at dtX8_crossest 23 rfl) rfl (by decide) rfl ?_
        refine K_iinc (ls' := [(3, vi ((k : Int) + 1)), (2, vi (k : Int)), (0, vr a), (1, vi (n : Int))]) (dt_at dtX8_crossest 24 rfl) rfl (by decide) rfl ?_
        refine K_goto (tgt := 4) (dt_at dtX8_crossest 25 rfl) (by decide) ?_
        refine K_pk [0, 1, 2, 3] (ls' := [(3, vi ((k : Int) + 1)), (2, vi (k : Int)), (0, vr a), (1, vi (n : Int))]) rfl ?_
        exact K_cg (ls' := [(3, vi ((k + 1 : Nat) : Int)), (2, vi (selN (fun k v => decide ((hA h (a + 1) (22 + (k : Int))) ≠ -1) && (decide (v = -1) || decide ((hA h (a + 1) (15 + (k : Int))) < (hA h (a + 1) (15 + v))))) (k + 1))), (0, vr a), (1, vi (n : Int))]) (h' := h) (by rw [selN_t (by simp only [Bool.and_eq_true, Bool.or_eq_true, Bool.and_eq_false_iff, Bool.or_eq_false_iff, decide_eq_true_eq, decide_eq_false_iff_not]; omega)]; rfl) (by rfl) (ih (k + 1) (by omega))
      · refine K_aload_n (dt_at dtX8_crossest 15 rfl) rfl rfl ?_
        refine K_iload_n (dt_at dtX8_crossest 16 rfl) rfl rfl ?_
        refine K_callV (M' := mX8_fond) (a := a) (ci := 8) (As := [vi (k : Int)]) (st := []) (dt_at dtX8_crossest 17 rfl) (sX8_fond hT (by constructor <;> omega)) hT rfl wL_X8_56 vX8_fond rfl npX8_fond (by decide) (by decide) (Nat.le_of_ble_eq_true rfl) (by decide) (by decide) GK_E (fun v9 h9 hq => ?_) (fun E h9 hq => by cases hq.1)
        obtain ⟨e9, e8⟩ := hq
        cases e9
        rw [e8]
        show K mX8_crossest _ _ 0 0 28 [(3, vi (k : Int)), (2, vi (selN (fun k v => decide ((hA h (a + 1) (22 + (k : Int))) ≠ -1) && (decide (v = -1) || decide ((hA h (a + 1) (15 + (k : Int))) < (hA h (a + 1) (15 + v))))) k)), (0, vr a), (1, vi (n : Int))] [vi (hA h (a + 1) (15 + (k : Int)))] h
        refine K_aload_n (dt_at dtX8_crossest 18 rfl) rfl rfl ?_
        refine K_iload_n (dt_at dtX8_crossest 19 rfl) rfl rfl ?_
        have w5 := w4 (selN (fun k v => decide ((hA h (a + 1) (22 + (k : Int))) ≠ -1) && (decide (v = -1) || decide ((hA h (a + 1) (15 + (k : Int))) < (hA h (a + 1) (15 + v))))) k) (by omega) (by omega)
        refine K_callV (M' := mX8_fond) (a := a) (ci := 8) (As := [vi (selN (fun k v => decide ((hA h (a + 1) (22 + (k : Int))) ≠ -1) && (decide (v = -1) || decide ((hA h (a + 1) (15 + (k : Int))) < (hA h (a + 1) (15 + v))))) k)]) (st := [vi (hA h (a + 1) (15 + (k : Int)))]) (dt_at dtX8_crossest 20 rfl) (sX8_fond hT (by constructor <;> omega)) hT rfl wL_X8_56 vX8_fond rfl npX8_fond (by decide) (by decide) (Nat.le_of_ble_eq_true rfl) (by decide) (by decide) GK_E (fun v9 h9 hq => ?_) (fun E h9 hq => by cases hq.1)
        obtain ⟨e9, e8⟩ := hq
        cases e9
        rw [e8]
        show K mX8_crossest _ _ 0 0 33 [(3, vi (k : Int)), (2, vi (selN (fun k v => decide ((hA h (a + 1) (22 + (k : Int))) ≠ -1) && (decide (v = -1) || decide ((hA h (a + 1) (15 + (k : Int))) < (hA h (a + 1) (15 + v))))) k)), (0, vr a), (1, vi (n : Int))] [vi (hA h (a + 1) (15 + (selN (fun k v => decide ((hA h (a + 1) (22 + (k : Int))) ≠ -1) && (decide (v = -1) || decide ((hA h (a + 1) (15 + (k : Int))) < (hA h (a + 1) (15 + v))))) k))), vi (hA h (a + 1) (15 + (k : Int)))] h
        refine K_icmp_ge (tgt := 38) (dt_at dtX8_crossest 21 rfl) (by decide) (by first | assumption | exact ⟨by omega, by omega⟩) (by first | assumption | exact ⟨by omega, by omega⟩) (fun c4 => ?_) (fun c4 => ?_)
        · refine K_iinc (ls' := [(3, vi ((k : Int) + 1)), (2, vi (selN (fun k v => decide ((hA h (a + 1) (22 + (k : Int))) ≠ -1) && (decide (v = -1) || decide ((hA h (a + 1) (15 + (k : Int))) < (hA h (a + 1) (15 + v))))) k)), (0, vr a), (1, vi (n : Int))]) (dt_at dtX8_crossest 24 rfl) rfl (by decide) rfl ?_
          refine K_goto (tgt := 4) (dt_at dtX8_crossest 25 rfl) (by decide) ?_
          refine K_pk [0, 1, 2, 3] (ls' := [(3, vi ((k : Int) + 1)), (2, vi (selN (fun k v => decide ((hA h (a + 1) (22 + (k : Int))) ≠ -1) && (decide (v = -1) || decide ((hA h (a + 1) (15 + (k : Int))) < (hA h (a + 1) (15 + v))))) k)), (0, vr a), (1, vi (n : Int))]) rfl ?_
          exact K_cg (ls' := [(3, vi ((k + 1 : Nat) : Int)), (2, vi (selN (fun k v => decide ((hA h (a + 1) (22 + (k : Int))) ≠ -1) && (decide (v = -1) || decide ((hA h (a + 1) (15 + (k : Int))) < (hA h (a + 1) (15 + v))))) (k + 1))), (0, vr a), (1, vi (n : Int))]) (h' := h) (by rw [selN_f (by simp only [Bool.and_eq_true, Bool.or_eq_true, Bool.and_eq_false_iff, Bool.or_eq_false_iff, decide_eq_true_eq, decide_eq_false_iff_not]; omega)]; rfl) (by rfl) (ih (k + 1) (by omega))
        · refine K_iload_n (dt_at dtX8_crossest 22 rfl) rfl rfl ?_
          refine K_istore_n (ls' := [(2, vi (k : Int)), (3, vi (k : Int)), (0, vr a), (1, vi (n : Int))]) (dt_at dtX8_crossest 23 rfl) rfl (by decide) rfl ?_
          refine K_iinc (ls' := [(3, vi ((k : Int) + 1)), (2, vi (k : Int)), (0, vr a), (1, vi (n : Int))]) (dt_at dtX8_crossest 24 rfl) rfl (by decide) rfl ?_
          refine K_goto (tgt := 4) (dt_at dtX8_crossest 25 rfl) (by decide) ?_
          refine K_pk [0, 1, 2, 3] (ls' := [(3, vi ((k : Int) + 1)), (2, vi (k : Int)), (0, vr a), (1, vi (n : Int))]) rfl ?_
          exact K_cg (ls' := [(3, vi ((k + 1 : Nat) : Int)), (2, vi (selN (fun k v => decide ((hA h (a + 1) (22 + (k : Int))) ≠ -1) && (decide (v = -1) || decide ((hA h (a + 1) (15 + (k : Int))) < (hA h (a + 1) (15 + v))))) (k + 1))), (0, vr a), (1, vi (n : Int))]) (h' := h) (by rw [selN_t (by simp only [Bool.and_eq_true, Bool.or_eq_true, Bool.and_eq_false_iff, Bool.or_eq_false_iff, decide_eq_true_eq, decide_eq_false_iff_not]; omega)]; rfl) (by rfl) (ih (k + 1) (by omega))
set_option maxHeartbeats 4000000 in
set_option maxRecDepth 100000 in
theorem sX8_crossest {h : HP} {a n : Nat}  (hT : TT a = (0, 8)) (hW : rW (hA h (a + 1))) (hn : n ≤ 7) : SpecK mX8_crossest [vr a, vi (n : Int)] h (fun o h' => o = .inl (some (vi (selN (fun k v => decide ((hA h (a + 1) (22 + (k : Int))) ≠ -1) && (decide (v = -1) || decide ((hA h (a + 1) (15 + (k : Int))) < (hA h (a + 1) (15 + v))))) n))) ∧ h' = h) := by
  refine Spec_of (by decide +kernel) (Nat.le_of_ble_eq_true rfl) ?_
  refine K_iconst (dt_at dtX8_crossest 0 rfl) ?_
  refine K_istore_n (ls' := [(2, vi (-1)), (0, vr a), (1, vi (n : Int))]) (dt_at dtX8_crossest 1 rfl) rfl (by decide) rfl ?_
  refine K_iconst (dt_at dtX8_crossest 2 rfl) ?_
  refine K_istore_n (ls' := [(3, vi 0), (2, vi (-1)), (0, vr a), (1, vi (n : Int))]) (dt_at dtX8_crossest 3 rfl) rfl (by decide) rfl ?_
  refine K_pk [0, 1, 2, 3] rfl (lp_X8_crossest hT hW hn ?_ n 0 (by omega))
  refine K_iload_n (dt_at dtX8_crossest 26 rfl) rfl rfl ?_
  exact K_iret (dt_at dtX8_crossest 27 rfl) rfl rfl (by decide) (by decide) ⟨rfl, rfl⟩
def mX8_fondest : MI := (yX8_fondest, cX8_fondest, 5, (some .int), rmK 2 0)
def tX8_fondest : List (Nat × Instr × Nat) := [(0, .iconst (-1), 1), (1, .istore_n 3, 1), (2, .iconst 0, 1), (3, .istore 4, 2), (5, .iload 4, 2), (7, .iload_n 2, 1), (8, .if_icmp .ge 41, 3), (11, .aload_n 0, 1), (12, .iload 4, 2), (14, .invokevirtual 58, 3), (17, .iload_n 1, 1), (18, .if_icmp .ne 25, 3), (21, .iload_n 3, 1), (22, .iconst (-1), 1), (23, .if_icmp .eq 17, 3), (26, .aload_n 0, 1), (27, .iload 4, 2), (29, .invokevirtual 56, 3), (32, .aload_n 0, 1), (33, .iload_n 3, 1), (34, .invokevirtual 56, 3), (37, .if_icmp .le 6, 3), (40, .iload 4, 2), (42, .istore_n 3, 1), (43, .iinc 4 1, 3), (46, .goto (-41), 3), (49, .iload_n 3, 1), (50, .ireturn, 1)]
theorem dtX8_fondest : tX8_fondest.all (fun q => decide (decode cX8_fondest q.1 = .ok (q.2.1, q.2.2))) = true := by decide +kernel
theorem npX8_fondest : (parseMethodDescriptor (mY mX8_fondest).desc).map (fun d => d.parameters.length) = some 2 := by decide +kernel
theorem vX8_fondest : mV mX8_fondest := ⟨wI_X8_fondest, wS_X8_fondest, wN_X8, wC_X8_fondest, by decide +kernel, by decide +kernel⟩
set_option maxHeartbeats 4000000 in
set_option maxRecDepth 100000 in
theorem lp_X8_fondest {Z : CT → State → Prop} {h : HP} {a n : Nat} {q : Int} (hT : TT a = (0, 8)) (hW : rW (hA h (a + 1))) (hn : n ≤ 7) (hq : i32 q) (kx : K mX8_fondest GK Z 0 0 49 [(4, vi (n : Int)), (3, vi (selN (fun k v => decide ((hA h (a + 1) (22 + (k : Int))) = q) && (decide (v = -1) || decide ((hA h (a + 1) (15 + v)) < (hA h (a + 1) (15 + (k : Int)))))) n)), (0, vr a), (1, vi q), (2, vi (n : Int))] [] h) : ∀ (d k : Nat), k + d = n → K mX8_fondest GK Z 0 0 5 [(4, vi (k : Int)), (3, vi (selN (fun k v => decide ((hA h (a + 1) (22 + (k : Int))) = q) && (decide (v = -1) || decide ((hA h (a + 1) (15 + v)) < (hA h (a + 1) (15 + (k : Int)))))) k)), (0, vr a), (1, vi q), (2, vi (n : Int))] [] h := by
  intro d
  induction d with
  | zero =>
    intro k hk
    obtain rfl : k = n := by omega
    refine K_iload (dt_at dtX8_fondest 4 rfl) rfl ?_
    refine K_iload_n (dt_at dtX8_fondest 5 rfl) rfl rfl ?_
    refine K_icmp_ge (tgt := 49) (dt_at dtX8_fondest 6 rfl) (by decide) (by first | assumption | exact ⟨by omega, by omega⟩) (by first | assumption | exact ⟨by omega, by omega⟩) (fun c1 => ?_) (fun c1 => absurd c1 (by omega))
    exact K_pk [0, 1, 2, 3, 4] rfl kx
  | succ d ih =>
    intro k hk
    have w1 := hW.2 k (by omega) (by omega)
    have w2 := selN_b (fun k v => decide ((hA h (a + 1) (22 + (k : Int))) = q) && (decide (v = -1) || decide ((hA h (a + 1) (15 + v)) < (hA h (a + 1) (15 + (k : Int)))))) k
    have w4 : ∀ q, 0 ≤ q → q < 7 → 0 ≤ (hA h (a + 1) (15 + q)) ∧ (hA h (a + 1) (15 + q)) ≤ 9 := fun q h1 h2 => (hW.2 q h1 h2).2.2.1
    refine K_iload (dt_at dtX8_fondest 4 rfl) rfl ?_
    refine K_iload_n (dt_at dtX8_fondest 5 rfl) rfl rfl ?_
    refine K_icmp_ge (tgt := 49) (dt_at dtX8_fondest 6 rfl) (by decide) (by first | assumption | exact ⟨by omega, by omega⟩) (by first | assumption | exact ⟨by omega, by omega⟩) (fun c1 => absurd c1 (by omega)) (fun c1 => ?_)
    refine K_aload_n (dt_at dtX8_fondest 7 rfl) rfl rfl ?_
    refine K_iload (dt_at dtX8_fondest 8 rfl) rfl ?_
    refine K_callV (M' := mX8_packerOf) (a := a) (ci := 8) (As := [vi (k : Int)]) (st := []) (dt_at dtX8_fondest 9 rfl) (sX8_packerOf hT (by constructor <;> omega)) hT rfl wL_X8_58 vX8_packerOf rfl npX8_packerOf (by decide) (by decide) (Nat.le_of_ble_eq_true rfl) (by decide) (by decide) GK_E (fun v9 h9 hq => ?_) (fun E h9 hq => by cases hq.1)
    obtain ⟨e9, e8⟩ := hq
    cases e9
    rw [e8]
    show K mX8_fondest _ _ 0 0 17 [(4, vi (k : Int)), (3, vi (selN (fun k v => decide ((hA h (a + 1) (22 + (k : Int))) = q) && (decide (v = -1) || decide ((hA h (a + 1) (15 + v)) < (hA h (a + 1) (15 + (k : Int)))))) k)), (0, vr a), (1, vi q), (2, vi (n : Int))] [vi (hA h (a + 1) (22 + (k : Int)))] h
    refine K_iload_n (dt_at dtX8_fondest 10 rfl) rfl rfl ?_
    refine K_icmp_ne (tgt := 43) (dt_at dtX8_fondest 11 rfl) (by decide) (by first | assumption | exact ⟨by omega, by omega⟩) (by first | assumption | exact ⟨by omega, by omega⟩) (fun c2 => ?_) (fun c2 => ?_)
    · refine K_iinc (ls' := [(4, vi ((k : Int) + 1)), (3, vi (selN (fun k v => decide ((hA h (a + 1) (22 + (k : Int))) = q) && (decide (v = -1) || decide ((hA h (a + 1) (15 + v)) < (hA h (a + 1) (15 + (k : Int)))))) k)), (0, vr a), (1, vi q), (2, vi (n : Int))]) (dt_at dtX8_fondest 24 rfl) rfl (by decide) rfl ?_
      refine K_goto (tgt := 5) (dt_at dtX8_fondest 25 rfl) (by decide) ?_
      refine K_pk [0, 1, 2, 3, 4] (ls' := [(4, vi ((k : Int) + 1)), (3, vi (selN (fun k v => decide ((hA h (a + 1) (22 + (k : Int))) = q) && (decide (v = -1) || decide ((hA h (a + 1) (15 + v)) < (hA h (a + 1) (15 + (k : Int)))))) k)), (0, vr a), (1, vi q), (2, vi (n : Int))]) rfl ?_
      exact K_cg (ls' := [(4, vi ((k + 1 : Nat) : Int)), (3, vi (selN (fun k v => decide ((hA h (a + 1) (22 + (k : Int))) = q) && (decide (v = -1) || decide ((hA h (a + 1) (15 + v)) < (hA h (a + 1) (15 + (k : Int)))))) (k + 1))), (0, vr a), (1, vi q), (2, vi (n : Int))]) (h' := h) (by rw [selN_f (by simp only [Bool.and_eq_true, Bool.or_eq_true, Bool.and_eq_false_iff, Bool.or_eq_false_iff, decide_eq_true_eq, decide_eq_false_iff_not]; omega)]; rfl) (by rfl) (ih (k + 1) (by omega))
    · refine K_iload_n (dt_at dtX8_fondest 12 rfl) rfl rfl ?_
      refine K_iconst (dt_at dtX8_fondest 13 rfl) ?_
      refine K_icmp_eq (tgt := 40) (dt_at dtX8_fondest 14 rfl) (by decide) (by first | assumption | exact ⟨by omega, by omega⟩) (by first | assumption | exact ⟨by omega, by omega⟩) (fun c3 => ?_) (fun c3 => ?_)
      · refine K_iload (dt_at dtX8_fondest 22 rfl) rfl ?_
        refine K_istore_n (ls' := [(3, vi (k : Int)), (4, vi (k : Int)), (0, vr a), (1, vi q), (2, vi (n : Int))]) (dt_at dtX8_fondest 23 rfl) rfl (by decide) rfl ?_
        refine K_iinc (ls' := [(4, vi ((k : Int) + 1)), (3, vi (k : Int)), (0, vr a), (1, vi q), (2, vi (n : Int))]) (dt_at dtX8_fondest 24 rfl) rfl (by decide) rfl ?_
        refine K_goto (tgt := 5) (dt_at dtX8_fondest 25 rfl) (by decide) ?_
        refine K_pk [0, 1, 2, 3, 4] (ls' := [(4, vi ((k : Int) + 1)), (3, vi (k : Int)), (0, vr a), (1, vi q), (2, vi (n : Int))]) rfl ?_
        exact K_cg (ls' := [(4, vi ((k + 1 : Nat) : Int)), (3, vi (selN (fun k v => decide ((hA h (a + 1) (22 + (k : Int))) = q) && (decide (v = -1) || decide ((hA h (a + 1) (15 + v)) < (hA h (a + 1) (15 + (k : Int)))))) (k + 1))), (0, vr a), (1, vi q), (2, vi (n : Int))]) (h' := h) (by rw [selN_t (by simp only [Bool.and_eq_true, Bool.or_eq_true, Bool.and_eq_false_iff, Bool.or_eq_false_iff, decide_eq_true_eq, decide_eq_false_iff_not]; omega)]; rfl) (by rfl) (ih (k + 1) (by omega))
      · refine K_aload_n (dt_at dtX8_fondest 15 rfl) rfl rfl ?_
        refine K_iload (dt_at dtX8_fondest 16 rfl) rfl ?_
        refine K_callV (M' := mX8_fond) (a := a) (ci := 8) (As := [vi (k : Int)]) (st := []) (dt_at dtX8_fondest 17 rfl) (sX8_fond hT (by constructor <;> omega)) hT rfl wL_X8_56 vX8_fond rfl npX8_fond (by decide) (by decide) (Nat.le_of_ble_eq_true rfl) (by decide) (by decide) GK_E (fun v9 h9 hq => ?_) (fun E h9 hq => by cases hq.1)
        obtain ⟨e9, e8⟩ := hq
        cases e9
        rw [e8]
        show K mX8_fondest _ _ 0 0 32 [(4, vi (k : Int)), (3, vi (selN (fun k v => decide ((hA h (a + 1) (22 + (k : Int))) = q) && (decide (v = -1) || decide ((hA h (a + 1) (15 + v)) < (hA h (a + 1) (15 + (k : Int)))))) k)), (0, vr a), (1, vi q), (2, vi (n : Int))] [vi (hA h (a + 1) (15 + (k : Int)))] h
        refine K_aload_n (dt_at dtX8_fondest 18 rfl) rfl rfl ?_
        refine K_iload_n (dt_at dtX8_fondest 19 rfl) rfl rfl ?_
        have w5 := w4 (selN (fun k v => decide ((hA h (a + 1) (22 + (k : Int))) = q) && (decide (v = -1) || decide ((hA h (a + 1) (15 + v)) < (hA h (a + 1) (15 + (k : Int)))))) k) (by omega) (by omega)
        refine K_callV (M' := mX8_fond) (a := a) (ci := 8) (As := [vi (selN (fun k v => decide ((hA h (a + 1) (22 + (k : Int))) = q) && (decide (v = -1) || decide ((hA h (a + 1) (15 + v)) < (hA h (a + 1) (15 + (k : Int)))))) k)]) (st := [vi (hA h (a + 1) (15 + (k : Int)))]) (dt_at dtX8_fondest 20 rfl) (sX8_fond hT (by constructor <;> omega)) hT rfl wL_X8_56 vX8_fond rfl npX8_fond (by decide) (by decide) (Nat.le_of_ble_eq_true rfl) (by decide) (by decide) GK_E (fun v9 h9 hq => ?_) (fun E h9 hq => by cases hq.1)
        obtain ⟨e9, e8⟩ := hq
        cases e9
        rw [e8]
        show K mX8_fondest _ _ 0 0 37 [(4, vi (k : Int)), (3, vi (selN (fun k v => decide ((hA h (a + 1) (22 + (k : Int))) = q) && (decide (v = -1) || decide ((hA h (a + 1) (15 + v)) < (hA h (a + 1) (15 + (k : Int)))))) k)), (0, vr a), (1, vi q), (2, vi (n : Int))] [vi (hA h (a + 1) (15 + (selN (fun k v => decide ((hA h (a + 1) (22 + (k : Int))) = q) && (decide (v = -1) || decide ((hA h (a + 1) (15 + v)) < (hA h (a + 1) (15 + (k : Int)))))) k))), vi (hA h (a + 1) (15 + (k : Int)))] h
        refine K_icmp_le (tgt := 43) (dt_at dtX8_fondest 21 rfl) (by decide) (by first | assumption | exact ⟨by omega, by omega⟩) (by first | assumption | exact ⟨by omega, by omega⟩) (fun c4 => ?_) (fun c4 => ?_)
        · refine K_iinc (ls' := [(4, vi ((k : Int) + 1)), (3, vi (selN (fun k v => decide ((hA h (a + 1) (22 + (k : Int))) = q) && (decide (v = -1) || decide ((hA h (a + 1) (15 + v)) < (hA h (a + 1) (15 + (k : Int)))))) k)), (0, vr a), (1, vi q), (2, vi (n : Int))]) (dt_at dtX8_fondest 24 rfl) rfl (by decide) rfl ?_
          refine K_goto (tgt := 5) (dt_at dtX8_fondest 25 rfl) (by decide) ?_
          refine K_pk [0, 1, 2, 3, 4] (ls' := [(4, vi ((k : Int) + 1)), (3, vi (selN (fun k v => decide ((hA h (a + 1) (22 + (k : Int))) = q) && (decide (v = -1) || decide ((hA h (a + 1) (15 + v)) < (hA h (a + 1) (15 + (k : Int)))))) k)), (0, vr a), (1, vi q), (2, vi (n : Int))]) rfl ?_
          exact K_cg (ls' := [(4, vi ((k + 1 : Nat) : Int)), (3, vi (selN (fun k v => decide ((hA h (a + 1) (22 + (k : Int))) = q) && (decide (v = -1) || decide ((hA h (a + 1) (15 + v)) < (hA h (a + 1) (15 + (k : Int)))))) (k + 1))), (0, vr a), (1, vi q), (2, vi (n : Int))]) (h' := h) (by rw [selN_f (by simp only [Bool.and_eq_true, Bool.or_eq_true, Bool.and_eq_false_iff, Bool.or_eq_false_iff, decide_eq_true_eq, decide_eq_false_iff_not]; omega)]; rfl) (by rfl) (ih (k + 1) (by omega))
        · refine K_iload (dt_at dtX8_fondest 22 rfl) rfl ?_
          refine K_istore_n (ls' := [(3, vi (k : Int)), (4, vi (k : Int)), (0, vr a), (1, vi q), (2, vi (n : Int))]) (dt_at dtX8_fondest 23 rfl) rfl (by decide) rfl ?_
          refine K_iinc (ls' := [(4, vi ((k : Int) + 1)), (3, vi (k : Int)), (0, vr a), (1, vi q), (2, vi (n : Int))]) (dt_at dtX8_fondest 24 rfl) rfl (by decide) rfl ?_
          refine K_goto (tgt := 5) (dt_at dtX8_fondest 25 rfl) (by decide) ?_
          refine K_pk [0, 1, 2, 3, 4] (ls' := [(4, vi ((k : Int) + 1)), (3, vi (k : Int)), (0, vr a), (1, vi q), (2, vi (n : Int))]) rfl ?_
          exact K_cg (ls' := [(4, vi ((k + 1 : Nat) : Int)), (3, vi (selN (fun k v => decide ((hA h (a + 1) (22 + (k : Int))) = q) && (decide (v = -1) || decide ((hA h (a + 1) (15 + v)) < (hA h (a + 1) (15 + (k : Int)))))) (k + 1))), (0, vr a), (1, vi q), (2, vi (n : Int))]) (h' := h) (by rw [selN_t (by simp only [Bool.and_eq_true, Bool.or_eq_true, Bool.and_eq_false_iff, Bool.or_eq_false_iff, decide_eq_true_eq, decide_eq_false_iff_not]; omega)]; rfl) (by rfl) (ih (k + 1) (by omega))
set_option maxHeartbeats 4000000 in
set_option maxRecDepth 100000 in
theorem sX8_fondest {h : HP} {a n : Nat} {q : Int} (hT : TT a = (0, 8)) (hW : rW (hA h (a + 1))) (hn : n ≤ 7) (hq : i32 q) : SpecK mX8_fondest [vr a, vi q, vi (n : Int)] h (fun o h' => o = .inl (some (vi (selN (fun k v => decide ((hA h (a + 1) (22 + (k : Int))) = q) && (decide (v = -1) || decide ((hA h (a + 1) (15 + v)) < (hA h (a + 1) (15 + (k : Int)))))) n))) ∧ h' = h) := by
  refine Spec_of (by decide +kernel) (Nat.le_of_ble_eq_true rfl) ?_
  refine K_iconst (dt_at dtX8_fondest 0 rfl) ?_
  refine K_istore_n (ls' := [(3, vi (-1)), (0, vr a), (1, vi q), (2, vi (n : Int))]) (dt_at dtX8_fondest 1 rfl) rfl (by decide) rfl ?_
  refine K_iconst (dt_at dtX8_fondest 2 rfl) ?_
  refine K_istore (ls' := [(4, vi 0), (3, vi (-1)), (0, vr a), (1, vi q), (2, vi (n : Int))]) (dt_at dtX8_fondest 3 rfl) (by decide) rfl ?_
  refine K_pk [0, 1, 2, 3, 4] rfl (lp_X8_fondest hT hW hn hq ?_ n 0 (by omega))
  refine K_iload_n (dt_at dtX8_fondest 26 rfl) rfl rfl ?_
  exact K_iret (dt_at dtX8_fondest 27 rfl) rfl rfl (by decide) (by decide) ⟨rfl, rfl⟩
