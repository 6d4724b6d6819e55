def mX8_whoIsOut : MI := (yX8_whoIsOut, cX8_whoIsOut, 4, (some .int), rmK 2 0)
def tX8_whoIsOut : List (Nat × Instr × Nat) := [(0, .iconst 0, 1), (1, .istore_n 2, 1), (2, .iconst 0, 1), (3, .istore_n 3, 1), (4, .iload_n 3, 1), (5, .iload_n 1, 1), (6, .if_icmp .ge 23, 3), (9, .aload_n 0, 1), (10, .iload_n 3, 1), (11, .invokevirtual 48, 3), (14, .ifCond .ne 9, 3), (17, .iload_n 2, 1), (18, .iconst 1, 1), (19, .iload_n 3, 1), (20, .ishl, 1), (21, .ior, 1), (22, .istore_n 2, 1), (23, .iinc 3 1, 3), (26, .goto (-22), 3), (29, .iload_n 2, 1), (30, .ireturn, 1)]
theorem dtX8_whoIsOut : tX8_whoIsOut.all (fun q => decide (decode cX8_whoIsOut q.1 = .ok (q.2.1, q.2.2))) = true := by decide +kernel
theorem npX8_whoIsOut : (parseMethodDescriptor (mY mX8_whoIsOut).desc).map (fun d => d.parameters.length) = some 1 := by decide +kernel
theorem vX8_whoIsOut : mV mX8_whoIsOut := ⟨wI_X8_whoIsOut, wS_X8_whoIsOut, wN_X8, wC_X8_whoIsOut, by decide +kernel, by decide +kernel⟩
set_option maxHeartbeats 4000000 in
set_option maxRecDepth 100000 in
theorem lp_X8_whoIsOut {Z : CT → State → Prop} {h : HP} {a n : Nat} (hT : TT a = (0, 8)) (hW : rW (hA h (a + 1))) (hn : n ≤ 7) (kx : K mX8_whoIsOut GK Z 0 0 29 [(3, vi (n : Int)), (2, vi (bitN (fun k => decide ((hA h (a + 1) (1 + (k : Int))) ≠ 0)) n)), (0, vr a), (1, vi (n : Int))] [] h) : ∀ (d k : Nat), k + d = n → K mX8_whoIsOut GK Z 0 0 4 [(3, vi (k : Int)), (2, vi (bitN (fun k => decide ((hA h (a + 1) (1 + (k : Int))) ≠ 0)) k)), (0, vr a), (1, vi (n : Int))] [] h := by
  intro d
  induction d with
  | zero =>
    intro k hk
    obtain rfl : k = n := by omega
    refine K_iload_n (dt_at dtX8_whoIsOut 4 rfl) rfl rfl ?_
    refine K_iload_n (dt_at dtX8_whoIsOut 5 rfl) rfl rfl ?_
    refine K_icmp_ge (tgt := 29) (dt_at dtX8_whoIsOut 6 rfl) (by decide) (by first | assumption | exact ⟨by omega, by omega⟩) (by first | assumption | exact ⟨by omega, by omega⟩) (fun c1 => ?_) (fun c1 => absurd c1 (by omega))
    exact K_pk [0, 1, 2, 3] rfl kx
  | succ d ih =>
    intro k hk
    have w1 := hW.2 k (by omega) (by omega)
    refine K_iload_n (dt_at dtX8_whoIsOut 4 rfl) rfl rfl ?_
    refine K_iload_n (dt_at dtX8_whoIsOut 5 rfl) rfl rfl ?_
    refine K_icmp_ge (tgt := 29) (dt_at dtX8_whoIsOut 6 rfl) (by decide) (by first | assumption | exact ⟨by omega, by omega⟩) (by first | assumption | exact ⟨by omega, by omega⟩) (fun c1 => absurd c1 (by omega)) (fun c1 => ?_)
    refine K_aload_n (dt_at dtX8_whoIsOut 7 rfl) rfl rfl ?_
    refine K_iload_n (dt_at dtX8_whoIsOut 8 rfl) rfl rfl ?_
    refine K_callV (M' := mX8_isIn) (a := a) (ci := 8) (As := [vi (k : Int)]) (st := []) (dt_at dtX8_whoIsOut 9 rfl) (sX8_isIn hT (by constructor <;> omega) ⟨by omega, by omega⟩) hT rfl wL_X8_48 vX8_isIn rfl npX8_isIn (by decide) (by decide) (Nat.le_of_ble_eq_true rfl) (by decide) (by decide) GK_E (fun v9 h9 hq => ?_) (fun E h9 hq => by cases hq.1)
    obtain ⟨e9, e8⟩ := hq
    cases e9
    rw [e8]
    show K mX8_whoIsOut _ _ 0 0 14 [(3, vi (k : Int)), (2, vi (bitN (fun k => decide ((hA h (a + 1) (1 + (k : Int))) ≠ 0)) k)), (0, vr a), (1, vi (n : Int))] [vi (if (hA h (a + 1) (1 + (k : Int))) = 0 then 1 else 0)] h
    by_cases z2 : (hA h (a + 1) (1 + (k : Int))) = 0
    · rw [if_pos z2]
      refine K_if_ne (tgt := 23) (dt_at dtX8_whoIsOut 10 rfl) (by decide) (by first | assumption | exact ⟨by omega, by omega⟩) (fun c3 => ?_) (fun c3 => absurd c3 (by omega))
      refine K_iinc (ls' := [(3, vi ((k : Int) + 1)), (2, vi (bitN (fun k => decide ((hA h (a + 1) (1 + (k : Int))) ≠ 0)) k)), (0, vr a), (1, vi (n : Int))]) (dt_at dtX8_whoIsOut 17 rfl) rfl (by decide) rfl ?_
      refine K_goto (tgt := 4) (dt_at dtX8_whoIsOut 18 rfl) (by decide) ?_
      refine K_pk [0, 1, 2, 3] (ls' := [(3, vi ((k : Int) + 1)), (2, vi (bitN (fun k => decide ((hA h (a + 1) (1 + (k : Int))) ≠ 0)) k)), (0, vr a), (1, vi (n : Int))]) rfl ?_
      exact K_cg (ls' := [(3, vi ((k + 1 : Nat) : Int)), (2, vi (bitN (fun k => decide ((hA h (a + 1) (1 + (k : Int))) ≠ 0)) (k + 1))), (0, vr a), (1, vi (n : Int))]) (h' := h) (by rw [bitN_f (by simpa using by assumption)]; rfl) (by rfl) (ih (k + 1) (by omega))
    · rw [if_neg z2]
      refine K_if_ne (tgt := 23) (dt_at dtX8_whoIsOut 10 rfl) (by decide) (by first | assumption | exact ⟨by omega, by omega⟩) (fun c4 => absurd c4 (by omega)) (fun c4 => ?_)
      refine K_iload_n (dt_at dtX8_whoIsOut 11 rfl) rfl rfl ?_
      refine K_iconst (dt_at dtX8_whoIsOut 12 rfl) ?_
      refine K_iload_n (dt_at dtX8_whoIsOut 13 rfl) rfl rfl ?_
      refine K_ishl (dt_at dtX8_whoIsOut 14 rfl) ?_
      refine K_ior (dt_at dtX8_whoIsOut 15 rfl) ?_
      refine K_istore_n (ls' := [(2, vi (bOr (bitN (fun k => decide ((hA h (a + 1) (1 + (k : Int))) ≠ 0)) k) (bShl 1 (k : Int)))), (3, vi (k : Int)), (0, vr a), (1, vi (n : Int))]) (dt_at dtX8_whoIsOut 16 rfl) rfl (by decide) rfl ?_
      refine K_iinc (ls' := [(3, vi ((k : Int) + 1)), (2, vi (bOr (bitN (fun k => decide ((hA h (a + 1) (1 + (k : Int))) ≠ 0)) k) (bShl 1 (k : Int)))), (0, vr a), (1, vi (n : Int))]) (dt_at dtX8_whoIsOut 17 rfl) rfl (by decide) rfl ?_
      refine K_goto (tgt := 4) (dt_at dtX8_whoIsOut 18 rfl) (by decide) ?_
      refine K_pk [0, 1, 2, 3] (ls' := [(3, vi ((k : Int) + 1)), (2, vi (bOr (bitN (fun k => decide ((hA h (a + 1) (1 + (k : Int))) ≠ 0)) k) (bShl 1 (k : Int)))), (0, vr a), (1, vi (n : Int))]) rfl ?_
      exact K_cg (ls' := [(3, vi ((k + 1 : Nat) : Int)), (2, vi (bitN (fun k => decide ((hA h (a + 1) (1 + (k : Int))) ≠ 0)) (k + 1))), (0, vr a), (1, vi (n : Int))]) (h' := h) (by rw [bitN_t (by simpa using by assumption)]; rfl) (by rfl) (ih (k + 1) (by omega))
set_option maxHeartbeats 4000000 in
set_option maxRecDepth 100000 in
theorem sX8_whoIsOut {h : HP} {a n : Nat}  (hT : TT a = (0, 8)) (hW : rW (hA h (a + 1))) (hn : n ≤ 7) : SpecK mX8_whoIsOut [vr a, vi (n : Int)] h (fun o h' => o = .inl (some (vi (bitN (fun k => decide ((hA h (a + 1) (1 + (k : Int))) ≠ 0)) n))) ∧ h' = h) := by
  refine Spec_of (by decide +kernel) (Nat.le_of_ble_eq_true rfl) ?_
  refine K_iconst (dt_at dtX8_whoIsOut 0 rfl) ?_
  refine K_istore_n (ls' := [(2, vi 0), (0, vr a), (1, vi (n : Int))]) (dt_at dtX8_whoIsOut 1 rfl) rfl (by decide) rfl ?_
  refine K_iconst (dt_at dtX8_whoIsOut 2 rfl) ?_
  refine K_istore_n (ls' := [(3, vi 0), (2, vi 0), (0, vr a), (1, vi (n : Int))]) (dt_at dtX8_whoIsOut 3 rfl) rfl (by decide) rfl ?_
  refine K_pk [0, 1, 2, 3] rfl (lp_X8_whoIsOut hT hW hn ?_ n 0 (by omega))
  refine K_iload_n (dt_at dtX8_whoIsOut 19 rfl) rfl rfl ?_
  exact K_iret (dt_at dtX8_whoIsOut 20 rfl) rfl rfl (by decide) (by decide) ⟨rfl, rfl⟩
def mX8_packsFor : MI := (yX8_packsFor, cX8_packsFor, 5, (some .int), rmK 2 0)
def tX8_packsFor : List (Nat × Instr × Nat) := [(0, .iconst 0, 1), (1, .istore_n 3, 1), (2, .iconst 0, 1), (3, .istore 4, 2), (5, .iload 4, 2), (7, .iload_n 2, 1), (8, .if_icmp .ge 26, 3), (11, .aload_n 0, 1), (12, .iload 4, 2), (14, .invokevirtual 58, 3), (17, .iload_n 1, 1), (18, .if_icmp .ne 10, 3), (21, .iload_n 3, 1), (22, .iconst 1, 1), (23, .iload 4, 2), (25, .ishl, 1), (26, .ior, 1), (27, .istore_n 3, 1), (28, .iinc 4 1, 3), (31, .goto (-26), 3), (34, .iload_n 3, 1), (35, .ireturn, 1)]
theorem dtX8_packsFor : tX8_packsFor.all (fun q => decide (decode cX8_packsFor q.1 = .ok (q.2.1, q.2.2))) = true := by decide +kernel
theorem npX8_packsFor : (parseMethodDescriptor (mY mX8_packsFor).desc).map (fun d => d.parameters.length) = some 2 := by decide +kernel
theorem vX8_packsFor : mV mX8_packsFor := ⟨wI_X8_packsFor, wS_X8_packsFor, wN_X8, wC_X8_packsFor, by decide +kernel, by decide +kernel⟩
set_option maxHeartbeats 4000000 in
set_option maxRecDepth 100000 in
theorem lp_X8_packsFor {Z : CT → State → Prop} {h : HP} {a n : Nat} {q : Int} (hT : TT a = (0, 8)) (hW : rW (hA h (a + 1))) (hn : n ≤ 7) (hq : i32 q) (kx : K mX8_packsFor GK Z 0 0 34 [(4, vi (n : Int)), (3, vi (bitN (fun k => decide ((hA h (a + 1) (22 + (k : Int))) = q)) n)), (0, vr a), (1, vi q), (2, vi (n : Int))] [] h) : ∀ (d k : Nat), k + d = n → K mX8_packsFor GK Z 0 0 5 [(4, vi (k : Int)), (3, vi (bitN (fun k => decide ((hA h (a + 1) (22 + (k : Int))) = q)) k)), (0, vr a), (1, vi q), (2, vi (n : Int))] [] h := by
  intro d
  induction d with
  | zero =>
    intro k hk
    obtain rfl : k = n := by omega
    refine K_iload (dt_at dtX8_packsFor 4 rfl) rfl ?_
    refine K_iload_n (dt_at dtX8_packsFor 5 rfl) rfl rfl ?_
    refine K_icmp_ge (tgt := 34) (dt_at dtX8_packsFor 6 rfl) (by decide) (by first | assumption | exact ⟨by omega, by omega⟩) (by first | assumption | exact ⟨by omega, by omega⟩) (fun c1 => ?_) (fun c1 => absurd c1 (by omega))
    exact K_pk [0, 1, 2, 3, 4] rfl kx
  | succ d ih =>
    intro k hk
    have w1 := hW.2 k (by omega) (by omega)
    refine K_iload (dt_at dtX8_packsFor 4 rfl) rfl ?_
    refine K_iload_n (dt_at dtX8_packsFor 5 rfl) rfl rfl ?_
    refine K_icmp_ge (tgt := 34) (dt_at dtX8_packsFor 6 rfl) (by decide) (by first | assumption | exact ⟨by omega, by omega⟩) (by first | assumption | exact ⟨by omega, by omega⟩) (fun c1 => absurd c1 (by omega)) (fun c1 => ?_)
    refine K_aload_n (dt_at dtX8_packsFor 7 rfl) rfl rfl ?_
    refine K_iload (dt_at dtX8_packsFor 8 rfl) rfl ?_
    refine K_callV (M' := mX8_packerOf) (a := a) (ci := 8) (As := [vi (k : Int)]) (st := []) (dt_at dtX8_packsFor 9 rfl) (sX8_packerOf hT (by constructor <;> omega)) hT rfl wL_X8_58 vX8_packerOf rfl npX8_packerOf (by decide) (by decide) (Nat.le_of_ble_eq_true rfl) (by decide) (by decide) GK_E (fun v9 h9 hq => ?_) (fun E h9 hq => by cases hq.1)
    obtain ⟨e9, e8⟩ := hq
    cases e9
    rw [e8]
    show K mX8_packsFor _ _ 0 0 17 [(4, vi (k : Int)), (3, vi (bitN (fun k => decide ((hA h (a + 1) (22 + (k : Int))) = q)) k)), (0, vr a), (1, vi q), (2, vi (n : Int))] [vi (hA h (a + 1) (22 + (k : Int)))] h
    refine K_iload_n (dt_at dtX8_packsFor 10 rfl) rfl rfl ?_
    refine K_icmp_ne (tgt := 28) (dt_at dtX8_packsFor 11 rfl) (by decide) (by first | assumption | exact ⟨by omega, by omega⟩) (by first | assumption | exact ⟨by omega, by omega⟩) (fun c2 => ?_) (fun c2 => ?_)
    · refine K_iinc (ls' := [(4, vi ((k : Int) + 1)), (3, vi (bitN (fun k => decide ((hA h (a + 1) (22 + (k : Int))) = q)) k)), (0, vr a), (1, vi q), (2, vi (n : Int))]) (dt_at dtX8_packsFor 18 rfl) rfl (by decide) rfl ?_
      refine K_goto (tgt := 5) (dt_at dtX8_packsFor 19 rfl) (by decide) ?_
      refine K_pk [0, 1, 2, 3, 4] (ls' := [(4, vi ((k : Int) + 1)), (3, vi (bitN (fun k => decide ((hA h (a + 1) (22 + (k : Int))) = q)) k)), (0, vr a), (1, vi q), (2, vi (n : Int))]) rfl ?_
      exact K_cg (ls' := [(4, vi ((k + 1 : Nat) : Int)), (3, vi (bitN (fun k => decide ((hA h (a + 1) (22 + (k : Int))) = q)) (k + 1))), (0, vr a), (1, vi q), (2, vi (n : Int))]) (h' := h) (by rw [bitN_f (by simpa using by assumption)]; rfl) (by rfl) (ih (k + 1) (by omega))
    · refine K_iload_n (dt_at dtX8_packsFor 12 rfl) rfl rfl ?_
      refine K_iconst (dt_at dtX8_packsFor 13 rfl) ?_
      refine K_iload (dt_at dtX8_packsFor 14 rfl) rfl ?_
      refine K_ishl (dt_at dtX8_packsFor 15 rfl) ?_
      refine K_ior (dt_at dtX8_packsFor 16 rfl) ?_
      refine K_istore_n (ls' := [(3, vi (bOr (bitN (fun k => decide ((hA h (a + 1) (22 + (k : Int))) = q)) k) (bShl 1 (k : Int)))), (4, vi (k : Int)), (0, vr a), (1, vi q), (2, vi (n : Int))]) (dt_at dtX8_packsFor 17 rfl) rfl (by decide) rfl ?_
      refine K_iinc (ls' := [(4, vi ((k : Int) + 1)), (3, vi (bOr (bitN (fun k => decide ((hA h (a + 1) (22 + (k : Int))) = q)) k) (bShl 1 (k : Int)))), (0, vr a), (1, vi q), (2, vi (n : Int))]) (dt_at dtX8_packsFor 18 rfl) rfl (by decide) rfl ?_
      refine K_goto (tgt := 5) (dt_at dtX8_packsFor 19 rfl) (by decide) ?_
      refine K_pk [0, 1, 2, 3, 4] (ls' := [(4, vi ((k : Int) + 1)), (3, vi (bOr (bitN (fun k => decide ((hA h (a + 1) (22 + (k : Int))) = q)) k) (bShl 1 (k : Int)))), (0, vr a), (1, vi q), (2, vi (n : Int))]) rfl ?_
      exact K_cg (ls' := [(4, vi ((k + 1 : Nat) : Int)), (3, vi (bitN (fun k => decide ((hA h (a + 1) (22 + (k : Int))) = q)) (k + 1))), (0, vr a), (1, vi q), (2, vi (n : Int))]) (h' := h) (by rw [bitN_t (by simpa using by assumption)]; rfl) (by rfl) (ih (k + 1) (by omega))
set_option maxHeartbeats 4000000 in
set_option maxRecDepth 100000 in
theorem sX8_packsFor {h : HP} {a n : Nat} {q : Int} (hT : TT a = (0, 8)) (hW : rW (hA h (a + 1))) (hn : n ≤ 7) (hq : i32 q) : SpecK mX8_packsFor [vr a, vi q, vi (n : Int)] h (fun o h' => o = .inl (some (vi (bitN (fun k => decide ((hA h (a + 1) (22 + (k : Int))) = q)) n))) ∧ h' = h) := by
  refine Spec_of (by decide +kernel) (Nat.le_of_ble_eq_true rfl) ?_
  refine K_iconst (dt_at dtX8_packsFor 0 rfl) ?_
  refine K_istore_n (ls' := [(3, vi 0), (0, vr a), (1, vi q), (2, vi (n : Int))]) (dt_at dtX8_packsFor 1 rfl) rfl (by decide) rfl ?_
  refine K_iconst (dt_at dtX8_packsFor 2 rfl) ?_
  refine K_istore (ls' := [(4, vi 0), (3, vi 0), (0, vr a), (1, vi q), (2, vi (n : Int))]) (dt_at dtX8_packsFor 3 rfl) (by decide) rfl ?_
  refine K_pk [0, 1, 2, 3, 4] rfl (lp_X8_packsFor hT hW hn hq ?_ n 0 (by omega))
  refine K_iload_n (dt_at dtX8_packsFor 20 rfl) rfl rfl ?_
  exact K_iret (dt_at dtX8_packsFor 21 rfl) rfl rfl (by decide) (by decide) ⟨rfl, rfl⟩
def mX8_mixed : MI := (yX8_mixed, cX8_mixed, 4, (some .int), rmK 2 0)
def tX8_mixed : List (Nat × Instr × Nat) := [(0, .iconst 0, 1), (1, .istore_n 2, 1), (2, .iconst 0, 1), (3, .istore_n 3, 1), (4, .iload_n 3, 1), (5, .iload_n 1, 1), (6, .if_icmp .ge 24, 3), (9, .aload_n 0, 1), (10, .iload_n 3, 1), (11, .invokevirtual 65, 3), (14, .iload_n 3, 1), (15, .if_icmp .eq 9, 3), (18, .iload_n 2, 1), (19, .iconst 1, 1), (20, .iload_n 3, 1), (21, .ishl, 1), (22, .ior, 1), (23, .istore_n 2, 1), (24, .iinc 3 1, 3), (27, .goto (-23), 3), (30, .iload_n 2, 1), (31, .ireturn, 1)]
theorem dtX8_mixed : tX8_mixed.all (fun q => decide (decode cX8_mixed q.1 = .ok (q.2.1, q.2.2))) = true := by decide +kernel
theorem npX8_mixed : (parseMethodDescriptor (mY mX8_mixed).desc).map (fun d => d.parameters.length) = some 1 := by decide +kernel
theorem vX8_mixed : mV mX8_mixed := ⟨wI_X8_mixed, wS_X8_mixed, wN_X8, wC_X8_mixed, by decide +kernel, by decide +kernel⟩
set_option maxHeartbeats 4000000 in
set_option maxRecDepth 100000 in
theorem lp_X8_mixed {Z : CT → State → Prop} {h : HP} {a n : Nat} (hT : TT a = (0, 8)) (hW : rW (hA h (a + 1))) (hn : n ≤ 7) (kx : K mX8_mixed GK Z 0 0 30 [(3, vi (n : Int)), (2, vi (bitN (fun k => decide ((hA h (a + 1) (8 + (k : Int))) ≠ (k : Int))) n)), (0, vr a), (1, vi (n : Int))] [] h) : ∀ (d k : Nat), k + d = n → K mX8_mixed GK Z 0 0 4 [(3, vi (k : Int)), (2, vi (bitN (fun k => decide ((hA h (a + 1) (8 + (k : Int))) ≠ (k : Int))) k)), (0, vr a), (1, vi (n : Int))] [] h := by
  intro d
  induction d with
  | zero =>
    intro k hk
    obtain rfl : k = n := by omega
    refine K_iload_n (dt_at dtX8_mixed 4 rfl) rfl rfl ?_
    refine K_iload_n (dt_at dtX8_mixed 5 rfl) rfl rfl ?_
    refine K_icmp_ge (tgt := 30) (dt_at dtX8_mixed 6 rfl) (by decide) (by first | assumption | exact ⟨by omega, by omega⟩) (by first | assumption | exact ⟨by omega, by omega⟩) (fun c1 => ?_) (fun c1 => absurd c1 (by omega))
    exact K_pk [0, 1, 2, 3] rfl kx
  | succ d ih =>
    intro k hk
    have w1 := hW.2 k (by omega) (by omega)
    refine K_iload_n (dt_at dtX8_mixed 4 rfl) rfl rfl ?_
    refine K_iload_n (dt_at dtX8_mixed 5 rfl) rfl rfl ?_
    refine K_icmp_ge (tgt := 30) (dt_at dtX8_mixed 6 rfl) (by decide) (by first | assumption | exact ⟨by omega, by omega⟩) (by first | assumption | exact ⟨by omega, by omega⟩) (fun c1 => absurd c1 (by omega)) (fun c1 => ?_)
    refine K_aload_n (dt_at dtX8_mixed 7 rfl) rfl rfl ?_
    refine K_iload_n (dt_at dtX8_mixed 8 rfl) rfl rfl ?_
    refine K_callV (M' := mX8_caseOf) (a := a) (ci := 8) (As := [vi (k : Int)]) (st := []) (dt_at dtX8_mixed 9 rfl) (sX8_caseOf hT (by constructor <;> omega)) hT rfl wL_X8_65 vX8_caseOf rfl npX8_caseOf (by decide) (by decide) (Nat.le_of_ble_eq_true rfl) (by decide) (by decide) GK_E (fun v9 h9 hq => ?_) (fun E h9 hq => by cases hq.1)
    obtain ⟨e9, e8⟩ := hq
    cases e9
    rw [e8]
    show K mX8_mixed _ _ 0 0 14 [(3, vi (k : Int)), (2, vi (bitN (fun k => decide ((hA h (a + 1) (8 + (k : Int))) ≠ (k : Int))) k)), (0, vr a), (1, vi (n : Int))] [vi (hA h (a + 1) (8 + (k : Int)))] h
    refine K_iload_n (dt_at dtX8_mixed 10 rfl) rfl rfl ?_
    refine K_icmp_eq (tgt := 24) (dt_at dtX8_mixed 11 rfl) (by decide) (by first | assumption | exact ⟨by omega, by omega⟩) (by first | assumption | exact ⟨by omega, by omega⟩) (fun c2 => ?_) (fun c2 => ?_)
    · refine K_iinc (ls' := [(3, vi ((k : Int) + 1)), (2, vi (bitN (fun k => decide ((hA h (a + 1) (8 + (k : Int))) ≠ (k : Int))) k)), (0, vr a), (1, vi (n : Int))]) (dt_at dtX8_mixed 18 rfl) rfl (by decide) rfl ?_
      refine K_goto (tgt := 4) (dt_at dtX8_mixed 19 rfl) (by decide) ?_
      refine K_pk [0, 1, 2, 3] (ls' := [(3, vi ((k : Int) + 1)), (2, vi (bitN (fun k => decide ((hA h (a + 1) (8 + (k : Int))) ≠ (k : Int))) k)), (0, vr a), (1, vi (n : Int))]) rfl ?_
      exact K_cg (ls' := [(3, vi ((k + 1 : Nat) : Int)), (2, vi (bitN (fun k => decide ((hA h (a + 1) (8 + (k : Int))) ≠ (k : Int))) (k + 1))), (0, vr a), (1, vi (n : Int))]) (h' := h) (by rw [bitN_f (by simpa using by assumption)]; rfl) (by rfl) (ih (k + 1) (by omega))
    · refine K_iload_n (dt_at dtX8_mixed 12 rfl) rfl rfl ?_
      refine K_iconst (dt_at dtX8_mixed 13 rfl) ?_
      refine K_iload_n (dt_at dtX8_mixed 14 rfl) rfl rfl ?_
      refine K_ishl (dt_at dtX8_mixed 15 rfl) ?_
      refine K_ior (dt_at dtX8_mixed 16 rfl) ?_
      refine K_istore_n (ls' := [(2, vi (bOr (bitN (fun k => decide ((hA h (a + 1) (8 + (k : Int))) ≠ (k : Int))) k) (bShl 1 (k : Int)))), (3, vi (k : Int)), (0, vr a), (1, vi (n : Int))]) (dt_at dtX8_mixed 17 rfl) rfl (by decide) rfl ?_
      refine K_iinc (ls' := [(3, vi ((k : Int) + 1)), (2, vi (bOr (bitN (fun k => decide ((hA h (a + 1) (8 + (k : Int))) ≠ (k : Int))) k) (bShl 1 (k : Int)))), (0, vr a), (1, vi (n : Int))]) (dt_at dtX8_mixed 18 rfl) rfl (by decide) rfl ?_
      refine K_goto (tgt := 4) (dt_at dtX8_mixed 19 rfl) (by decide) ?_
      refine K_pk [0, 1, 2, 3] (ls' := [(3, vi ((k : Int) + 1)), (2, vi (bOr (bitN (fun k => decide ((hA h (a + 1) (8 + (k : Int))) ≠ (k : Int))) k) (bShl 1 (k : Int)))), (0, vr a), (1, vi (n : Int))]) rfl ?_
      exact K_cg (ls' := [(3, vi ((k + 1 : Nat) : Int)), (2, vi (bitN (fun k => decide ((hA h (a + 1) (8 + (k : Int))) ≠ (k : Int))) (k + 1))), (0, vr a), (1, vi (n : Int))]) (h' := h) (by rw [bitN_t (by simpa using by assumption)]; rfl) (by rfl) (ih (k + 1) (by omega))
set_option maxHeartbeats 4000000 in
set_option maxRecDepth 100000 in
theorem sX8_mixed {h : HP} {a n : Nat}  (hT : TT a = (0, 8)) (hW : rW (hA h (a + 1))) (hn : n ≤ 7) : SpecK mX8_mixed [vr a, vi (n : Int)] h (fun o h' => o = .inl (some (vi (bitN (fun k => decide ((hA h (a + 1) (8 + (k : Int))) ≠ (k : Int))) n))) ∧ h' = h) := by
  refine Spec_of (by decide +kernel) (Nat.le_of_ble_eq_true rfl) ?_
  refine K_iconst (dt_at dtX8_mixed 0 rfl) ?_
  refine K_istore_n (ls' := [(2, vi 0), (0, vr a), (1, vi (n : Int))]) (dt_at dtX8_mixed 1 rfl) rfl (by decide) rfl ?_
  refine K_iconst (dt_at dtX8_mixed 2 rfl) ?_
  refine K_istore_n (ls' := [(3, vi 0), (2, vi 0), (0, vr a), (1, vi (n : Int))]) (dt_at dtX8_mixed 3 rfl) rfl (by decide) rfl ?_
  refine K_pk [0, 1, 2, 3] rfl (lp_X8_mixed hT hW hn ?_ n 0 (by omega))
  refine K_iload_n (dt_at dtX8_mixed 20 rfl) rfl rfl ?_
  exact K_iret (dt_at dtX8_mixed 21 rfl) rfl rfl (by decide) (by decide) ⟨rfl, rfl⟩
def mX8_allFond : MI := (yX8_allFond, cX8_allFond, 4, (some .int), rmK 2 0)
def tX8_allFond : List (Nat × Instr × Nat) := [(0, .iconst 0, 1), (1, .istore_n 2, 1), (2, .iconst 0, 1), (3, .istore_n 3, 1), (4, .iload_n 3, 1), (5, .iload_n 1, 1), (6, .if_icmp .ge 17, 3), (9, .iload_n 2, 1), (10, .aload_n 0, 1), (11, .iload_n 3, 1), (12, .invokevirtual 56, 3), (15, .iadd, 1), (16, .istore_n 2, 1), (17, .iinc 3 1, 3), (20, .goto (-16), 3), (23, .iload_n 2, 1), (24, .ireturn, 1)]
theorem dtX8_allFond : tX8_allFond.all (fun q => decide (decode cX8_allFond q.1 = .ok (q.2.1, q.2.2))) = true := by decide +kernel
theorem npX8_allFond : (parseMethodDescriptor (mY mX8_allFond).desc).map (fun d => d.parameters.length) = some 1 := by decide +kernel
theorem vX8_allFond : mV mX8_allFond := ⟨wI_X8_allFond, wS_X8_allFond, wN_X8, wC_X8_allFond, by decide +kernel, by decide +kernel⟩
set_option maxHeartbeats 4000000 in
set_option maxRecDepth 100000 in
theorem lp_X8_allFond {Z : CT → State → Prop} {h : HP} {a n : Nat} (hT : TT a = (0, 8)) (hW : rW (hA h (a + 1))) (hn : n ≤ 7) (kx : K mX8_allFond GK Z 0 0 23 [(3, vi (n : Int)), (2, vi (itN (fun k v => v + (hA h (a + 1) (15 + (k : Int)))) 0 n)), (0, vr a), (1, vi (n : Int))] [] h) : ∀ (d k : Nat), k + d = n → K mX8_allFond GK Z 0 0 4 [(3, vi (k : Int)), (2, vi (itN (fun k v => v + (hA h (a + 1) (15 + (k : Int)))) 0 k)), (0, vr a), (1, vi (n : Int))] [] h := by
  intro d
  induction d with
  | zero =>
    intro k hk
    obtain rfl : k = n := by omega
    refine K_iload_n (dt_at dtX8_allFond 4 rfl) rfl rfl ?_
    refine K_iload_n (dt_at dtX8_allFond 5 rfl) rfl rfl ?_
    refine K_icmp_ge (tgt := 23) (dt_at dtX8_allFond 6 rfl) (by decide) (by first | assumption | exact ⟨by omega, by omega⟩) (by first | assumption | exact ⟨by omega, by omega⟩) (fun c1 => ?_) (fun c1 => absurd c1 (by omega))
    exact K_pk [0, 1, 2, 3] rfl kx
  | succ d ih =>
    intro k hk
    have w1 := hW.2 k (by omega) (by omega)
    refine K_iload_n (dt_at dtX8_allFond 4 rfl) rfl rfl ?_
    refine K_iload_n (dt_at dtX8_allFond 5 rfl) rfl rfl ?_
    refine K_icmp_ge (tgt := 23) (dt_at dtX8_allFond 6 rfl) (by decide) (by first | assumption | exact ⟨by omega, by omega⟩) (by first | assumption | exact ⟨by omega, by omega⟩) (fun c1 => absurd c1 (by omega)) (fun c1 => ?_)
    refine K_iload_n (dt_at dtX8_allFond 7 rfl) rfl rfl ?_
    refine K_aload_n (dt_at dtX8_allFond 8 rfl) rfl rfl ?_
    refine K_iload_n (dt_at dtX8_allFond 9 rfl) rfl rfl ?_
    refine K_callV (M' := mX8_fond) (a := a) (ci := 8) (As := [vi (k : Int)]) (st := [vi (itN (fun k v => v + (hA h (a + 1) (15 + (k : Int)))) 0 k)]) (dt_at dtX8_allFond 10 rfl) (sX8_fond hT (by constructor <;> omega)) hT rfl wL_X8_56 vX8_fond rfl npX8_fond (by decide) (by decide) (Nat.le_of_ble_eq_true rfl) (by decide) (by decide) GK_E (fun v9 h9 hq => ?_) (fun E h9 hq => by cases hq.1)
    obtain ⟨e9, e8⟩ := hq
    cases e9
    rw [e8]
    show K mX8_allFond _ _ 0 0 15 [(3, vi (k : Int)), (2, vi (itN (fun k v => v + (hA h (a + 1) (15 + (k : Int)))) 0 k)), (0, vr a), (1, vi (n : Int))] [vi (hA h (a + 1) (15 + (k : Int))), vi (itN (fun k v => v + (hA h (a + 1) (15 + (k : Int)))) 0 k)] h
    refine K_iadd (dt_at dtX8_allFond 11 rfl) ?_
    refine K_istore_n (ls' := [(2, vi ((itN (fun k v => v + (hA h (a + 1) (15 + (k : Int)))) 0 k) + (hA h (a + 1) (15 + (k : Int))))), (3, vi (k : Int)), (0, vr a), (1, vi (n : Int))]) (dt_at dtX8_allFond 12 rfl) rfl (by decide) rfl ?_
    refine K_iinc (ls' := [(3, vi ((k : Int) + 1)), (2, vi ((itN (fun k v => v + (hA h (a + 1) (15 + (k : Int)))) 0 k) + (hA h (a + 1) (15 + (k : Int))))), (0, vr a), (1, vi (n : Int))]) (dt_at dtX8_allFond 13 rfl) rfl (by decide) rfl ?_
    refine K_goto (tgt := 4) (dt_at dtX8_allFond 14 rfl) (by decide) ?_
    refine K_pk [0, 1, 2, 3] (ls' := [(3, vi ((k : Int) + 1)), (2, vi ((itN (fun k v => v + (hA h (a + 1) (15 + (k : Int)))) 0 k) + (hA h (a + 1) (15 + (k : Int))))), (0, vr a), (1, vi (n : Int))]) rfl ?_
    exact K_cg (ls' := [(3, vi ((k + 1 : Nat) : Int)), (2, vi (itN (fun k v => v + (hA h (a + 1) (15 + (k : Int)))) 0 (k + 1))), (0, vr a), (1, vi (n : Int))]) (h' := h) (by rfl) (by rfl) (ih (k + 1) (by omega))
set_option maxHeartbeats 4000000 in
set_option maxRecDepth 100000 in
theorem sX8_allFond {h : HP} {a n : Nat}  (hT : TT a = (0, 8)) (hW : rW (hA h (a + 1))) (hn : n ≤ 7) : SpecK mX8_allFond [vr a, vi (n : Int)] h (fun o h' => o = .inl (some (vi (itN (fun k v => v + (hA h (a + 1) (15 + (k : Int)))) 0 n))) ∧ h' = h) := by
  refine Spec_of (by decide +kernel) (Nat.le_of_ble_eq_true rfl) ?_
  refine K_iconst (dt_at dtX8_allFond 0 rfl) ?_
  refine K_istore_n (ls' := [(2, vi 0), (0, vr a), (1, vi (n : Int))]) (dt_at dtX8_allFond 1 rfl) rfl (by decide) rfl ?_
  refine K_iconst (dt_at dtX8_allFond 2 rfl) ?_
  refine K_istore_n (ls' := [(3, vi 0), (2, vi 0), (0, vr a), (1, vi (n : Int))]) (dt_at dtX8_allFond 3 rfl) rfl (by decide) rfl ?_
  refine K_pk [0, 1, 2, 3] rfl (lp_X8_allFond hT hW hn ?_ n 0 (by omega))
  refine K_iload_n (dt_at dtX8_allFond 15 rfl) rfl rfl ?_
  exact K_iret (dt_at dtX8_allFond 16 rfl) rfl rfl (by decide) (by decide) ⟨rfl, rfl⟩
def mX8_crossest : MI := (yX8_crossest, cX8_crossest, 4, (some .int), rmK 2 0)
def tX8_crossest : List (Nat × Instr × Nat) := [(0, .iconst (-1), 1), (1, .istore_n 2, 1), (2, .iconst 0, 1), (3, .istore_n 3, 1), (4, .iload_n 3, 1), (5, .iload_n 1, 1), (6, .if_icmp .ge 38, 3), (9, .aload_n 0, 1), (10, .iload_n 3, 1), (11, .invokevirtual 58, 3), (14, .iconst (-1), 1), (15, .if_icmp .eq 23, 3), (18, .iload_n 2, 1), (19, .iconst (-1), 1), (20, .if_icmp .eq 16, 3), (23, .aload_n 0, 1), (24, .iload_n 3, 1), (25, .invokevirtual 56, 3), (28, .aload_n 0, 1), (29, .iload_n 2, 1), (30, .invokevirtual 56, 3), (33, .if_icmp .ge 5, 3), (36, .iload_n 3, 1), (37, .istore_n 2, 1), (38, .iinc 3 1, 3), (41, .goto (-37), 3), (44, .iload_n 2, 1), (45, .ireturn, 1)]
theorem dtX8_crossest : tX8_crossest.all (fun q => decide (decode cX8_crossest q.1 = .ok (q.2.1, q.2.2))) = true := by decide +kernel
theorem npX8_crossest : (parseMethodDescriptor (mY mX8_crossest).desc).map (fun d => d.parameters.length) = some 1 := by decide +kernel
theorem vX8_crossest : mV mX8_crossest := ⟨wI_X8_crossest, wS_X8_crossest, wN_X8, wC_X8_crossest, by decide +kernel, by decide +kernel⟩
set_option maxHeartbeats 4000000 in
set_option maxRecDepth 100000 in
theorem lp_X8_crossest {Z : CT → State → Prop} {h : HP} {a n : Nat} (hT : TT a = (0, 8)) (hW : rW (hA h (a + 1))) (hn : n ≤ 7) (kx : K mX8_crossest GK Z 0 0 44 [(3, vi (n : Int)), (2, vi (selN (fun k v => decide ((hA h (a + 1) (22 + (k : Int))) ≠ -1) && (decide (v = -1) || decide ((hA h (a + 1) (15 + (k : Int))) < (hA h (a + 1) (15 + v))))) n)), (0, vr a), (1, vi (n : Int))] [] h) : ∀ (d k : Nat), k + d = n → K mX8_crossest GK Z 0 0 4 [(3, vi (k : Int)), (2, vi (selN (fun k v => decide ((hA h (a + 1) (22 + (k : Int))) ≠ -1) && (decide (v = -1) || decide ((hA h (a + 1) (15 + (k : Int))) < (hA h (a + 1) (15 + v))))) k)), (0, vr a), (1, vi (n : Int))] [] h := by
  intro d
  induction d with
  | zero =>
    intro k hk
    obtain rfl : k = n := by omega
    refine K_iload_n (dt_at dtX8_crossest 4 rfl) rfl rfl ?_
    refine K_iload_n (dt_at dtX8_crossest 5 rfl) rfl rfl ?_
    refine K_icmp_ge (tgt := 44) (dt_at dtX8_crossest 6 rfl) (by decide) (by first | assumption | exact ⟨by omega, by omega⟩) (by first | assumption | exact ⟨by omega, by omega⟩) (fun c1 => ?_) (fun c1 => absurd c1 (by omega))
    exact K_pk [0, 1, 2, 3] rfl kx
  | succ d ih =>
    intro k hk
    have w1 := hW.2 k (by omega) (by omega)
    have w2 := selN_b (fun k v => decide ((hA h (a + 1) (22 + (k : Int))) ≠ -1) && (decide (v = -1) || decide ((hA h (a + 1) (15 + (k : Int))) < (hA h (a + 1) (15 + v))))) k
    have w4 : ∀ q, 0 ≤ q → q < 7 → 0 ≤ (hA h (a + 1) (15 + q)) ∧ (hA h (a + 1) (15 + q)) ≤ 9 := fun q h1 h2 => (hW.2 q h1 h2).2.2.1
    refine K_iload_n (dt_at dtX8_crossest 4 rfl) rfl rfl ?_
    refine K_iload_n (dt_at dtX8_crossest 5 rfl) rfl rfl ?_
    refine K_icmp_ge (tgt := 44) (dt_at dtX8_crossest 6 rfl) (by decide) (by first | assumption | exact ⟨by omega, by omega⟩) (by first | assumption | exact ⟨by omega, by omega⟩) (fun c1 => absurd c1 (by omega)) (fun c1 => ?_)
    refine K_aload_n (dt_at dtX8_crossest 7 rfl) rfl rfl ?_
    refine K_iload_n (dt_at dtX8_crossest 8 rfl) rfl rfl ?_
    refine K_callV (M' := mX8_packerOf) (a := a) (ci := 8) (As := [vi (k : Int)]) (st := []) (dt_at dtX8_crossest 9 rfl) (sX8_packerOf hT (by constructor <;> omega)) hT rfl wL_X8_58 vX8_packerOf rfl npX8_packerOf (by decide) (by decide) (Nat.le_of_ble_eq_true rfl) (by decide) (by decide) GK_E (fun v9 h9 hq => ?_) (fun E h9 hq => by cases hq.1)
    obtain ⟨e9, e8⟩ := hq
    cases e9
    rw [e8]
    show K mX8_crossest _ _ 0 0 14 [(3, vi (k : Int)), (2, vi (selN (fun k v => decide ((hA h (a + 1) (22 + (k : Int))) ≠ -1) && (decide (v = -1) || decide ((hA h (a + 1) (15 + (k : Int))) < (hA h (a + 1) (15 + v))))) k)), (0, vr a), (1, vi (n : Int))] [vi (hA h (a + 1) (22 + (k : Int)))] h
    refine K_iconst (dt_at dtX8_crossest 10 rfl) ?_
    refine K_icmp_eq (tgt := 38) (dt_at dtX8_crossest 11 rfl) (by decide) (by first | assumption | exact ⟨by omega, by omega⟩) (by first | assumption | exact ⟨by omega, by omega⟩) (fun c2 => ?_) (fun c2 => ?_)
    · refine K_iinc (ls' := [(3, vi ((k : Int) + 1)), (2, vi (selN (fun k v => decide ((hA h (a + 1) (22 + (k : Int))) ≠ -1) && (decide (v = -1) || decide ((hA h (a + 1) (15 + (k : Int))) < (hA h (a + 1) (15 + v))))) k)), (0, vr a), (1, vi (n : Int))]) (dt_at dtX8_crossest 24 rfl) rfl (by decide) rfl ?_
      refine K_goto (tgt := 4) (dt_at dtX8_crossest 25 rfl) (by decide) ?_
      refine K_pk [0, 1, 2, 3] (ls' := [(3, vi ((k : Int) + 1)), (2, vi (selN (fun k v => decide ((hA h (a + 1) (22 + (k : Int))) ≠ -1) && (decide (v = -1) || decide ((hA h (a + 1) (15 + (k : Int))) < (hA h (a + 1) (15 + v))))) k)), (0, vr a), (1, vi (n : Int))]) rfl ?_
      exact K_cg (ls' := [(3, vi ((k + 1 : Nat) : Int)), (2, vi (selN (fun k v => decide ((hA h (a + 1) (22 + (k : Int))) ≠ -1) && (decide (v = -1) || decide ((hA h (a + 1) (15 + (k : Int))) < (hA h (a + 1) (15 + v))))) (k + 1))), (0, vr a), (1, vi (n : Int))]) (h' := h) (by rw [selN_f (by simp only [Bool.and_eq_true, Bool.or_eq_true, Bool.and_eq_false_iff, Bool.or_eq_false_iff, decide_eq_true_eq, decide_eq_false_iff_not]; omega)]; rfl) (by rfl) (ih (k + 1) (by omega))
    · refine K_iload_n (dt_at dtX8_crossest 12 rfl) rfl rfl ?_
      refine K_iconst (dt_at dtX8_crossest 13 rfl) ?_
      refine K_icmp_eq (tgt := 36) (dt_at dtX8_crossest 14 rfl) (by decide) (by first | assumption | exact ⟨by omega, by omega⟩) (by first | assumption | exact ⟨by omega, by omega⟩) (fun c3 => ?_) (fun c3 => ?_)
      · refine K_iload_n (dt_at dtX8_crossest 22 rfl) rfl rfl ?_
        refine K_istore_n (ls' := [(2, vi (k : Int)), (3, vi (k : Int)), (0, vr a), (1, vi (n : Int))]) (dt_at dtX8_crossest 23 rfl) rfl (by decide) rfl ?_
        refine K_iinc (ls' := [(3, vi ((k : Int) + 1)), (2, vi (k : Int)), (0, vr a), (1, vi (n : Int))]) (dt_at dtX8_crossest 24 rfl) rfl (by decide) rfl ?_
        refine K_goto (tgt := 4) (dt_at dtX8_crossest 25 rfl) (by decide) ?_
        refine K_pk [0, 1, 2, 3] (ls' := [(3, vi ((k : Int) + 1)), (2, vi (k : Int)), (0, vr a), (1, vi (n : Int))]) rfl ?_
        exact K_cg (ls' := [(3, vi ((k + 1 : Nat) : Int)), (2, vi (selN (fun k v => decide ((hA h (a + 1) (22 + (k : Int))) ≠ -1) && (decide (v = -1) || decide ((hA h (a + 1) (15 + (k : Int))) < (hA h (a + 1) (15 + v))))) (k + 1))), (0, vr a), (1, vi (n : Int))]) (h' := h) (by rw [selN_t (by simp only [Bool.and_eq_true, Bool.or_eq_true, Bool.and_eq_false_iff, Bool.or_eq_false_iff, decide_eq_true_eq, decide_eq_false_iff_not]; omega)]; rfl) (by rfl) (ih (k + 1) (by omega))
      · refine K_aload_n (dt_at dtX8_crossest 15 rfl) rfl rfl ?_
        refine K_iload_n (dt_at dtX8_crossest 16 rfl) rfl rfl ?_
        refine K_callV (M' := mX8_fond) (a := a) (ci := 8) (As := [vi (k : Int)]) (st := []) (dt_at dtX8_crossest 17 rfl) (sX8_fond hT (by constructor <;> omega)) hT rfl wL_X8_56 vX8_fond rfl npX8_fond (by decide) (by decide) (Nat.le_of_ble_eq_true rfl) (by decide) (by decide) GK_E (fun v9 h9 hq => ?_) (fun E h9 hq => by cases hq.1)
        obtain ⟨e9, e8⟩ := hq
        cases e9
        rw [e8]
        show K mX8_crossest _ _ 0 0 28 [(3, vi (k : Int)), (2, vi (selN (fun k v => decide ((hA h (a + 1) (22 + (k : Int))) ≠ -1) && (decide (v = -1) || decide ((hA h (a + 1) (15 + (k : Int))) < (hA h (a + 1) (15 + v))))) k)), (0, vr a), (1, vi (n : Int))] [vi (hA h (a + 1) (15 + (k : Int)))] h
        refine K_aload_n (dt_at dtX8_crossest 18 rfl) rfl rfl ?_
        refine K_iload_n (dt_at dtX8_crossest 19 rfl) rfl rfl ?_
        have w5 := w4 (selN (fun k v => decide ((hA h (a + 1) (22 + (k : Int))) ≠ -1) && (decide (v = -1) || decide ((hA h (a + 1) (15 + (k : Int))) < (hA h (a + 1) (15 + v))))) k) (by omega) (by omega)
        refine K_callV (M' := mX8_fond) (a := a) (ci := 8) (As := [vi (selN (fun k v => decide ((hA h (a + 1) (22 + (k : Int))) ≠ -1) && (decide (v = -1) || decide ((hA h (a + 1) (15 + (k : Int))) < (hA h (a + 1) (15 + v))))) k)]) (st := [vi (hA h (a + 1) (15 + (k : Int)))]) (dt_at dtX8_crossest 20 rfl) (sX8_fond hT (by constructor <;> omega)) hT rfl wL_X8_56 vX8_fond rfl npX8_fond (by decide) (by decide) (Nat.le_of_ble_eq_true rfl) (by decide) (by decide) GK_E (fun v9 h9 hq => ?_) (fun E h9 hq => by cases hq.1)
        obtain ⟨e9, e8⟩ := hq
        cases e9
        rw [e8]
        show K mX8_crossest _ _ 0 0 33 [(3, vi (k : Int)), (2, vi (selN (fun k v => decide ((hA h (a + 1) (22 + (k : Int))) ≠ -1) && (decide (v = -1) || decide ((hA h (a + 1) (15 + (k : Int))) < (hA h (a + 1) (15 + v))))) k)), (0, vr a), (1, vi (n : Int))] [vi (hA h (a + 1) (15 + (selN (fun k v => decide ((hA h (a + 1) (22 + (k : Int))) ≠ -1) && (decide (v = -1) || decide ((hA h (a + 1) (15 + (k : Int))) < (hA h (a + 1) (15 + v))))) k))), vi (hA h (a + 1) (15 + (k : Int)))] h
        refine K_icmp_ge (tgt := 38) (dt_at dtX8_crossest 21 rfl) (by decide) (by first | assumption | exact ⟨by omega, by omega⟩) (by first | assumption | exact ⟨by omega, by omega⟩) (fun c4 => ?_) (fun c4 => ?_)
        · refine K_iinc (ls' := [(3, vi ((k : Int) + 1)), (2, vi (selN (fun k v => decide ((hA h (a + 1) (22 + (k : Int))) ≠ -1) && (decide (v = -1) || decide ((hA h (a + 1) (15 + (k : Int))) < (hA h (a + 1) (15 + v))))) k)), (0, vr a), (1, vi (n : Int))]) (dt_at dtX8_crossest 24 rfl) rfl (by decide) rfl ?_
          refine K_goto (tgt := 4) (dt_at dtX8_crossest 25 rfl) (by decide) ?_
          refine K_pk [0, 1, 2, 3] (ls' := [(3, vi ((k : Int) + 1)), (2, vi (selN (fun k v => decide ((hA h (a + 1) (22 + (k : Int))) ≠ -1) && (decide (v = -1) || decide ((hA h (a + 1) (15 + (k : Int))) < (hA h (a + 1) (15 + v))))) k)), (0, vr a), (1, vi (n : Int))]) rfl ?_
          exact K_cg (ls' := [(3, vi ((k + 1 : Nat) : Int)), (2, vi (selN (fun k v => decide ((hA h (a + 1) (22 + (k : Int))) ≠ -1) && (decide (v = -1) || decide ((hA h (a + 1) (15 + (k : Int))) < (hA h (a + 1) (15 + v))))) (k + 1))), (0, vr a), (1, vi (n : Int))]) (h' := h) (by rw [selN_f (by simp only [Bool.and_eq_true, Bool.or_eq_true, Bool.and_eq_false_iff, Bool.or_eq_false_iff, decide_eq_true_eq, decide_eq_false_iff_not]; omega)]; rfl) (by rfl) (ih (k + 1) (by omega))
        · refine K_iload_n (dt_at dtX8_crossest 22 rfl) rfl rfl ?_
          refine K_istore_n (ls' := [(2, vi (k : Int)), (3, vi (k : Int)), (0, vr a), (1, vi (n : Int))]) (dt_at dtX8_crossest 23 rfl) rfl (by decide) rfl ?_
          refine K_iinc (ls' := [(3, vi ((k : Int) + 1)), (2, vi (k : Int)), (0, vr a), (1, vi (n : Int))]) (dt_at dtX8_crossest 24 rfl) rfl (by decide) rfl ?_
          refine K_goto (tgt := 4) (dt_at dtX8_crossest 25 rfl) (by decide) ?_
          refine K_pk [0, 1, 2, 3] (ls' := [(3, vi ((k : Int) + 1)), (2, vi (k : Int)), (0, vr a), (1, vi (n : Int))]) rfl ?_
          exact K_cg (ls' := [(3, vi ((k + 1 : Nat) : Int)), (2, vi (selN (fun k v => decide ((hA h (a + 1) (22 + (k : Int))) ≠ -1) && (decide (v = -1) || decide ((hA h (a + 1) (15 + (k : Int))) < (hA h (a + 1) (15 + v))))) (k + 1))), (0, vr a), (1, vi (n : Int))]) (h' := h) (by rw [selN_t (by simp only [Bool.and_eq_true, Bool.or_eq_true, Bool.and_eq_false_iff, Bool.or_eq_false_iff, decide_eq_true_eq, decide_eq_false_iff_not]; omega)]; rfl) (by rfl) (ih (k + 1) (by omega))
set_option maxHeartbeats 4000000 in
set_option maxRecDepth 100000 in
theorem sX8_crossest {h : HP} {a n : Nat}  (hT : TT a = (0, 8)) (hW : rW (hA h (a + 1))) (hn : n ≤ 7) : SpecK mX8_crossest [vr a, vi (n : Int)] h (fun o h' => o = .inl (some (vi (selN (fun k v => decide ((hA h (a + 1) (22 + (k : Int))) ≠ -1) && (decide (v = -1) || decide ((hA h (a + 1) (15 + (k : Int))) < (hA h (a + 1) (15 + v))))) n))) ∧ h' = h) := by
  refine Spec_of (by decide +kernel) (Nat.le_of_ble_eq_true rfl) ?_
  refine K_iconst (dt_at dtX8_crossest 0 rfl) ?_
  refine K_istore_n (ls' := [(2, vi (-1)), (0, vr a), (1, vi (n : Int))]) (dt_at dtX8_crossest 1 rfl) rfl (by decide) rfl ?_
  refine K_iconst (dt_at dtX8_crossest 2 rfl) ?_
  refine K_istore_n (ls' := [(3, vi 0), (2, vi (-1)), (0, vr a), (1, vi (n : Int))]) (dt_at dtX8_crossest 3 rfl) rfl (by decide) rfl ?_
  refine K_pk [0, 1, 2, 3] rfl (lp_X8_crossest hT hW hn ?_ n 0 (by omega))
  refine K_iload_n (dt_at dtX8_crossest 26 rfl) rfl rfl ?_
  exact K_iret (dt_at dtX8_crossest 27 rfl) rfl rfl (by decide) (by decide) ⟨rfl, rfl⟩
def mX8_fondest : MI := (yX8_fondest, cX8_fondest, 5, (some .int), rmK 2 0)
def tX8_fondest : List (Nat × Instr × Nat) := [(0, .iconst (-1), 1), (1, .istore_n 3, 1), (2, .iconst 0, 1), (3, .istore 4, 2), (5, .iload 4, 2), (7, .iload_n 2, 1), (8, .if_icmp .ge 41, 3), (11, .aload_n 0, 1), (12, .iload 4, 2), (14, .invokevirtual 58, 3), (17, .iload_n 1, 1), (18, .if_icmp .ne 25, 3), (21, .iload_n 3, 1), (22, .iconst (-1), 1), (23, .if_icmp .eq 17, 3), (26, .aload_n 0, 1), (27, .iload 4, 2), (29, .invokevirtual 56, 3), (32, .aload_n 0, 1), (33, .iload_n 3, 1), (34, .invokevirtual 56, 3), (37, .if_icmp .le 6, 3), (40, .iload 4, 2), (42, .istore_n 3, 1), (43, .iinc 4 1, 3), (46, .goto (-41), 3), (49, .iload_n 3, 1), (50, .ireturn, 1)]
theorem dtX8_fondest : tX8_fondest.all (fun q => decide (decode cX8_fondest q.1 = .ok (q.2.1, q.2.2))) = true := by decide +kernel
theorem npX8_fondest : (parseMethodDescriptor (mY mX8_fondest).desc).map (fun d => d.parameters.length) = some 2 := by decide +kernel
theorem vX8_fondest : mV mX8_fondest := ⟨wI_X8_fondest, wS_X8_fondest, wN_X8, wC_X8_fondest, by decide +kernel, by decide +kernel⟩
set_option maxHeartbeats 4000000 in
set_option maxRecDepth 100000 in
theorem lp_X8_fondest {Z : CT → State → Prop} {h : HP} {a n : Nat} {q : Int} (hT : TT a = (0, 8)) (hW : rW (hA h (a + 1))) (hn : n ≤ 7) (hq : i32 q) (kx : K mX8_fondest GK Z 0 0 49 [(4, vi (n : Int)), (3, vi (selN (fun k v => decide ((hA h (a + 1) (22 + (k : Int))) = q) && (decide (v = -1) || decide ((hA h (a + 1) (15 + v)) < (hA h (a + 1) (15 + (k : Int)))))) n)), (0, vr a), (1, vi q), (2, vi (n : Int))] [] h) : ∀ (d k : Nat), k + d = n → K mX8_fondest GK Z 0 0 5 [(4, vi (k : Int)), (3, vi (selN (fun k v => decide ((hA h (a + 1) (22 + (k : Int))) = q) && (decide (v = -1) || decide ((hA h (a + 1) (15 + v)) < (hA h (a + 1) (15 + (k : Int)))))) k)), (0, vr a), (1, vi q), (2, vi (n : Int))] [] h := by
  intro d
  induction d with
  | zero =>
    intro k hk
    obtain rfl : k = n := by omega
    refine K_iload (dt_at dtX8_fondest 4 rfl) rfl ?_
    refine K_iload_n (dt_at dtX8_fondest 5 rfl) rfl rfl ?_
    refine K_icmp_ge (tgt := 49) (dt_at dtX8_fondest 6 rfl) (by decide) (by first | assumption | exact ⟨by omega, by omega⟩) (by first | assumption | exact ⟨by omega, by omega⟩) (fun c1 => ?_) (fun c1 => absurd c1 (by omega))
    exact K_pk [0, 1, 2, 3, 4] rfl kx
  | succ d ih =>
    intro k hk
    have w1 := hW.2 k (by omega) (by omega)
    have w2 := selN_b (fun k v => decide ((hA h (a + 1) (22 + (k : Int))) = q) && (decide (v = -1) || decide ((hA h (a + 1) (15 + v)) < (hA h (a + 1) (15 + (k : Int)))))) k
    have w4 : ∀ q, 0 ≤ q → q < 7 → 0 ≤ (hA h (a + 1) (15 + q)) ∧ (hA h (a + 1) (15 + q)) ≤ 9 := fun q h1 h2 => (hW.2 q h1 h2).2.2.1
    refine K_iload (dt_at dtX8_fondest 4 rfl) rfl ?_
    refine K_iload_n (dt_at dtX8_fondest 5 rfl) rfl rfl ?_
    refine K_icmp_ge (tgt := 49) (dt_at dtX8_fondest 6 rfl) (by decide) (by first | assumption | exact ⟨by omega, by omega⟩) (by first | assumption | exact ⟨by omega, by omega⟩) (fun c1 => absurd c1 (by omega)) (fun c1 => ?_)
    refine K_aload_n (dt_at dtX8_fondest 7 rfl) rfl rfl ?_
    refine K_iload (dt_at dtX8_fondest 8 rfl) rfl ?_
    refine K_callV (M' := mX8_packerOf) (a := a) (ci := 8) (As := [vi (k : Int)]) (st := []) (dt_at dtX8_fondest 9 rfl) (sX8_packerOf hT (by constructor <;> omega)) hT rfl wL_X8_58 vX8_packerOf rfl npX8_packerOf (by decide) (by decide) (Nat.le_of_ble_eq_true rfl) (by decide) (by decide) GK_E (fun v9 h9 hq => ?_) (fun E h9 hq => by cases hq.1)
    obtain ⟨e9, e8⟩ := hq
    cases e9
    rw [e8]
    show K mX8_fondest _ _ 0 0 17 [(4, vi (k : Int)), (3, vi (selN (fun k v => decide ((hA h (a + 1) (22 + (k : Int))) = q) && (decide (v = -1) || decide ((hA h (a + 1) (15 + v)) < (hA h (a + 1) (15 + (k : Int)))))) k)), (0, vr a), (1, vi q), (2, vi (n : Int))] [vi (hA h (a + 1) (22 + (k : Int)))] h
    refine K_iload_n (dt_at dtX8_fondest 10 rfl) rfl rfl ?_
    refine K_icmp_ne (tgt := 43) (dt_at dtX8_fondest 11 rfl) (by decide) (by first | assumption | exact ⟨by omega, by omega⟩) (by first | assumption | exact ⟨by omega, by omega⟩) (fun c2 => ?_) (fun c2 => ?_)
    · refine K_iinc (ls' := [(4, vi ((k : Int) + 1)), (3, vi (selN (fun k v => decide ((hA h (a + 1) (22 + (k : Int))) = q) && (decide (v = -1) || decide ((hA h (a + 1) (15 + v)) < (hA h (a + 1) (15 + (k : Int)))))) k)), (0, vr a), (1, vi q), (2, vi (n : Int))]) (dt_at dtX8_fondest 24 rfl) rfl (by decide) rfl ?_
      refine K_goto (tgt := 5) (dt_at dtX8_fondest 25 rfl) (by decide) ?_
      refine K_pk [0, 1, 2, 3, 4] (ls' := [(4, vi ((k : Int) + 1)), (3, vi (selN (fun k v => decide ((hA h (a + 1) (22 + (k : Int))) = q) && (decide (v = -1) || decide ((hA h (a + 1) (15 + v)) < (hA h (a + 1) (15 + (k : Int)))))) k)), (0, vr a), (1, vi q), (2, vi (n : Int))]) rfl ?_
      exact K_cg (ls' := [(4, vi ((k + 1 : Nat) : Int)), (3, vi (selN (fun k v => decide ((hA h (a + 1) (22 + (k : Int))) = q) && (decide (v = -1) || decide ((hA h (a + 1) (15 + v)) < (hA h (a + 1) (15 + (k : Int)))))) (k + 1))), (0, vr a), (1, vi q), (2, vi (n : Int))]) (h' := h) (by rw [selN_f (by simp only [Bool.and_eq_true, Bool.or_eq_true, Bool.and_eq_false_iff, Bool.or_eq_false_iff, decide_eq_true_eq, decide_eq_false_iff_not]; omega)]; rfl) (by rfl) (ih (k + 1) (by omega))
    · refine K_iload_n (dt_at dtX8_fondest 12 rfl) rfl rfl ?_
      refine K_iconst (dt_at dtX8_fondest 13 rfl) ?_
      refine K_icmp_eq (tgt := 40) (dt_at dtX8_fondest 14 rfl) (by decide) (by first | assumption | exact ⟨by omega, by omega⟩) (by first | assumption | exact ⟨by omega, by omega⟩) (fun c3 => ?_) (fun c3 => ?_)
      · refine K_iload (dt_at dtX8_fondest 22 rfl) rfl ?_
        refine K_istore_n (ls' := [(3, vi (k : Int)), (4, vi (k : Int)), (0, vr a), (1, vi q), (2, vi (n : Int))]) (dt_at dtX8_fondest 23 rfl) rfl (by decide) rfl ?_
        refine K_iinc (ls' := [(4, vi ((k : Int) + 1)), (3, vi (k : Int)), (0, vr a), (1, vi q), (2, vi (n : Int))]) (dt_at dtX8_fondest 24 rfl) rfl (by decide) rfl ?_
        refine K_goto (tgt := 5) (dt_at dtX8_fondest 25 rfl) (by decide) ?_
        refine K_pk [0, 1, 2, 3, 4] (ls' := [(4, vi ((k : Int) + 1)), (3, vi (k : Int)), (0, vr a), (1, vi q), (2, vi (n : Int))]) rfl ?_
        exact K_cg (ls' := [(4, vi ((k + 1 : Nat) : Int)), (3, vi (selN (fun k v => decide ((hA h (a + 1) (22 + (k : Int))) = q) && (decide (v = -1) || decide ((hA h (a + 1) (15 + v)) < (hA h (a + 1) (15 + (k : Int)))))) (k + 1))), (0, vr a), (1, vi q), (2, vi (n : Int))]) (h' := h) (by rw [selN_t (by simp only [Bool.and_eq_true, Bool.or_eq_true, Bool.and_eq_false_iff, Bool.or_eq_false_iff, decide_eq_true_eq, decide_eq_false_iff_not]; omega)]; rfl) (by rfl) (ih (k + 1) (by omega))
      · refine K_aload_n (dt_at dtX8_fondest 15 rfl) rfl rfl ?_
        refine K_iload (dt_at dtX8_fondest 16 rfl) rfl ?_
        refine K_callV (M' := mX8_fond) (a := a) (ci := 8) (As := [vi (k : Int)]) (st := []) (dt_at dtX8_fondest 17 rfl) (sX8_fond hT (by constructor <;> omega)) hT rfl wL_X8_56 vX8_fond rfl npX8_fond (by decide) (by decide) (Nat.le_of_ble_eq_true rfl) (by decide) (by decide) GK_E (fun v9 h9 hq => ?_) (fun E h9 hq => by cases hq.1)
        obtain ⟨e9, e8⟩ := hq
        cases e9
        rw [e8]
        show K mX8_fondest _ _ 0 0 32 [(4, vi (k : Int)), (3, vi (selN (fun k v => decide ((hA h (a + 1) (22 + (k : Int))) = q) && (decide (v = -1) || decide ((hA h (a + 1) (15 + v)) < (hA h (a + 1) (15 + (k : Int)))))) k)), (0, vr a), (1, vi q), (2, vi (n : Int))] [vi (hA h (a + 1) (15 + (k : Int)))] h
        refine K_aload_n (dt_at dtX8_fondest 18 rfl) rfl rfl ?_
        refine K_iload_n (dt_at dtX8_fondest 19 rfl) rfl rfl ?_
        have w5 := w4 (selN (fun k v => decide ((hA h (a + 1) (22 + (k : Int))) = q) && (decide (v = -1) || decide ((hA h (a + 1) (15 + v)) < (hA h (a + 1) (15 + (k : Int)))))) k) (by omega) (by omega)
        refine K_callV (M' := mX8_fond) (a := a) (ci := 8) (As := [vi (selN (fun k v => decide ((hA h (a + 1) (22 + (k : Int))) = q) && (decide (v = -1) || decide ((hA h (a + 1) (15 + v)) < (hA h (a + 1) (15 + (k : Int)))))) k)]) (st := [vi (hA h (a + 1) (15 + (k : Int)))]) (dt_at dtX8_fondest 20 rfl) (sX8_fond hT (by constructor <;> omega)) hT rfl wL_X8_56 vX8_fond rfl npX8_fond (by decide) (by decide) (Nat.le_of_ble_eq_true rfl) (by decide) (by decide) GK_E (fun v9 h9 hq => ?_) (fun E h9 hq => by cases hq.1)
        obtain ⟨e9, e8⟩ := hq
        cases e9
        rw [e8]
        show K mX8_fondest _ _ 0 0 37 [(4, vi (k : Int)), (3, vi (selN (fun k v => decide ((hA h (a + 1) (22 + (k : Int))) = q) && (decide (v = -1) || decide ((hA h (a + 1) (15 + v)) < (hA h (a + 1) (15 + (k : Int)))))) k)), (0, vr a), (1, vi q), (2, vi (n : Int))] [vi (hA h (a + 1) (15 + (selN (fun k v => decide ((hA h (a + 1) (22 + (k : Int))) = q) && (decide (v = -1) || decide ((hA h (a + 1) (15 + v)) < (hA h (a + 1) (15 + (k : Int)))))) k))), vi (hA h (a + 1) (15 + (k : Int)))] h
        refine K_icmp_le (tgt := 43) (dt_at dtX8_fondest 21 rfl) (by decide) (by first | assumption | exact ⟨by omega, by omega⟩) (by first | assumption | exact ⟨by omega, by omega⟩) (fun c4 => ?_) (fun c4 => ?_)
        · refine K_iinc (ls' := [(4, vi ((k : Int) + 1)), (3, vi (selN (fun k v => decide ((hA h (a + 1) (22 + (k : Int))) = q) && (decide (v = -1) || decide ((hA h (a + 1) (15 + v)) < (hA h (a + 1) (15 + (k : Int)))))) k)), (0, vr a), (1, vi q), (2, vi (n : Int))]) (dt_at dtX8_fondest 24 rfl) rfl (by decide) rfl ?_
          refine K_goto (tgt := 5) (dt_at dtX8_fondest 25 rfl) (by decide) ?_
          refine K_pk [0, 1, 2, 3, 4] (ls' := [(4, vi ((k : Int) + 1)), (3, vi (selN (fun k v => decide ((hA h (a + 1) (22 + (k : Int))) = q) && (decide (v = -1) || decide ((hA h (a + 1) (15 + v)) < (hA h (a + 1) (15 + (k : Int)))))) k)), (0, vr a), (1, vi q), (2, vi (n : Int))]) rfl ?_
          exact K_cg (ls' := [(4, vi ((k + 1 : Nat) : Int)), (3, vi (selN (fun k v => decide ((hA h (a + 1) (22 + (k : Int))) = q) && (decide (v = -1) || decide ((hA h (a + 1) (15 + v)) < (hA h (a + 1) (15 + (k : Int)))))) (k + 1))), (0, vr a), (1, vi q), (2, vi (n : Int))]) (h' := h) (by rw [selN_f (by simp only [Bool.and_eq_true, Bool.or_eq_true, Bool.and_eq_false_iff, Bool.or_eq_false_iff, decide_eq_true_eq, decide_eq_false_iff_not]; omega)]; rfl) (by rfl) (ih (k + 1) (by omega))
        · refine K_iload (dt_at dtX8_fondest 22 rfl) rfl ?_
          refine K_istore_n (ls' := [(3, vi (k : Int)), (4, vi (k : Int)), (0, vr a), (1, vi q), (2, vi (n : Int))]) (dt_at dtX8_fondest 23 rfl) rfl (by decide) rfl ?_
          refine K_iinc (ls' := [(4, vi ((k : Int) + 1)), (3, vi (k : Int)), (0, vr a), (1, vi q), (2, vi (n : Int))]) (dt_at dtX8_fondest 24 rfl) rfl (by decide) rfl ?_
          refine K_goto (tgt := 5) (dt_at dtX8_fondest 25 rfl) (by decide) ?_
          refine K_pk [0, 1, 2, 3, 4] (ls' := [(4, vi ((k : Int) + 1)), (3, vi (k : Int)), (0, vr a), (1, vi q), (2, vi (n : Int))]) rfl ?_
          exact K_cg (ls' := [(4, vi ((k + 1 : Nat) : Int)), (3, vi (selN (fun k v => decide ((hA h (a + 1) (22 + (k : Int))) = q) && (decide (v = -1) || decide ((hA h (a + 1) (15 + v)) < (hA h (a + 1) (15 + (k : Int)))))) (k + 1))), (0, vr a), (1, vi q), (2, vi (n : Int))]) (h' := h) (by rw [selN_t (by simp only [Bool.and_eq_true, Bool.or_eq_true, Bool.and_eq_false_iff, Bool.or_eq_false_iff, decide_eq_true_eq, decide_eq_false_iff_not]; omega)]; rfl) (by rfl) (ih (k + 1) (by omega))
set_option maxHeartbeats 4000000 in
set_option maxRecDepth 100000 in
theorem sX8_fondest {h : HP} {a n : Nat} {q : Int} (hT : TT a = (0, 8)) (hW : rW (hA h (a + 1))) (hn : n ≤ 7) (hq : i32 q) : SpecK mX8_fondest [vr a, vi q, vi (n : Int)] h (fun o h' => o = .inl (some (vi (selN (fun k v => decide ((hA h (a + 1) (22 + (k : Int))) = q) && (decide (v = -1) || decide ((hA h (a + 1) (15 + v)) < (hA h (a + 1) (15 + (k : Int)))))) n))) ∧ h' = h) := by
  refine Spec_of (by decide +kernel) (Nat.le_of_ble_eq_true rfl) ?_
  refine K_iconst (dt_at dtX8_fondest 0 rfl) ?_
  refine K_istore_n (ls' := [(3, vi (-1)), (0, vr a), (1, vi q), (2, vi (n : Int))]) (dt_at dtX8_fondest 1 rfl) rfl (by decide) rfl ?_
  refine K_iconst (dt_at dtX8_fondest 2 rfl) ?_
  refine K_istore (ls' := [(4, vi 0), (3, vi (-1)), (0, vr a), (1, vi q), (2, vi (n : Int))]) (dt_at dtX8_fondest 3 rfl) (by decide) rfl ?_
  refine K_pk [0, 1, 2, 3, 4] rfl (lp_X8_fondest hT hW hn hq ?_ n 0 (by omega))
  refine K_iload_n (dt_at dtX8_fondest 26 rfl) rfl rfl ?_
  exact K_iret (dt_at dtX8_fondest 27 rfl) rfl rfl (by decide) (by decide) ⟨rfl, rfl⟩
def mX8_ring : MI := (yX8_ring, cX8_ring, 6, (some .int), rmK 2 0)
def tX8_ring : List (Nat × Instr × Nat) := [(0, .iconst 0, 1), (1, .istore_n 3, 1), (2, .aload_n 0, 1), (3, .iload_n 1, 1), (4, .invokevirtual 58, 3), (7, .istore 4, 2), (9, .iconst 0, 1), (10, .istore 5, 2), (12, .iload 5, 2), (14, .iload_n 2, 1), (15, .if_icmp .ge 38, 3), (18, .iload 4, 2), (20, .iconst (-1), 1), (21, .if_icmp .eq 32, 3), (24, .iload_n 3, 1), (25, .iconst 1, 1), (26, .iload 4, 2), (28, .ishl, 1), (29, .ior, 1), (30, .istore_n 3, 1), (31, .iload 4, 2), (33, .iload_n 1, 1), (34, .if_icmp .ne 5, 3), (37, .iload_n 3, 1), (38, .ireturn, 1), (39, .aload_n 0, 1), (40, .iload 4, 2), (42, .invokevirtual 58, 3), (45, .istore 4, 2), (47, .iinc 5 1, 3), (50, .goto (-38), 3), (53, .iconst 0, 1), (54, .ireturn, 1)]
theorem dtX8_ring : tX8_ring.all (fun q => decide (decode cX8_ring q.1 = .ok (q.2.1, q.2.2))) = true := by decide +kernel
theorem npX8_ring : (parseMethodDescriptor (mY mX8_ring).desc).map (fun d => d.parameters.length) = some 2 := by decide +kernel
theorem vX8_ring : mV mX8_ring := ⟨wI_X8_ring, wS_X8_ring, wN_X8, wC_X8_ring, by decide +kernel, by decide +kernel⟩
set_option maxHeartbeats 4000000 in
set_option maxRecDepth 100000 in
theorem lp_X8_ring {Q : AO → HP → Prop} {h : HP} {a n : Nat} {p : Int} (hT : TT a = (0, 8)) (hW : rW (hA h (a + 1))) (hn : n ≤ 7) (hp : 0 ≤ p ∧ p < 7) : ∀ (d k : Nat) (u : Int) (v : Int), k + d = n → -1 ≤ u ∧ u < 7 → Q (.inl (some (vi (ringF (hA h (a + 1)) p d u v)))) h → K mX8_ring GK (ZK Q 0 0) 0 0 12 [(5, vi (k : Int)), (4, vi u), (3, vi v), (0, vr a), (1, vi p), (2, vi (n : Int))] [] h := by
  intro d
  induction d with
  | zero =>
    intro k u v hk g0 hq
    obtain rfl : k = n := by omega
    refine K_iload (dt_at dtX8_ring 8 rfl) rfl ?_
    refine K_iload_n (dt_at dtX8_ring 9 rfl) rfl rfl ?_
    refine K_icmp_ge (tgt := 53) (dt_at dtX8_ring 10 rfl) (by decide) (by first | assumption | exact ⟨by omega, by omega⟩) (by first | assumption | exact ⟨by omega, by omega⟩) (fun c1 => ?_) (fun c1 => absurd c1 (by omega))
    refine K_iconst (dt_at dtX8_ring 31 rfl) ?_
    exact K_iret (dt_at dtX8_ring 32 rfl) rfl rfl (by decide) (by decide) hq
  | succ d ih =>
    intro k u v hk g0 hq
    have w1 : 0 ≤ u → -1 ≤ (hA h (a + 1) (22 + u)) ∧ (hA h (a + 1) (22 + u)) < 7 := fun z => (hW.2 u z (by omega)).2.2.2
    refine K_iload (dt_at dtX8_ring 8 rfl) rfl ?_
    refine K_iload_n (dt_at dtX8_ring 9 rfl) rfl rfl ?_
    refine K_icmp_ge (tgt := 53) (dt_at dtX8_ring 10 rfl) (by decide) (by first | assumption | exact ⟨by omega, by omega⟩) (by first | assumption | exact ⟨by omega, by omega⟩) (fun c1 => absurd c1 (by omega)) (fun c1 => ?_)
    refine K_iload (dt_at dtX8_ring 11 rfl) rfl ?_
    refine K_iconst (dt_at dtX8_ring 12 rfl) ?_
    refine K_icmp_eq (tgt := 53) (dt_at dtX8_ring 13 rfl) (by decide) (by first | assumption | exact ⟨by omega, by omega⟩) (by first | assumption | exact ⟨by omega, by omega⟩) (fun c2 => ?_) (fun c2 => ?_)
    · refine K_iconst (dt_at dtX8_ring 31 rfl) ?_
      exact K_iret (dt_at dtX8_ring 32 rfl) rfl rfl (by decide) (by decide) (by simpa only [ringF, if_pos (show u = -1 by assumption)] using hq)
    · refine K_iload_n (dt_at dtX8_ring 14 rfl) rfl rfl ?_
      refine K_iconst (dt_at dtX8_ring 15 rfl) ?_
      refine K_iload (dt_at dtX8_ring 16 rfl) rfl ?_
      refine K_ishl (dt_at dtX8_ring 17 rfl) ?_
      refine K_ior (dt_at dtX8_ring 18 rfl) ?_
      refine K_istore_n (ls' := [(3, vi (bOr v (bShl 1 u))), (5, vi (k : Int)), (4, vi u), (0, vr a), (1, vi p), (2, vi (n : Int))]) (dt_at dtX8_ring 19 rfl) rfl (by decide) rfl ?_
      refine K_iload (dt_at dtX8_ring 20 rfl) rfl ?_
      refine K_iload_n (dt_at dtX8_ring 21 rfl) rfl rfl ?_
      refine K_icmp_ne (tgt := 39) (dt_at dtX8_ring 22 rfl) (by decide) (by first | assumption | exact ⟨by omega, by omega⟩) (by first | assumption | exact ⟨by omega, by omega⟩) (fun c3 => ?_) (fun c3 => ?_)
      · refine K_aload_n (dt_at dtX8_ring 25 rfl) rfl rfl ?_
        refine K_iload (dt_at dtX8_ring 26 rfl) rfl ?_
        refine K_callV (M' := mX8_packerOf) (a := a) (ci := 8) (As := [vi u]) (st := []) (dt_at dtX8_ring 27 rfl) (sX8_packerOf hT (by constructor <;> omega)) hT rfl wL_X8_58 vX8_packerOf rfl npX8_packerOf (by decide) (by decide) (Nat.le_of_ble_eq_true rfl) (by decide) (by decide) GK_E (fun v9 h9 hq => ?_) (fun E h9 hq => by cases hq.1)
        obtain ⟨e9, e8⟩ := hq
        cases e9
        rw [e8]
        show K mX8_ring _ _ 0 0 45 [(3, vi (bOr v (bShl 1 u))), (5, vi (k : Int)), (4, vi u), (0, vr a), (1, vi p), (2, vi (n : Int))] [vi (hA h (a + 1) (22 + u))] h
        refine K_istore (ls' := [(4, vi (hA h (a + 1) (22 + u))), (3, vi (bOr v (bShl 1 u))), (5, vi (k : Int)), (0, vr a), (1, vi p), (2, vi (n : Int))]) (dt_at dtX8_ring 28 rfl) (by decide) rfl ?_
        refine K_iinc (ls' := [(5, vi ((k : Int) + 1)), (4, vi (hA h (a + 1) (22 + u))), (3, vi (bOr v (bShl 1 u))), (0, vr a), (1, vi p), (2, vi (n : Int))]) (dt_at dtX8_ring 29 rfl) rfl (by decide) rfl ?_
        refine K_goto (tgt := 12) (dt_at dtX8_ring 30 rfl) (by decide) ?_
        refine K_pk [0, 1, 2, 3, 4, 5] rfl ?_
        exact ih (k + 1) (hA h (a + 1) (22 + u)) (bOr v (bShl 1 u)) (by omega) (by have := w1 (by omega); exact this) (by simpa only [ringF, if_neg (show ¬ u = -1 by assumption), if_neg (show ¬ u = p by assumption)] using hq)
      · refine K_iload_n (dt_at dtX8_ring 23 rfl) rfl rfl ?_
        exact K_iret (dt_at dtX8_ring 24 rfl) rfl rfl (by decide) (by decide) (by simpa only [ringF, if_neg (show ¬ u = -1 by assumption), if_pos (show u = p by assumption)] using hq)
set_option maxHeartbeats 4000000 in
set_option maxRecDepth 100000 in
theorem sX8_ring {h : HP} {a n : Nat} {p : Int} (hT : TT a = (0, 8)) (hW : rW (hA h (a + 1))) (hn : n ≤ 7) (hp : 0 ≤ p ∧ p < 7) : SpecK mX8_ring [vr a, vi p, vi (n : Int)] h (fun o h' => o = .inl (some (vi (ringF (hA h (a + 1)) p n (hA h (a + 1) (22 + p)) 0))) ∧ h' = h) := by
  refine Spec_of (by decide +kernel) (Nat.le_of_ble_eq_true rfl) ?_
  refine K_iconst (dt_at dtX8_ring 0 rfl) ?_
  refine K_istore_n (ls' := [(3, vi 0), (0, vr a), (1, vi p), (2, vi (n : Int))]) (dt_at dtX8_ring 1 rfl) rfl (by decide) rfl ?_
  refine K_aload_n (dt_at dtX8_ring 2 rfl) rfl rfl ?_
  refine K_iload_n (dt_at dtX8_ring 3 rfl) rfl rfl ?_
  refine K_callV (M' := mX8_packerOf) (a := a) (ci := 8) (As := [vi p]) (st := []) (dt_at dtX8_ring 4 rfl) (sX8_packerOf hT (by constructor <;> omega)) hT rfl wL_X8_58 vX8_packerOf rfl npX8_packerOf (by decide) (by decide) (Nat.le_of_ble_eq_true rfl) (by decide) (by decide) GK_E (fun v9 h9 hq => ?_) (fun E h9 hq => by cases hq.1)
  obtain ⟨e9, e8⟩ := hq
  cases e9
  rw [e8]
  show K mX8_ring _ _ 0 0 7 [(3, vi 0), (0, vr a), (1, vi p), (2, vi (n : Int))] [vi (hA h (a + 1) (22 + p))] h
  refine K_istore (ls' := [(4, vi (hA h (a + 1) (22 + p))), (3, vi 0), (0, vr a), (1, vi p), (2, vi (n : Int))]) (dt_at dtX8_ring 5 rfl) (by decide) rfl ?_
  refine K_iconst (dt_at dtX8_ring 6 rfl) ?_
  refine K_istore (ls' := [(5, vi 0), (4, vi (hA h (a + 1) (22 + p))), (3, vi 0), (0, vr a), (1, vi p), (2, vi (n : Int))]) (dt_at dtX8_ring 7 rfl) (by decide) rfl ?_
  exact K_pk [0, 1, 2, 3, 4, 5] rfl (lp_X8_ring hT hW hn hp n 0 (hA h (a + 1) (22 + p)) 0 (by omega) (hW.2 p hp.1 hp.2).2.2.2 ⟨rfl, rfl⟩)
def mX8_chain : MI := (yX8_chain, cX8_chain, 5, (some .int), rmK 2 0)
def tX8_chain : List (Nat × Instr × Nat) := [(0, .aload_n 0, 1), (1, .iload_n 1, 1), (2, .invokevirtual 58, 3), (5, .istore_n 3, 1), (6, .iconst 0, 1), (7, .istore 4, 2), (9, .iload 4, 2), (11, .iload_n 2, 1), (12, .if_icmp .ge 23, 3), (15, .iload_n 3, 1), (16, .iconst (-1), 1), (17, .if_icmp .ne 6, 3), (20, .iload 4, 2), (22, .ireturn, 1), (23, .aload_n 0, 1), (24, .iload_n 3, 1), (25, .invokevirtual 58, 3), (28, .istore_n 3, 1), (29, .iinc 4 1, 3), (32, .goto (-23), 3), (35, .iconst (-1), 1), (36, .ireturn, 1)]
theorem dtX8_chain : tX8_chain.all (fun q => decide (decode cX8_chain q.1 = .ok (q.2.1, q.2.2))) = true := by decide +kernel
theorem npX8_chain : (parseMethodDescriptor (mY mX8_chain).desc).map (fun d => d.parameters.length) = some 2 := by decide +kernel
theorem vX8_chain : mV mX8_chain := ⟨wI_X8_chain, wS_X8_chain, wN_X8, wC_X8_chain, by decide +kernel, by decide +kernel⟩
set_option maxHeartbeats 4000000 in
set_option maxRecDepth 100000 in
theorem lp_X8_chain {Q : AO → HP → Prop} {h : HP} {a n : Nat} {p : Int} (hT : TT a = (0, 8)) (hW : rW (hA h (a + 1))) (hn : n ≤ 7) (hp : 0 ≤ p ∧ p < 7) : ∀ (d k : Nat) (u : Int), k + d = n → -1 ≤ u ∧ u < 7 → Q (.inl (some (vi (chainF (hA h (a + 1)) d u (k : Int))))) h → K mX8_chain GK (ZK Q 0 0) 0 0 9 [(4, vi (k : Int)), (3, vi u), (0, vr a), (1, vi p), (2, vi (n : Int))] [] h := by
  intro d
  induction d with
  | zero =>
    intro k u hk g0 hq
    obtain rfl : k = n := by omega
    refine K_iload (dt_at dtX8_chain 6 rfl) rfl ?_
    refine K_iload_n (dt_at dtX8_chain 7 rfl) rfl rfl ?_
    refine K_icmp_ge (tgt := 35) (dt_at dtX8_chain 8 rfl) (by decide) (by first | assumption | exact ⟨by omega, by omega⟩) (by first | assumption | exact ⟨by omega, by omega⟩) (fun c1 => ?_) (fun c1 => absurd c1 (by omega))
    refine K_iconst (dt_at dtX8_chain 20 rfl) ?_
    exact K_iret (dt_at dtX8_chain 21 rfl) rfl rfl (by decide) (by decide) hq
  | succ d ih =>
    intro k u hk g0 hq
    have w1 : 0 ≤ u → -1 ≤ (hA h (a + 1) (22 + u)) ∧ (hA h (a + 1) (22 + u)) < 7 := fun z => (hW.2 u z (by omega)).2.2.2
    refine K_iload (dt_at dtX8_chain 6 rfl) rfl ?_
    refine K_iload_n (dt_at dtX8_chain 7 rfl) rfl rfl ?_
    refine K_icmp_ge (tgt := 35) (dt_at dtX8_chain 8 rfl) (by decide) (by first | assumption | exact ⟨by omega, by omega⟩) (by first | assumption | exact ⟨by omega, by omega⟩) (fun c1 => absurd c1 (by omega)) (fun c1 => ?_)
    refine K_iload_n (dt_at dtX8_chain 9 rfl) rfl rfl ?_
    refine K_iconst (dt_at dtX8_chain 10 rfl) ?_
    refine K_icmp_ne (tgt := 23) (dt_at dtX8_chain 11 rfl) (by decide) (by first | assumption | exact ⟨by omega, by omega⟩) (by first | assumption | exact ⟨by omega, by omega⟩) (fun c2 => ?_) (fun c2 => ?_)
    · refine K_aload_n (dt_at dtX8_chain 14 rfl) rfl rfl ?_
      refine K_iload_n (dt_at dtX8_chain 15 rfl) rfl rfl ?_
      refine K_callV (M' := mX8_packerOf) (a := a) (ci := 8) (As := [vi u]) (st := []) (dt_at dtX8_chain 16 rfl) (sX8_packerOf hT (by constructor <;> omega)) hT rfl wL_X8_58 vX8_packerOf rfl npX8_packerOf (by decide) (by decide) (Nat.le_of_ble_eq_true rfl) (by decide) (by decide) GK_E (fun v9 h9 hq => ?_) (fun E h9 hq => by cases hq.1)
      obtain ⟨e9, e8⟩ := hq
      cases e9
      rw [e8]
      show K mX8_chain _ _ 0 0 28 [(4, vi (k : Int)), (3, vi u), (0, vr a), (1, vi p), (2, vi (n : Int))] [vi (hA h (a + 1) (22 + u))] h
      refine K_istore_n (ls' := [(3, vi (hA h (a + 1) (22 + u))), (4, vi (k : Int)), (0, vr a), (1, vi p), (2, vi (n : Int))]) (dt_at dtX8_chain 17 rfl) rfl (by decide) rfl ?_
      refine K_iinc (ls' := [(4, vi ((k : Int) + 1)), (3, vi (hA h (a + 1) (22 + u))), (0, vr a), (1, vi p), (2, vi (n : Int))]) (dt_at dtX8_chain 18 rfl) rfl (by decide) rfl ?_
      refine K_goto (tgt := 9) (dt_at dtX8_chain 19 rfl) (by decide) ?_
      refine K_pk [0, 1, 2, 3, 4] rfl ?_
      exact ih (k + 1) (hA h (a + 1) (22 + u)) (by omega) (by have := w1 (by omega); exact this) (by have h9 := hq; simp only [chainF, if_neg (show ¬ u = -1 by assumption)] at h9; exact h9)
    · refine K_iload (dt_at dtX8_chain 12 rfl) rfl ?_
      exact K_iret (dt_at dtX8_chain 13 rfl) rfl rfl (by decide) (by decide) (by simpa only [chainF, if_pos (show u = -1 by assumption)] using hq)
set_option maxHeartbeats 4000000 in
set_option maxRecDepth 100000 in
theorem sX8_chain {h : HP} {a n : Nat} {p : Int} (hT : TT a = (0, 8)) (hW : rW (hA h (a + 1))) (hn : n ≤ 7) (hp : 0 ≤ p ∧ p < 7) : SpecK mX8_chain [vr a, vi p, vi (n : Int)] h (fun o h' => o = .inl (some (vi (chainF (hA h (a + 1)) n (hA h (a + 1) (22 + p)) 0))) ∧ h' = h) := by
  refine Spec_of (by decide +kernel) (Nat.le_of_ble_eq_true rfl) ?_
  refine K_aload_n (dt_at dtX8_chain 0 rfl) rfl rfl ?_
  refine K_iload_n (dt_at dtX8_chain 1 rfl) rfl rfl ?_
  refine K_callV (M' := mX8_packerOf) (a := a) (ci := 8) (As := [vi p]) (st := []) (dt_at dtX8_chain 2 rfl) (sX8_packerOf hT (by constructor <;> omega)) hT rfl wL_X8_58 vX8_packerOf rfl npX8_packerOf (by decide) (by decide) (Nat.le_of_ble_eq_true rfl) (by decide) (by decide) GK_E (fun v9 h9 hq => ?_) (fun E h9 hq => by cases hq.1)
  obtain ⟨e9, e8⟩ := hq
  cases e9
  rw [e8]
  show K mX8_chain _ _ 0 0 5 [(0, vr a), (1, vi p), (2, vi (n : Int))] [vi (hA h (a + 1) (22 + p))] h
  refine K_istore_n (ls' := [(3, vi (hA h (a + 1) (22 + p))), (0, vr a), (1, vi p), (2, vi (n : Int))]) (dt_at dtX8_chain 3 rfl) rfl (by decide) rfl ?_
  refine K_iconst (dt_at dtX8_chain 4 rfl) ?_
  refine K_istore (ls' := [(4, vi 0), (3, vi (hA h (a + 1) (22 + p))), (0, vr a), (1, vi p), (2, vi (n : Int))]) (dt_at dtX8_chain 5 rfl) (by decide) rfl ?_
  exact K_pk [0, 1, 2, 3, 4] rfl (lp_X8_chain hT hW hn hp n 0 (hA h (a + 1) (22 + p)) (by omega) (hW.2 p hp.1 hp.2).2.2.2 ⟨rfl, rfl⟩)
def mX8_round : MI := (yX8_round, cX8_round, 6, (some .int), rmK 2 0)
def tX8_round : List (Nat × Instr × Nat) := [(0, .iconst 0, 1), (1, .istore_n 3, 1), (2, .iload_n 1, 1), (3, .istore 4, 2), (5, .iconst 0, 1), (6, .istore 5, 2), (8, .iload 5, 2), (10, .iload_n 2, 1), (11, .if_icmp .ge 24, 3), (14, .iload_n 3, 1), (15, .iconst 1, 1), (16, .iload 4, 2), (18, .ishl, 1), (19, .ior, 1), (20, .istore_n 3, 1), (21, .aload_n 0, 1), (22, .iload 4, 2), (24, .invokevirtual 65, 3), (27, .istore 4, 2), (29, .iinc 5 1, 3), (32, .goto (-24), 3), (35, .iload_n 3, 1), (36, .ireturn, 1)]
theorem dtX8_round : tX8_round.all (fun q => decide (decode cX8_round q.1 = .ok (q.2.1, q.2.2))) = true := by decide +kernel
theorem npX8_round : (parseMethodDescriptor (mY mX8_round).desc).map (fun d => d.parameters.length) = some 2 := by decide +kernel
theorem vX8_round : mV mX8_round := ⟨wI_X8_round, wS_X8_round, wN_X8, wC_X8_round, by decide +kernel, by decide +kernel⟩
set_option maxHeartbeats 4000000 in
set_option maxRecDepth 100000 in
theorem lp_X8_round {Q : AO → HP → Prop} {h : HP} {a n : Nat} {p : Int} (hT : TT a = (0, 8)) (hW : rW (hA h (a + 1))) (hn : n ≤ 7) (hp : 0 ≤ p ∧ p < 7) : ∀ (d k : Nat) (u : Int) (v : Int), k + d = n → 0 ≤ u ∧ u < 7 → Q (.inl (some (vi (roundF (hA h (a + 1)) d u v)))) h → K mX8_round GK (ZK Q 0 0) 0 0 8 [(5, vi (k : Int)), (4, vi u), (3, vi v), (0, vr a), (1, vi p), (2, vi (n : Int))] [] h := by
  intro d
  induction d with
  | zero =>
    intro k u v hk g0 hq
    obtain rfl : k = n := by omega
    refine K_iload (dt_at dtX8_round 6 rfl) rfl ?_
    refine K_iload_n (dt_at dtX8_round 7 rfl) rfl rfl ?_
    refine K_icmp_ge (tgt := 35) (dt_at dtX8_round 8 rfl) (by decide) (by first | assumption | exact ⟨by omega, by omega⟩) (by first | assumption | exact ⟨by omega, by omega⟩) (fun c1 => ?_) (fun c1 => absurd c1 (by omega))
    refine K_iload_n (dt_at dtX8_round 21 rfl) rfl rfl ?_
    exact K_iret (dt_at dtX8_round 22 rfl) rfl rfl (by decide) (by decide) hq
  | succ d ih =>
    intro k u v hk g0 hq
    have w1 := (hW.2 u g0.1 g0.2).2.1
    refine K_iload (dt_at dtX8_round 6 rfl) rfl ?_
    refine K_iload_n (dt_at dtX8_round 7 rfl) rfl rfl ?_
    refine K_icmp_ge (tgt := 35) (dt_at dtX8_round 8 rfl) (by decide) (by first | assumption | exact ⟨by omega, by omega⟩) (by first | assumption | exact ⟨by omega, by omega⟩) (fun c1 => absurd c1 (by omega)) (fun c1 => ?_)
    refine K_iload_n (dt_at dtX8_round 9 rfl) rfl rfl ?_
    refine K_iconst (dt_at dtX8_round 10 rfl) ?_
    refine K_iload (dt_at dtX8_round 11 rfl) rfl ?_
    refine K_ishl (dt_at dtX8_round 12 rfl) ?_
    refine K_ior (dt_at dtX8_round 13 rfl) ?_
    refine K_istore_n (ls' := [(3, vi (bOr v (bShl 1 u))), (5, vi (k : Int)), (4, vi u), (0, vr a), (1, vi p), (2, vi (n : Int))]) (dt_at dtX8_round 14 rfl) rfl (by decide) rfl ?_
    refine K_aload_n (dt_at dtX8_round 15 rfl) rfl rfl ?_
    refine K_iload (dt_at dtX8_round 16 rfl) rfl ?_
    refine K_callV (M' := mX8_caseOf) (a := a) (ci := 8) (As := [vi u]) (st := []) (dt_at dtX8_round 17 rfl) (sX8_caseOf hT (by constructor <;> omega)) hT rfl wL_X8_65 vX8_caseOf rfl npX8_caseOf (by decide) (by decide) (Nat.le_of_ble_eq_true rfl) (by decide) (by decide) GK_E (fun v9 h9 hq => ?_) (fun E h9 hq => by cases hq.1)
    obtain ⟨e9, e8⟩ := hq
    cases e9
    rw [e8]
    show K mX8_round _ _ 0 0 27 [(3, vi (bOr v (bShl 1 u))), (5, vi (k : Int)), (4, vi u), (0, vr a), (1, vi p), (2, vi (n : Int))] [vi (hA h (a + 1) (8 + u))] h
    refine K_istore (ls' := [(4, vi (hA h (a + 1) (8 + u))), (3, vi (bOr v (bShl 1 u))), (5, vi (k : Int)), (0, vr a), (1, vi p), (2, vi (n : Int))]) (dt_at dtX8_round 18 rfl) (by decide) rfl ?_
    refine K_iinc (ls' := [(5, vi ((k : Int) + 1)), (4, vi (hA h (a + 1) (8 + u))), (3, vi (bOr v (bShl 1 u))), (0, vr a), (1, vi p), (2, vi (n : Int))]) (dt_at dtX8_round 19 rfl) rfl (by decide) rfl ?_
    refine K_goto (tgt := 8) (dt_at dtX8_round 20 rfl) (by decide) ?_
    refine K_pk [0, 1, 2, 3, 4, 5] rfl ?_
    exact ih (k + 1) (hA h (a + 1) (8 + u)) (bOr v (bShl 1 u)) (by omega) w1 (by simpa only [roundF] using hq)
set_option maxHeartbeats 4000000 in
set_option maxRecDepth 100000 in
theorem sX8_round {h : HP} {a n : Nat} {p : Int} (hT : TT a = (0, 8)) (hW : rW (hA h (a + 1))) (hn : n ≤ 7) (hp : 0 ≤ p ∧ p < 7) : SpecK mX8_round [vr a, vi p, vi (n : Int)] h (fun o h' => o = .inl (some (vi (roundF (hA h (a + 1)) n p 0))) ∧ h' = h) := by
  refine Spec_of (by decide +kernel) (Nat.le_of_ble_eq_true rfl) ?_
  refine K_iconst (dt_at dtX8_round 0 rfl) ?_
  refine K_istore_n (ls' := [(3, vi 0), (0, vr a), (1, vi p), (2, vi (n : Int))]) (dt_at dtX8_round 1 rfl) rfl (by decide) rfl ?_
  refine K_iload_n (dt_at dtX8_round 2 rfl) rfl rfl ?_
  refine K_istore (ls' := [(4, vi p), (3, vi 0), (0, vr a), (1, vi p), (2, vi (n : Int))]) (dt_at dtX8_round 3 rfl) (by decide) rfl ?_
  refine K_iconst (dt_at dtX8_round 4 rfl) ?_
  refine K_istore (ls' := [(5, vi 0), (4, vi p), (3, vi 0), (0, vr a), (1, vi p), (2, vi (n : Int))]) (dt_at dtX8_round 5 rfl) (by decide) rfl ?_
  exact K_pk [0, 1, 2, 3, 4, 5] rfl (lp_X8_round hT hW hn hp n 0 p 0 (by omega) hp ⟨rfl, rfl⟩)
def mX8_whoHas : MI := (yX8_whoHas, cX8_whoHas, 4, (some .int), rmK 2 0)
def tX8_whoHas : List (Nat × Instr × Nat) := [(0, .iconst 0, 1), (1, .istore_n 3, 1), (2, .iload_n 3, 1), (3, .iload_n 2, 1), (4, .if_icmp .ge 20, 3), (7, .aload_n 0, 1), (8, .iload_n 3, 1), (9, .invokevirtual 65, 3), (12, .iload_n 1, 1), (13, .if_icmp .ne 5, 3), (16, .iload_n 3, 1), (17, .ireturn, 1), (18, .iinc 3 1, 3), (21, .goto (-19), 3), (24, .iconst (-1), 1), (25, .ireturn, 1)]
theorem dtX8_whoHas : tX8_whoHas.all (fun q => decide (decode cX8_whoHas q.1 = .ok (q.2.1, q.2.2))) = true := by decide +kernel
theorem npX8_whoHas : (parseMethodDescriptor (mY mX8_whoHas).desc).map (fun d => d.parameters.length) = some 2 := by decide +kernel
theorem vX8_whoHas : mV mX8_whoHas := ⟨wI_X8_whoHas, wS_X8_whoHas, wN_X8, wC_X8_whoHas, by decide +kernel, by decide +kernel⟩
set_option maxHeartbeats 4000000 in
set_option maxRecDepth 100000 in
theorem lp_X8_whoHas {Q : AO → HP → Prop} {h : HP} {a n : Nat} {q : Int} (hT : TT a = (0, 8)) (hW : rW (hA h (a + 1))) (hn : n ≤ 7) (hq0 : i32 q) : ∀ (d k : Nat), k + d = n → Q (.inl (some (vi (srN (fun k => if (hA h (a + 1) (8 + (k : Int))) = q then some (k : Int) else none) (-1) k d)))) h → K mX8_whoHas GK (ZK Q 0 0) 0 0 2 [(3, vi (k : Int)), (0, vr a), (1, vi q), (2, vi (n : Int))] [] h := by
  intro d
  induction d with
  | zero =>
    intro k hk  hq
    obtain rfl : k = n := by omega
    refine K_iload_n (dt_at dtX8_whoHas 2 rfl) rfl rfl ?_
    refine K_iload_n (dt_at dtX8_whoHas 3 rfl) rfl rfl ?_
    refine K_icmp_ge (tgt := 24) (dt_at dtX8_whoHas 4 rfl) (by decide) (by first | assumption | exact ⟨by omega, by omega⟩) (by first | assumption | exact ⟨by omega, by omega⟩) (fun c1 => ?_) (fun c1 => absurd c1 (by omega))
    refine K_iconst (dt_at dtX8_whoHas 14 rfl) ?_
    exact K_iret (dt_at dtX8_whoHas 15 rfl) rfl rfl (by decide) (by decide) hq
  | succ d ih =>
    intro k hk  hq
    have w1 := hW.2 k (by omega) (by omega)
    refine K_iload_n (dt_at dtX8_whoHas 2 rfl) rfl rfl ?_
    refine K_iload_n (dt_at dtX8_whoHas 3 rfl) rfl rfl ?_
    refine K_icmp_ge (tgt := 24) (dt_at dtX8_whoHas 4 rfl) (by decide) (by first | assumption | exact ⟨by omega, by omega⟩) (by first | assumption | exact ⟨by omega, by omega⟩) (fun c1 => absurd c1 (by omega)) (fun c1 => ?_)
    refine K_aload_n (dt_at dtX8_whoHas 5 rfl) rfl rfl ?_
    refine K_iload_n (dt_at dtX8_whoHas 6 rfl) rfl rfl ?_
    refine K_callV (M' := mX8_caseOf) (a := a) (ci := 8) (As := [vi (k : Int)]) (st := []) (dt_at dtX8_whoHas 7 rfl) (sX8_caseOf hT (by constructor <;> omega)) hT rfl wL_X8_65 vX8_caseOf rfl npX8_caseOf (by decide) (by decide) (Nat.le_of_ble_eq_true rfl) (by decide) (by decide) GK_E (fun v9 h9 hq => ?_) (fun E h9 hq => by cases hq.1)
    obtain ⟨e9, e8⟩ := hq
    cases e9
    rw [e8]
    show K mX8_whoHas _ _ 0 0 12 [(3, vi (k : Int)), (0, vr a), (1, vi q), (2, vi (n : Int))] [vi (hA h (a + 1) (8 + (k : Int)))] h
    refine K_iload_n (dt_at dtX8_whoHas 8 rfl) rfl rfl ?_
    refine K_icmp_ne (tgt := 18) (dt_at dtX8_whoHas 9 rfl) (by decide) (by first | assumption | exact ⟨by omega, by omega⟩) (by first | assumption | exact ⟨by omega, by omega⟩) (fun c2 => ?_) (fun c2 => ?_)
    · refine K_iinc (ls' := [(3, vi ((k : Int) + 1)), (0, vr a), (1, vi q), (2, vi (n : Int))]) (dt_at dtX8_whoHas 12 rfl) rfl (by decide) rfl ?_
      refine K_goto (tgt := 2) (dt_at dtX8_whoHas 13 rfl) (by decide) ?_
      refine K_pk [0, 1, 2, 3] rfl ?_
      exact ih (k + 1)  (by omega) (by simpa only [srN, if_neg (show ¬ (hA h (a + 1) (8 + (k : Int))) = q by assumption)] using hq)
    · refine K_iload_n (dt_at dtX8_whoHas 10 rfl) rfl rfl ?_
      exact K_iret (dt_at dtX8_whoHas 11 rfl) rfl rfl (by decide) (by decide) (by simpa only [srN, if_pos (show (hA h (a + 1) (8 + (k : Int))) = q by assumption)] using hq)
set_option maxHeartbeats 4000000 in
set_option maxRecDepth 100000 in
theorem sX8_whoHas {h : HP} {a n : Nat} {q : Int} (hT : TT a = (0, 8)) (hW : rW (hA h (a + 1))) (hn : n ≤ 7) (hq0 : i32 q) : SpecK mX8_whoHas [vr a, vi q, vi (n : Int)] h (fun o h' => o = .inl (some (vi (srN (fun k => if (hA h (a + 1) (8 + (k : Int))) = q then some (k : Int) else none) (-1) 0 n))) ∧ h' = h) := by
  refine Spec_of (by decide +kernel) (Nat.le_of_ble_eq_true rfl) ?_
  refine K_iconst (dt_at dtX8_whoHas 0 rfl) ?_
  refine K_istore_n (ls' := [(3, vi 0), (0, vr a), (1, vi q), (2, vi (n : Int))]) (dt_at dtX8_whoHas 1 rfl) rfl (by decide) rfl ?_
  exact K_pk [0, 1, 2, 3] rfl (lp_X8_whoHas hT hW hn hq0 n 0  (by omega)  ⟨rfl, rfl⟩)
def mX8_whoIsIn : MI := (yX8_whoIsIn, cX8_whoIsIn, 2, (some .int), rmK 3 0)
def tX8_whoIsIn : List (Nat × Instr × Nat) := [(0, .aload_n 0, 1), (1, .iload_n 1, 1), (2, .invokevirtual 52, 3), (5, .iconst (-1), 1), (6, .ixor, 1), (7, .iconst 1, 1), (8, .iload_n 1, 1), (9, .ishl, 1), (10, .iconst 1, 1), (11, .isub, 1), (12, .iand, 1), (13, .ireturn, 1)]
theorem dtX8_whoIsIn : tX8_whoIsIn.all (fun q => decide (decode cX8_whoIsIn q.1 = .ok (q.2.1, q.2.2))) = true := by decide +kernel
theorem npX8_whoIsIn : (parseMethodDescriptor (mY mX8_whoIsIn).desc).map (fun d => d.parameters.length) = some 1 := by decide +kernel
theorem vX8_whoIsIn : mV mX8_whoIsIn := ⟨wI_X8_whoIsIn, wS_X8_whoIsIn, wN_X8, wC_X8_whoIsIn, by decide +kernel, by decide +kernel⟩
set_option maxHeartbeats 4000000 in
set_option maxRecDepth 100000 in
theorem sX8_whoIsIn {h : HP} {a n : Nat}  (hT : TT a = (0, 8)) (hW : rW (hA h (a + 1))) (hn : n ≤ 7) : SpecK mX8_whoIsIn [vr a, vi (n : Int)] h (fun o h' => o = .inl (some (vi (bAnd (bXor (bitN (fun k => decide ((hA h (a + 1) (1 + (k : Int))) ≠ 0)) n) (-1)) (bShl 1 (n : Int) - 1)))) ∧ h' = h) := by
  refine Spec_of (by decide +kernel) (Nat.le_of_ble_eq_true rfl) ?_
  refine K_aload_n (dt_at dtX8_whoIsIn 0 rfl) rfl rfl ?_
  refine K_iload_n (dt_at dtX8_whoIsIn 1 rfl) rfl rfl ?_
  refine K_callV (M' := mX8_whoIsOut) (a := a) (ci := 8) (As := [vi (n : Int)]) (st := []) (dt_at dtX8_whoIsIn 2 rfl) (sX8_whoIsOut hT hW hn) hT rfl wL_X8_52 vX8_whoIsOut rfl npX8_whoIsOut (by decide) (by decide) (Nat.le_of_ble_eq_true rfl) (by decide) (by decide) GK_E (fun v9 h9 hq => ?_) (fun E h9 hq => by cases hq.1)
  obtain ⟨e9, e8⟩ := hq
  cases e9
  rw [e8]
  show K mX8_whoIsIn _ _ 0 0 5 [(0, vr a), (1, vi (n : Int))] [vi (bitN (fun k => decide ((hA h (a + 1) (1 + (k : Int))) ≠ 0)) n)] h
  refine K_iconst (dt_at dtX8_whoIsIn 3 rfl) ?_
  refine K_ixor (dt_at dtX8_whoIsIn 4 rfl) ?_
  refine K_iconst (dt_at dtX8_whoIsIn 5 rfl) ?_
  refine K_iload_n (dt_at dtX8_whoIsIn 6 rfl) rfl rfl ?_
  refine K_ishl (dt_at dtX8_whoIsIn 7 rfl) ?_
  refine K_iconst (dt_at dtX8_whoIsIn 8 rfl) ?_
  refine K_isub (dt_at dtX8_whoIsIn 9 rfl) ?_
  refine K_iand (dt_at dtX8_whoIsIn 10 rfl) ?_
  exact K_iret (dt_at dtX8_whoIsIn 11 rfl) rfl rfl (by decide) (by decide) ⟨rfl, rfl⟩
def mX8_setFond : MI := (yX8_setFond, cX8_setFond, 3, none, rmK 2 0)
def tX8_setFond : List (Nat × Instr × Nat) := [(0, .aload_n 0, 1), (1, .getfield 11, 3), (4, .bipush 15, 2), (6, .iload_n 1, 1), (7, .iadd, 1), (8, .iconst 0, 1), (9, .bipush 9, 2), (11, .iload_n 2, 1), (12, .invokestatic 39, 3), (15, .invokestatic 45, 3), (18, .iastore, 1), (19, .return_, 1)]
theorem dtX8_setFond : tX8_setFond.all (fun q => decide (decode cX8_setFond q.1 = .ok (q.2.1, q.2.2))) = true := by decide +kernel
theorem npX8_setFond : (parseMethodDescriptor (mY mX8_setFond).desc).map (fun d => d.parameters.length) = some 2 := by decide +kernel
theorem vX8_setFond : mV mX8_setFond := ⟨wI_X8_setFond, wS_X8_setFond, wN_X8, wC_X8_setFond, by decide +kernel, by decide +kernel⟩
set_option maxHeartbeats 4000000 in
set_option maxRecDepth 100000 in
theorem sX8_setFond {h : HP} {a : Nat} {p : Int} {x : Int} (hT : TT a = (0, 8)) (hp : 0 ≤ p ∧ p < 7) (hx : i32 x) : SpecK mX8_setFond [vr a, vi p, vi x] h (fun o h' => o = .inl (none) ∧ h' = sA h (a + 1) (15 + p) (max 0 (min 9 x))) := by
  refine Spec_of (by decide +kernel) (Nat.le_of_ble_eq_true rfl) ?_
  refine K_aload_n (dt_at dtX8_setFond 0 rfl) rfl rfl ?_
  refine K_get (a := a) (ci := 8) (k := 0) (v := vr (a + 1)) (dt_at dtX8_setFond 1 rfl) hT rfl (by decide) wF_X8_11 rfl ?_
  refine K_bipush (dt_at dtX8_setFond 2 rfl) (by decide) ?_
  refine K_iload_n (dt_at dtX8_setFond 3 rfl) rfl rfl ?_
  refine K_iadd (dt_at dtX8_setFond 4 rfl) ?_
  refine K_iconst (dt_at dtX8_setFond 5 rfl) ?_
  refine K_bipush (dt_at dtX8_setFond 6 rfl) (by decide) ?_
  refine K_iload_n (dt_at dtX8_setFond 7 rfl) rfl rfl ?_
  refine K_min (dt_at dtX8_setFond 8 rfl) wL_X8_39 (by first | assumption | exact ⟨by omega, by omega⟩) (by first | assumption | exact ⟨by omega, by omega⟩) (by decide) (Nat.le_of_ble_eq_true rfl) (by decide) (by decide) ?_
  refine K_max (dt_at dtX8_setFond 9 rfl) wL_X8_45 (by first | assumption | exact ⟨by omega, by omega⟩) ⟨by have := hx.1; omega, by have := hx.2; omega⟩ (by decide) (Nat.le_of_ble_eq_true rfl) (by decide) (by decide) ?_
  refine K_iast (dt_at dtX8_setFond 10 rfl) (lay_8_0 hT) (by omega) (by omega) ?_
  exact K_vret (dt_at dtX8_setFond 11 rfl) rfl (by decide) (by decide) ⟨rfl, rfl⟩
def mX8_copyFrom : MI := (yX8_copyFrom, cX8_copyFrom, 2, none, rmK 3 0)
def tX8_copyFrom : List (Nat × Instr × Nat) := [(0, .aload_n 1, 1), (1, .getfield 11, 3), (4, .iconst 0, 1), (5, .aload_n 0, 1), (6, .getfield 11, 3), (9, .iconst 0, 1), (10, .bipush 77, 2), (12, .invokestatic 33, 3), (15, .return_, 1)]
theorem dtX8_copyFrom : tX8_copyFrom.all (fun q => decide (decode cX8_copyFrom q.1 = .ok (q.2.1, q.2.2))) = true := by decide +kernel
theorem npX8_copyFrom : (parseMethodDescriptor (mY mX8_copyFrom).desc).map (fun d => d.parameters.length) = some 1 := by decide +kernel
theorem vX8_copyFrom : mV mX8_copyFrom := ⟨wI_X8_copyFrom, wS_X8_copyFrom, wN_X8, wC_X8_copyFrom, by decide +kernel, by decide +kernel⟩
set_option maxHeartbeats 4000000 in
set_option maxRecDepth 100000 in
theorem sX8_copyFrom {h : HP} {a : Nat} {b : Nat} (hT : TT a = (0, 8)) (hB : TT b = (0, 8)) : SpecK mX8_copyFrom [vr a, vr b] h (fun o h' => o = .inl (none) ∧ h' = sF h (a + 1) (cpF (hA h (b + 1)) (hA h (a + 1)) 0 0 77)) := by
  refine Spec_of (by decide +kernel) (Nat.le_of_ble_eq_true rfl) ?_
  refine K_aload_n (dt_at dtX8_copyFrom 0 rfl) rfl rfl ?_
  refine K_get (a := b) (ci := 8) (k := 0) (v := vr (b + 1)) (dt_at dtX8_copyFrom 1 rfl) hB rfl (by decide) wF_X8_11 rfl ?_
  refine K_iconst (dt_at dtX8_copyFrom 2 rfl) ?_
  refine K_aload_n (dt_at dtX8_copyFrom 3 rfl) rfl rfl ?_
  refine K_get (a := a) (ci := 8) (k := 0) (v := vr (a + 1)) (dt_at dtX8_copyFrom 4 rfl) hT rfl (by decide) wF_X8_11 rfl ?_
  refine K_iconst (dt_at dtX8_copyFrom 5 rfl) ?_
  refine K_bipush (dt_at dtX8_copyFrom 6 rfl) (by decide) ?_
  refine K_copy (dt_at dtX8_copyFrom 7 rfl) wA_X8_33 (lay_8_0 hB) (lay_8_0 hT) (by omega) (by omega) (by omega) (by omega) (by omega) (by decide) (Nat.le_of_ble_eq_true rfl) ?_
  exact K_vret (dt_at dtX8_copyFrom 8 rfl) rfl (by decide) (by decide) ⟨rfl, rfl⟩
def mX8_keepIn : MI := (yX8_keepIn, cX8_keepIn, 3, none, rmK 3 0)
def tX8_keepIn : List (Nat × Instr × Nat) := [(0, .aload_n 0, 1), (1, .getfield 11, 3), (4, .iconst 0, 1), (5, .aload_n 1, 1), (6, .iload_n 2, 1), (7, .bipush 77, 2), (9, .imul, 1), (10, .bipush 77, 2), (12, .invokestatic 33, 3), (15, .return_, 1)]
theorem dtX8_keepIn : tX8_keepIn.all (fun q => decide (decode cX8_keepIn q.1 = .ok (q.2.1, q.2.2))) = true := by decide +kernel
theorem npX8_keepIn : (parseMethodDescriptor (mY mX8_keepIn).desc).map (fun d => d.parameters.length) = some 2 := by decide +kernel
theorem vX8_keepIn : mV mX8_keepIn := ⟨wI_X8_keepIn, wS_X8_keepIn, wN_X8, wC_X8_keepIn, by decide +kernel, by decide +kernel⟩
set_option maxHeartbeats 4000000 in
set_option maxRecDepth 100000 in
theorem sX8_keepIn {h : HP} {a : Nat} {c : Nat} {x : Int} (hT : TT a = (0, 8)) (hC : TT c = (1, 3080)) (hx : 0 ≤ x ∧ x < 40) : SpecK mX8_keepIn [vr a, vr c, vi x] h (fun o h' => o = .inl (none) ∧ h' = sF h c (cpF (hA h (a + 1)) (hA h c) 0 (x * 77) 77)) := by
  refine Spec_of (by decide +kernel) (Nat.le_of_ble_eq_true rfl) ?_
  refine K_aload_n (dt_at dtX8_keepIn 0 rfl) rfl rfl ?_
  refine K_get (a := a) (ci := 8) (k := 0) (v := vr (a + 1)) (dt_at dtX8_keepIn 1 rfl) hT rfl (by decide) wF_X8_11 rfl ?_
  refine K_iconst (dt_at dtX8_keepIn 2 rfl) ?_
  refine K_aload_n (dt_at dtX8_keepIn 3 rfl) rfl rfl ?_
  refine K_iload_n (dt_at dtX8_keepIn 4 rfl) rfl rfl ?_
  refine K_bipush (dt_at dtX8_keepIn 5 rfl) (by decide) ?_
  refine K_imul (dt_at dtX8_keepIn 6 rfl) ?_
  refine K_bipush (dt_at dtX8_keepIn 7 rfl) (by decide) ?_
  refine K_copy (dt_at dtX8_keepIn 8 rfl) wA_X8_33 (lay_8_0 hT) hC (by omega) (by omega) (by omega) (by omega) (by omega) (by decide) (Nat.le_of_ble_eq_true rfl) ?_
  exact K_vret (dt_at dtX8_keepIn 9 rfl) rfl (by decide) (by decide) ⟨rfl, rfl⟩
def mX8_takeFrom : MI := (yX8_takeFrom, cX8_takeFrom, 3, none, rmK 3 0)
def tX8_takeFrom : List (Nat × Instr × Nat) := [(0, .aload_n 1, 1), (1, .iload_n 2, 1), (2, .bipush 77, 2), (4, .imul, 1), (5, .aload_n 0, 1), (6, .getfield 11, 3), (9, .iconst 0, 1), (10, .bipush 77, 2), (12, .invokestatic 33, 3), (15, .return_, 1)]
theorem dtX8_takeFrom : tX8_takeFrom.all (fun q => decide (decode cX8_takeFrom q.1 = .ok (q.2.1, q.2.2))) = true := by decide +kernel
theorem npX8_takeFrom : (parseMethodDescriptor (mY mX8_takeFrom).desc).map (fun d => d.parameters.length) = some 2 := by decide +kernel
theorem vX8_takeFrom : mV mX8_takeFrom := ⟨wI_X8_takeFrom, wS_X8_takeFrom, wN_X8, wC_X8_takeFrom, by decide +kernel, by decide +kernel⟩
set_option maxHeartbeats 4000000 in
set_option maxRecDepth 100000 in
theorem sX8_takeFrom {h : HP} {a : Nat} {c : Nat} {x : Int} (hT : TT a = (0, 8)) (hC : TT c = (1, 3080)) (hx : 0 ≤ x ∧ x < 40) : SpecK mX8_takeFrom [vr a, vr c, vi x] h (fun o h' => o = .inl (none) ∧ h' = sF h (a + 1) (cpF (hA h c) (hA h (a + 1)) (x * 77) 0 77)) := by
  refine Spec_of (by decide +kernel) (Nat.le_of_ble_eq_true rfl) ?_
  refine K_aload_n (dt_at dtX8_takeFrom 0 rfl) rfl rfl ?_
  refine K_iload_n (dt_at dtX8_takeFrom 1 rfl) rfl rfl ?_
  refine K_bipush (dt_at dtX8_takeFrom 2 rfl) (by decide) ?_
  refine K_imul (dt_at dtX8_takeFrom 3 rfl) ?_
  refine K_aload_n (dt_at dtX8_takeFrom 4 rfl) rfl rfl ?_
  refine K_get (a := a) (ci := 8) (k := 0) (v := vr (a + 1)) (dt_at dtX8_takeFrom 5 rfl) hT rfl (by decide) wF_X8_11 rfl ?_
  refine K_iconst (dt_at dtX8_takeFrom 6 rfl) ?_
  refine K_bipush (dt_at dtX8_takeFrom 7 rfl) (by decide) ?_
  refine K_copy (dt_at dtX8_takeFrom 8 rfl) wA_X8_33 hC (lay_8_0 hT) (by omega) (by omega) (by omega) (by omega) (by omega) (by decide) (Nat.le_of_ble_eq_true rfl) ?_
  exact K_vret (dt_at dtX8_takeFrom 9 rfl) rfl (by decide) (by decide) ⟨rfl, rfl⟩
