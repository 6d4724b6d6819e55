theorem shr16_key (b : BitVec 32) : b.sshiftRight 16 &&& 32767#32 = b >>> 16 &&& 32767#32 := by
  have m : ∀ i : Fin 32, (32767#32).getLsbD i.val = decide (i.val < 15) := by decide
  apply BitVec.eq_of_getLsbD_eq
  intro i hi
  rw [BitVec.getLsbD_and, BitVec.getLsbD_and, BitVec.getLsbD_sshiftRight, BitVec.getLsbD_ushiftRight, m ⟨i, hi⟩]
  by_cases z : i < 15
  · have : 16 + i < 32 := by omega
    simp [z, this]
    omega
  · simp [z]
theorem shr16 (s : Int) : bAnd (bShr s 16) 32767 = bAnd (bUshr s 16) 32767 := by
  unfold bAnd bShr bUshr
  rw [Int32.ofInt_toInt, Int32.ofInt_toInt]
  have l : ((Int32.ofInt s >>> (Int32.ofInt 16 &&& 31)) &&& Int32.ofInt 32767).toBitVec = (Int32.ofInt s).toBitVec.sshiftRight 16 &&& 32767#32 := by
    rw [show Int32.ofInt 16 &&& 31 = 16 by decide]; rfl
  have r : (((Int32.ofInt s).toUInt32 >>> ((Int32.ofInt 16).toUInt32 &&& Int32.toUInt32 31)).toInt32 &&& Int32.ofInt 32767).toBitVec = (Int32.ofInt s).toBitVec >>> 16 &&& 32767#32 := by
    rw [show (Int32.ofInt 16).toUInt32 &&& Int32.toUInt32 31 = 16 by decide]; rfl
  show (((Int32.ofInt s >>> (Int32.ofInt 16 &&& 31)) &&& Int32.ofInt 32767).toBitVec).toInt = ((((Int32.ofInt s).toUInt32 >>> ((Int32.ofInt 16).toUInt32 &&& Int32.toUInt32 31)).toInt32 &&& Int32.ofInt 32767).toBitVec).toInt
  rw [l, r, shr16_key]
theorem bf_R {S : HS} {r : Int → Int} {s lot : Int} (hB : hsW S) (hw : wH S r) (hk : pkP S r) : wH S (bfF S r s lot).1 ∧ pkP S (bfF S r s lot).1 := by
  have hNp := hB.2.1
  have hNt := hB.1
  have lo : ∀ (i x : Int), i < 35 → ¬ (22 ≤ i ∧ i < 29) → wH S (upI r i x) ∧ pkP S (upI r i x) := fun i x h1 h2 => ⟨wH_lo hw h1, fun p a b => by rw [upI_n (by omega)]; exact hk p a b⟩
  unfold bfF
  by_cases e0 : lot = 0 ∧ 0 < sNp S
  · rw [if_pos e0]
    have d1 := dvS_b (s := nxS s) (n := (sNp S : Int)) (by omega)
    have d2 := dvS_b (s := nxS (nxS s)) (n := (sNp S : Int)) (by omega)
    refine ⟨wH_lo (wH_lo hw (by omega)) (by omega), fun p a b => ?_⟩
    show swF r _ _ (22 + p) < _ ∧ swF r _ _ (22 + p) ≠ _
    unfold swF
    rw [upI_n (by omega), upI_n (by omega)]
    exact hk p a b
  · rw [if_neg e0]
    by_cases e1 : lot = 1 ∧ 0 < sNp S
    · rw [if_pos e1]
      have d1 := dvS_b (s := nxS s) (n := (sNp S : Int)) (by omega)
      exact lo _ _ (by omega) (by omega)
    · rw [if_neg e1]
      by_cases e2 : lot = 2 ∧ 0 < sNt S
      · rw [if_pos e2]
        have d1 := dvS_b (s := nxS s) (n := (sNt S : Int)) (by omega)
        show wH S (if _ then _ else r) ∧ pkP S (if _ then _ else r)
        by_cases e3 : r (29 + dvS (nxS s) (sNt S)) < 99
        · rw [if_pos e3]; exact lo _ _ (by omega) (by omega)
        · rw [if_neg e3]; exact ⟨hw, hk⟩
      · rw [if_neg e2]; exact ⟨hw, hk⟩
theorem yr_R {S : HS} {f : Int → Int} {s : Int} (hB : hsW S) (R : rowOK S f) : ∀ n : Nat, n ≤ 1000 → wH S (yrN S f s n).1 ∧ pkP S (yrN S f s n).1
  | 0, _ => ⟨R.2.2.2.1, R.2.2.2.2.2⟩
  | n + 1, hn => by
    obtain ⟨w, k⟩ := yr_R (s := s) hB R n (by omega)
    have d := R.2.2.1
    obtain ⟨a, b, c⟩ := yrN_ok (s := s) hB R.1 R.2.1 n (by omega) (by omega)
    obtain ⟨a2, b2, c2⟩ := bfF_ok (s := nxS (yrN S f s n).2) (lot := dvS (nxS (yrN S f s n).2) 5) hB a b (by omega)
    obtain ⟨w2, k2⟩ := bf_R (s := nxS (yrN S f s n).2) (lot := dvS (nxS (yrN S f s n).2) 5) hB w k
    exact ⟨day_wH hB a2 b2 w2, pkP_day hB a2 b2 k2 (by rw [c2, c]; omega)⟩
theorem cnt_sm {P : Nat → Bool} {n : Nat} (hn : n ≤ 7) : sm (fun j => if (j : Int) < n ∧ P ((j : Int)).toNat = true then 1 else 0) 7 = cntN P n := by
  have key : ∀ m : Nat, sm (fun j => if (j : Int) < n ∧ P ((j : Int)).toNat = true then 1 else 0) m = cntN (fun j => decide (j < n) && P j) m := by
    intro m
    induction m with
    | zero => rfl
    | succ m ih =>
      rw [sm_s, ih]
      show _ = (if (decide (m < n) && P m) then cntN (fun j => decide (j < n) && P j) m + 1 else cntN (fun j => decide (j < n) && P j) m)
      rw [show ((m : Int)).toNat = m by omega]
      by_cases z : m < n
      · cases e : P m
        · rw [if_neg (by rintro ⟨-, w⟩; cases w), if_neg (by simp)]; omega
        · rw [if_pos ⟨by omega, rfl⟩, if_pos (by simp [z])]
      · rw [if_neg (by rintro ⟨w, -⟩; omega), if_neg (by simp [z])]; omega
  rw [key 7, cntN_7 7 hn]
theorem yt_s {S : HS} {r tr : Int → Int} (hB : hsW S) : itN (fun k v => v + trN S r tr (sNp S) (k : Int)) 0 7 = itN (fun k v => v + tr (k : Int)) 0 7 + bitC (bitN (lvA S r) (sNp S)) := by
  rw [(bits_c hB.2.1).1, ← cnt_sm hB.2.1]
  show sm (fun k => trN S r tr (sNp S) (k : Int)) 7 = sm (fun k => tr (k : Int)) 7 + _
  rw [← sm_add]
  exact sm_cg (fun k _ => trN_c (by omega) (sNp S))
def mX12_draw : MI := (yX12_draw, cX12_draw, 2, (some .int), rmK 1 0)
def tX12_draw : List (Nat × Instr × Nat) := [(0, .aload_n 0, 1), (1, .aload_n 0, 1), (2, .getfield 441, 3), (5, .ldc_w 444, 3), (8, .imul, 1), (9, .sipush 12345, 3), (12, .iadd, 1), (13, .putfield 441, 3), (16, .aload_n 0, 1), (17, .getfield 441, 3), (20, .bipush 16, 2), (22, .ishr, 1), (23, .sipush 32767, 3), (26, .iand, 1), (27, .iload_n 1, 1), (28, .irem, 1), (29, .ireturn, 1)]
theorem dtX12_draw : tX12_draw.all (fun q => decide (decode cX12_draw q.1 = .ok (q.2.1, q.2.2))) = true := by decide +kernel
theorem npX12_draw : (parseMethodDescriptor (mY mX12_draw).desc).map (fun d => d.parameters.length) = some 1 := by decide +kernel
theorem vX12_draw : mV mX12_draw := ⟨wI_X12_draw, wS_X12_draw, wN_X12, wC_X12_draw, by decide +kernel, by decide +kernel⟩
set_option maxHeartbeats 4000000 in
set_option maxRecDepth 100000 in
theorem sX12_draw {h hh : HP} {S : HS} {f g : Int → Int} {n s : Int} (G : MG h hh S f g) (e55 : hI hh 0 55 = s) (hn : 0 < n ∧ n ≤ 100) : SpecK mX12_draw [vr 0, vi n] hh (fun o h' => o = .inl (some (vi (dvS (nxS s) n))) ∧ MG h h' S f g ∧ hI h' 0 55 = nxS s) := by
  refine Spec_of (by decide +kernel) (Nat.le_of_ble_eq_true rfl) ?_
  refine K_aload_n (dt_at dtX12_draw 0 rfl) rfl rfl ?_
  refine K_aload_n (dt_at dtX12_draw 1 rfl) rfl rfl ?_
  refine K_get (a := 0) (ci := 12) (k := 55) (v := vi s) (dt_at dtX12_draw 2 rfl) (show TT 0 = (0, 12) from rfl) rfl (by decide) wF_X12_441 (by show vi (hI hh 0 55) = vi s; rw [e55]) ?_
  refine K_ldcw (n := 1103515245) (dt_at dtX12_draw 3 rfl) wK_X12_444 (by decide) ?_
  refine K_imul (dt_at dtX12_draw 4 rfl) ?_
  refine K_sipush (dt_at dtX12_draw 5 rfl) (by decide) ?_
  refine K_iadd (dt_at dtX12_draw 6 rfl) ?_
  refine K_putI (a := 0) (ci := 12) (k := 55) (dt_at dtX12_draw 7 rfl) (show TT 0 = (0, 12) from rfl) rfl (by decide) wF_X12_441 rfl (Or.inl rfl) rfl rfl ?_
  obtain ⟨hu1, eu1⟩ : ∃ z, z = sI hh 0 55 ((s * 1103515245) + 12345) := ⟨_, rfl⟩
  rw [← eu1]
  obtain ⟨iu1, fu1, au1, ru1⟩ := sI_fx eu1
  have Gu1 : MG h hu1 S f g := MG_I G eu1 (by omega)
  refine K_aload_n (dt_at dtX12_draw 8 rfl) rfl rfl ?_
  refine K_get (a := 0) (ci := 12) (k := 55) (v := vi ((s * 1103515245) + 12345)) (dt_at dtX12_draw 9 rfl) (show TT 0 = (0, 12) from rfl) rfl (by decide) wF_X12_441 (by show vi (hI hu1 0 55) = vi ((s * 1103515245) + 12345); rw [iu1]) ?_
  refine K_bipush (dt_at dtX12_draw 10 rfl) (by decide) ?_
  refine K_ishr (dt_at dtX12_draw 11 rfl) ?_
  refine K_sipush (dt_at dtX12_draw 12 rfl) (by decide) ?_
  refine K_iand (dt_at dtX12_draw 13 rfl) ?_
  refine K_iload_n (dt_at dtX12_draw 14 rfl) rfl rfl ?_
  refine K_irem (dt_at dtX12_draw 15 rfl) (bAnd32 _ _) (by first | assumption | exact ⟨by omega, by omega⟩) (by omega) ?_
  exact K_iret (dt_at dtX12_draw 16 rfl) rfl rfl (by decide) (by decide) ⟨by rw [shr16]; rfl, Gu1, iu1⟩
def mX12_happens : MI := (yX12_happens, cX12_happens, 3, none, rmK 2 0)
def tX12_happens : List (Nat × Instr × Nat) := [(0, .aload_n 0, 1), (1, .iconst 5, 1), (2, .invokevirtual 445, 3), (5, .istore_n 1, 1), (6, .iload_n 1, 1), (7, .iconst 2, 1), (8, .if_icmp .ne 52, 3), (11, .aload_n 0, 1), (12, .getfield 267, 3), (15, .ifCond .le 45, 3), (18, .aload_n 0, 1), (19, .aload_n 0, 1), (20, .getfield 267, 3), (23, .invokevirtual 445, 3), (26, .istore_n 2, 1), (27, .aload_n 0, 1), (28, .getfield 72, 3), (31, .sipush 134, 3), (34, .iload_n 2, 1), (35, .iadd, 1), (36, .dup2, 1), (37, .iaload, 1), (38, .aload_n 0, 1), (39, .getfield 72, 3), (42, .sipush 134, 3), (45, .iload_n 2, 1), (46, .iadd, 1), (47, .iaload, 1), (48, .bipush 99, 2), (50, .if_icmp .ge 7, 3), (53, .iconst 1, 1), (54, .goto 4, 3), (57, .iconst 0, 1), (58, .iadd, 1), (59, .iastore, 1), (60, .iload_n 1, 1), (61, .iconst 1, 1), (62, .if_icmp .gt 10, 3), (65, .aload_n 0, 1), (66, .getfield 270, 3), (69, .ifCond .ne 4, 3), (72, .return_, 1), (73, .aload_n 0, 1), (74, .aload_n 0, 1), (75, .getfield 270, 3), (78, .invokevirtual 445, 3), (81, .istore_n 2, 1), (82, .iload_n 1, 1), (83, .ifCond .ne 21, 3), (86, .aload_n 0, 1), (87, .bipush 77, 2), (89, .iload_n 2, 1), (90, .aload_n 0, 1), (91, .aload_n 0, 1), (92, .getfield 270, 3), (95, .invokevirtual 445, 3), (98, .invokevirtual 393, 3), (101, .goto 19, 3), (104, .aload_n 0, 1), (105, .getfield 72, 3), (108, .sipush 140, 3), (111, .iload_n 2, 1), (112, .iadd, 1), (113, .aload_n 0, 1), (114, .bipush 10, 2), (116, .invokevirtual 445, 3), (119, .iastore, 1), (120, .return_, 1)]
theorem dtX12_happens : tX12_happens.all (fun q => decide (decode cX12_happens q.1 = .ok (q.2.1, q.2.2))) = true := by decide +kernel
theorem npX12_happens : (parseMethodDescriptor (mY mX12_happens).desc).map (fun d => d.parameters.length) = some 0 := by decide +kernel
theorem vX12_happens : mV mX12_happens := ⟨wI_X12_happens, wS_X12_happens, wN_X12, wC_X12_happens, by decide +kernel, by decide +kernel⟩
theorem upI_id (r : Int → Int) (i : Int) : upI r i (r i) = r := by
  funext j
  unfold upI
  by_cases z : j = i
  · rw [if_pos z, z]
  · rw [if_neg z]
set_option maxHeartbeats 4000000 in
set_option maxRecDepth 100000 in
theorem sX12_happens {h hh : HP} {S : HS} {B : Int} {f r : Int → Int} {s : Int} (hB : hsW S) (G : MG h hh S f r) (hT : rT B r) (e55 : hI hh 0 55 = s) : SpecK mX12_happens [vr 0] hh (fun o h' => o = .inl none ∧ MG h h' S f (bfF S r (nxS s) (dvS (nxS s) 5)).1 ∧ hI h' 0 55 = (bfF S r (nxS s) (dvS (nxS s) 5)).2) := by
  refine Spec_of (by decide +kernel) (Nat.le_of_ble_eq_true rfl) ?_
  have hNt := hB.1
  have hNp := hB.2.1
  obtain ⟨lot, el⟩ : ∃ z, z = dvS (nxS s) 5 := ⟨_, rfl⟩
  have lb := dvS_b (s := nxS s) (n := 5) (by decide)
  rw [← el] at lb ⊢
  have ws : ∀ t : Int, 0 ≤ t → t < 6 → -1 ≤ r (29 + t) ∧ r (29 + t) ≤ 100000000 := fun t t0 t1 => hT.1.1 (29 + t) (by omega) (by omega)
  refine K_aload_n (dt_at dtX12_happens 0 rfl) rfl rfl ?_
  refine K_iconst (dt_at dtX12_happens 1 rfl) ?_
  refine K_callV (M' := mX12_draw) (a := 0) (ci := 12) (As := [vi 5]) (st := []) (dt_at dtX12_happens 2 rfl) (sX12_draw G (by rw [e55]) (by omega)) (show TT 0 = (0, 12) from rfl) rfl wL_X12_445 vX12_draw rfl npX12_draw (by decide) (by decide) (Nat.le_of_ble_eq_true rfl) (by decide) (by decide) GK_E (fun v9 hc1 hq => ?_) (fun E h9 hq => by cases hq.1)
  have hqq2 := hq
  obtain ⟨e9q2, Gq2, e55q2⟩ := hqq2
  have dvq2 := dvS_b (s := nxS s) (n := 5) (by omega)
  cases e9q2
  show K mX12_happens _ _ 0 0 5 [(0, vr 0)] [vi (dvS (nxS s) 5)] hc1
  rw [← el]
  refine K_istore_n (ls' := [(1, vi lot), (0, vr 0)]) (dt_at dtX12_happens 3 rfl) rfl (by decide) rfl ?_
  refine K_iload_n (dt_at dtX12_happens 4 rfl) rfl rfl ?_
  refine K_iconst (dt_at dtX12_happens 5 rfl) ?_
  refine K_icmp_ne (tgt := 60) (dt_at dtX12_happens 6 rfl) (by decide) (by first | assumption | exact ⟨by omega, by omega⟩) (by first | assumption | exact ⟨by omega, by omega⟩) (fun c1 => ?_) (fun c1 => ?_)
  · refine K_iload_n (dt_at dtX12_happens 35 rfl) rfl rfl ?_
    refine K_iconst (dt_at dtX12_happens 36 rfl) ?_
    refine K_icmp_gt (tgt := 72) (dt_at dtX12_happens 37 rfl) (by decide) (by first | assumption | exact ⟨by omega, by omega⟩) (by first | assumption | exact ⟨by omega, by omega⟩) (fun c2 => ?_) (fun c2 => ?_)
    · have eb : bfF S r (nxS s) lot = (r, (nxS s)) := by unfold bfF; rw [if_neg (by omega), if_neg (by omega), if_neg (by omega)]
      exact K_vret (dt_at dtX12_happens 41 rfl) rfl (by decide) (by decide) ⟨rfl, by rw [eb]; exact Gq2, by rw [eb, e55q2]⟩
    · refine K_aload_n (dt_at dtX12_happens 38 rfl) rfl rfl ?_
      refine K_get (a := 0) (ci := 12) (k := 2) (v := vi (sNp S : Int)) (dt_at dtX12_happens 39 rfl) (show TT 0 = (0, 12) from rfl) rfl (by decide) wF_X12_270 (by show vi (hI hc1 0 2) = vi (sNp S : Int); rw [(MD_np (MG_D0 Gq2))]) ?_
      refine K_if_ne (tgt := 73) (dt_at dtX12_happens 40 rfl) (by decide) (by first | assumption | exact ⟨by omega, by omega⟩) (fun c3 => ?_) (fun c3 => ?_)
      · refine K_aload_n (dt_at dtX12_happens 42 rfl) rfl rfl ?_
        refine K_aload_n (dt_at dtX12_happens 43 rfl) rfl rfl ?_
        refine K_get (a := 0) (ci := 12) (k := 2) (v := vi (sNp S : Int)) (dt_at dtX12_happens 44 rfl) (show TT 0 = (0, 12) from rfl) rfl (by decide) wF_X12_270 (by show vi (hI hc1 0 2) = vi (sNp S : Int); rw [(MD_np (MG_D0 Gq2))]) ?_
        refine K_callV (M' := mX12_draw) (a := 0) (ci := 12) (As := [vi (sNp S : Int)]) (st := []) (dt_at dtX12_happens 45 rfl) (sX12_draw Gq2 (by rw [e55q2]) (by omega)) (show TT 0 = (0, 12) from rfl) rfl wL_X12_445 vX12_draw rfl npX12_draw (by decide) (by decide) (Nat.le_of_ble_eq_true rfl) (by decide) (by decide) GK_E (fun v9 hc3 hq => ?_) (fun E h9 hq => by cases hq.1)
        have hqq4 := hq
        obtain ⟨e9q4, Gq4, e55q4⟩ := hqq4
        have dvq4 := dvS_b (s := nxS (nxS s)) (n := (sNp S : Int)) (by omega)
        cases e9q4
        show K mX12_happens _ _ 0 0 81 [(1, vi lot), (0, vr 0)] [vi (dvS (nxS (nxS s)) (sNp S : Int))] hc3
        refine K_istore_n (ls' := [(2, vi (dvS (nxS (nxS s)) (sNp S : Int))), (1, vi lot), (0, vr 0)]) (dt_at dtX12_happens 46 rfl) rfl (by decide) rfl ?_
        refine K_iload_n (dt_at dtX12_happens 47 rfl) rfl rfl ?_
        refine K_if_ne (tgt := 104) (dt_at dtX12_happens 48 rfl) (by decide) (by first | assumption | exact ⟨by omega, by omega⟩) (fun c4 => ?_) (fun c4 => ?_)
        · refine K_aload_n (dt_at dtX12_happens 58 rfl) rfl rfl ?_
          refine K_get (a := 0) (ci := 12) (k := 42) (v := vr 18) (dt_at dtX12_happens 59 rfl) (show TT 0 = (0, 12) from rfl) rfl (by decide) wF_X12_72 rfl ?_
          refine K_sipush (dt_at dtX12_happens 60 rfl) (by decide) ?_
          refine K_iload_n (dt_at dtX12_happens 61 rfl) rfl rfl ?_
          refine K_iadd (dt_at dtX12_happens 62 rfl) ?_
          refine K_aload_n (dt_at dtX12_happens 63 rfl) rfl rfl ?_
          refine K_bipush (dt_at dtX12_happens 64 rfl) (by decide) ?_
          refine K_callV (M' := mX12_draw) (a := 0) (ci := 12) (As := [vi 10]) (st := [vi (140 + (dvS (nxS (nxS s)) (sNp S : Int))), vr 18]) (dt_at dtX12_happens 65 rfl) (sX12_draw Gq4 (by rw [e55q4]) (by omega)) (show TT 0 = (0, 12) from rfl) rfl wL_X12_445 vX12_draw rfl npX12_draw (by decide) (by decide) (Nat.le_of_ble_eq_true rfl) (by decide) (by decide) GK_E (fun v9 hc5 hq => ?_) (fun E h9 hq => by cases hq.1)
          have hqq6 := hq
          obtain ⟨e9q6, Gq6, e55q6⟩ := hqq6
          have dvq6 := dvS_b (s := nxS (nxS (nxS s))) (n := 10) (by omega)
          cases e9q6
          show K mX12_happens _ _ 0 0 119 [(2, vi (dvS (nxS (nxS s)) (sNp S : Int))), (1, vi lot), (0, vr 0)] [vi (dvS (nxS (nxS (nxS s))) 10), vi (140 + (dvS (nxS (nxS s)) (sNp S : Int))), vr 18] hc5
          refine K_iast (dt_at dtX12_happens 66 rfl) (show TT 18 = (1, 154) from rfl) (by omega) (by omega) ?_
          obtain ⟨hu7, eu7⟩ : ∃ z, z = sA hc5 18 (140 + (dvS (nxS (nxS s)) (sNp S : Int))) (dvS (nxS (nxS (nxS s))) 10) := ⟨_, rfl⟩
          rw [← eu7]
          obtain ⟨au7, fu7, iu7, ru7⟩ := sA_fx eu7
          have Gu7 : MG h hu7 S f (upI r (15 + dvS (nxS (nxS s)) (sNp S : Int)) (dvS (nxS (nxS (nxS s))) 10)) := MG_up Gq6 (j := 15 + dvS (nxS (nxS s)) (sNp S : Int)) (by omega) (by omega) (by rw [pm_f (by omega)]; omega) eu7
          have e55u7 : hI hu7 0 55 = (nxS (nxS (nxS s))) := by rw [iu7]; exact e55q6
          have eb : bfF S r (nxS s) lot = ((upI r (15 + dvS (nxS (nxS s)) (sNp S : Int)) (dvS (nxS (nxS (nxS s))) 10)), (nxS (nxS (nxS s)))) := by unfold bfF; rw [if_neg (by omega), if_pos (by omega)]
          exact K_vret (dt_at dtX12_happens 67 rfl) rfl (by decide) (by decide) ⟨rfl, by rw [eb]; exact Gu7, by rw [eb, e55u7]⟩
        · refine K_aload_n (dt_at dtX12_happens 49 rfl) rfl rfl ?_
          refine K_bipush (dt_at dtX12_happens 50 rfl) (by decide) ?_
          refine K_iload_n (dt_at dtX12_happens 51 rfl) rfl rfl ?_
          refine K_aload_n (dt_at dtX12_happens 52 rfl) rfl rfl ?_
          refine K_aload_n (dt_at dtX12_happens 53 rfl) rfl rfl ?_
          refine K_get (a := 0) (ci := 12) (k := 2) (v := vi (sNp S : Int)) (dt_at dtX12_happens 54 rfl) (show TT 0 = (0, 12) from rfl) rfl (by decide) wF_X12_270 (by show vi (hI hc3 0 2) = vi (sNp S : Int); rw [(MD_np (MG_D0 Gq4))]) ?_
          refine K_callV (M' := mX12_draw) (a := 0) (ci := 12) (As := [vi (sNp S : Int)]) (st := [vi (dvS (nxS (nxS s)) (sNp S : Int)), vi 77, vr 0]) (dt_at dtX12_happens 55 rfl) (sX12_draw Gq4 (by rw [e55q4]) (by omega)) (show TT 0 = (0, 12) from rfl) rfl wL_X12_445 vX12_draw rfl npX12_draw (by decide) (by decide) (Nat.le_of_ble_eq_true rfl) (by decide) (by decide) GK_E (fun v9 hc8 hq => ?_) (fun E h9 hq => by cases hq.1)
          have hqq9 := hq
          obtain ⟨e9q9, Gq9, e55q9⟩ := hqq9
          have dvq9 := dvS_b (s := nxS (nxS (nxS s))) (n := (sNp S : Int)) (by omega)
          cases e9q9
          show K mX12_happens _ _ 0 0 98 [(2, vi (dvS (nxS (nxS s)) (sNp S : Int))), (1, vi lot), (0, vr 0)] [vi (dvS (nxS (nxS (nxS s))) (sNp S : Int)), vi (dvS (nxS (nxS s)) (sNp S : Int)), vi 77, vr 0] hc8
          refine K_callV (M' := mX12_swaps) (a := 0) (ci := 12) (As := [vi 77, vi (dvS (nxS (nxS s)) (sNp S : Int)), vi (dvS (nxS (nxS (nxS s))) (sNp S : Int))]) (st := []) (dt_at dtX12_happens 56 rfl) (sX12_swaps (MG_D7 Gq9) (by omega) (by omega)) (show TT 0 = (0, 12) from rfl) rfl wL_X12_393 vX12_swaps rfl npX12_swaps (by decide) (by decide) (Nat.le_of_ble_eq_true rfl) (by decide) (by decide) GK_E (fun v9 hc10 hq => ?_) (fun E h9 hq => by cases hq.1)
          have hqq11 := hq
          obtain ⟨e9q11, dq11, iq11⟩ := hqq11
          have Gq11 : MG h hc10 S f (swF r (dvS (nxS (nxS s)) (sNp S : Int)) (dvS (nxS (nxS (nxS s))) (sNp S : Int))) := MG_day Gq9 dq11
          have e55q11 : hI hc10 0 55 = (nxS (nxS (nxS s))) := by rw [iq11, e55q9]
          cases e9q11
          show K mX12_happens _ _ 0 0 101 [(2, vi (dvS (nxS (nxS s)) (sNp S : Int))), (1, vi lot), (0, vr 0)] [] hc10
          refine K_goto (tgt := 120) (dt_at dtX12_happens 57 rfl) (by decide) ?_
          have eb : bfF S r (nxS s) lot = ((swF r (dvS (nxS (nxS s)) (sNp S : Int)) (dvS (nxS (nxS (nxS s))) (sNp S : Int))), (nxS (nxS (nxS s)))) := by unfold bfF; rw [if_pos (by omega)]
          exact K_vret (dt_at dtX12_happens 67 rfl) rfl (by decide) (by decide) ⟨rfl, by rw [eb]; exact Gq11, by rw [eb, e55q11]⟩
      · have eb : bfF S r (nxS s) lot = (r, (nxS s)) := by unfold bfF; rw [if_neg (by omega), if_neg (by omega), if_neg (by omega)]
        exact K_vret (dt_at dtX12_happens 41 rfl) rfl (by decide) (by decide) ⟨rfl, by rw [eb]; exact Gq2, by rw [eb, e55q2]⟩
  · refine K_aload_n (dt_at dtX12_happens 7 rfl) rfl rfl ?_
    refine K_get (a := 0) (ci := 12) (k := 1) (v := vi (sNt S : Int)) (dt_at dtX12_happens 8 rfl) (show TT 0 = (0, 12) from rfl) rfl (by decide) wF_X12_267 (by show vi (hI hc1 0 1) = vi (sNt S : Int); rw [(MD_nt (MG_D0 Gq2))]) ?_
    refine K_if_le (tgt := 60) (dt_at dtX12_happens 9 rfl) (by decide) (by first | assumption | exact ⟨by omega, by omega⟩) (fun c5 => ?_) (fun c5 => ?_)
    · refine K_iload_n (dt_at dtX12_happens 35 rfl) rfl rfl ?_
      refine K_iconst (dt_at dtX12_happens 36 rfl) ?_
      refine K_icmp_gt (tgt := 72) (dt_at dtX12_happens 37 rfl) (by decide) (by first | assumption | exact ⟨by omega, by omega⟩) (by first | assumption | exact ⟨by omega, by omega⟩) (fun c6 => ?_) (fun c6 => ?_)
      · have eb : bfF S r (nxS s) lot = (r, (nxS s)) := by unfold bfF; rw [if_neg (by omega), if_neg (by omega), if_neg (by omega)]
        exact K_vret (dt_at dtX12_happens 41 rfl) rfl (by decide) (by decide) ⟨rfl, by rw [eb]; exact Gq2, by rw [eb, e55q2]⟩
      · refine K_aload_n (dt_at dtX12_happens 38 rfl) rfl rfl ?_
        refine K_get (a := 0) (ci := 12) (k := 2) (v := vi (sNp S : Int)) (dt_at dtX12_happens 39 rfl) (show TT 0 = (0, 12) from rfl) rfl (by decide) wF_X12_270 (by show vi (hI hc1 0 2) = vi (sNp S : Int); rw [(MD_np (MG_D0 Gq2))]) ?_
        refine K_if_ne (tgt := 73) (dt_at dtX12_happens 40 rfl) (by decide) (by first | assumption | exact ⟨by omega, by omega⟩) (fun c7 => ?_) (fun c7 => ?_)
        · refine K_aload_n (dt_at dtX12_happens 42 rfl) rfl rfl ?_
          refine K_aload_n (dt_at dtX12_happens 43 rfl) rfl rfl ?_
          refine K_get (a := 0) (ci := 12) (k := 2) (v := vi (sNp S : Int)) (dt_at dtX12_happens 44 rfl) (show TT 0 = (0, 12) from rfl) rfl (by decide) wF_X12_270 (by show vi (hI hc1 0 2) = vi (sNp S : Int); rw [(MD_np (MG_D0 Gq2))]) ?_
          refine K_callV (M' := mX12_draw) (a := 0) (ci := 12) (As := [vi (sNp S : Int)]) (st := []) (dt_at dtX12_happens 45 rfl) (sX12_draw Gq2 (by rw [e55q2]) (by omega)) (show TT 0 = (0, 12) from rfl) rfl wL_X12_445 vX12_draw rfl npX12_draw (by decide) (by decide) (Nat.le_of_ble_eq_true rfl) (by decide) (by decide) GK_E (fun v9 hc12 hq => ?_) (fun E h9 hq => by cases hq.1)
          have hqq13 := hq
          obtain ⟨e9q13, Gq13, e55q13⟩ := hqq13
          have dvq13 := dvS_b (s := nxS (nxS s)) (n := (sNp S : Int)) (by omega)
          cases e9q13
          show K mX12_happens _ _ 0 0 81 [(1, vi lot), (0, vr 0)] [vi (dvS (nxS (nxS s)) (sNp S : Int))] hc12
          refine K_istore_n (ls' := [(2, vi (dvS (nxS (nxS s)) (sNp S : Int))), (1, vi lot), (0, vr 0)]) (dt_at dtX12_happens 46 rfl) rfl (by decide) rfl ?_
          refine K_iload_n (dt_at dtX12_happens 47 rfl) rfl rfl ?_
          refine K_if_ne (tgt := 104) (dt_at dtX12_happens 48 rfl) (by decide) (by first | assumption | exact ⟨by omega, by omega⟩) (fun c8 => ?_) (fun c8 => ?_)
          · refine K_aload_n (dt_at dtX12_happens 58 rfl) rfl rfl ?_
            refine K_get (a := 0) (ci := 12) (k := 42) (v := vr 18) (dt_at dtX12_happens 59 rfl) (show TT 0 = (0, 12) from rfl) rfl (by decide) wF_X12_72 rfl ?_
            refine K_sipush (dt_at dtX12_happens 60 rfl) (by decide) ?_
            refine K_iload_n (dt_at dtX12_happens 61 rfl) rfl rfl ?_
            refine K_iadd (dt_at dtX12_happens 62 rfl) ?_
            refine K_aload_n (dt_at dtX12_happens 63 rfl) rfl rfl ?_
            refine K_bipush (dt_at dtX12_happens 64 rfl) (by decide) ?_
            refine K_callV (M' := mX12_draw) (a := 0) (ci := 12) (As := [vi 10]) (st := [vi (140 + (dvS (nxS (nxS s)) (sNp S : Int))), vr 18]) (dt_at dtX12_happens 65 rfl) (sX12_draw Gq13 (by rw [e55q13]) (by omega)) (show TT 0 = (0, 12) from rfl) rfl wL_X12_445 vX12_draw rfl npX12_draw (by decide) (by decide) (Nat.le_of_ble_eq_true rfl) (by decide) (by decide) GK_E (fun v9 hc14 hq => ?_) (fun E h9 hq => by cases hq.1)
            have hqq15 := hq
            obtain ⟨e9q15, Gq15, e55q15⟩ := hqq15
            have dvq15 := dvS_b (s := nxS (nxS (nxS s))) (n := 10) (by omega)
            cases e9q15
            show K mX12_happens _ _ 0 0 119 [(2, vi (dvS (nxS (nxS s)) (sNp S : Int))), (1, vi lot), (0, vr 0)] [vi (dvS (nxS (nxS (nxS s))) 10), vi (140 + (dvS (nxS (nxS s)) (sNp S : Int))), vr 18] hc14
            refine K_iast (dt_at dtX12_happens 66 rfl) (show TT 18 = (1, 154) from rfl) (by omega) (by omega) ?_
            obtain ⟨hu16, eu16⟩ : ∃ z, z = sA hc14 18 (140 + (dvS (nxS (nxS s)) (sNp S : Int))) (dvS (nxS (nxS (nxS s))) 10) := ⟨_, rfl⟩
            rw [← eu16]
            obtain ⟨au16, fu16, iu16, ru16⟩ := sA_fx eu16
            have Gu16 : MG h hu16 S f (upI r (15 + dvS (nxS (nxS s)) (sNp S : Int)) (dvS (nxS (nxS (nxS s))) 10)) := MG_up Gq15 (j := 15 + dvS (nxS (nxS s)) (sNp S : Int)) (by omega) (by omega) (by rw [pm_f (by omega)]; omega) eu16
            have e55u16 : hI hu16 0 55 = (nxS (nxS (nxS s))) := by rw [iu16]; exact e55q15
            have eb : bfF S r (nxS s) lot = ((upI r (15 + dvS (nxS (nxS s)) (sNp S : Int)) (dvS (nxS (nxS (nxS s))) 10)), (nxS (nxS (nxS s)))) := by unfold bfF; rw [if_neg (by omega), if_pos (by omega)]
            exact K_vret (dt_at dtX12_happens 67 rfl) rfl (by decide) (by decide) ⟨rfl, by rw [eb]; exact Gu16, by rw [eb, e55u16]⟩
          · refine K_aload_n (dt_at dtX12_happens 49 rfl) rfl rfl ?_
            refine K_bipush (dt_at dtX12_happens 50 rfl) (by decide) ?_
            refine K_iload_n (dt_at dtX12_happens 51 rfl) rfl rfl ?_
            refine K_aload_n (dt_at dtX12_happens 52 rfl) rfl rfl ?_
            refine K_aload_n (dt_at dtX12_happens 53 rfl) rfl rfl ?_
            refine K_get (a := 0) (ci := 12) (k := 2) (v := vi (sNp S : Int)) (dt_at dtX12_happens 54 rfl) (show TT 0 = (0, 12) from rfl) rfl (by decide) wF_X12_270 (by show vi (hI hc12 0 2) = vi (sNp S : Int); rw [(MD_np (MG_D0 Gq13))]) ?_
            refine K_callV (M' := mX12_draw) (a := 0) (ci := 12) (As := [vi (sNp S : Int)]) (st := [vi (dvS (nxS (nxS s)) (sNp S : Int)), vi 77, vr 0]) (dt_at dtX12_happens 55 rfl) (sX12_draw Gq13 (by rw [e55q13]) (by omega)) (show TT 0 = (0, 12) from rfl) rfl wL_X12_445 vX12_draw rfl npX12_draw (by decide) (by decide) (Nat.le_of_ble_eq_true rfl) (by decide) (by decide) GK_E (fun v9 hc17 hq => ?_) (fun E h9 hq => by cases hq.1)
            have hqq18 := hq
            obtain ⟨e9q18, Gq18, e55q18⟩ := hqq18
            have dvq18 := dvS_b (s := nxS (nxS (nxS s))) (n := (sNp S : Int)) (by omega)
            cases e9q18
            show K mX12_happens _ _ 0 0 98 [(2, vi (dvS (nxS (nxS s)) (sNp S : Int))), (1, vi lot), (0, vr 0)] [vi (dvS (nxS (nxS (nxS s))) (sNp S : Int)), vi (dvS (nxS (nxS s)) (sNp S : Int)), vi 77, vr 0] hc17
            refine K_callV (M' := mX12_swaps) (a := 0) (ci := 12) (As := [vi 77, vi (dvS (nxS (nxS s)) (sNp S : Int)), vi (dvS (nxS (nxS (nxS s))) (sNp S : Int))]) (st := []) (dt_at dtX12_happens 56 rfl) (sX12_swaps (MG_D7 Gq18) (by omega) (by omega)) (show TT 0 = (0, 12) from rfl) rfl wL_X12_393 vX12_swaps rfl npX12_swaps (by decide) (by decide) (Nat.le_of_ble_eq_true rfl) (by decide) (by decide) GK_E (fun v9 hc19 hq => ?_) (fun E h9 hq => by cases hq.1)
            have hqq20 := hq
            obtain ⟨e9q20, dq20, iq20⟩ := hqq20
            have Gq20 : MG h hc19 S f (swF r (dvS (nxS (nxS s)) (sNp S : Int)) (dvS (nxS (nxS (nxS s))) (sNp S : Int))) := MG_day Gq18 dq20
            have e55q20 : hI hc19 0 55 = (nxS (nxS (nxS s))) := by rw [iq20, e55q18]
            cases e9q20
            show K mX12_happens _ _ 0 0 101 [(2, vi (dvS (nxS (nxS s)) (sNp S : Int))), (1, vi lot), (0, vr 0)] [] hc19
            refine K_goto (tgt := 120) (dt_at dtX12_happens 57 rfl) (by decide) ?_
            have eb : bfF S r (nxS s) lot = ((swF r (dvS (nxS (nxS s)) (sNp S : Int)) (dvS (nxS (nxS (nxS s))) (sNp S : Int))), (nxS (nxS (nxS s)))) := by unfold bfF; rw [if_pos (by omega)]
            exact K_vret (dt_at dtX12_happens 67 rfl) rfl (by decide) (by decide) ⟨rfl, by rw [eb]; exact Gq20, by rw [eb, e55q20]⟩
        · have eb : bfF S r (nxS s) lot = (r, (nxS s)) := by unfold bfF; rw [if_neg (by omega), if_neg (by omega), if_neg (by omega)]
          exact K_vret (dt_at dtX12_happens 41 rfl) rfl (by decide) (by decide) ⟨rfl, by rw [eb]; exact Gq2, by rw [eb, e55q2]⟩
    · refine K_aload_n (dt_at dtX12_happens 10 rfl) rfl rfl ?_
      refine K_aload_n (dt_at dtX12_happens 11 rfl) rfl rfl ?_
      refine K_get (a := 0) (ci := 12) (k := 1) (v := vi (sNt S : Int)) (dt_at dtX12_happens 12 rfl) (show TT 0 = (0, 12) from rfl) rfl (by decide) wF_X12_267 (by show vi (hI hc1 0 1) = vi (sNt S : Int); rw [(MD_nt (MG_D0 Gq2))]) ?_
      refine K_callV (M' := mX12_draw) (a := 0) (ci := 12) (As := [vi (sNt S : Int)]) (st := []) (dt_at dtX12_happens 13 rfl) (sX12_draw Gq2 (by rw [e55q2]) (by omega)) (show TT 0 = (0, 12) from rfl) rfl wL_X12_445 vX12_draw rfl npX12_draw (by decide) (by decide) (Nat.le_of_ble_eq_true rfl) (by decide) (by decide) GK_E (fun v9 hc21 hq => ?_) (fun E h9 hq => by cases hq.1)
      have hqq22 := hq
      obtain ⟨e9q22, Gq22, e55q22⟩ := hqq22
      have dvq22 := dvS_b (s := nxS (nxS s)) (n := (sNt S : Int)) (by omega)
      have wtq22 := ws (dvS (nxS (nxS s)) (sNt S : Int)) (by omega) (by omega)
      cases e9q22
      show K mX12_happens _ _ 0 0 26 [(1, vi lot), (0, vr 0)] [vi (dvS (nxS (nxS s)) (sNt S : Int))] hc21
      refine K_istore_n (ls' := [(2, vi (dvS (nxS (nxS s)) (sNt S : Int))), (1, vi lot), (0, vr 0)]) (dt_at dtX12_happens 14 rfl) rfl (by decide) rfl ?_
      refine K_aload_n (dt_at dtX12_happens 15 rfl) rfl rfl ?_
      refine K_get (a := 0) (ci := 12) (k := 42) (v := vr 18) (dt_at dtX12_happens 16 rfl) (show TT 0 = (0, 12) from rfl) rfl (by decide) wF_X12_72 rfl ?_
      refine K_sipush (dt_at dtX12_happens 17 rfl) (by decide) ?_
      refine K_iload_n (dt_at dtX12_happens 18 rfl) rfl rfl ?_
      refine K_iadd (dt_at dtX12_happens 19 rfl) ?_
      refine K_dup2 (dt_at dtX12_happens 20 rfl) rfl rfl ?_
      refine K_iald (dt_at dtX12_happens 21 rfl) (show TT 18 = (1, 154) from rfl) (by omega) (by omega) ?_
      rw [show hA hc21 18 (134 + (dvS (nxS (nxS s)) (sNt S : Int))) = (r (29 + dvS (nxS (nxS s)) (sNt S : Int))) from RV_s (MG_D7 Gq22).2.2.2 (p := dvS (nxS (nxS s)) (sNt S : Int)) (by omega) (by omega)]
      refine K_aload_n (dt_at dtX12_happens 22 rfl) rfl rfl ?_
      refine K_get (a := 0) (ci := 12) (k := 42) (v := vr 18) (dt_at dtX12_happens 23 rfl) (show TT 0 = (0, 12) from rfl) rfl (by decide) wF_X12_72 rfl ?_
      refine K_sipush (dt_at dtX12_happens 24 rfl) (by decide) ?_
      refine K_iload_n (dt_at dtX12_happens 25 rfl) rfl rfl ?_
      refine K_iadd (dt_at dtX12_happens 26 rfl) ?_
      refine K_iald (dt_at dtX12_happens 27 rfl) (show TT 18 = (1, 154) from rfl) (by omega) (by omega) ?_
      rw [show hA hc21 18 (134 + (dvS (nxS (nxS s)) (sNt S : Int))) = (r (29 + dvS (nxS (nxS s)) (sNt S : Int))) from RV_s (MG_D7 Gq22).2.2.2 (p := dvS (nxS (nxS s)) (sNt S : Int)) (by omega) (by omega)]
      refine K_bipush (dt_at dtX12_happens 28 rfl) (by decide) ?_
      refine K_icmp_ge (tgt := 57) (dt_at dtX12_happens 29 rfl) (by decide) (by first | assumption | exact ⟨by omega, by omega⟩) (by first | assumption | exact ⟨by omega, by omega⟩) (fun c9 => ?_) (fun c9 => ?_)
      · refine K_iconst (dt_at dtX12_happens 32 rfl) ?_
        refine K_iadd (dt_at dtX12_happens 33 rfl) ?_
        refine K_iast (dt_at dtX12_happens 34 rfl) (show TT 18 = (1, 154) from rfl) (by omega) (by omega) ?_
        obtain ⟨hu23, eu23⟩ : ∃ z, z = sA hc21 18 (134 + (dvS (nxS (nxS s)) (sNt S : Int))) ((r (29 + dvS (nxS (nxS s)) (sNt S : Int))) + 0) := ⟨_, rfl⟩
        rw [← eu23]
        obtain ⟨au23, fu23, iu23, ru23⟩ := sA_fx eu23
        have Gu23 : MG h hu23 S f (upI r (29 + dvS (nxS (nxS s)) (sNt S : Int)) ((r (29 + dvS (nxS (nxS s)) (sNt S : Int))) + 0)) := MG_up Gq22 (j := 29 + dvS (nxS (nxS s)) (sNt S : Int)) (by omega) (by omega) (by rw [pm_s (by omega)]; omega) eu23
        have e55u23 : hI hu23 0 55 = (nxS (nxS s)) := by rw [iu23]; exact e55q22
        refine K_iload_n (dt_at dtX12_happens 35 rfl) rfl rfl ?_
        refine K_iconst (dt_at dtX12_happens 36 rfl) ?_
        refine K_icmp_gt (tgt := 72) (dt_at dtX12_happens 37 rfl) (by decide) (by first | assumption | exact ⟨by omega, by omega⟩) (by first | assumption | exact ⟨by omega, by omega⟩) (fun c10 => ?_) (fun c10 => absurd c10 (by omega))
        have Gz : MG h hu23 S f r := by have z := Gu23; rw [show (upI r (29 + dvS (nxS (nxS s)) (sNt S : Int)) ((r (29 + dvS (nxS (nxS s)) (sNt S : Int))) + 0)) = r by rw [Int.add_zero]; exact upI_id _ _] at z; exact z
        have eb : bfF S r (nxS s) lot = (r, (nxS (nxS s))) := by unfold bfF; rw [if_neg (by omega), if_neg (by omega), if_pos (by omega), if_neg (by omega)]
        exact K_vret (dt_at dtX12_happens 41 rfl) rfl (by decide) (by decide) ⟨rfl, by rw [eb]; exact Gz, by rw [eb, e55u23]⟩
      · refine K_iconst (dt_at dtX12_happens 30 rfl) ?_
        refine K_goto (tgt := 58) (dt_at dtX12_happens 31 rfl) (by decide) ?_
        refine K_iadd (dt_at dtX12_happens 33 rfl) ?_
        refine K_iast (dt_at dtX12_happens 34 rfl) (show TT 18 = (1, 154) from rfl) (by omega) (by omega) ?_
        obtain ⟨hu24, eu24⟩ : ∃ z, z = sA hc21 18 (134 + (dvS (nxS (nxS s)) (sNt S : Int))) ((r (29 + dvS (nxS (nxS s)) (sNt S : Int))) + 1) := ⟨_, rfl⟩
        rw [← eu24]
        obtain ⟨au24, fu24, iu24, ru24⟩ := sA_fx eu24
        have Gu24 : MG h hu24 S f (upI r (29 + dvS (nxS (nxS s)) (sNt S : Int)) ((r (29 + dvS (nxS (nxS s)) (sNt S : Int))) + 1)) := MG_up Gq22 (j := 29 + dvS (nxS (nxS s)) (sNt S : Int)) (by omega) (by omega) (by rw [pm_s (by omega)]; omega) eu24
        have e55u24 : hI hu24 0 55 = (nxS (nxS s)) := by rw [iu24]; exact e55q22
        refine K_iload_n (dt_at dtX12_happens 35 rfl) rfl rfl ?_
        refine K_iconst (dt_at dtX12_happens 36 rfl) ?_
        refine K_icmp_gt (tgt := 72) (dt_at dtX12_happens 37 rfl) (by decide) (by first | assumption | exact ⟨by omega, by omega⟩) (by first | assumption | exact ⟨by omega, by omega⟩) (fun c11 => ?_) (fun c11 => absurd c11 (by omega))
        have eb : bfF S r (nxS s) lot = ((upI r (29 + dvS (nxS (nxS s)) (sNt S : Int)) ((r (29 + dvS (nxS (nxS s)) (sNt S : Int))) + 1)), (nxS (nxS s))) := by unfold bfF; rw [if_neg (by omega), if_neg (by omega), if_pos (by omega), if_pos (by omega)]
        exact K_vret (dt_at dtX12_happens 41 rfl) rfl (by decide) (by decide) ⟨rfl, by rw [eb]; exact Gu24, by rw [eb, e55u24]⟩
def mX12_years : MI := (yX12_years, cX12_years, 7, (some .int), rmK 7 0)
def tX12_years : List (Nat × Instr × Nat) := [(0, .aload_n 0, 1), (1, .iconst 0, 1), (2, .putfield 105, 3), (5, .aload_n 0, 1), (6, .iload_n 3, 1), (7, .iconst 2, 1), (8, .invokevirtual 371, 3), (11, .ifCond .eq 13, 3), (14, .aload_n 0, 1), (15, .iload_n 2, 1), (16, .iconst 0, 1), (17, .iconst 2, 1), (18, .invokevirtual 403, 3), (21, .ifCond .ne 5, 3), (24, .iconst 0, 1), (25, .ireturn, 1), (26, .aload_n 0, 1), (27, .invokevirtual 397, 3), (30, .aload_n 0, 1), (31, .iload_n 1, 1), (32, .putfield 441, 3), (35, .iconst 0, 1), (36, .istore 4, 2), (38, .iconst 0, 1), (39, .istore 5, 2), (41, .iload 5, 2), (43, .iload_n 2, 1), (44, .if_icmp .ge 31, 3), (47, .aload_n 0, 1), (48, .invokevirtual 448, 3), (51, .aload_n 0, 1), (52, .bipush 77, 2), (54, .invokevirtual 334, 3), (57, .iload 4, 2), (59, .aload_n 0, 1), (60, .getfield 313, 3), (63, .invokestatic 340, 3), (66, .iadd, 1), (67, .istore 4, 2), (69, .iinc 5 1, 3), (72, .goto (-31), 3), (75, .iconst 0, 1), (76, .istore 5, 2), (78, .iconst 0, 1), (79, .istore 6, 2), (81, .iload 6, 2), (83, .aload_n 0, 1), (84, .getfield 270, 3), (87, .if_icmp .ge 25, 3), (90, .iload 5, 2), (92, .aload_n 0, 1), (93, .getfield 72, 3), (96, .sipush 140, 3), (99, .iload 6, 2), (101, .iadd, 1), (102, .iaload, 1), (103, .iadd, 1), (104, .istore 5, 2), (106, .iinc 6 1, 3), (109, .goto (-28), 3), (112, .iload_n 3, 1), (113, .ifCond .ne 8, 3), (116, .iload 4, 2), (118, .goto 19, 3), (121, .iload_n 3, 1), (122, .iconst 1, 1), (123, .if_icmp .ne 8, 3), (126, .iload 5, 2), (128, .goto 9, 3), (131, .aload_n 0, 1), (132, .bipush 77, 2), (134, .invokevirtual 353, 3), (137, .ireturn, 1)]
theorem dtX12_years : tX12_years.all (fun q => decide (decode cX12_years q.1 = .ok (q.2.1, q.2.2))) = true := by decide +kernel
theorem npX12_years : (parseMethodDescriptor (mY mX12_years).desc).map (fun d => d.parameters.length) = some 3 := by decide +kernel
theorem vX12_years : mV mX12_years := ⟨wI_X12_years, wS_X12_years, wN_X12, wC_X12_years, by decide +kernel, by decide +kernel⟩
set_option maxHeartbeats 4000000 in
set_option maxRecDepth 100000 in
theorem sX12_years_x1 {h : HP} {S : HS} {f : Int → Int} {s d w : Int} (Q0 : MAsk h S f) (hs_ : i32 s) (hd_ : i32 d) (hw_ : i32 w) (kn : ¬ (0 ≤ w ∧ w ≤ 2)) : SpecK mX12_years [vr 0, vi s, vi d, vi w] h (fun o h' => o = .inl (some (vi 0)) ∧ FQ h h' ∧ hI h' 0 0 = 1) := by
  refine Spec_of (by decide +kernel) (Nat.le_of_ble_eq_true rfl) ?_
  have hB := Q0.1.1
  have hNt := hB.1
  have hNp := hB.2.1
  have R := Q0.2.2.2.2
  have hT := R.1
  have hW := hT.1
  refine K_aload_n (dt_at dtX12_years 0 rfl) rfl rfl ?_
  refine K_iconst (dt_at dtX12_years 1 rfl) ?_
  refine K_putI (a := 0) (ci := 12) (k := 0) (dt_at dtX12_years 2 rfl) (show TT 0 = (0, 12) from rfl) rfl (by decide) wF_X12_105 rfl (Or.inl rfl) rfl rfl ?_
  obtain ⟨hu1, eu1⟩ : ∃ z, z = sI h 0 0 0 := ⟨_, rfl⟩
  rw [← eu1]
  obtain ⟨iu1, fu1, au1, ru1⟩ := sI_fx eu1
  have Gu1 := MG_0 Q0 eu1
  refine K_aload_n (dt_at dtX12_years 3 rfl) rfl rfl ?_
  refine K_iload_n (dt_at dtX12_years 4 rfl) rfl rfl ?_
  refine K_iconst (dt_at dtX12_years 5 rfl) ?_
  refine K_callV (M' := mX12_isWhat) (a := 0) (ci := 12) (As := [vi w, vi 2]) (st := []) (dt_at dtX12_years 6 rfl) (sX12_isWhat_f Gu1.2.2.2 (by decide) (by assumption) (by omega)) (show TT 0 = (0, 12) from rfl) rfl wL_X12_371 vX12_isWhat rfl npX12_isWhat (by decide) (by decide) (Nat.le_of_ble_eq_true rfl) (by decide) (by decide) GK_E (fun v9 hc2 hq => ?_) (fun E h9 hq => by cases hq.1)
  have hqq3 := hq
  obtain ⟨e9q3, e8q3⟩ := hqq3
  obtain ⟨iq3, fq3, aq3, rq3⟩ := sI_fx e8q3
  have Bq3 : FQ h hc2 := FQ_tr Gu1.2.1 (FQ_I e8q3 rfl Gu1.2.1.2.2.2.2)
  cases e9q3
  show K mX12_years _ _ 0 0 11 [(0, vr 0), (1, vi s), (2, vi d), (3, vi w)] [vi 0] hc2
  refine K_if_eq (tgt := 24) (dt_at dtX12_years 7 rfl) (by decide) (by first | assumption | exact ⟨by omega, by omega⟩) (fun c1 => ?_) (fun c1 => absurd c1 (by omega))
  refine K_iconst (dt_at dtX12_years 14 rfl) ?_
  exact K_iret (dt_at dtX12_years 15 rfl) rfl rfl (by decide) (by decide) ⟨rfl, Bq3, iq3⟩
set_option maxHeartbeats 4000000 in
set_option maxRecDepth 100000 in
theorem sX12_years_x2 {h : HP} {S : HS} {f : Int → Int} {s d w : Int} (Q0 : MAsk h S f) (hs_ : i32 s) (hd_ : i32 d) (hw_ : i32 w) (k0 : 0 ≤ w ∧ w ≤ 2) (kn : ¬ (0 ≤ d ∧ d ≤ 100)) : SpecK mX12_years [vr 0, vi s, vi d, vi w] h (fun o h' => o = .inl (some (vi 0)) ∧ FQ h h' ∧ hI h' 0 0 = 2) := by
  refine Spec_of (by decide +kernel) (Nat.le_of_ble_eq_true rfl) ?_
  have hB := Q0.1.1
  have hNt := hB.1
  have hNp := hB.2.1
  have R := Q0.2.2.2.2
  have hT := R.1
  have hW := hT.1
  refine K_aload_n (dt_at dtX12_years 0 rfl) rfl rfl ?_
  refine K_iconst (dt_at dtX12_years 1 rfl) ?_
  refine K_putI (a := 0) (ci := 12) (k := 0) (dt_at dtX12_years 2 rfl) (show TT 0 = (0, 12) from rfl) rfl (by decide) wF_X12_105 rfl (Or.inl rfl) rfl rfl ?_
  obtain ⟨hu1, eu1⟩ : ∃ z, z = sI h 0 0 0 := ⟨_, rfl⟩
  rw [← eu1]
  obtain ⟨iu1, fu1, au1, ru1⟩ := sI_fx eu1
  have Gu1 := MG_0 Q0 eu1
  refine K_aload_n (dt_at dtX12_years 3 rfl) rfl rfl ?_
  refine K_iload_n (dt_at dtX12_years 4 rfl) rfl rfl ?_
  refine K_iconst (dt_at dtX12_years 5 rfl) ?_
  refine K_callV (M' := mX12_isWhat) (a := 0) (ci := 12) (As := [vi w, vi 2]) (st := []) (dt_at dtX12_years 6 rfl) (sX12_isWhat_t Gu1.2.2.2 (by omega) (by omega)) (show TT 0 = (0, 12) from rfl) rfl wL_X12_371 vX12_isWhat rfl npX12_isWhat (by decide) (by decide) (Nat.le_of_ble_eq_true rfl) (by decide) (by decide) GK_E (fun v9 h9 hq => ?_) (fun E h9 hq => by cases hq.1)
  obtain ⟨e9, e8⟩ := hq
  cases e9
  rw [e8]
  show K mX12_years _ _ 0 0 11 [(0, vr 0), (1, vi s), (2, vi d), (3, vi w)] [vi 1] hu1
  refine K_if_eq (tgt := 24) (dt_at dtX12_years 7 rfl) (by decide) (by first | assumption | exact ⟨by omega, by omega⟩) (fun c1 => absurd c1 (by omega)) (fun c1 => ?_)
  refine K_aload_n (dt_at dtX12_years 8 rfl) rfl rfl ?_
  refine K_iload_n (dt_at dtX12_years 9 rfl) rfl rfl ?_
  refine K_iconst (dt_at dtX12_years 10 rfl) ?_
  refine K_iconst (dt_at dtX12_years 11 rfl) ?_
  refine K_callV (M' := mX12_isSoon) (a := 0) (ci := 12) (As := [vi d, vi 0, vi 2]) (st := []) (dt_at dtX12_years 12 rfl) (sX12_isSoon_f Gu1.2.2.2 (by decide) (by assumption) (by omega) (by decide)) (show TT 0 = (0, 12) from rfl) rfl wL_X12_403 vX12_isSoon rfl npX12_isSoon (by decide) (by decide) (Nat.le_of_ble_eq_true rfl) (by decide) (by decide) GK_E (fun v9 hc2 hq => ?_) (fun E h9 hq => by cases hq.1)
  have hqq3 := hq
  obtain ⟨e9q3, e8q3⟩ := hqq3
  obtain ⟨iq3, fq3, aq3, rq3⟩ := sI_fx e8q3
  have Bq3 : FQ h hc2 := FQ_tr Gu1.2.1 (FQ_I e8q3 rfl Gu1.2.1.2.2.2.2)
  cases e9q3
  show K mX12_years _ _ 0 0 21 [(0, vr 0), (1, vi s), (2, vi d), (3, vi w)] [vi 0] hc2
  refine K_if_ne (tgt := 26) (dt_at dtX12_years 13 rfl) (by decide) (by first | assumption | exact ⟨by omega, by omega⟩) (fun c2 => absurd c2 (by omega)) (fun c2 => ?_)
  refine K_iconst (dt_at dtX12_years 14 rfl) ?_
  exact K_iret (dt_at dtX12_years 15 rfl) rfl rfl (by decide) (by decide) ⟨rfl, Bq3, iq3⟩
set_option maxHeartbeats 4000000 in
set_option maxRecDepth 100000 in
theorem lf_X12_years_0 {h hh : HP} {S : HS} {f : Int → Int} {s mn : Int} {n : Nat} (Q0 : MAsk h S f) (hn : n ≤ 100) (G : MG h hh S f ((yrN S f s n).1)) (em : mn = (itN (fun j v => v + ytN S f s n (j : Int)) 0 7)) : ∀ (dd k : Nat), k + dd = sNp S → K mX12_years GK (ZK (fun o h' => o = .inl (some (vi (itN (fun j v => v + ytN S f s n (j : Int)) 0 7))) ∧ FQ h h' ∧ hI h' 0 0 = 0) 0 0) 0 0 81 [(6, vi (k : Int)), (5, vi (itN (fun k v => v + (((yrN S f s n).1) (15 + (k : Int)))) 0 k)), (4, vi mn), (0, vr 0), (1, vi s), (2, vi (n : Int)), (3, vi 0)] [] hh := by
  intro dd
  induction dd with
  | zero =>
    intro k hk
    have hB := Q0.1.1
    have hNt := hB.1
    have hNp := hB.2.1
    have R := Q0.2.2.2.2
    have hT := R.1
    have hW := hT.1
    have d9 := R.2.2.1
    obtain ⟨a1, a2, a3⟩ := yrN_ok (s := s) hB hT R.2.1 n (by omega) (by omega)
    have ek : k = sNp S := by omega
    refine K_iload (dt_at dtX12_years 45 rfl) rfl ?_
    refine K_aload_n (dt_at dtX12_years 46 rfl) rfl rfl ?_
    refine K_get (a := 0) (ci := 12) (k := 2) (v := vi (sNp S : Int)) (dt_at dtX12_years 47 rfl) (show TT 0 = (0, 12) from rfl) rfl (by decide) wF_X12_270 (by show vi (hI hh 0 2) = vi (sNp S : Int); rw [(MD_np (MG_D0 G))]) ?_
    refine K_icmp_ge (tgt := 112) (dt_at dtX12_years 48 rfl) (by decide) (by first | assumption | exact ⟨by omega, by omega⟩) (by first | assumption | exact ⟨by omega, by omega⟩) (fun c1 => ?_) (fun c1 => absurd c1 (by omega))
    refine K_iload_n (dt_at dtX12_years 60 rfl) rfl rfl ?_
    refine K_if_ne (tgt := 121) (dt_at dtX12_years 61 rfl) (by decide) (by first | assumption | exact ⟨by omega, by omega⟩) (fun c2 => absurd c2 (by omega)) (fun c2 => ?_)
    refine K_iload (dt_at dtX12_years 62 rfl) rfl ?_
    refine K_goto (tgt := 137) (dt_at dtX12_years 63 rfl) (by decide) ?_
    exact K_iret (dt_at dtX12_years 72 rfl) rfl rfl (by decide) (by decide) ⟨by rw [em], G.2.1, G.2.2.2⟩
  | succ dd ih =>
    intro k hk
    have hB := Q0.1.1
    have hNt := hB.1
    have hNp := hB.2.1
    have R := Q0.2.2.2.2
    have hT := R.1
    have hW := hT.1
    have d9 := R.2.2.1
    obtain ⟨a1, a2, a3⟩ := yrN_ok (s := s) hB hT R.2.1 n (by omega) (by omega)
    refine K_iload (dt_at dtX12_years 45 rfl) rfl ?_
    refine K_aload_n (dt_at dtX12_years 46 rfl) rfl rfl ?_
    refine K_get (a := 0) (ci := 12) (k := 2) (v := vi (sNp S : Int)) (dt_at dtX12_years 47 rfl) (show TT 0 = (0, 12) from rfl) rfl (by decide) wF_X12_270 (by show vi (hI hh 0 2) = vi (sNp S : Int); rw [(MD_np (MG_D0 G))]) ?_
    refine K_icmp_ge (tgt := 112) (dt_at dtX12_years 48 rfl) (by decide) (by first | assumption | exact ⟨by omega, by omega⟩) (by first | assumption | exact ⟨by omega, by omega⟩) (fun c1 => absurd c1 (by omega)) (fun c1 => ?_)
    refine K_iload (dt_at dtX12_years 49 rfl) rfl ?_
    refine K_aload_n (dt_at dtX12_years 50 rfl) rfl rfl ?_
    refine K_get (a := 0) (ci := 12) (k := 42) (v := vr 18) (dt_at dtX12_years 51 rfl) (show TT 0 = (0, 12) from rfl) rfl (by decide) wF_X12_72 rfl ?_
    refine K_sipush (dt_at dtX12_years 52 rfl) (by decide) ?_
    refine K_iload (dt_at dtX12_years 53 rfl) rfl ?_
    refine K_iadd (dt_at dtX12_years 54 rfl) ?_
    refine K_iald (dt_at dtX12_years 55 rfl) (show TT 18 = (1, 154) from rfl) (by omega) (by omega) ?_
    rw [show hA hh 18 (140 + (k : Int)) = (((yrN S f s n).1) (15 + (k : Int))) from RV_f (MG_D7 G).2.2.2 (p := (k : Int)) (by omega) (by omega)]
    refine K_iadd (dt_at dtX12_years 56 rfl) ?_
    refine K_istore (ls' := [(5, vi ((itN (fun k v => v + (((yrN S f s n).1) (15 + (k : Int)))) 0 k) + (((yrN S f s n).1) (15 + (k : Int))))), (6, vi (k : Int)), (4, vi mn), (0, vr 0), (1, vi s), (2, vi (n : Int)), (3, vi 0)]) (dt_at dtX12_years 57 rfl) (by decide) rfl ?_
    refine K_iinc (ls' := [(6, vi ((k : Int) + 1)), (5, vi ((itN (fun k v => v + (((yrN S f s n).1) (15 + (k : Int)))) 0 k) + (((yrN S f s n).1) (15 + (k : Int))))), (4, vi mn), (0, vr 0), (1, vi s), (2, vi (n : Int)), (3, vi 0)]) (dt_at dtX12_years 58 rfl) rfl (by decide) rfl ?_
    refine K_goto (tgt := 81) (dt_at dtX12_years 59 rfl) (by decide) ?_
    refine K_pk [0, 1, 2, 3, 4, 5, 6] (ls' := [(6, vi ((k : Int) + 1)), (5, vi ((itN (fun k v => v + (((yrN S f s n).1) (15 + (k : Int)))) 0 k) + (((yrN S f s n).1) (15 + (k : Int))))), (4, vi mn), (0, vr 0), (1, vi s), (2, vi (n : Int)), (3, vi 0)]) rfl ?_
    exact K_cg (ls' := [(6, vi ((k + 1 : Nat) : Int)), (5, vi (itN (fun k v => v + (((yrN S f s n).1) (15 + (k : Int)))) 0 (k + 1))), (4, vi mn), (0, vr 0), (1, vi s), (2, vi (n : Int)), (3, vi 0)]) (h' := hh) (by rfl) (by rfl) (ih (k + 1) (by omega))
set_option maxHeartbeats 4000000 in
set_option maxRecDepth 100000 in
theorem lp_X12_years_0 {h : HP} {S : HS} {f : Int → Int} {s : Int} {n : Nat} (Q0 : MAsk h S f) (hn : n ≤ 100) : ∀ (dd k : Nat) (hh : HP), k + dd = n → MG h hh S f ((yrN S f s k).1) → hI hh 0 55 = ((yrN S f s k).2) → K mX12_years GK (ZK (fun o h' => o = .inl (some (vi (itN (fun j v => v + ytN S f s n (j : Int)) 0 7))) ∧ FQ h h' ∧ hI h' 0 0 = 0) 0 0) 0 0 41 [(5, vi (k : Int)), (4, vi (itN (fun j v => v + ytN S f s k (j : Int)) 0 7)), (0, vr 0), (1, vi s), (2, vi (n : Int)), (3, vi 0)] [] hh := by
  intro dd
  induction dd with
  | zero =>
    intro k hh hk G e55
    have hB := Q0.1.1
    have hNt := hB.1
    have hNp := hB.2.1
    have R := Q0.2.2.2.2
    have hT := R.1
    have hW := hT.1
    have ek : k = n := by omega
    rw [ek] at G
    refine K_iload (dt_at dtX12_years 25 rfl) rfl ?_
    refine K_iload_n (dt_at dtX12_years 26 rfl) rfl rfl ?_
    refine K_icmp_ge (tgt := 75) (dt_at dtX12_years 27 rfl) (by decide) (by first | assumption | exact ⟨by omega, by omega⟩) (by first | assumption | exact ⟨by omega, by omega⟩) (fun c1 => ?_) (fun c1 => absurd c1 (by omega))
    refine K_iconst (dt_at dtX12_years 41 rfl) ?_
    refine K_istore (ls' := [(5, vi 0), (4, vi (itN (fun j v => v + ytN S f s k (j : Int)) 0 7)), (0, vr 0), (1, vi s), (2, vi (n : Int)), (3, vi 0)]) (dt_at dtX12_years 42 rfl) (by decide) rfl ?_
    refine K_iconst (dt_at dtX12_years 43 rfl) ?_
    refine K_istore (ls' := [(6, vi 0), (5, vi 0), (4, vi (itN (fun j v => v + ytN S f s k (j : Int)) 0 7)), (0, vr 0), (1, vi s), (2, vi (n : Int)), (3, vi 0)]) (dt_at dtX12_years 44 rfl) (by decide) rfl ?_
    exact K_pk [0, 1, 2, 3, 4, 5, 6] rfl (lf_X12_years_0 Q0 hn G (by rw [ek]) (sNp S) 0 (by omega))
  | succ dd ih =>
    intro k hh hk G e55
    have hB := Q0.1.1
    have hNt := hB.1
    have hNp := hB.2.1
    have R := Q0.2.2.2.2
    have hT := R.1
    have hW := hT.1
    have d9 := R.2.2.1
    obtain ⟨a1, a2, a3⟩ := yrN_ok (s := s) hB hT R.2.1 k (by omega) (by omega)
    obtain ⟨b1, b2, b3⟩ := bfF_ok (s := nxS ((yrN S f s k).2)) (lot := dvS (nxS ((yrN S f s k).2)) 5) hB a1 a2 (by omega)
    obtain ⟨w1, w2⟩ := yr_R (s := s) hB R k (by omega)
    obtain ⟨w3, w4⟩ := bf_R (s := nxS ((yrN S f s k).2)) (lot := dvS (nxS ((yrN S f s k).2)) 5) hB w1 w2
    refine K_iload (dt_at dtX12_years 25 rfl) rfl ?_
    refine K_iload_n (dt_at dtX12_years 26 rfl) rfl rfl ?_
    refine K_icmp_ge (tgt := 75) (dt_at dtX12_years 27 rfl) (by decide) (by first | assumption | exact ⟨by omega, by omega⟩) (by first | assumption | exact ⟨by omega, by omega⟩) (fun c1 => absurd c1 (by omega)) (fun c1 => ?_)
    refine K_aload_n (dt_at dtX12_years 28 rfl) rfl rfl ?_
    refine K_callV (M' := mX12_happens) (a := 0) (ci := 12) (As := []) (st := []) (dt_at dtX12_years 29 rfl) (sX12_happens hB G a1 (by rw [e55])) (show TT 0 = (0, 12) from rfl) rfl wL_X12_448 vX12_happens rfl npX12_happens (by decide) (by decide) (Nat.le_of_ble_eq_true rfl) (by decide) (by decide) GK_E (fun v9 hc1 hq => ?_) (fun E h9 hq => by cases hq.1)
    have hqq2 := hq
    obtain ⟨e9q2, Gq2, e55q2⟩ := hqq2
    cases e9q2
    show K mX12_years _ _ 0 0 51 [(5, vi (k : Int)), (4, vi (itN (fun j v => v + ytN S f s k (j : Int)) 0 7)), (0, vr 0), (1, vi s), (2, vi (n : Int)), (3, vi 0)] [] hc1
    refine K_aload_n (dt_at dtX12_years 30 rfl) rfl rfl ?_
    refine K_bipush (dt_at dtX12_years 31 rfl) (by decide) ?_
    refine K_callV (M' := mX12_dayGoes) (a := 0) (ci := 12) (As := [vi 77]) (st := []) (dt_at dtX12_years 32 rfl) (sX12_dayGoes (MG_D7 Gq2) b1 b2 w3 w4 (MG_49 Gq2)) (show TT 0 = (0, 12) from rfl) rfl wL_X12_334 vX12_dayGoes rfl npX12_dayGoes (by decide) (by decide) (Nat.le_of_ble_eq_true rfl) (by decide) (by decide) GK_E (fun v9 hc3 hq => ?_) (fun E h9 hq => by cases hq.1)
    have hqq4 := hq
    obtain ⟨e9q4, dq4, ⟨lq4, mq4⟩, iq4⟩ := hqq4
    have Gq4 : MG h hc3 S f ((yrN S f s (k + 1)).1) := MG_day Gq2 dq4
    have e55q4 : hI hc3 0 55 = ((yrN S f s (k + 1)).2) := by rw [iq4 0 55 (by decide)]; exact e55q2
    cases e9q4
    show K mX12_years _ _ 0 0 57 [(5, vi (k : Int)), (4, vi (itN (fun j v => v + ytN S f s k (j : Int)) 0 7)), (0, vr 0), (1, vi s), (2, vi (n : Int)), (3, vi 0)] [] hc3
    refine K_iload (dt_at dtX12_years 33 rfl) rfl ?_
    refine K_aload_n (dt_at dtX12_years 34 rfl) rfl rfl ?_
    refine K_get (a := 0) (ci := 12) (k := 47) (v := vi (bitN (lvA S ((bfF S ((yrN S f s k).1) (nxS ((yrN S f s k).2)) (dvS (nxS ((yrN S f s k).2)) 5)).1)) (sNp S))) (dt_at dtX12_years 35 rfl) (show TT 0 = (0, 12) from rfl) rfl (by decide) wF_X12_313 (by show vi (hI hc3 0 47) = vi (bitN (lvA S ((bfF S ((yrN S f s k).1) (nxS ((yrN S f s k).2)) (dvS (nxS ((yrN S f s k).2)) 5)).1)) (sNp S)); rw [lq4]) ?_
    refine K_callS (M' := mX12_bits) (As := [vi (bitN (lvA S ((bfF S ((yrN S f s k).1) (nxS ((yrN S f s k).2)) (dvS (nxS ((yrN S f s k).2)) 5)).1)) (sNp S))]) (st := [vi (itN (fun j v => v + ytN S f s k (j : Int)) 0 7)]) (dt_at dtX12_years 36 rfl) (sX12_bits) wL_X12_340 vX12_bits rfl npX12_bits (by decide) (by decide) (Nat.le_of_ble_eq_true rfl) (by decide) (by decide) GK_E (fun v9 h9 hq => ?_) (fun E h9 hq => by cases hq.1)
    obtain ⟨e9, e8⟩ := hq
    cases e9
    rw [e8]
    show K mX12_years _ _ 0 0 66 [(5, vi (k : Int)), (4, vi (itN (fun j v => v + ytN S f s k (j : Int)) 0 7)), (0, vr 0), (1, vi s), (2, vi (n : Int)), (3, vi 0)] [vi (bitC (bitN (lvA S ((bfF S ((yrN S f s k).1) (nxS ((yrN S f s k).2)) (dvS (nxS ((yrN S f s k).2)) 5)).1)) (sNp S))), vi (itN (fun j v => v + ytN S f s k (j : Int)) 0 7)] hc3
    refine K_iadd (dt_at dtX12_years 37 rfl) ?_
    refine K_istore (ls' := [(4, vi ((itN (fun j v => v + ytN S f s k (j : Int)) 0 7) + (bitC (bitN (lvA S ((bfF S ((yrN S f s k).1) (nxS ((yrN S f s k).2)) (dvS (nxS ((yrN S f s k).2)) 5)).1)) (sNp S))))), (5, vi (k : Int)), (0, vr 0), (1, vi s), (2, vi (n : Int)), (3, vi 0)]) (dt_at dtX12_years 38 rfl) (by decide) rfl ?_
    refine K_iinc (ls' := [(5, vi ((k : Int) + 1)), (4, vi ((itN (fun j v => v + ytN S f s k (j : Int)) 0 7) + (bitC (bitN (lvA S ((bfF S ((yrN S f s k).1) (nxS ((yrN S f s k).2)) (dvS (nxS ((yrN S f s k).2)) 5)).1)) (sNp S))))), (0, vr 0), (1, vi s), (2, vi (n : Int)), (3, vi 0)]) (dt_at dtX12_years 39 rfl) rfl (by decide) rfl ?_
    refine K_goto (tgt := 41) (dt_at dtX12_years 40 rfl) (by decide) ?_
    refine K_pk [0, 1, 2, 3, 4, 5] (ls' := [(5, vi ((k : Int) + 1)), (4, vi ((itN (fun j v => v + ytN S f s k (j : Int)) 0 7) + (bitC (bitN (lvA S ((bfF S ((yrN S f s k).1) (nxS ((yrN S f s k).2)) (dvS (nxS ((yrN S f s k).2)) 5)).1)) (sNp S))))), (0, vr 0), (1, vi s), (2, vi (n : Int)), (3, vi 0)]) rfl ?_
    exact K_cg (ls' := [(5, vi ((k + 1 : Nat) : Int)), (4, vi (itN (fun j v => v + ytN S f s (k + 1) (j : Int)) 0 7)), (0, vr 0), (1, vi s), (2, vi (n : Int)), (3, vi 0)]) (h' := hc3) (by rw [show (itN (fun j v => v + ytN S f s (k + 1) (j : Int)) 0 7) = itN (fun j v => v + trN S ((bfF S ((yrN S f s k).1) (nxS ((yrN S f s k).2)) (dvS (nxS ((yrN S f s k).2)) 5)).1) (ytN S f s k) (sNp S) (j : Int)) 0 7 from rfl, yt_s hB]; rfl) rfl (ih (k + 1) hc3 (by omega) Gq4 e55q4)
set_option maxHeartbeats 4000000 in
set_option maxRecDepth 100000 in
theorem sX12_years_0 {h : HP} {S : HS} {f : Int → Int} {s : Int} {n : Nat} (Q0 : MAsk h S f) (hn : n ≤ 100) : SpecK mX12_years [vr 0, vi s, vi (n : Int), vi 0] h (fun o h' => o = .inl (some (vi (itN (fun j v => v + ytN S f s n (j : Int)) 0 7))) ∧ FQ h h' ∧ hI h' 0 0 = 0) := by
  refine Spec_of (by decide +kernel) (Nat.le_of_ble_eq_true rfl) ?_
  have hB := Q0.1.1
  have hNt := hB.1
  have hNp := hB.2.1
  have R := Q0.2.2.2.2
  have hT := R.1
  have hW := hT.1
  refine K_aload_n (dt_at dtX12_years 0 rfl) rfl rfl ?_
  refine K_iconst (dt_at dtX12_years 1 rfl) ?_
  refine K_putI (a := 0) (ci := 12) (k := 0) (dt_at dtX12_years 2 rfl) (show TT 0 = (0, 12) from rfl) rfl (by decide) wF_X12_105 rfl (Or.inl rfl) rfl rfl ?_
  obtain ⟨hu1, eu1⟩ : ∃ z, z = sI h 0 0 0 := ⟨_, rfl⟩
  rw [← eu1]
  obtain ⟨iu1, fu1, au1, ru1⟩ := sI_fx eu1
  have Gu1 := MG_0 Q0 eu1
  refine K_aload_n (dt_at dtX12_years 3 rfl) rfl rfl ?_
  refine K_iload_n (dt_at dtX12_years 4 rfl) rfl rfl ?_
  refine K_iconst (dt_at dtX12_years 5 rfl) ?_
  refine K_callV (M' := mX12_isWhat) (a := 0) (ci := 12) (As := [vi 0, vi 2]) (st := []) (dt_at dtX12_years 6 rfl) (sX12_isWhat_t Gu1.2.2.2 (by omega) (by omega)) (show TT 0 = (0, 12) from rfl) rfl wL_X12_371 vX12_isWhat rfl npX12_isWhat (by decide) (by decide) (Nat.le_of_ble_eq_true rfl) (by decide) (by decide) GK_E (fun v9 h9 hq => ?_) (fun E h9 hq => by cases hq.1)
  obtain ⟨e9, e8⟩ := hq
  cases e9
  rw [e8]
  show K mX12_years _ _ 0 0 11 [(0, vr 0), (1, vi s), (2, vi (n : Int)), (3, vi 0)] [vi 1] hu1
  refine K_if_eq (tgt := 24) (dt_at dtX12_years 7 rfl) (by decide) (by first | assumption | exact ⟨by omega, by omega⟩) (fun c1 => absurd c1 (by omega)) (fun c1 => ?_)
  refine K_aload_n (dt_at dtX12_years 8 rfl) rfl rfl ?_
  refine K_iload_n (dt_at dtX12_years 9 rfl) rfl rfl ?_
  refine K_iconst (dt_at dtX12_years 10 rfl) ?_
  refine K_iconst (dt_at dtX12_years 11 rfl) ?_
  refine K_callV (M' := mX12_isSoon) (a := 0) (ci := 12) (As := [vi (n : Int), vi 0, vi 2]) (st := []) (dt_at dtX12_years 12 rfl) (sX12_isSoon_t Gu1.2.2.2 (by omega) (by omega)) (show TT 0 = (0, 12) from rfl) rfl wL_X12_403 vX12_isSoon rfl npX12_isSoon (by decide) (by decide) (Nat.le_of_ble_eq_true rfl) (by decide) (by decide) GK_E (fun v9 h9 hq => ?_) (fun E h9 hq => by cases hq.1)
  obtain ⟨e9, e8⟩ := hq
  cases e9
  rw [e8]
  show K mX12_years _ _ 0 0 21 [(0, vr 0), (1, vi s), (2, vi (n : Int)), (3, vi 0)] [vi 1] hu1
  refine K_if_ne (tgt := 26) (dt_at dtX12_years 13 rfl) (by decide) (by first | assumption | exact ⟨by omega, by omega⟩) (fun c2 => ?_) (fun c2 => absurd c2 (by omega))
  refine K_aload_n (dt_at dtX12_years 16 rfl) rfl rfl ?_
  refine K_callV (M' := mX12_tries) (a := 0) (ci := 12) (As := []) (st := []) (dt_at dtX12_years 17 rfl) (sX12_tries) (show TT 0 = (0, 12) from rfl) rfl wL_X12_397 vX12_tries rfl npX12_tries (by decide) (by decide) (Nat.le_of_ble_eq_true rfl) (by decide) (by decide) GK_E (fun v9 hc2 hq => ?_) (fun E h9 hq => by cases hq.1)
  have hqq3 := hq
  obtain ⟨e9q3, t1q3, t2q3, t3q3, t4q3⟩ := hqq3
  have Gq3 := MG_try Gu1 t1q3 t2q3 t3q3 t4q3
  cases e9q3
  show K mX12_years _ _ 0 0 30 [(0, vr 0), (1, vi s), (2, vi (n : Int)), (3, vi 0)] [] hc2
  refine K_aload_n (dt_at dtX12_years 18 rfl) rfl rfl ?_
  refine K_iload_n (dt_at dtX12_years 19 rfl) rfl rfl ?_
  refine K_putI (a := 0) (ci := 12) (k := 55) (dt_at dtX12_years 20 rfl) (show TT 0 = (0, 12) from rfl) rfl (by decide) wF_X12_441 rfl (Or.inl rfl) rfl rfl ?_
  obtain ⟨hu4, eu4⟩ : ∃ z, z = sI hc2 0 55 s := ⟨_, rfl⟩
  rw [← eu4]
  obtain ⟨iu4, fu4, au4, ru4⟩ := sI_fx eu4
  have Gu4 : MG h hu4 S f f := MG_I Gq3 eu4 (by omega)
  refine K_iconst (dt_at dtX12_years 21 rfl) ?_
  refine K_istore (ls' := [(4, vi 0), (0, vr 0), (1, vi s), (2, vi (n : Int)), (3, vi 0)]) (dt_at dtX12_years 22 rfl) (by decide) rfl ?_
  refine K_iconst (dt_at dtX12_years 23 rfl) ?_
  refine K_istore (ls' := [(5, vi 0), (4, vi 0), (0, vr 0), (1, vi s), (2, vi (n : Int)), (3, vi 0)]) (dt_at dtX12_years 24 rfl) (by decide) rfl ?_
  exact K_pk [0, 1, 2, 3, 4, 5] rfl (lp_X12_years_0 Q0 hn n 0 hu4 (by omega) Gu4 iu4)
set_option maxHeartbeats 4000000 in
set_option maxRecDepth 100000 in
theorem lf_X12_years_1 {h hh : HP} {S : HS} {f : Int → Int} {s mn : Int} {n : Nat} (Q0 : MAsk h S f) (hn : n ≤ 100) (G : MG h hh S f ((yrN S f s n).1)) : ∀ (dd k : Nat), k + dd = sNp S → K mX12_years GK (ZK (fun o h' => o = .inl (some (vi (itN (fun k v => v + (((yrN S f s n).1) (15 + (k : Int)))) 0 (sNp S)))) ∧ FQ h h' ∧ hI h' 0 0 = 0) 0 0) 0 0 81 [(6, vi (k : Int)), (5, vi (itN (fun k v => v + (((yrN S f s n).1) (15 + (k : Int)))) 0 k)), (4, vi mn), (0, vr 0), (1, vi s), (2, vi (n : Int)), (3, vi 1)] [] hh := by
  intro dd
  induction dd with
  | zero =>
    intro k hk
    have hB := Q0.1.1
    have hNt := hB.1
    have hNp := hB.2.1
    have R := Q0.2.2.2.2
    have hT := R.1
    have hW := hT.1
    have d9 := R.2.2.1
    obtain ⟨a1, a2, a3⟩ := yrN_ok (s := s) hB hT R.2.1 n (by omega) (by omega)
    have ek : k = sNp S := by omega
    refine K_iload (dt_at dtX12_years 45 rfl) rfl ?_
    refine K_aload_n (dt_at dtX12_years 46 rfl) rfl rfl ?_
    refine K_get (a := 0) (ci := 12) (k := 2) (v := vi (sNp S : Int)) (dt_at dtX12_years 47 rfl) (show TT 0 = (0, 12) from rfl) rfl (by decide) wF_X12_270 (by show vi (hI hh 0 2) = vi (sNp S : Int); rw [(MD_np (MG_D0 G))]) ?_
    refine K_icmp_ge (tgt := 112) (dt_at dtX12_years 48 rfl) (by decide) (by first | assumption | exact ⟨by omega, by omega⟩) (by first | assumption | exact ⟨by omega, by omega⟩) (fun c1 => ?_) (fun c1 => absurd c1 (by omega))
    refine K_iload_n (dt_at dtX12_years 60 rfl) rfl rfl ?_
    refine K_if_ne (tgt := 121) (dt_at dtX12_years 61 rfl) (by decide) (by first | assumption | exact ⟨by omega, by omega⟩) (fun c2 => ?_) (fun c2 => absurd c2 (by omega))
    refine K_iload_n (dt_at dtX12_years 64 rfl) rfl rfl ?_
    refine K_iconst (dt_at dtX12_years 65 rfl) ?_
    refine K_icmp_ne (tgt := 131) (dt_at dtX12_years 66 rfl) (by decide) (by first | assumption | exact ⟨by omega, by omega⟩) (by first | assumption | exact ⟨by omega, by omega⟩) (fun c3 => absurd c3 (by omega)) (fun c3 => ?_)
    refine K_iload (dt_at dtX12_years 67 rfl) rfl ?_
    refine K_goto (tgt := 137) (dt_at dtX12_years 68 rfl) (by decide) ?_
    exact K_iret (dt_at dtX12_years 72 rfl) rfl rfl (by decide) (by decide) ⟨by rw [ek], G.2.1, G.2.2.2⟩
  | succ dd ih =>
    intro k hk
    have hB := Q0.1.1
    have hNt := hB.1
    have hNp := hB.2.1
    have R := Q0.2.2.2.2
    have hT := R.1
    have hW := hT.1
    have d9 := R.2.2.1
    obtain ⟨a1, a2, a3⟩ := yrN_ok (s := s) hB hT R.2.1 n (by omega) (by omega)
    refine K_iload (dt_at dtX12_years 45 rfl) rfl ?_
    refine K_aload_n (dt_at dtX12_years 46 rfl) rfl rfl ?_
    refine K_get (a := 0) (ci := 12) (k := 2) (v := vi (sNp S : Int)) (dt_at dtX12_years 47 rfl) (show TT 0 = (0, 12) from rfl) rfl (by decide) wF_X12_270 (by show vi (hI hh 0 2) = vi (sNp S : Int); rw [(MD_np (MG_D0 G))]) ?_
    refine K_icmp_ge (tgt := 112) (dt_at dtX12_years 48 rfl) (by decide) (by first | assumption | exact ⟨by omega, by omega⟩) (by first | assumption | exact ⟨by omega, by omega⟩) (fun c1 => absurd c1 (by omega)) (fun c1 => ?_)
    refine K_iload (dt_at dtX12_years 49 rfl) rfl ?_
    refine K_aload_n (dt_at dtX12_years 50 rfl) rfl rfl ?_
    refine K_get (a := 0) (ci := 12) (k := 42) (v := vr 18) (dt_at dtX12_years 51 rfl) (show TT 0 = (0, 12) from rfl) rfl (by decide) wF_X12_72 rfl ?_
    refine K_sipush (dt_at dtX12_years 52 rfl) (by decide) ?_
    refine K_iload (dt_at dtX12_years 53 rfl) rfl ?_
    refine K_iadd (dt_at dtX12_years 54 rfl) ?_
    refine K_iald (dt_at dtX12_years 55 rfl) (show TT 18 = (1, 154) from rfl) (by omega) (by omega) ?_
    rw [show hA hh 18 (140 + (k : Int)) = (((yrN S f s n).1) (15 + (k : Int))) from RV_f (MG_D7 G).2.2.2 (p := (k : Int)) (by omega) (by omega)]
    refine K_iadd (dt_at dtX12_years 56 rfl) ?_
    refine K_istore (ls' := [(5, vi ((itN (fun k v => v + (((yrN S f s n).1) (15 + (k : Int)))) 0 k) + (((yrN S f s n).1) (15 + (k : Int))))), (6, vi (k : Int)), (4, vi mn), (0, vr 0), (1, vi s), (2, vi (n : Int)), (3, vi 1)]) (dt_at dtX12_years 57 rfl) (by decide) rfl ?_
    refine K_iinc (ls' := [(6, vi ((k : Int) + 1)), (5, vi ((itN (fun k v => v + (((yrN S f s n).1) (15 + (k : Int)))) 0 k) + (((yrN S f s n).1) (15 + (k : Int))))), (4, vi mn), (0, vr 0), (1, vi s), (2, vi (n : Int)), (3, vi 1)]) (dt_at dtX12_years 58 rfl) rfl (by decide) rfl ?_
    refine K_goto (tgt := 81) (dt_at dtX12_years 59 rfl) (by decide) ?_
    refine K_pk [0, 1, 2, 3, 4, 5, 6] (ls' := [(6, vi ((k : Int) + 1)), (5, vi ((itN (fun k v => v + (((yrN S f s n).1) (15 + (k : Int)))) 0 k) + (((yrN S f s n).1) (15 + (k : Int))))), (4, vi mn), (0, vr 0), (1, vi s), (2, vi (n : Int)), (3, vi 1)]) rfl ?_
    exact K_cg (ls' := [(6, vi ((k + 1 : Nat) : Int)), (5, vi (itN (fun k v => v + (((yrN S f s n).1) (15 + (k : Int)))) 0 (k + 1))), (4, vi mn), (0, vr 0), (1, vi s), (2, vi (n : Int)), (3, vi 1)]) (h' := hh) (by rfl) (by rfl) (ih (k + 1) (by omega))
set_option maxHeartbeats 4000000 in
set_option maxRecDepth 100000 in
theorem lp_X12_years_1 {h : HP} {S : HS} {f : Int → Int} {s : Int} {n : Nat} (Q0 : MAsk h S f) (hn : n ≤ 100) : ∀ (dd k : Nat) (hh : HP), k + dd = n → MG h hh S f ((yrN S f s k).1) → hI hh 0 55 = ((yrN S f s k).2) → K mX12_years GK (ZK (fun o h' => o = .inl (some (vi (itN (fun k v => v + (((yrN S f s n).1) (15 + (k : Int)))) 0 (sNp S)))) ∧ FQ h h' ∧ hI h' 0 0 = 0) 0 0) 0 0 41 [(5, vi (k : Int)), (4, vi (itN (fun j v => v + ytN S f s k (j : Int)) 0 7)), (0, vr 0), (1, vi s), (2, vi (n : Int)), (3, vi 1)] [] hh := by
  intro dd
  induction dd with
  | zero =>
    intro k hh hk G e55
    have hB := Q0.1.1
    have hNt := hB.1
    have hNp := hB.2.1
    have R := Q0.2.2.2.2
    have hT := R.1
    have hW := hT.1
    have ek : k = n := by omega
    rw [ek] at G
    refine K_iload (dt_at dtX12_years 25 rfl) rfl ?_
    refine K_iload_n (dt_at dtX12_years 26 rfl) rfl rfl ?_
    refine K_icmp_ge (tgt := 75) (dt_at dtX12_years 27 rfl) (by decide) (by first | assumption | exact ⟨by omega, by omega⟩) (by first | assumption | exact ⟨by omega, by omega⟩) (fun c1 => ?_) (fun c1 => absurd c1 (by omega))
    refine K_iconst (dt_at dtX12_years 41 rfl) ?_
    refine K_istore (ls' := [(5, vi 0), (4, vi (itN (fun j v => v + ytN S f s k (j : Int)) 0 7)), (0, vr 0), (1, vi s), (2, vi (n : Int)), (3, vi 1)]) (dt_at dtX12_years 42 rfl) (by decide) rfl ?_
    refine K_iconst (dt_at dtX12_years 43 rfl) ?_
    refine K_istore (ls' := [(6, vi 0), (5, vi 0), (4, vi (itN (fun j v => v + ytN S f s k (j : Int)) 0 7)), (0, vr 0), (1, vi s), (2, vi (n : Int)), (3, vi 1)]) (dt_at dtX12_years 44 rfl) (by decide) rfl ?_
    exact K_pk [0, 1, 2, 3, 4, 5, 6] rfl (lf_X12_years_1 Q0 hn G (sNp S) 0 (by omega))
  | succ dd ih =>
    intro k hh hk G e55
    have hB := Q0.1.1
    have hNt := hB.1
    have hNp := hB.2.1
    have R := Q0.2.2.2.2
    have hT := R.1
    have hW := hT.1
    have d9 := R.2.2.1
    obtain ⟨a1, a2, a3⟩ := yrN_ok (s := s) hB hT R.2.1 k (by omega) (by omega)
    obtain ⟨b1, b2, b3⟩ := bfF_ok (s := nxS ((yrN S f s k).2)) (lot := dvS (nxS ((yrN S f s k).2)) 5) hB a1 a2 (by omega)
    obtain ⟨w1, w2⟩ := yr_R (s := s) hB R k (by omega)
    obtain ⟨w3, w4⟩ := bf_R (s := nxS ((yrN S f s k).2)) (lot := dvS (nxS ((yrN S f s k).2)) 5) hB w1 w2
    refine K_iload (dt_at dtX12_years 25 rfl) rfl ?_
    refine K_iload_n (dt_at dtX12_years 26 rfl) rfl rfl ?_
    refine K_icmp_ge (tgt := 75) (dt_at dtX12_years 27 rfl) (by decide) (by first | assumption | exact ⟨by omega, by omega⟩) (by first | assumption | exact ⟨by omega, by omega⟩) (fun c1 => absurd c1 (by omega)) (fun c1 => ?_)
    refine K_aload_n (dt_at dtX12_years 28 rfl) rfl rfl ?_
    refine K_callV (M' := mX12_happens) (a := 0) (ci := 12) (As := []) (st := []) (dt_at dtX12_years 29 rfl) (sX12_happens hB G a1 (by rw [e55])) (show TT 0 = (0, 12) from rfl) rfl wL_X12_448 vX12_happens rfl npX12_happens (by decide) (by decide) (Nat.le_of_ble_eq_true rfl) (by decide) (by decide) GK_E (fun v9 hc1 hq => ?_) (fun E h9 hq => by cases hq.1)
    have hqq2 := hq
    obtain ⟨e9q2, Gq2, e55q2⟩ := hqq2
    cases e9q2
    show K mX12_years _ _ 0 0 51 [(5, vi (k : Int)), (4, vi (itN (fun j v => v + ytN S f s k (j : Int)) 0 7)), (0, vr 0), (1, vi s), (2, vi (n : Int)), (3, vi 1)] [] hc1
    refine K_aload_n (dt_at dtX12_years 30 rfl) rfl rfl ?_
    refine K_bipush (dt_at dtX12_years 31 rfl) (by decide) ?_
    refine K_callV (M' := mX12_dayGoes) (a := 0) (ci := 12) (As := [vi 77]) (st := []) (dt_at dtX12_years 32 rfl) (sX12_dayGoes (MG_D7 Gq2) b1 b2 w3 w4 (MG_49 Gq2)) (show TT 0 = (0, 12) from rfl) rfl wL_X12_334 vX12_dayGoes rfl npX12_dayGoes (by decide) (by decide) (Nat.le_of_ble_eq_true rfl) (by decide) (by decide) GK_E (fun v9 hc3 hq => ?_) (fun E h9 hq => by cases hq.1)
    have hqq4 := hq
    obtain ⟨e9q4, dq4, ⟨lq4, mq4⟩, iq4⟩ := hqq4
    have Gq4 : MG h hc3 S f ((yrN S f s (k + 1)).1) := MG_day Gq2 dq4
    have e55q4 : hI hc3 0 55 = ((yrN S f s (k + 1)).2) := by rw [iq4 0 55 (by decide)]; exact e55q2
    cases e9q4
    show K mX12_years _ _ 0 0 57 [(5, vi (k : Int)), (4, vi (itN (fun j v => v + ytN S f s k (j : Int)) 0 7)), (0, vr 0), (1, vi s), (2, vi (n : Int)), (3, vi 1)] [] hc3
    refine K_iload (dt_at dtX12_years 33 rfl) rfl ?_
    refine K_aload_n (dt_at dtX12_years 34 rfl) rfl rfl ?_
    refine K_get (a := 0) (ci := 12) (k := 47) (v := vi (bitN (lvA S ((bfF S ((yrN S f s k).1) (nxS ((yrN S f s k).2)) (dvS (nxS ((yrN S f s k).2)) 5)).1)) (sNp S))) (dt_at dtX12_years 35 rfl) (show TT 0 = (0, 12) from rfl) rfl (by decide) wF_X12_313 (by show vi (hI hc3 0 47) = vi (bitN (lvA S ((bfF S ((yrN S f s k).1) (nxS ((yrN S f s k).2)) (dvS (nxS ((yrN S f s k).2)) 5)).1)) (sNp S)); rw [lq4]) ?_
    refine K_callS (M' := mX12_bits) (As := [vi (bitN (lvA S ((bfF S ((yrN S f s k).1) (nxS ((yrN S f s k).2)) (dvS (nxS ((yrN S f s k).2)) 5)).1)) (sNp S))]) (st := [vi (itN (fun j v => v + ytN S f s k (j : Int)) 0 7)]) (dt_at dtX12_years 36 rfl) (sX12_bits) wL_X12_340 vX12_bits rfl npX12_bits (by decide) (by decide) (Nat.le_of_ble_eq_true rfl) (by decide) (by decide) GK_E (fun v9 h9 hq => ?_) (fun E h9 hq => by cases hq.1)
    obtain ⟨e9, e8⟩ := hq
    cases e9
    rw [e8]
    show K mX12_years _ _ 0 0 66 [(5, vi (k : Int)), (4, vi (itN (fun j v => v + ytN S f s k (j : Int)) 0 7)), (0, vr 0), (1, vi s), (2, vi (n : Int)), (3, vi 1)] [vi (bitC (bitN (lvA S ((bfF S ((yrN S f s k).1) (nxS ((yrN S f s k).2)) (dvS (nxS ((yrN S f s k).2)) 5)).1)) (sNp S))), vi (itN (fun j v => v + ytN S f s k (j : Int)) 0 7)] hc3
    refine K_iadd (dt_at dtX12_years 37 rfl) ?_
    refine K_istore (ls' := [(4, vi ((itN (fun j v => v + ytN S f s k (j : Int)) 0 7) + (bitC (bitN (lvA S ((bfF S ((yrN S f s k).1) (nxS ((yrN S f s k).2)) (dvS (nxS ((yrN S f s k).2)) 5)).1)) (sNp S))))), (5, vi (k : Int)), (0, vr 0), (1, vi s), (2, vi (n : Int)), (3, vi 1)]) (dt_at dtX12_years 38 rfl) (by decide) rfl ?_
    refine K_iinc (ls' := [(5, vi ((k : Int) + 1)), (4, vi ((itN (fun j v => v + ytN S f s k (j : Int)) 0 7) + (bitC (bitN (lvA S ((bfF S ((yrN S f s k).1) (nxS ((yrN S f s k).2)) (dvS (nxS ((yrN S f s k).2)) 5)).1)) (sNp S))))), (0, vr 0), (1, vi s), (2, vi (n : Int)), (3, vi 1)]) (dt_at dtX12_years 39 rfl) rfl (by decide) rfl ?_
    refine K_goto (tgt := 41) (dt_at dtX12_years 40 rfl) (by decide) ?_
    refine K_pk [0, 1, 2, 3, 4, 5] (ls' := [(5, vi ((k : Int) + 1)), (4, vi ((itN (fun j v => v + ytN S f s k (j : Int)) 0 7) + (bitC (bitN (lvA S ((bfF S ((yrN S f s k).1) (nxS ((yrN S f s k).2)) (dvS (nxS ((yrN S f s k).2)) 5)).1)) (sNp S))))), (0, vr 0), (1, vi s), (2, vi (n : Int)), (3, vi 1)]) rfl ?_
    exact K_cg (ls' := [(5, vi ((k + 1 : Nat) : Int)), (4, vi (itN (fun j v => v + ytN S f s (k + 1) (j : Int)) 0 7)), (0, vr 0), (1, vi s), (2, vi (n : Int)), (3, vi 1)]) (h' := hc3) (by rw [show (itN (fun j v => v + ytN S f s (k + 1) (j : Int)) 0 7) = itN (fun j v => v + trN S ((bfF S ((yrN S f s k).1) (nxS ((yrN S f s k).2)) (dvS (nxS ((yrN S f s k).2)) 5)).1) (ytN S f s k) (sNp S) (j : Int)) 0 7 from rfl, yt_s hB]; rfl) rfl (ih (k + 1) hc3 (by omega) Gq4 e55q4)
set_option maxHeartbeats 4000000 in
set_option maxRecDepth 100000 in
theorem sX12_years_1 {h : HP} {S : HS} {f : Int → Int} {s : Int} {n : Nat} (Q0 : MAsk h S f) (hn : n ≤ 100) : SpecK mX12_years [vr 0, vi s, vi (n : Int), vi 1] h (fun o h' => o = .inl (some (vi (itN (fun k v => v + (((yrN S f s n).1) (15 + (k : Int)))) 0 (sNp S)))) ∧ FQ h h' ∧ hI h' 0 0 = 0) := by
  refine Spec_of (by decide +kernel) (Nat.le_of_ble_eq_true rfl) ?_
  have hB := Q0.1.1
  have hNt := hB.1
  have hNp := hB.2.1
  have R := Q0.2.2.2.2
  have hT := R.1
  have hW := hT.1
  refine K_aload_n (dt_at dtX12_years 0 rfl) rfl rfl ?_
  refine K_iconst (dt_at dtX12_years 1 rfl) ?_
  refine K_putI (a := 0) (ci := 12) (k := 0) (dt_at dtX12_years 2 rfl) (show TT 0 = (0, 12) from rfl) rfl (by decide) wF_X12_105 rfl (Or.inl rfl) rfl rfl ?_
  obtain ⟨hu1, eu1⟩ : ∃ z, z = sI h 0 0 0 := ⟨_, rfl⟩
  rw [← eu1]
  obtain ⟨iu1, fu1, au1, ru1⟩ := sI_fx eu1
  have Gu1 := MG_0 Q0 eu1
  refine K_aload_n (dt_at dtX12_years 3 rfl) rfl rfl ?_
  refine K_iload_n (dt_at dtX12_years 4 rfl) rfl rfl ?_
  refine K_iconst (dt_at dtX12_years 5 rfl) ?_
  refine K_callV (M' := mX12_isWhat) (a := 0) (ci := 12) (As := [vi 1, vi 2]) (st := []) (dt_at dtX12_years 6 rfl) (sX12_isWhat_t Gu1.2.2.2 (by omega) (by omega)) (show TT 0 = (0, 12) from rfl) rfl wL_X12_371 vX12_isWhat rfl npX12_isWhat (by decide) (by decide) (Nat.le_of_ble_eq_true rfl) (by decide) (by decide) GK_E (fun v9 h9 hq => ?_) (fun E h9 hq => by cases hq.1)
  obtain ⟨e9, e8⟩ := hq
  cases e9
  rw [e8]
  show K mX12_years _ _ 0 0 11 [(0, vr 0), (1, vi s), (2, vi (n : Int)), (3, vi 1)] [vi 1] hu1
  refine K_if_eq (tgt := 24) (dt_at dtX12_years 7 rfl) (by decide) (by first | assumption | exact ⟨by omega, by omega⟩) (fun c1 => absurd c1 (by omega)) (fun c1 => ?_)
  refine K_aload_n (dt_at dtX12_years 8 rfl) rfl rfl ?_
  refine K_iload_n (dt_at dtX12_years 9 rfl) rfl rfl ?_
  refine K_iconst (dt_at dtX12_years 10 rfl) ?_
  refine K_iconst (dt_at dtX12_years 11 rfl) ?_
  refine K_callV (M' := mX12_isSoon) (a := 0) (ci := 12) (As := [vi (n : Int), vi 0, vi 2]) (st := []) (dt_at dtX12_years 12 rfl) (sX12_isSoon_t Gu1.2.2.2 (by omega) (by omega)) (show TT 0 = (0, 12) from rfl) rfl wL_X12_403 vX12_isSoon rfl npX12_isSoon (by decide) (by decide) (Nat.le_of_ble_eq_true rfl) (by decide) (by decide) GK_E (fun v9 h9 hq => ?_) (fun E h9 hq => by cases hq.1)
  obtain ⟨e9, e8⟩ := hq
  cases e9
  rw [e8]
  show K mX12_years _ _ 0 0 21 [(0, vr 0), (1, vi s), (2, vi (n : Int)), (3, vi 1)] [vi 1] hu1
  refine K_if_ne (tgt := 26) (dt_at dtX12_years 13 rfl) (by decide) (by first | assumption | exact ⟨by omega, by omega⟩) (fun c2 => ?_) (fun c2 => absurd c2 (by omega))
  refine K_aload_n (dt_at dtX12_years 16 rfl) rfl rfl ?_
  refine K_callV (M' := mX12_tries) (a := 0) (ci := 12) (As := []) (st := []) (dt_at dtX12_years 17 rfl) (sX12_tries) (show TT 0 = (0, 12) from rfl) rfl wL_X12_397 vX12_tries rfl npX12_tries (by decide) (by decide) (Nat.le_of_ble_eq_true rfl) (by decide) (by decide) GK_E (fun v9 hc2 hq => ?_) (fun E h9 hq => by cases hq.1)
  have hqq3 := hq
  obtain ⟨e9q3, t1q3, t2q3, t3q3, t4q3⟩ := hqq3
  have Gq3 := MG_try Gu1 t1q3 t2q3 t3q3 t4q3
  cases e9q3
  show K mX12_years _ _ 0 0 30 [(0, vr 0), (1, vi s), (2, vi (n : Int)), (3, vi 1)] [] hc2
  refine K_aload_n (dt_at dtX12_years 18 rfl) rfl rfl ?_
  refine K_iload_n (dt_at dtX12_years 19 rfl) rfl rfl ?_
  refine K_putI (a := 0) (ci := 12) (k := 55) (dt_at dtX12_years 20 rfl) (show TT 0 = (0, 12) from rfl) rfl (by decide) wF_X12_441 rfl (Or.inl rfl) rfl rfl ?_
  obtain ⟨hu4, eu4⟩ : ∃ z, z = sI hc2 0 55 s := ⟨_, rfl⟩
  rw [← eu4]
  obtain ⟨iu4, fu4, au4, ru4⟩ := sI_fx eu4
  have Gu4 : MG h hu4 S f f := MG_I Gq3 eu4 (by omega)
  refine K_iconst (dt_at dtX12_years 21 rfl) ?_
  refine K_istore (ls' := [(4, vi 0), (0, vr 0), (1, vi s), (2, vi (n : Int)), (3, vi 1)]) (dt_at dtX12_years 22 rfl) (by decide) rfl ?_
  refine K_iconst (dt_at dtX12_years 23 rfl) ?_
  refine K_istore (ls' := [(5, vi 0), (4, vi 0), (0, vr 0), (1, vi s), (2, vi (n : Int)), (3, vi 1)]) (dt_at dtX12_years 24 rfl) (by decide) rfl ?_
  exact K_pk [0, 1, 2, 3, 4, 5] rfl (lp_X12_years_1 Q0 hn n 0 hu4 (by omega) Gu4 iu4)
set_option maxHeartbeats 4000000 in
set_option maxRecDepth 100000 in
theorem lf_X12_years_2 {h hh : HP} {S : HS} {f : Int → Int} {s mn : Int} {n : Nat} (Q0 : MAsk h S f) (hn : n ≤ 100) (G : MG h hh S f ((yrN S f s n).1)) : ∀ (dd k : Nat), k + dd = sNp S → K mX12_years GK (ZK (fun o h' => o = .inl (some (vi (bitN (fun j => decide ((((yrN S f s n).1) (8 + (j : Int))) ≠ (j : Int))) (sNp S)))) ∧ FQ h h' ∧ hI h' 0 0 = 0) 0 0) 0 0 81 [(6, vi (k : Int)), (5, vi (itN (fun k v => v + (((yrN S f s n).1) (15 + (k : Int)))) 0 k)), (4, vi mn), (0, vr 0), (1, vi s), (2, vi (n : Int)), (3, vi 2)] [] hh := by
  intro dd
  induction dd with
  | zero =>
    intro k hk
    have hB := Q0.1.1
    have hNt := hB.1
    have hNp := hB.2.1
    have R := Q0.2.2.2.2
    have hT := R.1
    have hW := hT.1
    have d9 := R.2.2.1
    obtain ⟨a1, a2, a3⟩ := yrN_ok (s := s) hB hT R.2.1 n (by omega) (by omega)
    have ek : k = sNp S := by omega
    refine K_iload (dt_at dtX12_years 45 rfl) rfl ?_
    refine K_aload_n (dt_at dtX12_years 46 rfl) rfl rfl ?_
    refine K_get (a := 0) (ci := 12) (k := 2) (v := vi (sNp S : Int)) (dt_at dtX12_years 47 rfl) (show TT 0 = (0, 12) from rfl) rfl (by decide) wF_X12_270 (by show vi (hI hh 0 2) = vi (sNp S : Int); rw [(MD_np (MG_D0 G))]) ?_
    refine K_icmp_ge (tgt := 112) (dt_at dtX12_years 48 rfl) (by decide) (by first | assumption | exact ⟨by omega, by omega⟩) (by first | assumption | exact ⟨by omega, by omega⟩) (fun c1 => ?_) (fun c1 => absurd c1 (by omega))
    refine K_iload_n (dt_at dtX12_years 60 rfl) rfl rfl ?_
    refine K_if_ne (tgt := 121) (dt_at dtX12_years 61 rfl) (by decide) (by first | assumption | exact ⟨by omega, by omega⟩) (fun c2 => ?_) (fun c2 => absurd c2 (by omega))
    refine K_iload_n (dt_at dtX12_years 64 rfl) rfl rfl ?_
    refine K_iconst (dt_at dtX12_years 65 rfl) ?_
    refine K_icmp_ne (tgt := 131) (dt_at dtX12_years 66 rfl) (by decide) (by first | assumption | exact ⟨by omega, by omega⟩) (by first | assumption | exact ⟨by omega, by omega⟩) (fun c3 => ?_) (fun c3 => absurd c3 (by omega))
    refine K_aload_n (dt_at dtX12_years 69 rfl) rfl rfl ?_
    refine K_bipush (dt_at dtX12_years 70 rfl) (by decide) ?_
    refine K_callV (M' := mX12_mixed) (a := 0) (ci := 12) (As := [vi 77]) (st := []) (dt_at dtX12_years 71 rfl) (sX12_mixed (MG_D7 G) a1.1) (show TT 0 = (0, 12) from rfl) rfl wL_X12_353 vX12_mixed rfl npX12_mixed (by decide) (by decide) (Nat.le_of_ble_eq_true rfl) (by decide) (by decide) GK_E (fun v9 h9 hq => ?_) (fun E h9 hq => by cases hq.1)
    obtain ⟨e9, e8⟩ := hq
    cases e9
    rw [e8]
    show K mX12_years _ _ 0 0 137 [(6, vi (k : Int)), (5, vi (itN (fun k v => v + (((yrN S f s n).1) (15 + (k : Int)))) 0 k)), (4, vi mn), (0, vr 0), (1, vi s), (2, vi (n : Int)), (3, vi 2)] [vi (bitN (fun j => decide (((yrN S f s n).1) (8 + (j : Int)) ≠ (j : Int))) (sNp S))] hh
    exact K_iret (dt_at dtX12_years 72 rfl) rfl rfl (by decide) (by decide) ⟨rfl, G.2.1, G.2.2.2⟩
  | succ dd ih =>
    intro k hk
    have hB := Q0.1.1
    have hNt := hB.1
    have hNp := hB.2.1
    have R := Q0.2.2.2.2
    have hT := R.1
    have hW := hT.1
    have d9 := R.2.2.1
    obtain ⟨a1, a2, a3⟩ := yrN_ok (s := s) hB hT R.2.1 n (by omega) (by omega)
    refine K_iload (dt_at dtX12_years 45 rfl) rfl ?_
    refine K_aload_n (dt_at dtX12_years 46 rfl) rfl rfl ?_
    refine K_get (a := 0) (ci := 12) (k := 2) (v := vi (sNp S : Int)) (dt_at dtX12_years 47 rfl) (show TT 0 = (0, 12) from rfl) rfl (by decide) wF_X12_270 (by show vi (hI hh 0 2) = vi (sNp S : Int); rw [(MD_np (MG_D0 G))]) ?_
    refine K_icmp_ge (tgt := 112) (dt_at dtX12_years 48 rfl) (by decide) (by first | assumption | exact ⟨by omega, by omega⟩) (by first | assumption | exact ⟨by omega, by omega⟩) (fun c1 => absurd c1 (by omega)) (fun c1 => ?_)
    refine K_iload (dt_at dtX12_years 49 rfl) rfl ?_
    refine K_aload_n (dt_at dtX12_years 50 rfl) rfl rfl ?_
    refine K_get (a := 0) (ci := 12) (k := 42) (v := vr 18) (dt_at dtX12_years 51 rfl) (show TT 0 = (0, 12) from rfl) rfl (by decide) wF_X12_72 rfl ?_
    refine K_sipush (dt_at dtX12_years 52 rfl) (by decide) ?_
    refine K_iload (dt_at dtX12_years 53 rfl) rfl ?_
    refine K_iadd (dt_at dtX12_years 54 rfl) ?_
    refine K_iald (dt_at dtX12_years 55 rfl) (show TT 18 = (1, 154) from rfl) (by omega) (by omega) ?_
    rw [show hA hh 18 (140 + (k : Int)) = (((yrN S f s n).1) (15 + (k : Int))) from RV_f (MG_D7 G).2.2.2 (p := (k : Int)) (by omega) (by omega)]
    refine K_iadd (dt_at dtX12_years 56 rfl) ?_
    refine K_istore (ls' := [(5, vi ((itN (fun k v => v + (((yrN S f s n).1) (15 + (k : Int)))) 0 k) + (((yrN S f s n).1) (15 + (k : Int))))), (6, vi (k : Int)), (4, vi mn), (0, vr 0), (1, vi s), (2, vi (n : Int)), (3, vi 2)]) (dt_at dtX12_years 57 rfl) (by decide) rfl ?_
    refine K_iinc (ls' := [(6, vi ((k : Int) + 1)), (5, vi ((itN (fun k v => v + (((yrN S f s n).1) (15 + (k : Int)))) 0 k) + (((yrN S f s n).1) (15 + (k : Int))))), (4, vi mn), (0, vr 0), (1, vi s), (2, vi (n : Int)), (3, vi 2)]) (dt_at dtX12_years 58 rfl) rfl (by decide) rfl ?_
    refine K_goto (tgt := 81) (dt_at dtX12_years 59 rfl) (by decide) ?_
    refine K_pk [0, 1, 2, 3, 4, 5, 6] (ls' := [(6, vi ((k : Int) + 1)), (5, vi ((itN (fun k v => v + (((yrN S f s n).1) (15 + (k : Int)))) 0 k) + (((yrN S f s n).1) (15 + (k : Int))))), (4, vi mn), (0, vr 0), (1, vi s), (2, vi (n : Int)), (3, vi 2)]) rfl ?_
    exact K_cg (ls' := [(6, vi ((k + 1 : Nat) : Int)), (5, vi (itN (fun k v => v + (((yrN S f s n).1) (15 + (k : Int)))) 0 (k + 1))), (4, vi mn), (0, vr 0), (1, vi s), (2, vi (n : Int)), (3, vi 2)]) (h' := hh) (by rfl) (by rfl) (ih (k + 1) (by omega))
set_option maxHeartbeats 4000000 in
set_option maxRecDepth 100000 in
theorem lp_X12_years_2 {h : HP} {S : HS} {f : Int → Int} {s : Int} {n : Nat} (Q0 : MAsk h S f) (hn : n ≤ 100) : ∀ (dd k : Nat) (hh : HP), k + dd = n → MG h hh S f ((yrN S f s k).1) → hI hh 0 55 = ((yrN S f s k).2) → K mX12_years GK (ZK (fun o h' => o = .inl (some (vi (bitN (fun j => decide ((((yrN S f s n).1) (8 + (j : Int))) ≠ (j : Int))) (sNp S)))) ∧ FQ h h' ∧ hI h' 0 0 = 0) 0 0) 0 0 41 [(5, vi (k : Int)), (4, vi (itN (fun j v => v + ytN S f s k (j : Int)) 0 7)), (0, vr 0), (1, vi s), (2, vi (n : Int)), (3, vi 2)] [] hh := by
  intro dd
  induction dd with
  | zero =>
    intro k hh hk G e55
    have hB := Q0.1.1
    have hNt := hB.1
    have hNp := hB.2.1
    have R := Q0.2.2.2.2
    have hT := R.1
    have hW := hT.1
    have ek : k = n := by omega
    rw [ek] at G
    refine K_iload (dt_at dtX12_years 25 rfl) rfl ?_
    refine K_iload_n (dt_at dtX12_years 26 rfl) rfl rfl ?_
    refine K_icmp_ge (tgt := 75) (dt_at dtX12_years 27 rfl) (by decide) (by first | assumption | exact ⟨by omega, by omega⟩) (by first | assumption | exact ⟨by omega, by omega⟩) (fun c1 => ?_) (fun c1 => absurd c1 (by omega))
    refine K_iconst (dt_at dtX12_years 41 rfl) ?_
    refine K_istore (ls' := [(5, vi 0), (4, vi (itN (fun j v => v + ytN S f s k (j : Int)) 0 7)), (0, vr 0), (1, vi s), (2, vi (n : Int)), (3, vi 2)]) (dt_at dtX12_years 42 rfl) (by decide) rfl ?_
    refine K_iconst (dt_at dtX12_years 43 rfl) ?_
    refine K_istore (ls' := [(6, vi 0), (5, vi 0), (4, vi (itN (fun j v => v + ytN S f s k (j : Int)) 0 7)), (0, vr 0), (1, vi s), (2, vi (n : Int)), (3, vi 2)]) (dt_at dtX12_years 44 rfl) (by decide) rfl ?_
    exact K_pk [0, 1, 2, 3, 4, 5, 6] rfl (lf_X12_years_2 Q0 hn G (sNp S) 0 (by omega))
  | succ dd ih =>
    intro k hh hk G e55
    have hB := Q0.1.1
    have hNt := hB.1
    have hNp := hB.2.1
    have R := Q0.2.2.2.2
    have hT := R.1
    have hW := hT.1
    have d9 := R.2.2.1
    obtain ⟨a1, a2, a3⟩ := yrN_ok (s := s) hB hT R.2.1 k (by omega) (by omega)
    obtain ⟨b1, b2, b3⟩ := bfF_ok (s := nxS ((yrN S f s k).2)) (lot := dvS (nxS ((yrN S f s k).2)) 5) hB a1 a2 (by omega)
    obtain ⟨w1, w2⟩ := yr_R (s := s) hB R k (by omega)
    obtain ⟨w3, w4⟩ := bf_R (s := nxS ((yrN S f s k).2)) (lot := dvS (nxS ((yrN S f s k).2)) 5) hB w1 w2
    refine K_iload (dt_at dtX12_years 25 rfl) rfl ?_
    refine K_iload_n (dt_at dtX12_years 26 rfl) rfl rfl ?_
    refine K_icmp_ge (tgt := 75) (dt_at dtX12_years 27 rfl) (by decide) (by first | assumption | exact ⟨by omega, by omega⟩) (by first | assumption | exact ⟨by omega, by omega⟩) (fun c1 => absurd c1 (by omega)) (fun c1 => ?_)
    refine K_aload_n (dt_at dtX12_years 28 rfl) rfl rfl ?_
    refine K_callV (M' := mX12_happens) (a := 0) (ci := 12) (As := []) (st := []) (dt_at dtX12_years 29 rfl) (sX12_happens hB G a1 (by rw [e55])) (show TT 0 = (0, 12) from rfl) rfl wL_X12_448 vX12_happens rfl npX12_happens (by decide) (by decide) (Nat.le_of_ble_eq_true rfl) (by decide) (by decide) GK_E (fun v9 hc1 hq => ?_) (fun E h9 hq => by cases hq.1)
    have hqq2 := hq
    obtain ⟨e9q2, Gq2, e55q2⟩ := hqq2
    cases e9q2
    show K mX12_years _ _ 0 0 51 [(5, vi (k : Int)), (4, vi (itN (fun j v => v + ytN S f s k (j : Int)) 0 7)), (0, vr 0), (1, vi s), (2, vi (n : Int)), (3, vi 2)] [] hc1
    refine K_aload_n (dt_at dtX12_years 30 rfl) rfl rfl ?_
    refine K_bipush (dt_at dtX12_years 31 rfl) (by decide) ?_
    refine K_callV (M' := mX12_dayGoes) (a := 0) (ci := 12) (As := [vi 77]) (st := []) (dt_at dtX12_years 32 rfl) (sX12_dayGoes (MG_D7 Gq2) b1 b2 w3 w4 (MG_49 Gq2)) (show TT 0 = (0, 12) from rfl) rfl wL_X12_334 vX12_dayGoes rfl npX12_dayGoes (by decide) (by decide) (Nat.le_of_ble_eq_true rfl) (by decide) (by decide) GK_E (fun v9 hc3 hq => ?_) (fun E h9 hq => by cases hq.1)
    have hqq4 := hq
    obtain ⟨e9q4, dq4, ⟨lq4, mq4⟩, iq4⟩ := hqq4
    have Gq4 : MG h hc3 S f ((yrN S f s (k + 1)).1) := MG_day Gq2 dq4
    have e55q4 : hI hc3 0 55 = ((yrN S f s (k + 1)).2) := by rw [iq4 0 55 (by decide)]; exact e55q2
    cases e9q4
    show K mX12_years _ _ 0 0 57 [(5, vi (k : Int)), (4, vi (itN (fun j v => v + ytN S f s k (j : Int)) 0 7)), (0, vr 0), (1, vi s), (2, vi (n : Int)), (3, vi 2)] [] hc3
    refine K_iload (dt_at dtX12_years 33 rfl) rfl ?_
    refine K_aload_n (dt_at dtX12_years 34 rfl) rfl rfl ?_
    refine K_get (a := 0) (ci := 12) (k := 47) (v := vi (bitN (lvA S ((bfF S ((yrN S f s k).1) (nxS ((yrN S f s k).2)) (dvS (nxS ((yrN S f s k).2)) 5)).1)) (sNp S))) (dt_at dtX12_years 35 rfl) (show TT 0 = (0, 12) from rfl) rfl (by decide) wF_X12_313 (by show vi (hI hc3 0 47) = vi (bitN (lvA S ((bfF S ((yrN S f s k).1) (nxS ((yrN S f s k).2)) (dvS (nxS ((yrN S f s k).2)) 5)).1)) (sNp S)); rw [lq4]) ?_
    refine K_callS (M' := mX12_bits) (As := [vi (bitN (lvA S ((bfF S ((yrN S f s k).1) (nxS ((yrN S f s k).2)) (dvS (nxS ((yrN S f s k).2)) 5)).1)) (sNp S))]) (st := [vi (itN (fun j v => v + ytN S f s k (j : Int)) 0 7)]) (dt_at dtX12_years 36 rfl) (sX12_bits) wL_X12_340 vX12_bits rfl npX12_bits (by decide) (by decide) (Nat.le_of_ble_eq_true rfl) (by decide) (by decide) GK_E (fun v9 h9 hq => ?_) (fun E h9 hq => by cases hq.1)
    obtain ⟨e9, e8⟩ := hq
    cases e9
    rw [e8]
    show K mX12_years _ _ 0 0 66 [(5, vi (k : Int)), (4, vi (itN (fun j v => v + ytN S f s k (j : Int)) 0 7)), (0, vr 0), (1, vi s), (2, vi (n : Int)), (3, vi 2)] [vi (bitC (bitN (lvA S ((bfF S ((yrN S f s k).1) (nxS ((yrN S f s k).2)) (dvS (nxS ((yrN S f s k).2)) 5)).1)) (sNp S))), vi (itN (fun j v => v + ytN S f s k (j : Int)) 0 7)] hc3
    refine K_iadd (dt_at dtX12_years 37 rfl) ?_
    refine K_istore (ls' := [(4, vi ((itN (fun j v => v + ytN S f s k (j : Int)) 0 7) + (bitC (bitN (lvA S ((bfF S ((yrN S f s k).1) (nxS ((yrN S f s k).2)) (dvS (nxS ((yrN S f s k).2)) 5)).1)) (sNp S))))), (5, vi (k : Int)), (0, vr 0), (1, vi s), (2, vi (n : Int)), (3, vi 2)]) (dt_at dtX12_years 38 rfl) (by decide) rfl ?_
    refine K_iinc (ls' := [(5, vi ((k : Int) + 1)), (4, vi ((itN (fun j v => v + ytN S f s k (j : Int)) 0 7) + (bitC (bitN (lvA S ((bfF S ((yrN S f s k).1) (nxS ((yrN S f s k).2)) (dvS (nxS ((yrN S f s k).2)) 5)).1)) (sNp S))))), (0, vr 0), (1, vi s), (2, vi (n : Int)), (3, vi 2)]) (dt_at dtX12_years 39 rfl) rfl (by decide) rfl ?_
    refine K_goto (tgt := 41) (dt_at dtX12_years 40 rfl) (by decide) ?_
    refine K_pk [0, 1, 2, 3, 4, 5] (ls' := [(5, vi ((k : Int) + 1)), (4, vi ((itN (fun j v => v + ytN S f s k (j : Int)) 0 7) + (bitC (bitN (lvA S ((bfF S ((yrN S f s k).1) (nxS ((yrN S f s k).2)) (dvS (nxS ((yrN S f s k).2)) 5)).1)) (sNp S))))), (0, vr 0), (1, vi s), (2, vi (n : Int)), (3, vi 2)]) rfl ?_
    exact K_cg (ls' := [(5, vi ((k + 1 : Nat) : Int)), (4, vi (itN (fun j v => v + ytN S f s (k + 1) (j : Int)) 0 7)), (0, vr 0), (1, vi s), (2, vi (n : Int)), (3, vi 2)]) (h' := hc3) (by rw [show (itN (fun j v => v + ytN S f s (k + 1) (j : Int)) 0 7) = itN (fun j v => v + trN S ((bfF S ((yrN S f s k).1) (nxS ((yrN S f s k).2)) (dvS (nxS ((yrN S f s k).2)) 5)).1) (ytN S f s k) (sNp S) (j : Int)) 0 7 from rfl, yt_s hB]; rfl) rfl (ih (k + 1) hc3 (by omega) Gq4 e55q4)
set_option maxHeartbeats 4000000 in
set_option maxRecDepth 100000 in
theorem sX12_years_2 {h : HP} {S : HS} {f : Int → Int} {s : Int} {n : Nat} (Q0 : MAsk h S f) (hn : n ≤ 100) : SpecK mX12_years [vr 0, vi s, vi (n : Int), vi 2] h (fun o h' => o = .inl (some (vi (bitN (fun j => decide ((((yrN S f s n).1) (8 + (j : Int))) ≠ (j : Int))) (sNp S)))) ∧ FQ h h' ∧ hI h' 0 0 = 0) := by
  refine Spec_of (by decide +kernel) (Nat.le_of_ble_eq_true rfl) ?_
  have hB := Q0.1.1
  have hNt := hB.1
  have hNp := hB.2.1
  have R := Q0.2.2.2.2
  have hT := R.1
  have hW := hT.1
  refine K_aload_n (dt_at dtX12_years 0 rfl) rfl rfl ?_
  refine K_iconst (dt_at dtX12_years 1 rfl) ?_
  refine K_putI (a := 0) (ci := 12) (k := 0) (dt_at dtX12_years 2 rfl) (show TT 0 = (0, 12) from rfl) rfl (by decide) wF_X12_105 rfl (Or.inl rfl) rfl rfl ?_
  obtain ⟨hu1, eu1⟩ : ∃ z, z = sI h 0 0 0 := ⟨_, rfl⟩
  rw [← eu1]
  obtain ⟨iu1, fu1, au1, ru1⟩ := sI_fx eu1
  have Gu1 := MG_0 Q0 eu1
  refine K_aload_n (dt_at dtX12_years 3 rfl) rfl rfl ?_
  refine K_iload_n (dt_at dtX12_years 4 rfl) rfl rfl ?_
  refine K_iconst (dt_at dtX12_years 5 rfl) ?_
  refine K_callV (M' := mX12_isWhat) (a := 0) (ci := 12) (As := [vi 2, vi 2]) (st := []) (dt_at dtX12_years 6 rfl) (sX12_isWhat_t Gu1.2.2.2 (by omega) (by omega)) (show TT 0 = (0, 12) from rfl) rfl wL_X12_371 vX12_isWhat rfl npX12_isWhat (by decide) (by decide) (Nat.le_of_ble_eq_true rfl) (by decide) (by decide) GK_E (fun v9 h9 hq => ?_) (fun E h9 hq => by cases hq.1)
  obtain ⟨e9, e8⟩ := hq
  cases e9
  rw [e8]
  show K mX12_years _ _ 0 0 11 [(0, vr 0), (1, vi s), (2, vi (n : Int)), (3, vi 2)] [vi 1] hu1
  refine K_if_eq (tgt := 24) (dt_at dtX12_years 7 rfl) (by decide) (by first | assumption | exact ⟨by omega, by omega⟩) (fun c1 => absurd c1 (by omega)) (fun c1 => ?_)
  refine K_aload_n (dt_at dtX12_years 8 rfl) rfl rfl ?_
  refine K_iload_n (dt_at dtX12_years 9 rfl) rfl rfl ?_
  refine K_iconst (dt_at dtX12_years 10 rfl) ?_
  refine K_iconst (dt_at dtX12_years 11 rfl) ?_
  refine K_callV (M' := mX12_isSoon) (a := 0) (ci := 12) (As := [vi (n : Int), vi 0, vi 2]) (st := []) (dt_at dtX12_years 12 rfl) (sX12_isSoon_t Gu1.2.2.2 (by omega) (by omega)) (show TT 0 = (0, 12) from rfl) rfl wL_X12_403 vX12_isSoon rfl npX12_isSoon (by decide) (by decide) (Nat.le_of_ble_eq_true rfl) (by decide) (by decide) GK_E (fun v9 h9 hq => ?_) (fun E h9 hq => by cases hq.1)
  obtain ⟨e9, e8⟩ := hq
  cases e9
  rw [e8]
  show K mX12_years _ _ 0 0 21 [(0, vr 0), (1, vi s), (2, vi (n : Int)), (3, vi 2)] [vi 1] hu1
  refine K_if_ne (tgt := 26) (dt_at dtX12_years 13 rfl) (by decide) (by first | assumption | exact ⟨by omega, by omega⟩) (fun c2 => ?_) (fun c2 => absurd c2 (by omega))
  refine K_aload_n (dt_at dtX12_years 16 rfl) rfl rfl ?_
  refine K_callV (M' := mX12_tries) (a := 0) (ci := 12) (As := []) (st := []) (dt_at dtX12_years 17 rfl) (sX12_tries) (show TT 0 = (0, 12) from rfl) rfl wL_X12_397 vX12_tries rfl npX12_tries (by decide) (by decide) (Nat.le_of_ble_eq_true rfl) (by decide) (by decide) GK_E (fun v9 hc2 hq => ?_) (fun E h9 hq => by cases hq.1)
  have hqq3 := hq
  obtain ⟨e9q3, t1q3, t2q3, t3q3, t4q3⟩ := hqq3
  have Gq3 := MG_try Gu1 t1q3 t2q3 t3q3 t4q3
  cases e9q3
  show K mX12_years _ _ 0 0 30 [(0, vr 0), (1, vi s), (2, vi (n : Int)), (3, vi 2)] [] hc2
  refine K_aload_n (dt_at dtX12_years 18 rfl) rfl rfl ?_
  refine K_iload_n (dt_at dtX12_years 19 rfl) rfl rfl ?_
  refine K_putI (a := 0) (ci := 12) (k := 55) (dt_at dtX12_years 20 rfl) (show TT 0 = (0, 12) from rfl) rfl (by decide) wF_X12_441 rfl (Or.inl rfl) rfl rfl ?_
  obtain ⟨hu4, eu4⟩ : ∃ z, z = sI hc2 0 55 s := ⟨_, rfl⟩
  rw [← eu4]
  obtain ⟨iu4, fu4, au4, ru4⟩ := sI_fx eu4
  have Gu4 : MG h hu4 S f f := MG_I Gq3 eu4 (by omega)
  refine K_iconst (dt_at dtX12_years 21 rfl) ?_
  refine K_istore (ls' := [(4, vi 0), (0, vr 0), (1, vi s), (2, vi (n : Int)), (3, vi 2)]) (dt_at dtX12_years 22 rfl) (by decide) rfl ?_
  refine K_iconst (dt_at dtX12_years 23 rfl) ?_
  refine K_istore (ls' := [(5, vi 0), (4, vi 0), (0, vr 0), (1, vi s), (2, vi (n : Int)), (3, vi 2)]) (dt_at dtX12_years 24 rfl) (by decide) rfl ?_
  exact K_pk [0, 1, 2, 3, 4, 5] rfl (lp_X12_years_2 Q0 hn n 0 hu4 (by omega) Gu4 iu4)
