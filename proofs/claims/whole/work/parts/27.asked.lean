def mX11_together : MI := (yX11_together, cX11_together, 4, (some .int), rmK 8 3)
def tX11_together : List (Nat × Instr × Nat) := [(0, .aload_n 0, 1), (1, .iload_n 1, 1), (2, .invokevirtual 184, 3), (5, .aload_n 0, 1), (6, .iload_n 2, 1), (7, .invokevirtual 184, 3), (10, .iload_n 3, 1), (11, .iconst 1, 1), (12, .bipush 100, 2), (14, .invokestatic 111, 3), (17, .aload_n 0, 1), (18, .iconst 1, 1), (19, .iload_n 1, 1), (20, .ishl, 1), (21, .iconst 1, 1), (22, .iload_n 2, 1), (23, .ishl, 1), (24, .ior, 1), (25, .iload_n 3, 1), (26, .invokevirtual 305, 3), (29, .ireturn, 1)]
theorem dtX11_together : tX11_together.all (fun q => decide (decode cX11_together q.1 = .ok (q.2.1, q.2.2))) = true := by decide +kernel
theorem npX11_together : (parseMethodDescriptor (mY mX11_together).desc).map (fun d => d.parameters.length) = some 3 := by decide +kernel
theorem vX11_together : mV mX11_together := ⟨wI_X11_together, wS_X11_together, wN_X11, wC_X11_together, by decide +kernel, by decide +kernel⟩
set_option maxHeartbeats 4000000 in
set_option maxRecDepth 100000 in
theorem sX11_together_x1 {h : HP} {t : Nat} {S : HS} {B : Int} {f : Int → Int} {p : Int} {q : Int} {d : Int} (c : CQ h t S B f) (hp : i32 p) (hq : i32 q) (hd : i32 d) (kn : ¬ (0 ≤ p ∧ p < sNp S)) : SpecK mX11_together [vr 30, vi p, vi q, vi d] h (fun o h' => o = .inr eNS ∧ FS h h') := by
  refine Spec_of (by decide +kernel) (Nat.le_of_ble_eq_true rfl) ?_
  have ht := c.1
  have hH := TTt ht
  have hB := c.2.2.2.1
  have hNt := hB.1
  have hNp := hB.2.1
  have hT := c.2.2.2.2.2.1
  have hC := c.2.2.2.2.2.2.1
  have h99 := c.2.2.2.2.2.2.2.1
  have G := c.2.2.2.2.2.2.2.2
  have hf0 := hT.2.2.2.1
  refine K_aload_n (dt_at dtX11_together 0 rfl) rfl rfl ?_
  refine K_iload_n (dt_at dtX11_together 1 rfl) rfl rfl ?_
  exact K_callV (M' := mX11_needPerson) (a := 30) (ci := 11) (As := [vi p]) (st := []) (dt_at dtX11_together 2 rfl) (sX11_needPerson_no hH c.2.1 c.2.2.1.2.1.2 hNp (by assumption) (by omega)) (by decide) rfl wL_X11_184 vX11_needPerson rfl npX11_needPerson (by decide) (by decide) (Nat.le_of_ble_eq_true rfl) (by decide) (by decide) GK_E (fun v9 h9 hq => by cases hq.1) (fun E h9 hq => by obtain ⟨e9, e8⟩ := hq; cases e9; rw [e8]; exact KX_out (by decide) (by decide) ⟨rfl, FS_rf G⟩)
set_option maxHeartbeats 4000000 in
set_option maxRecDepth 100000 in
theorem sX11_together_x2 {h : HP} {t : Nat} {S : HS} {B : Int} {f : Int → Int} {p : Int} {q : Int} {d : Int} (c : CQ h t S B f) (hp : i32 p) (hq : i32 q) (hd : i32 d) (k0 : 0 ≤ p ∧ p < sNp S) (kn : ¬ (0 ≤ q ∧ q < sNp S)) : SpecK mX11_together [vr 30, vi p, vi q, vi d] h (fun o h' => o = .inr eNS ∧ FS h h') := by
  refine Spec_of (by decide +kernel) (Nat.le_of_ble_eq_true rfl) ?_
  have ht := c.1
  have hH := TTt ht
  have hB := c.2.2.2.1
  have hNt := hB.1
  have hNp := hB.2.1
  have hT := c.2.2.2.2.2.1
  have hC := c.2.2.2.2.2.2.1
  have h99 := c.2.2.2.2.2.2.2.1
  have G := c.2.2.2.2.2.2.2.2
  have hf0 := hT.2.2.2.1
  refine K_aload_n (dt_at dtX11_together 0 rfl) rfl rfl ?_
  refine K_iload_n (dt_at dtX11_together 1 rfl) rfl rfl ?_
  refine K_callV (M' := mX11_needPerson) (a := 30) (ci := 11) (As := [vi p]) (st := []) (dt_at dtX11_together 2 rfl) (sX11_needPerson hH c.2.1 c.2.2.1.2.1.2 hNp (by first | assumption | exact ⟨by omega, by omega⟩) (by omega)) (by decide) rfl wL_X11_184 vX11_needPerson rfl npX11_needPerson (by decide) (by decide) (Nat.le_of_ble_eq_true rfl) (by decide) (by decide) GK_E (fun v9 h9 hq => ?_) (fun E h9 hq => by cases hq.1)
  obtain ⟨e9, e8⟩ := hq
  cases e9
  rw [e8]
  show K mX11_together _ _ 1 6 5 [(0, vr 30), (1, vi p), (2, vi q), (3, vi d)] [] h
  refine K_aload_n (dt_at dtX11_together 3 rfl) rfl rfl ?_
  refine K_iload_n (dt_at dtX11_together 4 rfl) rfl rfl ?_
  exact K_callV (M' := mX11_needPerson) (a := 30) (ci := 11) (As := [vi q]) (st := []) (dt_at dtX11_together 5 rfl) (sX11_needPerson_no hH c.2.1 c.2.2.1.2.1.2 hNp (by assumption) (by omega)) (by decide) rfl wL_X11_184 vX11_needPerson rfl npX11_needPerson (by decide) (by decide) (Nat.le_of_ble_eq_true rfl) (by decide) (by decide) GK_E (fun v9 h9 hq => by cases hq.1) (fun E h9 hq => by obtain ⟨e9, e8⟩ := hq; cases e9; rw [e8]; exact KX_out (by decide) (by decide) ⟨rfl, FS_rf G⟩)
set_option maxHeartbeats 4000000 in
set_option maxRecDepth 100000 in
theorem sX11_together_x3 {h : HP} {t : Nat} {S : HS} {B : Int} {f : Int → Int} {p : Int} {q : Int} {d : Int} (c : CQ h t S B f) (hp : i32 p) (hq : i32 q) (hd : i32 d) (k0 : 0 ≤ p ∧ p < sNp S) (k1 : 0 ≤ q ∧ q < sNp S) (kn : ¬ (1 ≤ d ∧ d ≤ 100)) : SpecK mX11_together [vr 30, vi p, vi q, vi d] h (fun o h' => o = .inr eIA ∧ FS h h') := by
  refine Spec_of (by decide +kernel) (Nat.le_of_ble_eq_true rfl) ?_
  have ht := c.1
  have hH := TTt ht
  have hB := c.2.2.2.1
  have hNt := hB.1
  have hNp := hB.2.1
  have hT := c.2.2.2.2.2.1
  have hC := c.2.2.2.2.2.2.1
  have h99 := c.2.2.2.2.2.2.2.1
  have G := c.2.2.2.2.2.2.2.2
  have hf0 := hT.2.2.2.1
  refine K_aload_n (dt_at dtX11_together 0 rfl) rfl rfl ?_
  refine K_iload_n (dt_at dtX11_together 1 rfl) rfl rfl ?_
  refine K_callV (M' := mX11_needPerson) (a := 30) (ci := 11) (As := [vi p]) (st := []) (dt_at dtX11_together 2 rfl) (sX11_needPerson hH c.2.1 c.2.2.1.2.1.2 hNp (by first | assumption | exact ⟨by omega, by omega⟩) (by omega)) (by decide) rfl wL_X11_184 vX11_needPerson rfl npX11_needPerson (by decide) (by decide) (Nat.le_of_ble_eq_true rfl) (by decide) (by decide) GK_E (fun v9 h9 hq => ?_) (fun E h9 hq => by cases hq.1)
  obtain ⟨e9, e8⟩ := hq
  cases e9
  rw [e8]
  show K mX11_together _ _ 1 6 5 [(0, vr 30), (1, vi p), (2, vi q), (3, vi d)] [] h
  refine K_aload_n (dt_at dtX11_together 3 rfl) rfl rfl ?_
  refine K_iload_n (dt_at dtX11_together 4 rfl) rfl rfl ?_
  refine K_callV (M' := mX11_needPerson) (a := 30) (ci := 11) (As := [vi q]) (st := []) (dt_at dtX11_together 5 rfl) (sX11_needPerson hH c.2.1 c.2.2.1.2.1.2 hNp (by first | assumption | exact ⟨by omega, by omega⟩) (by omega)) (by decide) rfl wL_X11_184 vX11_needPerson rfl npX11_needPerson (by decide) (by decide) (Nat.le_of_ble_eq_true rfl) (by decide) (by decide) GK_E (fun v9 h9 hq => ?_) (fun E h9 hq => by cases hq.1)
  obtain ⟨e9, e8⟩ := hq
  cases e9
  rw [e8]
  show K mX11_together _ _ 2 12 10 [(0, vr 30), (1, vi p), (2, vi q), (3, vi d)] [] h
  refine K_iload_n (dt_at dtX11_together 6 rfl) rfl rfl ?_
  refine K_iconst (dt_at dtX11_together 7 rfl) ?_
  refine K_bipush (dt_at dtX11_together 8 rfl) (by decide) ?_
  exact K_callS (M' := mX11_needBetween) (As := [vi d, vi 1, vi 100]) (st := []) (dt_at dtX11_together 9 rfl) (sX11_needBetween_no (by assumption) ⟨by decide, by decide⟩ ⟨by decide, by decide⟩ (by omega)) wL_X11_111 vX11_needBetween rfl npX11_needBetween (by decide) (by decide) (Nat.le_of_ble_eq_true rfl) (by decide) (by decide) GK_E (fun v9 h9 hq => by cases hq.1) (fun E h9 hq => by obtain ⟨e9, e8⟩ := hq; cases e9; rw [e8]; exact KX_out (by decide) (by decide) ⟨rfl, FS_rf G⟩)
set_option maxHeartbeats 4000000 in
set_option maxRecDepth 100000 in
theorem sX11_together {h : HP} {t : Nat} {S : HS} {B : Int} {f : Int → Int} {p q : Int} {n : Nat} (c : CQ h t S B f) (hp : 0 ≤ p ∧ p < sNp S) (hqt : 0 ≤ q ∧ q < sNp S) (hn : 1 ≤ n ∧ n ≤ 100) : SpecK mX11_together [vr 30, vi p, vi q, vi (n : Int)] h (fun o h' => o = .inl (some (vi (cntN (fun k => decide (bAnd (bitN (fun j => decide (((dysF S f (k + 1)) (1 + (j : Int))) ≠ 0)) (sNp S)) (bOr (bShl 1 p) (bShl 1 q)) = 0)) n))) ∧ FS h h') := by
  refine Spec_of (by decide +kernel) (Nat.le_of_ble_eq_true rfl) ?_
  have ht := c.1
  have hH := TTt ht
  have hB := c.2.2.2.1
  have hNt := hB.1
  have hNp := hB.2.1
  have hT := c.2.2.2.2.2.1
  have hC := c.2.2.2.2.2.2.1
  have h99 := c.2.2.2.2.2.2.2.1
  have G := c.2.2.2.2.2.2.2.2
  have hf0 := hT.2.2.2.1
  refine K_aload_n (dt_at dtX11_together 0 rfl) rfl rfl ?_
  refine K_iload_n (dt_at dtX11_together 1 rfl) rfl rfl ?_
  refine K_callV (M' := mX11_needPerson) (a := 30) (ci := 11) (As := [vi p]) (st := []) (dt_at dtX11_together 2 rfl) (sX11_needPerson hH c.2.1 c.2.2.1.2.1.2 hNp (by first | assumption | exact ⟨by omega, by omega⟩) (by omega)) (by decide) rfl wL_X11_184 vX11_needPerson rfl npX11_needPerson (by decide) (by decide) (Nat.le_of_ble_eq_true rfl) (by decide) (by decide) GK_E (fun v9 h9 hq => ?_) (fun E h9 hq => by cases hq.1)
  obtain ⟨e9, e8⟩ := hq
  cases e9
  rw [e8]
  show K mX11_together _ _ 1 6 5 [(0, vr 30), (1, vi p), (2, vi q), (3, vi (n : Int))] [] h
  refine K_aload_n (dt_at dtX11_together 3 rfl) rfl rfl ?_
  refine K_iload_n (dt_at dtX11_together 4 rfl) rfl rfl ?_
  refine K_callV (M' := mX11_needPerson) (a := 30) (ci := 11) (As := [vi q]) (st := []) (dt_at dtX11_together 5 rfl) (sX11_needPerson hH c.2.1 c.2.2.1.2.1.2 hNp (by first | assumption | exact ⟨by omega, by omega⟩) (by omega)) (by decide) rfl wL_X11_184 vX11_needPerson rfl npX11_needPerson (by decide) (by decide) (Nat.le_of_ble_eq_true rfl) (by decide) (by decide) GK_E (fun v9 h9 hq => ?_) (fun E h9 hq => by cases hq.1)
  obtain ⟨e9, e8⟩ := hq
  cases e9
  rw [e8]
  show K mX11_together _ _ 2 12 10 [(0, vr 30), (1, vi p), (2, vi q), (3, vi (n : Int))] [] h
  refine K_iload_n (dt_at dtX11_together 6 rfl) rfl rfl ?_
  refine K_iconst (dt_at dtX11_together 7 rfl) ?_
  refine K_bipush (dt_at dtX11_together 8 rfl) (by decide) ?_
  refine K_callS (M' := mX11_needBetween) (As := [vi (n : Int), vi 1, vi 100]) (st := []) (dt_at dtX11_together 9 rfl) (sX11_needBetween (by first | assumption | exact ⟨by omega, by omega⟩) ⟨by decide, by decide⟩ ⟨by decide, by decide⟩ (by omega)) wL_X11_111 vX11_needBetween rfl npX11_needBetween (by decide) (by decide) (Nat.le_of_ble_eq_true rfl) (by decide) (by decide) GK_E (fun v9 h9 hq => ?_) (fun E h9 hq => by cases hq.1)
  obtain ⟨e9, e8⟩ := hq
  cases e9
  rw [e8]
  show K mX11_together _ _ 3 18 17 [(0, vr 30), (1, vi p), (2, vi q), (3, vi (n : Int))] [] h
  refine K_aload_n (dt_at dtX11_together 10 rfl) rfl rfl ?_
  refine K_iconst (dt_at dtX11_together 11 rfl) ?_
  refine K_iload_n (dt_at dtX11_together 12 rfl) rfl rfl ?_
  refine K_ishl (dt_at dtX11_together 13 rfl) ?_
  refine K_iconst (dt_at dtX11_together 14 rfl) ?_
  refine K_iload_n (dt_at dtX11_together 15 rfl) rfl rfl ?_
  refine K_ishl (dt_at dtX11_together 16 rfl) ?_
  refine K_ior (dt_at dtX11_together 17 rfl) ?_
  refine K_iload_n (dt_at dtX11_together 18 rfl) rfl rfl ?_
  refine K_callV (M' := mX11_daysWithNoneOut) (a := 30) (ci := 11) (As := [vi (bOr (bShl 1 p) (bShl 1 q)), vi (n : Int)]) (st := []) (dt_at dtX11_together 19 rfl) (sX11_daysWithNoneOut c (by omega)) (by decide) rfl wL_X11_305 vX11_daysWithNoneOut rfl npX11_daysWithNoneOut (by decide) (by decide) (Nat.le_of_ble_eq_true rfl) (by decide) (by decide) GK_E (fun v9 hc1 hq => ?_) (fun E h9 hq => by cases hq.1)
  have hqq2 := hq
  obtain ⟨e9q2, Fq2⟩ := hqq2
  cases e9q2
  show K mX11_together _ _ 3 18 29 [(0, vr 30), (1, vi p), (2, vi q), (3, vi (n : Int))] [vi (cntN (fun k => decide (bAnd (bitN (fun j => decide (((dysF S f (k + 1)) (1 + (j : Int))) ≠ 0)) (sNp S)) (bOr (bShl 1 p) (bShl 1 q)) = 0)) n)] hc1
  exact K_iret (dt_at dtX11_together 20 rfl) rfl rfl (by decide) (by decide) ⟨rfl, Fq2⟩
def mX11_awayBoth : MI := (yX11_awayBoth, cX11_awayBoth, 4, (some .int), rmK 8 3)
def tX11_awayBoth : List (Nat × Instr × Nat) := [(0, .aload_n 0, 1), (1, .iload_n 1, 1), (2, .invokevirtual 184, 3), (5, .aload_n 0, 1), (6, .iload_n 2, 1), (7, .invokevirtual 184, 3), (10, .iload_n 3, 1), (11, .iconst 1, 1), (12, .bipush 100, 2), (14, .invokestatic 111, 3), (17, .aload_n 0, 1), (18, .iconst 1, 1), (19, .iload_n 1, 1), (20, .ishl, 1), (21, .iconst 1, 1), (22, .iload_n 2, 1), (23, .ishl, 1), (24, .ior, 1), (25, .iload_n 3, 1), (26, .invokevirtual 308, 3), (29, .ireturn, 1)]
theorem dtX11_awayBoth : tX11_awayBoth.all (fun q => decide (decode cX11_awayBoth q.1 = .ok (q.2.1, q.2.2))) = true := by decide +kernel
theorem npX11_awayBoth : (parseMethodDescriptor (mY mX11_awayBoth).desc).map (fun d => d.parameters.length) = some 3 := by decide +kernel
theorem vX11_awayBoth : mV mX11_awayBoth := ⟨wI_X11_awayBoth, wS_X11_awayBoth, wN_X11, wC_X11_awayBoth, by decide +kernel, by decide +kernel⟩
set_option maxHeartbeats 4000000 in
set_option maxRecDepth 100000 in
theorem sX11_awayBoth_x1 {h : HP} {t : Nat} {S : HS} {B : Int} {f : Int → Int} {p : Int} {q : Int} {d : Int} (c : CQ h t S B f) (hp : i32 p) (hq : i32 q) (hd : i32 d) (kn : ¬ (0 ≤ p ∧ p < sNp S)) : SpecK mX11_awayBoth [vr 30, vi p, vi q, vi d] h (fun o h' => o = .inr eNS ∧ FS h h') := by
  refine Spec_of (by decide +kernel) (Nat.le_of_ble_eq_true rfl) ?_
  have ht := c.1
  have hH := TTt ht
  have hB := c.2.2.2.1
  have hNt := hB.1
  have hNp := hB.2.1
  have hT := c.2.2.2.2.2.1
  have hC := c.2.2.2.2.2.2.1
  have h99 := c.2.2.2.2.2.2.2.1
  have G := c.2.2.2.2.2.2.2.2
  have hf0 := hT.2.2.2.1
  refine K_aload_n (dt_at dtX11_awayBoth 0 rfl) rfl rfl ?_
  refine K_iload_n (dt_at dtX11_awayBoth 1 rfl) rfl rfl ?_
  exact K_callV (M' := mX11_needPerson) (a := 30) (ci := 11) (As := [vi p]) (st := []) (dt_at dtX11_awayBoth 2 rfl) (sX11_needPerson_no hH c.2.1 c.2.2.1.2.1.2 hNp (by assumption) (by omega)) (by decide) rfl wL_X11_184 vX11_needPerson rfl npX11_needPerson (by decide) (by decide) (Nat.le_of_ble_eq_true rfl) (by decide) (by decide) GK_E (fun v9 h9 hq => by cases hq.1) (fun E h9 hq => by obtain ⟨e9, e8⟩ := hq; cases e9; rw [e8]; exact KX_out (by decide) (by decide) ⟨rfl, FS_rf G⟩)
set_option maxHeartbeats 4000000 in
set_option maxRecDepth 100000 in
theorem sX11_awayBoth_x2 {h : HP} {t : Nat} {S : HS} {B : Int} {f : Int → Int} {p : Int} {q : Int} {d : Int} (c : CQ h t S B f) (hp : i32 p) (hq : i32 q) (hd : i32 d) (k0 : 0 ≤ p ∧ p < sNp S) (kn : ¬ (0 ≤ q ∧ q < sNp S)) : SpecK mX11_awayBoth [vr 30, vi p, vi q, vi d] h (fun o h' => o = .inr eNS ∧ FS h h') := by
  refine Spec_of (by decide +kernel) (Nat.le_of_ble_eq_true rfl) ?_
  have ht := c.1
  have hH := TTt ht
  have hB := c.2.2.2.1
  have hNt := hB.1
  have hNp := hB.2.1
  have hT := c.2.2.2.2.2.1
  have hC := c.2.2.2.2.2.2.1
  have h99 := c.2.2.2.2.2.2.2.1
  have G := c.2.2.2.2.2.2.2.2
  have hf0 := hT.2.2.2.1
  refine K_aload_n (dt_at dtX11_awayBoth 0 rfl) rfl rfl ?_
  refine K_iload_n (dt_at dtX11_awayBoth 1 rfl) rfl rfl ?_
  refine K_callV (M' := mX11_needPerson) (a := 30) (ci := 11) (As := [vi p]) (st := []) (dt_at dtX11_awayBoth 2 rfl) (sX11_needPerson hH c.2.1 c.2.2.1.2.1.2 hNp (by first | assumption | exact ⟨by omega, by omega⟩) (by omega)) (by decide) rfl wL_X11_184 vX11_needPerson rfl npX11_needPerson (by decide) (by decide) (Nat.le_of_ble_eq_true rfl) (by decide) (by decide) GK_E (fun v9 h9 hq => ?_) (fun E h9 hq => by cases hq.1)
  obtain ⟨e9, e8⟩ := hq
  cases e9
  rw [e8]
  show K mX11_awayBoth _ _ 1 6 5 [(0, vr 30), (1, vi p), (2, vi q), (3, vi d)] [] h
  refine K_aload_n (dt_at dtX11_awayBoth 3 rfl) rfl rfl ?_
  refine K_iload_n (dt_at dtX11_awayBoth 4 rfl) rfl rfl ?_
  exact K_callV (M' := mX11_needPerson) (a := 30) (ci := 11) (As := [vi q]) (st := []) (dt_at dtX11_awayBoth 5 rfl) (sX11_needPerson_no hH c.2.1 c.2.2.1.2.1.2 hNp (by assumption) (by omega)) (by decide) rfl wL_X11_184 vX11_needPerson rfl npX11_needPerson (by decide) (by decide) (Nat.le_of_ble_eq_true rfl) (by decide) (by decide) GK_E (fun v9 h9 hq => by cases hq.1) (fun E h9 hq => by obtain ⟨e9, e8⟩ := hq; cases e9; rw [e8]; exact KX_out (by decide) (by decide) ⟨rfl, FS_rf G⟩)
set_option maxHeartbeats 4000000 in
set_option maxRecDepth 100000 in
theorem sX11_awayBoth_x3 {h : HP} {t : Nat} {S : HS} {B : Int} {f : Int → Int} {p : Int} {q : Int} {d : Int} (c : CQ h t S B f) (hp : i32 p) (hq : i32 q) (hd : i32 d) (k0 : 0 ≤ p ∧ p < sNp S) (k1 : 0 ≤ q ∧ q < sNp S) (kn : ¬ (1 ≤ d ∧ d ≤ 100)) : SpecK mX11_awayBoth [vr 30, vi p, vi q, vi d] h (fun o h' => o = .inr eIA ∧ FS h h') := by
  refine Spec_of (by decide +kernel) (Nat.le_of_ble_eq_true rfl) ?_
  have ht := c.1
  have hH := TTt ht
  have hB := c.2.2.2.1
  have hNt := hB.1
  have hNp := hB.2.1
  have hT := c.2.2.2.2.2.1
  have hC := c.2.2.2.2.2.2.1
  have h99 := c.2.2.2.2.2.2.2.1
  have G := c.2.2.2.2.2.2.2.2
  have hf0 := hT.2.2.2.1
  refine K_aload_n (dt_at dtX11_awayBoth 0 rfl) rfl rfl ?_
  refine K_iload_n (dt_at dtX11_awayBoth 1 rfl) rfl rfl ?_
  refine K_callV (M' := mX11_needPerson) (a := 30) (ci := 11) (As := [vi p]) (st := []) (dt_at dtX11_awayBoth 2 rfl) (sX11_needPerson hH c.2.1 c.2.2.1.2.1.2 hNp (by first | assumption | exact ⟨by omega, by omega⟩) (by omega)) (by decide) rfl wL_X11_184 vX11_needPerson rfl npX11_needPerson (by decide) (by decide) (Nat.le_of_ble_eq_true rfl) (by decide) (by decide) GK_E (fun v9 h9 hq => ?_) (fun E h9 hq => by cases hq.1)
  obtain ⟨e9, e8⟩ := hq
  cases e9
  rw [e8]
  show K mX11_awayBoth _ _ 1 6 5 [(0, vr 30), (1, vi p), (2, vi q), (3, vi d)] [] h
  refine K_aload_n (dt_at dtX11_awayBoth 3 rfl) rfl rfl ?_
  refine K_iload_n (dt_at dtX11_awayBoth 4 rfl) rfl rfl ?_
  refine K_callV (M' := mX11_needPerson) (a := 30) (ci := 11) (As := [vi q]) (st := []) (dt_at dtX11_awayBoth 5 rfl) (sX11_needPerson hH c.2.1 c.2.2.1.2.1.2 hNp (by first | assumption | exact ⟨by omega, by omega⟩) (by omega)) (by decide) rfl wL_X11_184 vX11_needPerson rfl npX11_needPerson (by decide) (by decide) (Nat.le_of_ble_eq_true rfl) (by decide) (by decide) GK_E (fun v9 h9 hq => ?_) (fun E h9 hq => by cases hq.1)
  obtain ⟨e9, e8⟩ := hq
  cases e9
  rw [e8]
  show K mX11_awayBoth _ _ 2 12 10 [(0, vr 30), (1, vi p), (2, vi q), (3, vi d)] [] h
  refine K_iload_n (dt_at dtX11_awayBoth 6 rfl) rfl rfl ?_
  refine K_iconst (dt_at dtX11_awayBoth 7 rfl) ?_
  refine K_bipush (dt_at dtX11_awayBoth 8 rfl) (by decide) ?_
  exact K_callS (M' := mX11_needBetween) (As := [vi d, vi 1, vi 100]) (st := []) (dt_at dtX11_awayBoth 9 rfl) (sX11_needBetween_no (by assumption) ⟨by decide, by decide⟩ ⟨by decide, by decide⟩ (by omega)) wL_X11_111 vX11_needBetween rfl npX11_needBetween (by decide) (by decide) (Nat.le_of_ble_eq_true rfl) (by decide) (by decide) GK_E (fun v9 h9 hq => by cases hq.1) (fun E h9 hq => by obtain ⟨e9, e8⟩ := hq; cases e9; rw [e8]; exact KX_out (by decide) (by decide) ⟨rfl, FS_rf G⟩)
set_option maxHeartbeats 4000000 in
set_option maxRecDepth 100000 in
theorem sX11_awayBoth {h : HP} {t : Nat} {S : HS} {B : Int} {f : Int → Int} {p q : Int} {n : Nat} (c : CQ h t S B f) (hp : 0 ≤ p ∧ p < sNp S) (hqt : 0 ≤ q ∧ q < sNp S) (hn : 1 ≤ n ∧ n ≤ 100) : SpecK mX11_awayBoth [vr 30, vi p, vi q, vi (n : Int)] h (fun o h' => o = .inl (some (vi (cntN (fun k => decide (bAnd (bAnd (bXor (bitN (fun j => decide (((dysF S f (k + 1)) (1 + (j : Int))) ≠ 0)) (sNp S)) (-1)) (bShl 1 (sNp S : Int) - 1)) (bOr (bShl 1 p) (bShl 1 q)) = 0)) n))) ∧ FS h h') := by
  refine Spec_of (by decide +kernel) (Nat.le_of_ble_eq_true rfl) ?_
  have ht := c.1
  have hH := TTt ht
  have hB := c.2.2.2.1
  have hNt := hB.1
  have hNp := hB.2.1
  have hT := c.2.2.2.2.2.1
  have hC := c.2.2.2.2.2.2.1
  have h99 := c.2.2.2.2.2.2.2.1
  have G := c.2.2.2.2.2.2.2.2
  have hf0 := hT.2.2.2.1
  refine K_aload_n (dt_at dtX11_awayBoth 0 rfl) rfl rfl ?_
  refine K_iload_n (dt_at dtX11_awayBoth 1 rfl) rfl rfl ?_
  refine K_callV (M' := mX11_needPerson) (a := 30) (ci := 11) (As := [vi p]) (st := []) (dt_at dtX11_awayBoth 2 rfl) (sX11_needPerson hH c.2.1 c.2.2.1.2.1.2 hNp (by first | assumption | exact ⟨by omega, by omega⟩) (by omega)) (by decide) rfl wL_X11_184 vX11_needPerson rfl npX11_needPerson (by decide) (by decide) (Nat.le_of_ble_eq_true rfl) (by decide) (by decide) GK_E (fun v9 h9 hq => ?_) (fun E h9 hq => by cases hq.1)
  obtain ⟨e9, e8⟩ := hq
  cases e9
  rw [e8]
  show K mX11_awayBoth _ _ 1 6 5 [(0, vr 30), (1, vi p), (2, vi q), (3, vi (n : Int))] [] h
  refine K_aload_n (dt_at dtX11_awayBoth 3 rfl) rfl rfl ?_
  refine K_iload_n (dt_at dtX11_awayBoth 4 rfl) rfl rfl ?_
  refine K_callV (M' := mX11_needPerson) (a := 30) (ci := 11) (As := [vi q]) (st := []) (dt_at dtX11_awayBoth 5 rfl) (sX11_needPerson hH c.2.1 c.2.2.1.2.1.2 hNp (by first | assumption | exact ⟨by omega, by omega⟩) (by omega)) (by decide) rfl wL_X11_184 vX11_needPerson rfl npX11_needPerson (by decide) (by decide) (Nat.le_of_ble_eq_true rfl) (by decide) (by decide) GK_E (fun v9 h9 hq => ?_) (fun E h9 hq => by cases hq.1)
  obtain ⟨e9, e8⟩ := hq
  cases e9
  rw [e8]
  show K mX11_awayBoth _ _ 2 12 10 [(0, vr 30), (1, vi p), (2, vi q), (3, vi (n : Int))] [] h
  refine K_iload_n (dt_at dtX11_awayBoth 6 rfl) rfl rfl ?_
  refine K_iconst (dt_at dtX11_awayBoth 7 rfl) ?_
  refine K_bipush (dt_at dtX11_awayBoth 8 rfl) (by decide) ?_
  refine K_callS (M' := mX11_needBetween) (As := [vi (n : Int), vi 1, vi 100]) (st := []) (dt_at dtX11_awayBoth 9 rfl) (sX11_needBetween (by first | assumption | exact ⟨by omega, by omega⟩) ⟨by decide, by decide⟩ ⟨by decide, by decide⟩ (by omega)) wL_X11_111 vX11_needBetween rfl npX11_needBetween (by decide) (by decide) (Nat.le_of_ble_eq_true rfl) (by decide) (by decide) GK_E (fun v9 h9 hq => ?_) (fun E h9 hq => by cases hq.1)
  obtain ⟨e9, e8⟩ := hq
  cases e9
  rw [e8]
  show K mX11_awayBoth _ _ 3 18 17 [(0, vr 30), (1, vi p), (2, vi q), (3, vi (n : Int))] [] h
  refine K_aload_n (dt_at dtX11_awayBoth 10 rfl) rfl rfl ?_
  refine K_iconst (dt_at dtX11_awayBoth 11 rfl) ?_
  refine K_iload_n (dt_at dtX11_awayBoth 12 rfl) rfl rfl ?_
  refine K_ishl (dt_at dtX11_awayBoth 13 rfl) ?_
  refine K_iconst (dt_at dtX11_awayBoth 14 rfl) ?_
  refine K_iload_n (dt_at dtX11_awayBoth 15 rfl) rfl rfl ?_
  refine K_ishl (dt_at dtX11_awayBoth 16 rfl) ?_
  refine K_ior (dt_at dtX11_awayBoth 17 rfl) ?_
  refine K_iload_n (dt_at dtX11_awayBoth 18 rfl) rfl rfl ?_
  refine K_callV (M' := mX11_daysWithNoneIn) (a := 30) (ci := 11) (As := [vi (bOr (bShl 1 p) (bShl 1 q)), vi (n : Int)]) (st := []) (dt_at dtX11_awayBoth 19 rfl) (sX11_daysWithNoneIn c (by omega)) (by decide) rfl wL_X11_308 vX11_daysWithNoneIn rfl npX11_daysWithNoneIn (by decide) (by decide) (Nat.le_of_ble_eq_true rfl) (by decide) (by decide) GK_E (fun v9 hc1 hq => ?_) (fun E h9 hq => by cases hq.1)
  have hqq2 := hq
  obtain ⟨e9q2, Fq2⟩ := hqq2
  cases e9q2
  show K mX11_awayBoth _ _ 3 18 29 [(0, vr 30), (1, vi p), (2, vi q), (3, vi (n : Int))] [vi (cntN (fun k => decide (bAnd (bAnd (bXor (bitN (fun j => decide (((dysF S f (k + 1)) (1 + (j : Int))) ≠ 0)) (sNp S)) (-1)) (bShl 1 (sNp S : Int) - 1)) (bOr (bShl 1 p) (bShl 1 q)) = 0)) n)] hc1
  exact K_iret (dt_at dtX11_awayBoth 20 rfl) rfl rfl (by decide) (by decide) ⟨rfl, Fq2⟩
def mX11_alone : MI := (yX11_alone, cX11_alone, 2, (some .int), rmK 8 1)
def tX11_alone : List (Nat × Instr × Nat) := [(0, .iload_n 1, 1), (1, .iconst 1, 1), (2, .bipush 100, 2), (4, .invokestatic 111, 3), (7, .aload_n 0, 1), (8, .iconst 1, 1), (9, .aload_n 0, 1), (10, .getfield 20, 3), (13, .getfield 140, 3), (16, .ishl, 1), (17, .iconst 1, 1), (18, .isub, 1), (19, .iload_n 1, 1), (20, .invokevirtual 308, 3), (23, .ireturn, 1)]
theorem dtX11_alone : tX11_alone.all (fun q => decide (decode cX11_alone q.1 = .ok (q.2.1, q.2.2))) = true := by decide +kernel
theorem npX11_alone : (parseMethodDescriptor (mY mX11_alone).desc).map (fun d => d.parameters.length) = some 1 := by decide +kernel
theorem vX11_alone : mV mX11_alone := ⟨wI_X11_alone, wS_X11_alone, wN_X11, wC_X11_alone, by decide +kernel, by decide +kernel⟩
set_option maxHeartbeats 4000000 in
set_option maxRecDepth 100000 in
theorem sX11_alone_x1 {h : HP} {t : Nat} {S : HS} {B : Int} {f : Int → Int} {d : Int} (c : CQ h t S B f) (hd : i32 d) (kn : ¬ (1 ≤ d ∧ d ≤ 100)) : SpecK mX11_alone [vr 30, vi d] h (fun o h' => o = .inr eIA ∧ FS h h') := by
  refine Spec_of (by decide +kernel) (Nat.le_of_ble_eq_true rfl) ?_
  have ht := c.1
  have hH := TTt ht
  have hB := c.2.2.2.1
  have hNt := hB.1
  have hNp := hB.2.1
  have hT := c.2.2.2.2.2.1
  have hC := c.2.2.2.2.2.2.1
  have h99 := c.2.2.2.2.2.2.2.1
  have G := c.2.2.2.2.2.2.2.2
  have hf0 := hT.2.2.2.1
  refine K_iload_n (dt_at dtX11_alone 0 rfl) rfl rfl ?_
  refine K_iconst (dt_at dtX11_alone 1 rfl) ?_
  refine K_bipush (dt_at dtX11_alone 2 rfl) (by decide) ?_
  exact K_callS (M' := mX11_needBetween) (As := [vi d, vi 1, vi 100]) (st := []) (dt_at dtX11_alone 3 rfl) (sX11_needBetween_no (by assumption) ⟨by decide, by decide⟩ ⟨by decide, by decide⟩ (by omega)) wL_X11_111 vX11_needBetween rfl npX11_needBetween (by decide) (by decide) (Nat.le_of_ble_eq_true rfl) (by decide) (by decide) GK_E (fun v9 h9 hq => by cases hq.1) (fun E h9 hq => by obtain ⟨e9, e8⟩ := hq; cases e9; rw [e8]; exact KX_out (by decide) (by decide) ⟨rfl, FS_rf G⟩)
set_option maxHeartbeats 4000000 in
set_option maxRecDepth 100000 in
theorem sX11_alone {h : HP} {t : Nat} {S : HS} {B : Int} {f : Int → Int} {n : Nat} (c : CQ h t S B f) (hn : 1 ≤ n ∧ n ≤ 100) : SpecK mX11_alone [vr 30, vi (n : Int)] h (fun o h' => o = .inl (some (vi (cntN (fun k => decide (bAnd (bAnd (bXor (bitN (fun j => decide (((dysF S f (k + 1)) (1 + (j : Int))) ≠ 0)) (sNp S)) (-1)) (bShl 1 (sNp S : Int) - 1)) (bShl 1 (sNp S : Int) - 1) = 0)) n))) ∧ FS h h') := by
  refine Spec_of (by decide +kernel) (Nat.le_of_ble_eq_true rfl) ?_
  have ht := c.1
  have hH := TTt ht
  have hB := c.2.2.2.1
  have hNt := hB.1
  have hNp := hB.2.1
  have hT := c.2.2.2.2.2.1
  have hC := c.2.2.2.2.2.2.1
  have h99 := c.2.2.2.2.2.2.2.1
  have G := c.2.2.2.2.2.2.2.2
  have hf0 := hT.2.2.2.1
  refine K_iload_n (dt_at dtX11_alone 0 rfl) rfl rfl ?_
  refine K_iconst (dt_at dtX11_alone 1 rfl) ?_
  refine K_bipush (dt_at dtX11_alone 2 rfl) (by decide) ?_
  refine K_callS (M' := mX11_needBetween) (As := [vi (n : Int), vi 1, vi 100]) (st := []) (dt_at dtX11_alone 3 rfl) (sX11_needBetween (by first | assumption | exact ⟨by omega, by omega⟩) ⟨by decide, by decide⟩ ⟨by decide, by decide⟩ (by omega)) wL_X11_111 vX11_needBetween rfl npX11_needBetween (by decide) (by decide) (Nat.le_of_ble_eq_true rfl) (by decide) (by decide) GK_E (fun v9 h9 hq => ?_) (fun E h9 hq => by cases hq.1)
  obtain ⟨e9, e8⟩ := hq
  cases e9
  rw [e8]
  show K mX11_alone _ _ 1 6 7 [(0, vr 30), (1, vi (n : Int))] [] h
  refine K_aload_n (dt_at dtX11_alone 4 rfl) rfl rfl ?_
  refine K_iconst (dt_at dtX11_alone 5 rfl) ?_
  refine K_aload_n (dt_at dtX11_alone 6 rfl) rfl rfl ?_
  refine K_get (a := 30) (ci := 11) (k := 2) (v := vr t) (dt_at dtX11_alone 7 rfl) (by decide) rfl (by decide) wF_X11_20 (by show vr (hR h 30 2) = vr t; rw [c.2.1]) ?_
  refine K_get (a := t) (ci := 3) (k := 11) (v := vi (sNp S : Int)) (dt_at dtX11_alone 8 rfl) hH rfl (by decide) wF_X11_140 (by show vi (hI h t 11) = vi (sNp S : Int); rw [c.2.2.1.2.1.2]) ?_
  refine K_ishl (dt_at dtX11_alone 9 rfl) ?_
  refine K_iconst (dt_at dtX11_alone 10 rfl) ?_
  refine K_isub (dt_at dtX11_alone 11 rfl) ?_
  refine K_iload_n (dt_at dtX11_alone 12 rfl) rfl rfl ?_
  refine K_callV (M' := mX11_daysWithNoneIn) (a := 30) (ci := 11) (As := [vi ((bShl 1 (sNp S : Int)) - 1), vi (n : Int)]) (st := []) (dt_at dtX11_alone 13 rfl) (sX11_daysWithNoneIn c (by omega)) (by decide) rfl wL_X11_308 vX11_daysWithNoneIn rfl npX11_daysWithNoneIn (by decide) (by decide) (Nat.le_of_ble_eq_true rfl) (by decide) (by decide) GK_E (fun v9 hc1 hq => ?_) (fun E h9 hq => by cases hq.1)
  have hqq2 := hq
  obtain ⟨e9q2, Fq2⟩ := hqq2
  cases e9q2
  show K mX11_alone _ _ 1 6 23 [(0, vr 30), (1, vi (n : Int))] [vi (cntN (fun k => decide (bAnd (bAnd (bXor (bitN (fun j => decide (((dysF S f (k + 1)) (1 + (j : Int))) ≠ 0)) (sNp S)) (-1)) (bShl 1 (sNp S : Int) - 1)) ((bShl 1 (sNp S : Int)) - 1) = 0)) n)] hc1
  exact K_iret (dt_at dtX11_alone 14 rfl) rfl rfl (by decide) (by decide) ⟨rfl, Fq2⟩
def mX11_emptiest : MI := (yX11_emptiest, cX11_emptiest, 6, (some .int), rmK 8 1)
def tX11_emptiest : List (Nat × Instr × Nat) := [(0, .iload_n 1, 1), (1, .iconst 1, 1), (2, .bipush 100, 2), (4, .invokestatic 111, 3), (7, .iconst (-1), 1), (8, .istore_n 2, 1), (9, .iconst (-1), 1), (10, .istore_n 3, 1), (11, .aload_n 0, 1), (12, .getfield 69, 3), (15, .aload_n 0, 1), (16, .getfield 20, 3), (19, .aload_n 0, 1), (20, .getfield 39, 3), (23, .invokevirtual 286, 3), (26, .iconst 1, 1), (27, .istore 4, 2), (29, .iload 4, 2), (31, .iload_n 1, 1), (32, .if_icmp .gt 50, 3), (35, .aload_n 0, 1), (36, .getfield 69, 3), (39, .invokevirtual 288, 3), (42, .aload_n 0, 1), (43, .getfield 69, 3), (46, .getfield 291, 3), (49, .aload_n 0, 1), (50, .getfield 20, 3), (53, .getfield 140, 3), (56, .invokevirtual 274, 3), (59, .invokestatic 294, 3), (62, .istore 5, 2), (64, .iload 5, 2), (66, .iload_n 2, 1), (67, .if_icmp .le 9, 3), (70, .iload 5, 2), (72, .istore_n 2, 1), (73, .iload 4, 2), (75, .istore_n 3, 1), (76, .iinc 4 1, 3), (79, .goto (-50), 3), (82, .iload_n 3, 1), (83, .ireturn, 1)]
theorem dtX11_emptiest : tX11_emptiest.all (fun q => decide (decode cX11_emptiest q.1 = .ok (q.2.1, q.2.2))) = true := by decide +kernel
theorem npX11_emptiest : (parseMethodDescriptor (mY mX11_emptiest).desc).map (fun d => d.parameters.length) = some 1 := by decide +kernel
theorem vX11_emptiest : mV mX11_emptiest := ⟨wI_X11_emptiest, wS_X11_emptiest, wN_X11, wC_X11_emptiest, by decide +kernel, by decide +kernel⟩
set_option maxHeartbeats 4000000 in
set_option maxRecDepth 100000 in
theorem sX11_emptiest_x1 {h : HP} {t : Nat} {S : HS} {B : Int} {f : Int → Int} {d : Int} (c : CQ h t S B f) (hd : i32 d) (kn : ¬ (1 ≤ d ∧ d ≤ 100)) : SpecK mX11_emptiest [vr 30, vi d] h (fun o h' => o = .inr eIA ∧ FS h h') := by
  refine Spec_of (by decide +kernel) (Nat.le_of_ble_eq_true rfl) ?_
  have ht := c.1
  have hH := TTt ht
  have hB := c.2.2.2.1
  have hNt := hB.1
  have hNp := hB.2.1
  have hT := c.2.2.2.2.2.1
  have hC := c.2.2.2.2.2.2.1
  have h99 := c.2.2.2.2.2.2.2.1
  have G := c.2.2.2.2.2.2.2.2
  have hf0 := hT.2.2.2.1
  refine K_iload_n (dt_at dtX11_emptiest 0 rfl) rfl rfl ?_
  refine K_iconst (dt_at dtX11_emptiest 1 rfl) ?_
  refine K_bipush (dt_at dtX11_emptiest 2 rfl) (by decide) ?_
  exact K_callS (M' := mX11_needBetween) (As := [vi d, vi 1, vi 100]) (st := []) (dt_at dtX11_emptiest 3 rfl) (sX11_needBetween_no (by assumption) ⟨by decide, by decide⟩ ⟨by decide, by decide⟩ (by omega)) wL_X11_111 vX11_needBetween rfl npX11_needBetween (by decide) (by decide) (Nat.le_of_ble_eq_true rfl) (by decide) (by decide) GK_E (fun v9 h9 hq => by cases hq.1) (fun E h9 hq => by obtain ⟨e9, e8⟩ := hq; cases e9; rw [e8]; exact KX_out (by decide) (by decide) ⟨rfl, FS_rf G⟩)
set_option maxHeartbeats 4000000 in
set_option maxRecDepth 100000 in
theorem lp_X11_emptiest {Q : AO → HP → Prop} {h h1 : HP} {t : Nat} {S : HS} {B : Int} {f : Int → Int} {n : Nat} (c : CQ h t S B f) (F1 : FS h h1) (X : WX h1 84 t S) (hn : 1 ≤ n ∧ n ≤ 100) (hQ : ∀ h2, FS h h2 → Q (.inl (some (vi (fmN (-1) 1 (-1) (fun k => bcI (bitN (fun j => decide (((dysF S f (k + 1)) (1 + (j : Int))) ≠ 0)) (sNp S))) n)))) h2) : ∀ (d k : Nat) (hh : HP), k + d = n → PW h1 hh 84 t (dysF S f k) (trD S f (fun _ => 0) k) (emD S f 0 k) → K mX11_emptiest GK (ZK Q 1 6) 1 6 29 [(4, vi ((k : Int) + 1)), (2, vi (mxN (-1) (fun k => bcI (bitN (fun j => decide (((dysF S f (k + 1)) (1 + (j : Int))) ≠ 0)) (sNp S))) k)), (3, vi (fmN (-1) 1 (-1) (fun k => bcI (bitN (fun j => decide (((dysF S f (k + 1)) (1 + (j : Int))) ≠ 0)) (sNp S))) k)), (0, vr 30), (1, vi (n : Int))] [] hh := by
  intro d
  induction d with
  | zero =>
    intro k hh hk Ph
    have ek : k = n := by omega
    subst ek
    have ht := c.1
    have hH := TTt ht
    have hB := c.2.2.2.1
    have hNt := hB.1
    have hNp := hB.2.1
    have hT := c.2.2.2.2.2.1
    have hC := c.2.2.2.2.2.2.1
    have h99 := c.2.2.2.2.2.2.2.1
    have G := c.2.2.2.2.2.2.2.2
    have hf0 := hT.2.2.2.1
    have ch := CQ_FS c (FS_tr F1 (WK_FS X Ph.1 F1.2.2.2))
    have hfh : hA hh 86 = dysF S f k := Ph.2.1
    refine K_iload (dt_at dtX11_emptiest 17 rfl) rfl ?_
    refine K_iload_n (dt_at dtX11_emptiest 18 rfl) rfl rfl ?_
    refine K_icmp_gt (tgt := 82) (dt_at dtX11_emptiest 19 rfl) (by decide) (by first | assumption | exact ⟨by omega, by omega⟩) (by first | assumption | exact ⟨by omega, by omega⟩) (fun c1 => ?_) (fun c1 => absurd c1 (by omega))
    refine K_iload_n (dt_at dtX11_emptiest 41 rfl) rfl rfl ?_
    exact K_iret (dt_at dtX11_emptiest 42 rfl) rfl rfl (by decide) (by decide) (hQ _ (FS_tr F1 (WK_FS X Ph.1 F1.2.2.2)))
  | succ d ih =>
    intro k hh hk Ph
    have ht := c.1
    have hH := TTt ht
    have hB := c.2.2.2.1
    have hNt := hB.1
    have hNp := hB.2.1
    have hT := c.2.2.2.2.2.1
    have hC := c.2.2.2.2.2.2.1
    have h99 := c.2.2.2.2.2.2.2.1
    have G := c.2.2.2.2.2.2.2.2
    have hf0 := hT.2.2.2.1
    have ch := CQ_FS c (FS_tr F1 (WK_FS X Ph.1 F1.2.2.2))
    have hfh : hA hh 86 = dysF S f k := Ph.2.1
    obtain ⟨hTk, hCk, hk0⟩ := dysF_ok hB hT hC k (by omega)
    obtain ⟨hTn, hCn, hn0⟩ := dysF_ok hB hT hC (k + 1) (by omega)
    have w1 := bcI32 (bitN (fun j => decide (((dysF S f (k + 1)) (1 + (j : Int))) ≠ 0)) (sNp S))
    have w2 := mxN_b (s := -1) (M := 2147483647) (u := (fun k => bcI (bitN (fun j => decide (((dysF S f (k + 1)) (1 + (j : Int))) ≠ 0)) (sNp S)))) (by omega) k (fun j hj => by have := (bcI32 (bitN (fun i => decide (((dysF S f (j + 1)) (1 + (i : Int))) ≠ 0)) (sNp S))).2; show bcI _ ≤ _; omega)
    refine K_iload (dt_at dtX11_emptiest 17 rfl) rfl ?_
    refine K_iload_n (dt_at dtX11_emptiest 18 rfl) rfl rfl ?_
    refine K_icmp_gt (tgt := 82) (dt_at dtX11_emptiest 19 rfl) (by decide) (by first | assumption | exact ⟨by omega, by omega⟩) (by first | assumption | exact ⟨by omega, by omega⟩) (fun c1 => absurd c1 (by omega)) (fun c1 => ?_)
    refine K_aload_n (dt_at dtX11_emptiest 20 rfl) rfl rfl ?_
    refine K_get (a := 30) (ci := 11) (k := 11) (v := vr 84) (dt_at dtX11_emptiest 21 rfl) (by decide) rfl (by decide) wF_X11_69 rfl ?_
    refine K_callV (M' := mX10_passDay) (a := 84) (ci := 10) (As := []) (st := []) (dt_at dtX11_emptiest 22 rfl) (sX10_passDay X Ph hTk hCk) (show TT 84 = (0, 10) from rfl) rfl wL_X11_288 vX10_passDay rfl npX10_passDay (by decide) (by decide) (Nat.le_of_ble_eq_true rfl) (by decide) (by decide) GK_E (fun v9 hc1 hq => ?_) (fun E h9 hq => by cases hq.1)
    have hqq2 := hq
    obtain ⟨e9q2, Pzq2⟩ := hqq2
    have Pq2 : PW h1 hc1 84 t (dysF S f (k + 1)) (trD S f (fun _ => 0) (k + 1)) (emD S f 0 (k + 1)) := Pzq2
    have cq2 := CQ_FS c (FS_tr F1 (WK_FS X Pq2.1 F1.2.2.2))
    have hfq2 : hA hc1 86 = dysF S f (k + 1) := Pq2.2.1
    cases e9q2
    show K mX11_emptiest _ _ 1 6 42 [(4, vi ((k : Int) + 1)), (2, vi (mxN (-1) (fun k => bcI (bitN (fun j => decide (((dysF S f (k + 1)) (1 + (j : Int))) ≠ 0)) (sNp S))) k)), (3, vi (fmN (-1) 1 (-1) (fun k => bcI (bitN (fun j => decide (((dysF S f (k + 1)) (1 + (j : Int))) ≠ 0)) (sNp S))) k)), (0, vr 30), (1, vi (n : Int))] [] hc1
    refine K_aload_n (dt_at dtX11_emptiest 23 rfl) rfl rfl ?_
    refine K_get (a := 30) (ci := 11) (k := 11) (v := vr 84) (dt_at dtX11_emptiest 24 rfl) (by decide) rfl (by decide) wF_X11_69 rfl ?_
    refine K_get (a := 84) (ci := 10) (k := 0) (v := vr 85) (dt_at dtX11_emptiest 25 rfl) (show TT 84 = (0, 10) from rfl) rfl (by decide) wF_X11_291 rfl ?_
    refine K_aload_n (dt_at dtX11_emptiest 26 rfl) rfl rfl ?_
    refine K_get (a := 30) (ci := 11) (k := 2) (v := vr t) (dt_at dtX11_emptiest 27 rfl) (by decide) rfl (by decide) wF_X11_20 (by show vr (hR hc1 30 2) = vr t; rw [cq2.2.1]) ?_
    refine K_get (a := t) (ci := 3) (k := 11) (v := vi (sNp S : Int)) (dt_at dtX11_emptiest 28 rfl) hH rfl (by decide) wF_X11_140 (by show vi (hI hc1 t 11) = vi (sNp S : Int); rw [cq2.2.2.1.2.1.2]) ?_
    refine K_callV (M' := mX8_whoIsOut) (a := 85) (ci := 8) (As := [vi (sNp S : Int)]) (st := []) (dt_at dtX11_emptiest 29 rfl) (sX8_whoIsOut (n := sNp S) (a := 85) (by decide) (by rw [show hA hc1 (85 + 1) = (dysF S f (k + 1)) from hfq2]; exact hTn.1) hNp) (show TT 85 = (0, 8) from rfl) rfl wL_X11_274 vX8_whoIsOut rfl npX8_whoIsOut (by decide) (by decide) (Nat.le_of_ble_eq_true rfl) (by decide) (by decide) GK_E (fun v9 h9 hq => ?_) (fun E h9 hq => by cases hq.1)
    obtain ⟨e9, e8⟩ := hq
    cases e9
    rw [e8]
    show K mX11_emptiest _ _ 1 6 59 [(4, vi ((k : Int) + 1)), (2, vi (mxN (-1) (fun k => bcI (bitN (fun j => decide (((dysF S f (k + 1)) (1 + (j : Int))) ≠ 0)) (sNp S))) k)), (3, vi (fmN (-1) 1 (-1) (fun k => bcI (bitN (fun j => decide (((dysF S f (k + 1)) (1 + (j : Int))) ≠ 0)) (sNp S))) k)), (0, vr 30), (1, vi (n : Int))] [vi (bitN (fun j => decide ((hA hc1 (85 + 1) (1 + (j : Int))) ≠ 0)) (sNp S))] hc1
    rw [show hA hc1 (85 + 1) = (dysF S f (k + 1)) from hfq2]
    refine K_callS (M' := mJ6_bitCount_0f7a4) (As := [vi (bitN (fun j => decide (((dysF S f (k + 1)) (1 + (j : Int))) ≠ 0)) (sNp S))]) (st := []) (dt_at dtX11_emptiest 30 rfl) sJ6_bitCount_0f7a4 wL_X11_294 vJ6_bitCount_0f7a4 rfl npJ6_bitCount_0f7a4 (by decide) (by decide) (Nat.le_of_ble_eq_true rfl) (by decide) (by decide) GK_E (fun v9 h9 hq => ?_) (fun E h9 hq => by cases hq.1)
    obtain ⟨e9, e8⟩ := hq
    cases e9
    rw [e8]
    show K mX11_emptiest _ _ 1 6 62 [(4, vi ((k : Int) + 1)), (2, vi (mxN (-1) (fun k => bcI (bitN (fun j => decide (((dysF S f (k + 1)) (1 + (j : Int))) ≠ 0)) (sNp S))) k)), (3, vi (fmN (-1) 1 (-1) (fun k => bcI (bitN (fun j => decide (((dysF S f (k + 1)) (1 + (j : Int))) ≠ 0)) (sNp S))) k)), (0, vr 30), (1, vi (n : Int))] [vi (bcI (bitN (fun j => decide (((dysF S f (k + 1)) (1 + (j : Int))) ≠ 0)) (sNp S)))] hc1
    refine K_istore (ls' := [(5, vi (bcI (bitN (fun j => decide (((dysF S f (k + 1)) (1 + (j : Int))) ≠ 0)) (sNp S)))), (4, vi ((k : Int) + 1)), (2, vi (mxN (-1) (fun k => bcI (bitN (fun j => decide (((dysF S f (k + 1)) (1 + (j : Int))) ≠ 0)) (sNp S))) k)), (3, vi (fmN (-1) 1 (-1) (fun k => bcI (bitN (fun j => decide (((dysF S f (k + 1)) (1 + (j : Int))) ≠ 0)) (sNp S))) k)), (0, vr 30), (1, vi (n : Int))]) (dt_at dtX11_emptiest 31 rfl) (by decide) rfl ?_
    refine K_iload (dt_at dtX11_emptiest 32 rfl) rfl ?_
    refine K_iload_n (dt_at dtX11_emptiest 33 rfl) rfl rfl ?_
    refine K_icmp_le (tgt := 76) (dt_at dtX11_emptiest 34 rfl) (by decide) (by first | assumption | exact ⟨by omega, by omega⟩) (by first | assumption | exact ⟨by omega, by omega⟩) (fun c2 => ?_) (fun c2 => ?_)
    · refine K_iinc (ls' := [(4, vi (((k : Int) + 1) + 1)), (5, vi (bcI (bitN (fun j => decide (((dysF S f (k + 1)) (1 + (j : Int))) ≠ 0)) (sNp S)))), (2, vi (mxN (-1) (fun k => bcI (bitN (fun j => decide (((dysF S f (k + 1)) (1 + (j : Int))) ≠ 0)) (sNp S))) k)), (3, vi (fmN (-1) 1 (-1) (fun k => bcI (bitN (fun j => decide (((dysF S f (k + 1)) (1 + (j : Int))) ≠ 0)) (sNp S))) k)), (0, vr 30), (1, vi (n : Int))]) (dt_at dtX11_emptiest 39 rfl) rfl (by decide) rfl ?_
      refine K_goto (tgt := 29) (dt_at dtX11_emptiest 40 rfl) (by decide) ?_
      refine K_pk [0, 2, 3, 4, 5] (ls' := [(4, vi (((k : Int) + 1) + 1)), (2, vi (mxN (-1) (fun k => bcI (bitN (fun j => decide (((dysF S f (k + 1)) (1 + (j : Int))) ≠ 0)) (sNp S))) k)), (3, vi (fmN (-1) 1 (-1) (fun k => bcI (bitN (fun j => decide (((dysF S f (k + 1)) (1 + (j : Int))) ≠ 0)) (sNp S))) k)), (0, vr 30), (1, vi (n : Int))]) rfl ?_
      exact K_cg (ls' := [(4, vi (((k + 1 : Nat) : Int) + 1)), (2, vi (mxN (-1) (fun k => bcI (bitN (fun j => decide (((dysF S f (k + 1)) (1 + (j : Int))) ≠ 0)) (sNp S))) (k + 1))), (3, vi (fmN (-1) 1 (-1) (fun k => bcI (bitN (fun j => decide (((dysF S f (k + 1)) (1 + (j : Int))) ≠ 0)) (sNp S))) (k + 1))), (0, vr 30), (1, vi (n : Int))]) (h' := hc1) (by rw [mxN_f (show ¬ mxN (-1) (fun k => bcI (bitN (fun j => decide (((dysF S f (k + 1)) (1 + (j : Int))) ≠ 0)) (sNp S))) k < bcI (bitN (fun j => decide (((dysF S f (k + 1)) (1 + (j : Int))) ≠ 0)) (sNp S)) by omega), fmN_f (show ¬ mxN (-1) (fun k => bcI (bitN (fun j => decide (((dysF S f (k + 1)) (1 + (j : Int))) ≠ 0)) (sNp S))) k < bcI (bitN (fun j => decide (((dysF S f (k + 1)) (1 + (j : Int))) ≠ 0)) (sNp S)) by omega)]; rfl) rfl (ih (k + 1) hc1 (by omega) Pq2)
    · refine K_iload (dt_at dtX11_emptiest 35 rfl) rfl ?_
      refine K_istore_n (ls' := [(2, vi (bcI (bitN (fun j => decide (((dysF S f (k + 1)) (1 + (j : Int))) ≠ 0)) (sNp S)))), (5, vi (bcI (bitN (fun j => decide (((dysF S f (k + 1)) (1 + (j : Int))) ≠ 0)) (sNp S)))), (4, vi ((k : Int) + 1)), (3, vi (fmN (-1) 1 (-1) (fun k => bcI (bitN (fun j => decide (((dysF S f (k + 1)) (1 + (j : Int))) ≠ 0)) (sNp S))) k)), (0, vr 30), (1, vi (n : Int))]) (dt_at dtX11_emptiest 36 rfl) rfl (by decide) rfl ?_
      refine K_iload (dt_at dtX11_emptiest 37 rfl) rfl ?_
      refine K_istore_n (ls' := [(3, vi ((k : Int) + 1)), (2, vi (bcI (bitN (fun j => decide (((dysF S f (k + 1)) (1 + (j : Int))) ≠ 0)) (sNp S)))), (5, vi (bcI (bitN (fun j => decide (((dysF S f (k + 1)) (1 + (j : Int))) ≠ 0)) (sNp S)))), (4, vi ((k : Int) + 1)), (0, vr 30), (1, vi (n : Int))]) (dt_at dtX11_emptiest 38 rfl) rfl (by decide) rfl ?_
      refine K_iinc (ls' := [(4, vi (((k : Int) + 1) + 1)), (3, vi ((k : Int) + 1)), (2, vi (bcI (bitN (fun j => decide (((dysF S f (k + 1)) (1 + (j : Int))) ≠ 0)) (sNp S)))), (5, vi (bcI (bitN (fun j => decide (((dysF S f (k + 1)) (1 + (j : Int))) ≠ 0)) (sNp S)))), (0, vr 30), (1, vi (n : Int))]) (dt_at dtX11_emptiest 39 rfl) rfl (by decide) rfl ?_
      refine K_goto (tgt := 29) (dt_at dtX11_emptiest 40 rfl) (by decide) ?_
      refine K_pk [0, 2, 1, 4, 5] (ls' := [(4, vi (((k : Int) + 1) + 1)), (2, vi (bcI (bitN (fun j => decide (((dysF S f (k + 1)) (1 + (j : Int))) ≠ 0)) (sNp S)))), (3, vi ((k : Int) + 1)), (0, vr 30), (1, vi (n : Int))]) rfl ?_
      exact K_cg (ls' := [(4, vi (((k + 1 : Nat) : Int) + 1)), (2, vi (mxN (-1) (fun k => bcI (bitN (fun j => decide (((dysF S f (k + 1)) (1 + (j : Int))) ≠ 0)) (sNp S))) (k + 1))), (3, vi (fmN (-1) 1 (-1) (fun k => bcI (bitN (fun j => decide (((dysF S f (k + 1)) (1 + (j : Int))) ≠ 0)) (sNp S))) (k + 1))), (0, vr 30), (1, vi (n : Int))]) (h' := hc1) (by rw [mxN_t (show mxN (-1) (fun k => bcI (bitN (fun j => decide (((dysF S f (k + 1)) (1 + (j : Int))) ≠ 0)) (sNp S))) k < bcI (bitN (fun j => decide (((dysF S f (k + 1)) (1 + (j : Int))) ≠ 0)) (sNp S)) by omega), fmN_t (show mxN (-1) (fun k => bcI (bitN (fun j => decide (((dysF S f (k + 1)) (1 + (j : Int))) ≠ 0)) (sNp S))) k < bcI (bitN (fun j => decide (((dysF S f (k + 1)) (1 + (j : Int))) ≠ 0)) (sNp S)) by omega)]; rfl) rfl (ih (k + 1) hc1 (by omega) Pq2)
set_option maxHeartbeats 4000000 in
set_option maxRecDepth 100000 in
theorem sX11_emptiest {h : HP} {t : Nat} {S : HS} {B : Int} {f : Int → Int} {n : Nat} (c : CQ h t S B f) (hn : 1 ≤ n ∧ n ≤ 100) : SpecK mX11_emptiest [vr 30, vi (n : Int)] h (fun o h' => o = .inl (some (vi (fmN (-1) 1 (-1) (fun k => bcI (bitN (fun j => decide (((dysF S f (k + 1)) (1 + (j : Int))) ≠ 0)) (sNp S))) n))) ∧ FS h h') := by
  refine Spec_of (by decide +kernel) (Nat.le_of_ble_eq_true rfl) ?_
  have ht := c.1
  have hH := TTt ht
  have hB := c.2.2.2.1
  have hNt := hB.1
  have hNp := hB.2.1
  have hT := c.2.2.2.2.2.1
  have hC := c.2.2.2.2.2.2.1
  have h99 := c.2.2.2.2.2.2.2.1
  have G := c.2.2.2.2.2.2.2.2
  have hf0 := hT.2.2.2.1
  refine K_iload_n (dt_at dtX11_emptiest 0 rfl) rfl rfl ?_
  refine K_iconst (dt_at dtX11_emptiest 1 rfl) ?_
  refine K_bipush (dt_at dtX11_emptiest 2 rfl) (by decide) ?_
  refine K_callS (M' := mX11_needBetween) (As := [vi (n : Int), vi 1, vi 100]) (st := []) (dt_at dtX11_emptiest 3 rfl) (sX11_needBetween (by first | assumption | exact ⟨by omega, by omega⟩) ⟨by decide, by decide⟩ ⟨by decide, by decide⟩ (by omega)) wL_X11_111 vX11_needBetween rfl npX11_needBetween (by decide) (by decide) (Nat.le_of_ble_eq_true rfl) (by decide) (by decide) GK_E (fun v9 h9 hq => ?_) (fun E h9 hq => by cases hq.1)
  obtain ⟨e9, e8⟩ := hq
  cases e9
  rw [e8]
  show K mX11_emptiest _ _ 1 6 7 [(0, vr 30), (1, vi (n : Int))] [] h
  refine K_iconst (dt_at dtX11_emptiest 4 rfl) ?_
  refine K_istore_n (ls' := [(2, vi (-1)), (0, vr 30), (1, vi (n : Int))]) (dt_at dtX11_emptiest 5 rfl) rfl (by decide) rfl ?_
  refine K_iconst (dt_at dtX11_emptiest 6 rfl) ?_
  refine K_istore_n (ls' := [(3, vi (-1)), (2, vi (-1)), (0, vr 30), (1, vi (n : Int))]) (dt_at dtX11_emptiest 7 rfl) rfl (by decide) rfl ?_
  refine K_aload_n (dt_at dtX11_emptiest 8 rfl) rfl rfl ?_
  refine K_get (a := 30) (ci := 11) (k := 11) (v := vr 84) (dt_at dtX11_emptiest 9 rfl) (by decide) rfl (by decide) wF_X11_69 rfl ?_
  refine K_aload_n (dt_at dtX11_emptiest 10 rfl) rfl rfl ?_
  refine K_get (a := 30) (ci := 11) (k := 2) (v := vr t) (dt_at dtX11_emptiest 11 rfl) (by decide) rfl (by decide) wF_X11_20 (by show vr (hR h 30 2) = vr t; rw [c.2.1]) ?_
  refine K_aload_n (dt_at dtX11_emptiest 12 rfl) rfl rfl ?_
  refine K_get (a := 30) (ci := 11) (k := 5) (v := vr 66) (dt_at dtX11_emptiest 13 rfl) (by decide) rfl (by decide) wF_X11_39 rfl ?_
  refine K_callV (M' := mX10_begin) (a := 84) (ci := 10) (As := [vr t, vr 66]) (st := []) (dt_at dtX11_emptiest 14 rfl) (sX10_begin (w := 84) (t := t) (a := 66) (Or.inl rfl) ht (by decide) (by decide)) (show TT 84 = (0, 10) from rfl) rfl wL_X11_286 vX10_begin rfl npX10_begin (by decide) (by decide) (Nat.le_of_ble_eq_true rfl) (by decide) (by decide) GK_E (fun v9 hc1 hq => ?_) (fun E h9 hq => by cases hq.1)
  have hqq2 := hq
  obtain ⟨e9q2, b1, b2, b3, b4, b5, b6, b7⟩ := hqq2
  obtain ⟨F1, X, P1⟩ := BG_ok (w := 84) (Or.inl rfl) ht c.2.2.1 hB c.2.2.2.2.2.2.2.2 b1 b2 b3 b4 b5 b6 b7
  rw [c.2.2.2.2.1] at P1
  cases e9q2
  show K mX11_emptiest _ _ 1 6 26 [(3, vi (-1)), (2, vi (-1)), (0, vr 30), (1, vi (n : Int))] [] hc1
  refine K_iconst (dt_at dtX11_emptiest 15 rfl) ?_
  refine K_istore (ls' := [(4, vi 1), (3, vi (-1)), (2, vi (-1)), (0, vr 30), (1, vi (n : Int))]) (dt_at dtX11_emptiest 16 rfl) (by decide) rfl ?_
  exact K_pk [0, 2, 1, 3, 4] rfl (lp_X11_emptiest c F1 X hn (fun h2 q_ => ⟨rfl, q_⟩) n 0 hc1 (by omega) P1)
def mX11_trips : MI := (yX11_trips, cX11_trips, 4, (some .int), rmK 8 3)
def tX11_trips : List (Nat × Instr × Nat) := [(0, .aload_n 0, 1), (1, .iload_n 1, 1), (2, .invokevirtual 184, 3), (5, .iload_n 3, 1), (6, .iconst 1, 1), (7, .invokestatic 133, 3), (10, .iload_n 2, 1), (11, .iconst 0, 1), (12, .bipush 100, 2), (14, .invokestatic 111, 3), (17, .iload_n 3, 1), (18, .ifCond .ne 18, 3), (21, .aload_n 0, 1), (22, .iload_n 2, 1), (23, .invokevirtual 234, 3), (26, .pop, 1), (27, .aload_n 0, 1), (28, .getfield 69, 3), (31, .iload_n 1, 1), (32, .invokevirtual 299, 3), (35, .ireturn, 1), (36, .aload_n 0, 1), (37, .iload_n 1, 1), (38, .iload_n 2, 1), (39, .invokevirtual 302, 3), (42, .ireturn, 1)]
theorem dtX11_trips : tX11_trips.all (fun q => decide (decode cX11_trips q.1 = .ok (q.2.1, q.2.2))) = true := by decide +kernel
theorem npX11_trips : (parseMethodDescriptor (mY mX11_trips).desc).map (fun d => d.parameters.length) = some 3 := by decide +kernel
theorem vX11_trips : mV mX11_trips := ⟨wI_X11_trips, wS_X11_trips, wN_X11, wC_X11_trips, by decide +kernel, by decide +kernel⟩
set_option maxHeartbeats 4000000 in
set_option maxRecDepth 100000 in
theorem sX11_trips_x1 {h : HP} {t : Nat} {S : HS} {B : Int} {f : Int → Int} {p : Int} {d : Int} {w : Int} (c : CQ h t S B f) (hp : i32 p) (hd : i32 d) (hw : i32 w) (kn : ¬ (0 ≤ p ∧ p < sNp S)) : SpecK mX11_trips [vr 30, vi p, vi d, vi w] h (fun o h' => o = .inr eNS ∧ FS h h') := by
  refine Spec_of (by decide +kernel) (Nat.le_of_ble_eq_true rfl) ?_
  have ht := c.1
  have hH := TTt ht
  have hB := c.2.2.2.1
  have hNt := hB.1
  have hNp := hB.2.1
  have hT := c.2.2.2.2.2.1
  have hC := c.2.2.2.2.2.2.1
  have h99 := c.2.2.2.2.2.2.2.1
  have G := c.2.2.2.2.2.2.2.2
  have hf0 := hT.2.2.2.1
  refine K_aload_n (dt_at dtX11_trips 0 rfl) rfl rfl ?_
  refine K_iload_n (dt_at dtX11_trips 1 rfl) rfl rfl ?_
  exact K_callV (M' := mX11_needPerson) (a := 30) (ci := 11) (As := [vi p]) (st := []) (dt_at dtX11_trips 2 rfl) (sX11_needPerson_no hH c.2.1 c.2.2.1.2.1.2 hNp (by assumption) (by omega)) (by decide) rfl wL_X11_184 vX11_needPerson rfl npX11_needPerson (by decide) (by decide) (Nat.le_of_ble_eq_true rfl) (by decide) (by decide) GK_E (fun v9 h9 hq => by cases hq.1) (fun E h9 hq => by obtain ⟨e9, e8⟩ := hq; cases e9; rw [e8]; exact KX_out (by decide) (by decide) ⟨rfl, FS_rf G⟩)
set_option maxHeartbeats 4000000 in
set_option maxRecDepth 100000 in
theorem sX11_trips_x2 {h : HP} {t : Nat} {S : HS} {B : Int} {f : Int → Int} {p : Int} {d : Int} {w : Int} (c : CQ h t S B f) (hp : i32 p) (hd : i32 d) (hw : i32 w) (k0 : 0 ≤ p ∧ p < sNp S) (kn : ¬ (0 ≤ w ∧ w ≤ 1)) : SpecK mX11_trips [vr 30, vi p, vi d, vi w] h (fun o h' => o = .inr eNS ∧ FS h h') := by
  refine Spec_of (by decide +kernel) (Nat.le_of_ble_eq_true rfl) ?_
  have ht := c.1
  have hH := TTt ht
  have hB := c.2.2.2.1
  have hNt := hB.1
  have hNp := hB.2.1
  have hT := c.2.2.2.2.2.1
  have hC := c.2.2.2.2.2.2.1
  have h99 := c.2.2.2.2.2.2.2.1
  have G := c.2.2.2.2.2.2.2.2
  have hf0 := hT.2.2.2.1
  refine K_aload_n (dt_at dtX11_trips 0 rfl) rfl rfl ?_
  refine K_iload_n (dt_at dtX11_trips 1 rfl) rfl rfl ?_
  refine K_callV (M' := mX11_needPerson) (a := 30) (ci := 11) (As := [vi p]) (st := []) (dt_at dtX11_trips 2 rfl) (sX11_needPerson hH c.2.1 c.2.2.1.2.1.2 hNp (by first | assumption | exact ⟨by omega, by omega⟩) (by omega)) (by decide) rfl wL_X11_184 vX11_needPerson rfl npX11_needPerson (by decide) (by decide) (Nat.le_of_ble_eq_true rfl) (by decide) (by decide) GK_E (fun v9 h9 hq => ?_) (fun E h9 hq => by cases hq.1)
  obtain ⟨e9, e8⟩ := hq
  cases e9
  rw [e8]
  show K mX11_trips _ _ 1 6 5 [(0, vr 30), (1, vi p), (2, vi d), (3, vi w)] [] h
  refine K_iload_n (dt_at dtX11_trips 3 rfl) rfl rfl ?_
  refine K_iconst (dt_at dtX11_trips 4 rfl) ?_
  exact K_callS (M' := mX11_needWhat) (As := [vi w, vi 1]) (st := []) (dt_at dtX11_trips 5 rfl) (sX11_needWhat_no (by assumption) ⟨by decide, by decide⟩ (by omega)) wL_X11_133 vX11_needWhat rfl npX11_needWhat (by decide) (by decide) (Nat.le_of_ble_eq_true rfl) (by decide) (by decide) GK_E (fun v9 h9 hq => by cases hq.1) (fun E h9 hq => by obtain ⟨e9, e8⟩ := hq; cases e9; rw [e8]; exact KX_out (by decide) (by decide) ⟨rfl, FS_rf G⟩)
set_option maxHeartbeats 4000000 in
set_option maxRecDepth 100000 in
theorem sX11_trips_x3 {h : HP} {t : Nat} {S : HS} {B : Int} {f : Int → Int} {p : Int} {d : Int} {w : Int} (c : CQ h t S B f) (hp : i32 p) (hd : i32 d) (hw : i32 w) (k0 : 0 ≤ p ∧ p < sNp S) (k1 : 0 ≤ w ∧ w ≤ 1) (kn : ¬ (0 ≤ d ∧ d ≤ 100)) : SpecK mX11_trips [vr 30, vi p, vi d, vi w] h (fun o h' => o = .inr eIA ∧ FS h h') := by
  refine Spec_of (by decide +kernel) (Nat.le_of_ble_eq_true rfl) ?_
  have ht := c.1
  have hH := TTt ht
  have hB := c.2.2.2.1
  have hNt := hB.1
  have hNp := hB.2.1
  have hT := c.2.2.2.2.2.1
  have hC := c.2.2.2.2.2.2.1
  have h99 := c.2.2.2.2.2.2.2.1
  have G := c.2.2.2.2.2.2.2.2
  have hf0 := hT.2.2.2.1
  refine K_aload_n (dt_at dtX11_trips 0 rfl) rfl rfl ?_
  refine K_iload_n (dt_at dtX11_trips 1 rfl) rfl rfl ?_
  refine K_callV (M' := mX11_needPerson) (a := 30) (ci := 11) (As := [vi p]) (st := []) (dt_at dtX11_trips 2 rfl) (sX11_needPerson hH c.2.1 c.2.2.1.2.1.2 hNp (by first | assumption | exact ⟨by omega, by omega⟩) (by omega)) (by decide) rfl wL_X11_184 vX11_needPerson rfl npX11_needPerson (by decide) (by decide) (Nat.le_of_ble_eq_true rfl) (by decide) (by decide) GK_E (fun v9 h9 hq => ?_) (fun E h9 hq => by cases hq.1)
  obtain ⟨e9, e8⟩ := hq
  cases e9
  rw [e8]
  show K mX11_trips _ _ 1 6 5 [(0, vr 30), (1, vi p), (2, vi d), (3, vi w)] [] h
  refine K_iload_n (dt_at dtX11_trips 3 rfl) rfl rfl ?_
  refine K_iconst (dt_at dtX11_trips 4 rfl) ?_
  refine K_callS (M' := mX11_needWhat) (As := [vi w, vi 1]) (st := []) (dt_at dtX11_trips 5 rfl) (sX11_needWhat (by first | assumption | exact ⟨by omega, by omega⟩) ⟨by decide, by decide⟩ (by omega)) wL_X11_133 vX11_needWhat rfl npX11_needWhat (by decide) (by decide) (Nat.le_of_ble_eq_true rfl) (by decide) (by decide) GK_E (fun v9 h9 hq => ?_) (fun E h9 hq => by cases hq.1)
  obtain ⟨e9, e8⟩ := hq
  cases e9
  rw [e8]
  show K mX11_trips _ _ 2 12 10 [(0, vr 30), (1, vi p), (2, vi d), (3, vi w)] [] h
  refine K_iload_n (dt_at dtX11_trips 6 rfl) rfl rfl ?_
  refine K_iconst (dt_at dtX11_trips 7 rfl) ?_
  refine K_bipush (dt_at dtX11_trips 8 rfl) (by decide) ?_
  exact K_callS (M' := mX11_needBetween) (As := [vi d, vi 0, vi 100]) (st := []) (dt_at dtX11_trips 9 rfl) (sX11_needBetween_no (by assumption) ⟨by decide, by decide⟩ ⟨by decide, by decide⟩ (by omega)) wL_X11_111 vX11_needBetween rfl npX11_needBetween (by decide) (by decide) (Nat.le_of_ble_eq_true rfl) (by decide) (by decide) GK_E (fun v9 h9 hq => by cases hq.1) (fun E h9 hq => by obtain ⟨e9, e8⟩ := hq; cases e9; rw [e8]; exact KX_out (by decide) (by decide) ⟨rfl, FS_rf G⟩)
set_option maxHeartbeats 4000000 in
set_option maxRecDepth 100000 in
theorem sX11_trips_0 {h : HP} {t : Nat} {S : HS} {B : Int} {f : Int → Int} {p : Int} {n : Nat} (c : CQ h t S B f) (hp : 0 ≤ p ∧ p < sNp S) (hn : n ≤ 100) : SpecK mX11_trips [vr 30, vi p, vi (n : Int), vi 0] h (fun o h' => o = .inl (some (vi (trD S f (fun _ => 0) n p))) ∧ FS h h') := by
  refine Spec_of (by decide +kernel) (Nat.le_of_ble_eq_true rfl) ?_
  have ht := c.1
  have hH := TTt ht
  have hB := c.2.2.2.1
  have hNt := hB.1
  have hNp := hB.2.1
  have hT := c.2.2.2.2.2.1
  have hC := c.2.2.2.2.2.2.1
  have h99 := c.2.2.2.2.2.2.2.1
  have G := c.2.2.2.2.2.2.2.2
  have hf0 := hT.2.2.2.1
  refine K_aload_n (dt_at dtX11_trips 0 rfl) rfl rfl ?_
  refine K_iload_n (dt_at dtX11_trips 1 rfl) rfl rfl ?_
  refine K_callV (M' := mX11_needPerson) (a := 30) (ci := 11) (As := [vi p]) (st := []) (dt_at dtX11_trips 2 rfl) (sX11_needPerson hH c.2.1 c.2.2.1.2.1.2 hNp (by first | assumption | exact ⟨by omega, by omega⟩) (by omega)) (by decide) rfl wL_X11_184 vX11_needPerson rfl npX11_needPerson (by decide) (by decide) (Nat.le_of_ble_eq_true rfl) (by decide) (by decide) GK_E (fun v9 h9 hq => ?_) (fun E h9 hq => by cases hq.1)
  obtain ⟨e9, e8⟩ := hq
  cases e9
  rw [e8]
  show K mX11_trips _ _ 1 6 5 [(0, vr 30), (1, vi p), (2, vi (n : Int)), (3, vi 0)] [] h
  refine K_iload_n (dt_at dtX11_trips 3 rfl) rfl rfl ?_
  refine K_iconst (dt_at dtX11_trips 4 rfl) ?_
  refine K_callS (M' := mX11_needWhat) (As := [vi 0, vi 1]) (st := []) (dt_at dtX11_trips 5 rfl) (sX11_needWhat (by first | assumption | exact ⟨by omega, by omega⟩) ⟨by decide, by decide⟩ (by omega)) wL_X11_133 vX11_needWhat rfl npX11_needWhat (by decide) (by decide) (Nat.le_of_ble_eq_true rfl) (by decide) (by decide) GK_E (fun v9 h9 hq => ?_) (fun E h9 hq => by cases hq.1)
  obtain ⟨e9, e8⟩ := hq
  cases e9
  rw [e8]
  show K mX11_trips _ _ 2 12 10 [(0, vr 30), (1, vi p), (2, vi (n : Int)), (3, vi 0)] [] h
  refine K_iload_n (dt_at dtX11_trips 6 rfl) rfl rfl ?_
  refine K_iconst (dt_at dtX11_trips 7 rfl) ?_
  refine K_bipush (dt_at dtX11_trips 8 rfl) (by decide) ?_
  refine K_callS (M' := mX11_needBetween) (As := [vi (n : Int), vi 0, vi 100]) (st := []) (dt_at dtX11_trips 9 rfl) (sX11_needBetween (by first | assumption | exact ⟨by omega, by omega⟩) ⟨by decide, by decide⟩ ⟨by decide, by decide⟩ (by omega)) wL_X11_111 vX11_needBetween rfl npX11_needBetween (by decide) (by decide) (Nat.le_of_ble_eq_true rfl) (by decide) (by decide) GK_E (fun v9 h9 hq => ?_) (fun E h9 hq => by cases hq.1)
  obtain ⟨e9, e8⟩ := hq
  cases e9
  rw [e8]
  show K mX11_trips _ _ 3 18 17 [(0, vr 30), (1, vi p), (2, vi (n : Int)), (3, vi 0)] [] h
  refine K_iload_n (dt_at dtX11_trips 10 rfl) rfl rfl ?_
  refine K_if_ne (tgt := 36) (dt_at dtX11_trips 11 rfl) (by decide) (by first | assumption | exact ⟨by omega, by omega⟩) (fun c1 => absurd c1 (by omega)) (fun c1 => ?_)
  refine K_aload_n (dt_at dtX11_trips 12 rfl) rfl rfl ?_
  refine K_iload_n (dt_at dtX11_trips 13 rfl) rfl rfl ?_
  refine K_callV (M' := mX11_ahead) (a := 30) (ci := 11) (As := [vi (n : Int)]) (st := []) (dt_at dtX11_trips 14 rfl) (sX11_ahead c hn) (by decide) rfl wL_X11_234 vX11_ahead rfl npX11_ahead (by decide) (by decide) (Nat.le_of_ble_eq_true rfl) (by decide) (by decide) GK_E (fun v9 hc1 hq => ?_) (fun E h9 hq => by cases hq.1)
  have hqq2 := hq
  obtain ⟨e9q2, Aq2⟩ := hqq2
  have cq2 := CQ_FS c Aq2.1
  cases e9q2
  show K mX11_trips _ _ 3 18 26 [(0, vr 30), (1, vi p), (2, vi (n : Int)), (3, vi 0)] [vr 85] hc1
  refine K_pop (dt_at dtX11_trips 15 rfl) rfl ?_
  refine K_aload_n (dt_at dtX11_trips 16 rfl) rfl rfl ?_
  refine K_get (a := 30) (ci := 11) (k := 11) (v := vr 84) (dt_at dtX11_trips 17 rfl) (by decide) rfl (by decide) wF_X11_69 rfl ?_
  refine K_iload_n (dt_at dtX11_trips 18 rfl) rfl rfl ?_
  refine K_callV (M' := mX10_tripsOf) (a := 84) (ci := 10) (As := [vi p]) (st := []) (dt_at dtX11_trips 19 rfl) (sX10_tripsOf (w := 84) (by decide) ⟨by omega, by omega⟩) (show TT 84 = (0, 10) from rfl) rfl wL_X11_299 vX10_tripsOf rfl npX10_tripsOf (by decide) (by decide) (Nat.le_of_ble_eq_true rfl) (by decide) (by decide) GK_E (fun v9 h9 hq => ?_) (fun E h9 hq => by cases hq.1)
  obtain ⟨e9, e8⟩ := hq
  cases e9
  rw [e8]
  show K mX11_trips _ _ 3 18 35 [(0, vr 30), (1, vi p), (2, vi (n : Int)), (3, vi 0)] [vi (hA hc1 (84 + 4) p)] hc1
  rw [show hA hc1 (84 + 4) = trD S f (fun _ => 0) n from Aq2.2.2.1]
  exact K_iret (dt_at dtX11_trips 20 rfl) rfl rfl (by decide) (by decide) ⟨rfl, Aq2.1⟩
set_option maxHeartbeats 4000000 in
set_option maxRecDepth 100000 in
theorem sX11_trips_1 {h : HP} {t : Nat} {S : HS} {B : Int} {f : Int → Int} {p : Int} {n : Nat} (c : CQ h t S B f) (hp : 0 ≤ p ∧ p < sNp S) (hn : n ≤ 100) : SpecK mX11_trips [vr 30, vi p, vi (n : Int), vi 1] h (fun o h' => o = .inl (some (vi (fmN (-1) 0 (-1) (fun k => sumF (sU S) (dysF S f k) p (sNt S)) (n + 1)))) ∧ FS h h') := by
  refine Spec_of (by decide +kernel) (Nat.le_of_ble_eq_true rfl) ?_
  have ht := c.1
  have hH := TTt ht
  have hB := c.2.2.2.1
  have hNt := hB.1
  have hNp := hB.2.1
  have hT := c.2.2.2.2.2.1
  have hC := c.2.2.2.2.2.2.1
  have h99 := c.2.2.2.2.2.2.2.1
  have G := c.2.2.2.2.2.2.2.2
  have hf0 := hT.2.2.2.1
  refine K_aload_n (dt_at dtX11_trips 0 rfl) rfl rfl ?_
  refine K_iload_n (dt_at dtX11_trips 1 rfl) rfl rfl ?_
  refine K_callV (M' := mX11_needPerson) (a := 30) (ci := 11) (As := [vi p]) (st := []) (dt_at dtX11_trips 2 rfl) (sX11_needPerson hH c.2.1 c.2.2.1.2.1.2 hNp (by first | assumption | exact ⟨by omega, by omega⟩) (by omega)) (by decide) rfl wL_X11_184 vX11_needPerson rfl npX11_needPerson (by decide) (by decide) (Nat.le_of_ble_eq_true rfl) (by decide) (by decide) GK_E (fun v9 h9 hq => ?_) (fun E h9 hq => by cases hq.1)
  obtain ⟨e9, e8⟩ := hq
  cases e9
  rw [e8]
  show K mX11_trips _ _ 1 6 5 [(0, vr 30), (1, vi p), (2, vi (n : Int)), (3, vi 1)] [] h
  refine K_iload_n (dt_at dtX11_trips 3 rfl) rfl rfl ?_
  refine K_iconst (dt_at dtX11_trips 4 rfl) ?_
  refine K_callS (M' := mX11_needWhat) (As := [vi 1, vi 1]) (st := []) (dt_at dtX11_trips 5 rfl) (sX11_needWhat (by first | assumption | exact ⟨by omega, by omega⟩) ⟨by decide, by decide⟩ (by omega)) wL_X11_133 vX11_needWhat rfl npX11_needWhat (by decide) (by decide) (Nat.le_of_ble_eq_true rfl) (by decide) (by decide) GK_E (fun v9 h9 hq => ?_) (fun E h9 hq => by cases hq.1)
  obtain ⟨e9, e8⟩ := hq
  cases e9
  rw [e8]
  show K mX11_trips _ _ 2 12 10 [(0, vr 30), (1, vi p), (2, vi (n : Int)), (3, vi 1)] [] h
  refine K_iload_n (dt_at dtX11_trips 6 rfl) rfl rfl ?_
  refine K_iconst (dt_at dtX11_trips 7 rfl) ?_
  refine K_bipush (dt_at dtX11_trips 8 rfl) (by decide) ?_
  refine K_callS (M' := mX11_needBetween) (As := [vi (n : Int), vi 0, vi 100]) (st := []) (dt_at dtX11_trips 9 rfl) (sX11_needBetween (by first | assumption | exact ⟨by omega, by omega⟩) ⟨by decide, by decide⟩ ⟨by decide, by decide⟩ (by omega)) wL_X11_111 vX11_needBetween rfl npX11_needBetween (by decide) (by decide) (Nat.le_of_ble_eq_true rfl) (by decide) (by decide) GK_E (fun v9 h9 hq => ?_) (fun E h9 hq => by cases hq.1)
  obtain ⟨e9, e8⟩ := hq
  cases e9
  rw [e8]
  show K mX11_trips _ _ 3 18 17 [(0, vr 30), (1, vi p), (2, vi (n : Int)), (3, vi 1)] [] h
  refine K_iload_n (dt_at dtX11_trips 10 rfl) rfl rfl ?_
  refine K_if_ne (tgt := 36) (dt_at dtX11_trips 11 rfl) (by decide) (by first | assumption | exact ⟨by omega, by omega⟩) (fun c1 => ?_) (fun c1 => absurd c1 (by omega))
  refine K_aload_n (dt_at dtX11_trips 21 rfl) rfl rfl ?_
  refine K_iload_n (dt_at dtX11_trips 22 rfl) rfl rfl ?_
  refine K_iload_n (dt_at dtX11_trips 23 rfl) rfl rfl ?_
  refine K_callV (M' := mX11_hadBest) (a := 30) (ci := 11) (As := [vi p, vi (n : Int)]) (st := []) (dt_at dtX11_trips 24 rfl) (sX11_hadBest c hp hn) (by decide) rfl wL_X11_302 vX11_hadBest rfl npX11_hadBest (by decide) (by decide) (Nat.le_of_ble_eq_true rfl) (by decide) (by decide) GK_E (fun v9 hc1 hq => ?_) (fun E h9 hq => by cases hq.1)
  have hqq2 := hq
  obtain ⟨e9q2, Fq2⟩ := hqq2
  cases e9q2
  show K mX11_trips _ _ 3 18 42 [(0, vr 30), (1, vi p), (2, vi (n : Int)), (3, vi 1)] [vi (fmN (-1) 0 (-1) (fun k => sumF (sU S) (dysF S f k) p (sNt S)) (n + 1))] hc1
  exact K_iret (dt_at dtX11_trips 25 rfl) rfl rfl (by decide) (by decide) ⟨rfl, Fq2⟩
def mX11_then : MI := (yX11_then, cX11_then, 5, (some .int), rmK 8 3)
def tX11_then : List (Nat × Instr × Nat) := [(0, .aload_n 0, 1), (1, .iload_n 1, 1), (2, .invokevirtual 184, 3), (5, .iload_n 3, 1), (6, .iconst 3, 1), (7, .invokestatic 133, 3), (10, .iload_n 2, 1), (11, .iconst 0, 1), (12, .bipush 100, 2), (14, .invokestatic 111, 3), (17, .aload_n 0, 1), (18, .iload_n 2, 1), (19, .invokevirtual 234, 3), (22, .astore 4, 2), (24, .iload_n 3, 1), (25, .tableswitch 60 0 2 #[27, 42, 49], 27), (52, .aload 4, 2), (54, .iload_n 1, 1), (55, .invokevirtual 263, 3), (58, .ifCond .eq 7, 3), (61, .iconst 1, 1), (62, .goto 4, 3), (65, .iconst 0, 1), (66, .ireturn, 1), (67, .aload 4, 2), (69, .iload_n 1, 1), (70, .invokevirtual 196, 3), (73, .ireturn, 1), (74, .aload_n 0, 1), (75, .getfield 20, 3), (78, .aload 4, 2), (80, .iload_n 1, 1), (81, .invokevirtual 267, 3), (84, .ireturn, 1), (85, .aload_n 0, 1), (86, .getfield 20, 3), (89, .aload 4, 2), (91, .iload_n 1, 1), (92, .invokevirtual 271, 3), (95, .ireturn, 1)]
theorem dtX11_then : tX11_then.all (fun q => decide (decode cX11_then q.1 = .ok (q.2.1, q.2.2))) = true := by decide +kernel
theorem npX11_then : (parseMethodDescriptor (mY mX11_then).desc).map (fun d => d.parameters.length) = some 3 := by decide +kernel
theorem vX11_then : mV mX11_then := ⟨wI_X11_then, wS_X11_then, wN_X11, wC_X11_then, by decide +kernel, by decide +kernel⟩
set_option maxHeartbeats 4000000 in
set_option maxRecDepth 100000 in
theorem sX11_then_x1 {h : HP} {t : Nat} {S : HS} {B : Int} {f : Int → Int} {p : Int} {d : Int} {w : Int} (c : CQ h t S B f) (hp : i32 p) (hd : i32 d) (hw : i32 w) (kn : ¬ (0 ≤ p ∧ p < sNp S)) : SpecK mX11_then [vr 30, vi p, vi d, vi w] h (fun o h' => o = .inr eNS ∧ FS h h') := by
  refine Spec_of (by decide +kernel) (Nat.le_of_ble_eq_true rfl) ?_
  have ht := c.1
  have hH := TTt ht
  have hB := c.2.2.2.1
  have hNt := hB.1
  have hNp := hB.2.1
  have hT := c.2.2.2.2.2.1
  have hC := c.2.2.2.2.2.2.1
  have h99 := c.2.2.2.2.2.2.2.1
  have G := c.2.2.2.2.2.2.2.2
  have hf0 := hT.2.2.2.1
  refine K_aload_n (dt_at dtX11_then 0 rfl) rfl rfl ?_
  refine K_iload_n (dt_at dtX11_then 1 rfl) rfl rfl ?_
  exact K_callV (M' := mX11_needPerson) (a := 30) (ci := 11) (As := [vi p]) (st := []) (dt_at dtX11_then 2 rfl) (sX11_needPerson_no hH c.2.1 c.2.2.1.2.1.2 hNp (by assumption) (by omega)) (by decide) rfl wL_X11_184 vX11_needPerson rfl npX11_needPerson (by decide) (by decide) (Nat.le_of_ble_eq_true rfl) (by decide) (by decide) GK_E (fun v9 h9 hq => by cases hq.1) (fun E h9 hq => by obtain ⟨e9, e8⟩ := hq; cases e9; rw [e8]; exact KX_out (by decide) (by decide) ⟨rfl, FS_rf G⟩)
set_option maxHeartbeats 4000000 in
set_option maxRecDepth 100000 in
theorem sX11_then_x2 {h : HP} {t : Nat} {S : HS} {B : Int} {f : Int → Int} {p : Int} {d : Int} {w : Int} (c : CQ h t S B f) (hp : i32 p) (hd : i32 d) (hw : i32 w) (k0 : 0 ≤ p ∧ p < sNp S) (kn : ¬ (0 ≤ w ∧ w ≤ 3)) : SpecK mX11_then [vr 30, vi p, vi d, vi w] h (fun o h' => o = .inr eNS ∧ FS h h') := by
  refine Spec_of (by decide +kernel) (Nat.le_of_ble_eq_true rfl) ?_
  have ht := c.1
  have hH := TTt ht
  have hB := c.2.2.2.1
  have hNt := hB.1
  have hNp := hB.2.1
  have hT := c.2.2.2.2.2.1
  have hC := c.2.2.2.2.2.2.1
  have h99 := c.2.2.2.2.2.2.2.1
  have G := c.2.2.2.2.2.2.2.2
  have hf0 := hT.2.2.2.1
  refine K_aload_n (dt_at dtX11_then 0 rfl) rfl rfl ?_
  refine K_iload_n (dt_at dtX11_then 1 rfl) rfl rfl ?_
  refine K_callV (M' := mX11_needPerson) (a := 30) (ci := 11) (As := [vi p]) (st := []) (dt_at dtX11_then 2 rfl) (sX11_needPerson hH c.2.1 c.2.2.1.2.1.2 hNp (by first | assumption | exact ⟨by omega, by omega⟩) (by omega)) (by decide) rfl wL_X11_184 vX11_needPerson rfl npX11_needPerson (by decide) (by decide) (Nat.le_of_ble_eq_true rfl) (by decide) (by decide) GK_E (fun v9 h9 hq => ?_) (fun E h9 hq => by cases hq.1)
  obtain ⟨e9, e8⟩ := hq
  cases e9
  rw [e8]
  show K mX11_then _ _ 1 6 5 [(0, vr 30), (1, vi p), (2, vi d), (3, vi w)] [] h
  refine K_iload_n (dt_at dtX11_then 3 rfl) rfl rfl ?_
  refine K_iconst (dt_at dtX11_then 4 rfl) ?_
  exact K_callS (M' := mX11_needWhat) (As := [vi w, vi 3]) (st := []) (dt_at dtX11_then 5 rfl) (sX11_needWhat_no (by assumption) ⟨by decide, by decide⟩ (by omega)) wL_X11_133 vX11_needWhat rfl npX11_needWhat (by decide) (by decide) (Nat.le_of_ble_eq_true rfl) (by decide) (by decide) GK_E (fun v9 h9 hq => by cases hq.1) (fun E h9 hq => by obtain ⟨e9, e8⟩ := hq; cases e9; rw [e8]; exact KX_out (by decide) (by decide) ⟨rfl, FS_rf G⟩)
set_option maxHeartbeats 4000000 in
set_option maxRecDepth 100000 in
theorem sX11_then_x3 {h : HP} {t : Nat} {S : HS} {B : Int} {f : Int → Int} {p : Int} {d : Int} {w : Int} (c : CQ h t S B f) (hp : i32 p) (hd : i32 d) (hw : i32 w) (k0 : 0 ≤ p ∧ p < sNp S) (k1 : 0 ≤ w ∧ w ≤ 3) (kn : ¬ (0 ≤ d ∧ d ≤ 100)) : SpecK mX11_then [vr 30, vi p, vi d, vi w] h (fun o h' => o = .inr eIA ∧ FS h h') := by
  refine Spec_of (by decide +kernel) (Nat.le_of_ble_eq_true rfl) ?_
  have ht := c.1
  have hH := TTt ht
  have hB := c.2.2.2.1
  have hNt := hB.1
  have hNp := hB.2.1
  have hT := c.2.2.2.2.2.1
  have hC := c.2.2.2.2.2.2.1
  have h99 := c.2.2.2.2.2.2.2.1
  have G := c.2.2.2.2.2.2.2.2
  have hf0 := hT.2.2.2.1
  refine K_aload_n (dt_at dtX11_then 0 rfl) rfl rfl ?_
  refine K_iload_n (dt_at dtX11_then 1 rfl) rfl rfl ?_
  refine K_callV (M' := mX11_needPerson) (a := 30) (ci := 11) (As := [vi p]) (st := []) (dt_at dtX11_then 2 rfl) (sX11_needPerson hH c.2.1 c.2.2.1.2.1.2 hNp (by first | assumption | exact ⟨by omega, by omega⟩) (by omega)) (by decide) rfl wL_X11_184 vX11_needPerson rfl npX11_needPerson (by decide) (by decide) (Nat.le_of_ble_eq_true rfl) (by decide) (by decide) GK_E (fun v9 h9 hq => ?_) (fun E h9 hq => by cases hq.1)
  obtain ⟨e9, e8⟩ := hq
  cases e9
  rw [e8]
  show K mX11_then _ _ 1 6 5 [(0, vr 30), (1, vi p), (2, vi d), (3, vi w)] [] h
  refine K_iload_n (dt_at dtX11_then 3 rfl) rfl rfl ?_
  refine K_iconst (dt_at dtX11_then 4 rfl) ?_
  refine K_callS (M' := mX11_needWhat) (As := [vi w, vi 3]) (st := []) (dt_at dtX11_then 5 rfl) (sX11_needWhat (by first | assumption | exact ⟨by omega, by omega⟩) ⟨by decide, by decide⟩ (by omega)) wL_X11_133 vX11_needWhat rfl npX11_needWhat (by decide) (by decide) (Nat.le_of_ble_eq_true rfl) (by decide) (by decide) GK_E (fun v9 h9 hq => ?_) (fun E h9 hq => by cases hq.1)
  obtain ⟨e9, e8⟩ := hq
  cases e9
  rw [e8]
  show K mX11_then _ _ 2 12 10 [(0, vr 30), (1, vi p), (2, vi d), (3, vi w)] [] h
  refine K_iload_n (dt_at dtX11_then 6 rfl) rfl rfl ?_
  refine K_iconst (dt_at dtX11_then 7 rfl) ?_
  refine K_bipush (dt_at dtX11_then 8 rfl) (by decide) ?_
  exact K_callS (M' := mX11_needBetween) (As := [vi d, vi 0, vi 100]) (st := []) (dt_at dtX11_then 9 rfl) (sX11_needBetween_no (by assumption) ⟨by decide, by decide⟩ ⟨by decide, by decide⟩ (by omega)) wL_X11_111 vX11_needBetween rfl npX11_needBetween (by decide) (by decide) (Nat.le_of_ble_eq_true rfl) (by decide) (by decide) GK_E (fun v9 h9 hq => by cases hq.1) (fun E h9 hq => by obtain ⟨e9, e8⟩ := hq; cases e9; rw [e8]; exact KX_out (by decide) (by decide) ⟨rfl, FS_rf G⟩)
set_option maxHeartbeats 4000000 in
set_option maxRecDepth 100000 in
theorem sX11_then_0 {h : HP} {t : Nat} {S : HS} {B : Int} {f : Int → Int} {p : Int} {n : Nat} (c : CQ h t S B f) (hp : 0 ≤ p ∧ p < sNp S) (hn : n ≤ 100) : SpecK mX11_then [vr 30, vi p, vi (n : Int), vi 0] h (fun o h' => o = .inl (some (vi (if dysF S f n (1 + p) = 0 then 1 else 0))) ∧ FS h h') := by
  refine Spec_of (by decide +kernel) (Nat.le_of_ble_eq_true rfl) ?_
  have ht := c.1
  have hH := TTt ht
  have hB := c.2.2.2.1
  have hNt := hB.1
  have hNp := hB.2.1
  have hT := c.2.2.2.2.2.1
  have hC := c.2.2.2.2.2.2.1
  have h99 := c.2.2.2.2.2.2.2.1
  have G := c.2.2.2.2.2.2.2.2
  have hf0 := hT.2.2.2.1
  obtain ⟨hTn, hCn, h0n⟩ := dysF_ok hB hT hC n (by omega)
  refine K_aload_n (dt_at dtX11_then 0 rfl) rfl rfl ?_
  refine K_iload_n (dt_at dtX11_then 1 rfl) rfl rfl ?_
  refine K_callV (M' := mX11_needPerson) (a := 30) (ci := 11) (As := [vi p]) (st := []) (dt_at dtX11_then 2 rfl) (sX11_needPerson hH c.2.1 c.2.2.1.2.1.2 hNp (by first | assumption | exact ⟨by omega, by omega⟩) (by omega)) (by decide) rfl wL_X11_184 vX11_needPerson rfl npX11_needPerson (by decide) (by decide) (Nat.le_of_ble_eq_true rfl) (by decide) (by decide) GK_E (fun v9 h9 hq => ?_) (fun E h9 hq => by cases hq.1)
  obtain ⟨e9, e8⟩ := hq
  cases e9
  rw [e8]
  show K mX11_then _ _ 1 6 5 [(0, vr 30), (1, vi p), (2, vi (n : Int)), (3, vi 0)] [] h
  refine K_iload_n (dt_at dtX11_then 3 rfl) rfl rfl ?_
  refine K_iconst (dt_at dtX11_then 4 rfl) ?_
  refine K_callS (M' := mX11_needWhat) (As := [vi 0, vi 3]) (st := []) (dt_at dtX11_then 5 rfl) (sX11_needWhat (by first | assumption | exact ⟨by omega, by omega⟩) ⟨by decide, by decide⟩ (by omega)) wL_X11_133 vX11_needWhat rfl npX11_needWhat (by decide) (by decide) (Nat.le_of_ble_eq_true rfl) (by decide) (by decide) GK_E (fun v9 h9 hq => ?_) (fun E h9 hq => by cases hq.1)
  obtain ⟨e9, e8⟩ := hq
  cases e9
  rw [e8]
  show K mX11_then _ _ 2 12 10 [(0, vr 30), (1, vi p), (2, vi (n : Int)), (3, vi 0)] [] h
  refine K_iload_n (dt_at dtX11_then 6 rfl) rfl rfl ?_
  refine K_iconst (dt_at dtX11_then 7 rfl) ?_
  refine K_bipush (dt_at dtX11_then 8 rfl) (by decide) ?_
  refine K_callS (M' := mX11_needBetween) (As := [vi (n : Int), vi 0, vi 100]) (st := []) (dt_at dtX11_then 9 rfl) (sX11_needBetween (by first | assumption | exact ⟨by omega, by omega⟩) ⟨by decide, by decide⟩ ⟨by decide, by decide⟩ (by omega)) wL_X11_111 vX11_needBetween rfl npX11_needBetween (by decide) (by decide) (Nat.le_of_ble_eq_true rfl) (by decide) (by decide) GK_E (fun v9 h9 hq => ?_) (fun E h9 hq => by cases hq.1)
  obtain ⟨e9, e8⟩ := hq
  cases e9
  rw [e8]
  show K mX11_then _ _ 3 18 17 [(0, vr 30), (1, vi p), (2, vi (n : Int)), (3, vi 0)] [] h
  refine K_aload_n (dt_at dtX11_then 10 rfl) rfl rfl ?_
  refine K_iload_n (dt_at dtX11_then 11 rfl) rfl rfl ?_
  refine K_callV (M' := mX11_ahead) (a := 30) (ci := 11) (As := [vi (n : Int)]) (st := []) (dt_at dtX11_then 12 rfl) (sX11_ahead c hn) (by decide) rfl wL_X11_234 vX11_ahead rfl npX11_ahead (by decide) (by decide) (Nat.le_of_ble_eq_true rfl) (by decide) (by decide) GK_E (fun v9 hc1 hq => ?_) (fun E h9 hq => by cases hq.1)
  have hqq2 := hq
  obtain ⟨e9q2, Aq2⟩ := hqq2
  have cq2 := CQ_FS c Aq2.1
  cases e9q2
  show K mX11_then _ _ 3 18 22 [(0, vr 30), (1, vi p), (2, vi (n : Int)), (3, vi 0)] [vr 85] hc1
  refine K_astore (ls' := [(4, vr 85), (0, vr 30), (1, vi p), (2, vi (n : Int)), (3, vi 0)]) (dt_at dtX11_then 13 rfl) (by decide) rfl ?_
  refine K_iload_n (dt_at dtX11_then 14 rfl) rfl rfl ?_
  refine K_tableIn (tgt := 52) (dt_at dtX11_then 15 rfl) ⟨by decide, by decide⟩ (by decide) (by decide) rfl (by decide) ?_
  refine K_aload (dt_at dtX11_then 16 rfl) rfl ?_
  refine K_iload_n (dt_at dtX11_then 17 rfl) rfl rfl ?_
  refine K_callV (M' := mX8_isIn) (a := 85) (ci := 8) (As := [vi p]) (st := []) (dt_at dtX11_then 18 rfl) (sX8_isIn (a := 85) (by decide) ⟨by omega, by omega⟩ (by rw [show hA hc1 (85 + 1) = (dysF S f n) from Aq2.2.1]; have := (hTn.1.2 p (by omega) (by omega)).1; exact ⟨by omega, by omega⟩)) (by decide) rfl wL_X11_263 vX8_isIn rfl npX8_isIn (by decide) (by decide) (Nat.le_of_ble_eq_true rfl) (by decide) (by decide) GK_E (fun v9 h9 hq => ?_) (fun E h9 hq => by cases hq.1)
  obtain ⟨e9, e8⟩ := hq
  cases e9
  rw [e8]
  show K mX11_then _ _ 3 18 58 [(4, vr 85), (0, vr 30), (1, vi p), (2, vi (n : Int)), (3, vi 0)] [vi (if hA hc1 (85 + 1) (1 + p) = 0 then 1 else 0)] hc1
  rw [show hA hc1 (85 + 1) = (dysF S f n) from Aq2.2.1]
  by_cases z1 : (dysF S f n) (1 + p) = 0
  · rw [if_pos z1]
    refine K_if_eq (tgt := 65) (dt_at dtX11_then 19 rfl) (by decide) (by first | assumption | exact ⟨by omega, by omega⟩) (fun c2 => absurd c2 (by omega)) (fun c2 => ?_)
    refine K_iconst (dt_at dtX11_then 20 rfl) ?_
    refine K_goto (tgt := 66) (dt_at dtX11_then 21 rfl) (by decide) ?_
    exact K_iret (dt_at dtX11_then 23 rfl) rfl rfl (by decide) (by decide) ⟨rfl, Aq2.1⟩
  · rw [if_neg z1]
    refine K_if_eq (tgt := 65) (dt_at dtX11_then 19 rfl) (by decide) (by first | assumption | exact ⟨by omega, by omega⟩) (fun c3 => ?_) (fun c3 => absurd c3 (by omega))
    refine K_iconst (dt_at dtX11_then 22 rfl) ?_
    exact K_iret (dt_at dtX11_then 23 rfl) rfl rfl (by decide) (by decide) ⟨rfl, Aq2.1⟩
set_option maxHeartbeats 4000000 in
set_option maxRecDepth 100000 in
theorem sX11_then_1 {h : HP} {t : Nat} {S : HS} {B : Int} {f : Int → Int} {p : Int} {n : Nat} (c : CQ h t S B f) (hp : 0 ≤ p ∧ p < sNp S) (hn : n ≤ 100) : SpecK mX11_then [vr 30, vi p, vi (n : Int), vi 1] h (fun o h' => o = .inl (some (vi (dysF S f n (15 + p)))) ∧ FS h h') := by
  refine Spec_of (by decide +kernel) (Nat.le_of_ble_eq_true rfl) ?_
  have ht := c.1
  have hH := TTt ht
  have hB := c.2.2.2.1
  have hNt := hB.1
  have hNp := hB.2.1
  have hT := c.2.2.2.2.2.1
  have hC := c.2.2.2.2.2.2.1
  have h99 := c.2.2.2.2.2.2.2.1
  have G := c.2.2.2.2.2.2.2.2
  have hf0 := hT.2.2.2.1
  obtain ⟨hTn, hCn, h0n⟩ := dysF_ok hB hT hC n (by omega)
  refine K_aload_n (dt_at dtX11_then 0 rfl) rfl rfl ?_
  refine K_iload_n (dt_at dtX11_then 1 rfl) rfl rfl ?_
  refine K_callV (M' := mX11_needPerson) (a := 30) (ci := 11) (As := [vi p]) (st := []) (dt_at dtX11_then 2 rfl) (sX11_needPerson hH c.2.1 c.2.2.1.2.1.2 hNp (by first | assumption | exact ⟨by omega, by omega⟩) (by omega)) (by decide) rfl wL_X11_184 vX11_needPerson rfl npX11_needPerson (by decide) (by decide) (Nat.le_of_ble_eq_true rfl) (by decide) (by decide) GK_E (fun v9 h9 hq => ?_) (fun E h9 hq => by cases hq.1)
  obtain ⟨e9, e8⟩ := hq
  cases e9
  rw [e8]
  show K mX11_then _ _ 1 6 5 [(0, vr 30), (1, vi p), (2, vi (n : Int)), (3, vi 1)] [] h
  refine K_iload_n (dt_at dtX11_then 3 rfl) rfl rfl ?_
  refine K_iconst (dt_at dtX11_then 4 rfl) ?_
  refine K_callS (M' := mX11_needWhat) (As := [vi 1, vi 3]) (st := []) (dt_at dtX11_then 5 rfl) (sX11_needWhat (by first | assumption | exact ⟨by omega, by omega⟩) ⟨by decide, by decide⟩ (by omega)) wL_X11_133 vX11_needWhat rfl npX11_needWhat (by decide) (by decide) (Nat.le_of_ble_eq_true rfl) (by decide) (by decide) GK_E (fun v9 h9 hq => ?_) (fun E h9 hq => by cases hq.1)
  obtain ⟨e9, e8⟩ := hq
  cases e9
  rw [e8]
  show K mX11_then _ _ 2 12 10 [(0, vr 30), (1, vi p), (2, vi (n : Int)), (3, vi 1)] [] h
  refine K_iload_n (dt_at dtX11_then 6 rfl) rfl rfl ?_
  refine K_iconst (dt_at dtX11_then 7 rfl) ?_
  refine K_bipush (dt_at dtX11_then 8 rfl) (by decide) ?_
  refine K_callS (M' := mX11_needBetween) (As := [vi (n : Int), vi 0, vi 100]) (st := []) (dt_at dtX11_then 9 rfl) (sX11_needBetween (by first | assumption | exact ⟨by omega, by omega⟩) ⟨by decide, by decide⟩ ⟨by decide, by decide⟩ (by omega)) wL_X11_111 vX11_needBetween rfl npX11_needBetween (by decide) (by decide) (Nat.le_of_ble_eq_true rfl) (by decide) (by decide) GK_E (fun v9 h9 hq => ?_) (fun E h9 hq => by cases hq.1)
  obtain ⟨e9, e8⟩ := hq
  cases e9
  rw [e8]
  show K mX11_then _ _ 3 18 17 [(0, vr 30), (1, vi p), (2, vi (n : Int)), (3, vi 1)] [] h
  refine K_aload_n (dt_at dtX11_then 10 rfl) rfl rfl ?_
  refine K_iload_n (dt_at dtX11_then 11 rfl) rfl rfl ?_
  refine K_callV (M' := mX11_ahead) (a := 30) (ci := 11) (As := [vi (n : Int)]) (st := []) (dt_at dtX11_then 12 rfl) (sX11_ahead c hn) (by decide) rfl wL_X11_234 vX11_ahead rfl npX11_ahead (by decide) (by decide) (Nat.le_of_ble_eq_true rfl) (by decide) (by decide) GK_E (fun v9 hc1 hq => ?_) (fun E h9 hq => by cases hq.1)
  have hqq2 := hq
  obtain ⟨e9q2, Aq2⟩ := hqq2
  have cq2 := CQ_FS c Aq2.1
  cases e9q2
  show K mX11_then _ _ 3 18 22 [(0, vr 30), (1, vi p), (2, vi (n : Int)), (3, vi 1)] [vr 85] hc1
  refine K_astore (ls' := [(4, vr 85), (0, vr 30), (1, vi p), (2, vi (n : Int)), (3, vi 1)]) (dt_at dtX11_then 13 rfl) (by decide) rfl ?_
  refine K_iload_n (dt_at dtX11_then 14 rfl) rfl rfl ?_
  refine K_tableIn (tgt := 67) (dt_at dtX11_then 15 rfl) ⟨by decide, by decide⟩ (by decide) (by decide) rfl (by decide) ?_
  refine K_aload (dt_at dtX11_then 24 rfl) rfl ?_
  refine K_iload_n (dt_at dtX11_then 25 rfl) rfl rfl ?_
  refine K_callV (M' := mX8_fond) (a := 85) (ci := 8) (As := [vi p]) (st := []) (dt_at dtX11_then 26 rfl) (sX8_fond (a := 85) (by decide) ⟨by omega, by omega⟩) (by decide) rfl wL_X11_196 vX8_fond rfl npX8_fond (by decide) (by decide) (Nat.le_of_ble_eq_true rfl) (by decide) (by decide) GK_E (fun v9 h9 hq => ?_) (fun E h9 hq => by cases hq.1)
  obtain ⟨e9, e8⟩ := hq
  cases e9
  rw [e8]
  show K mX11_then _ _ 3 18 73 [(4, vr 85), (0, vr 30), (1, vi p), (2, vi (n : Int)), (3, vi 1)] [vi (hA hc1 (85 + 1) (15 + p))] hc1
  rw [show hA hc1 (85 + 1) = (dysF S f n) from Aq2.2.1]
  exact K_iret (dt_at dtX11_then 27 rfl) rfl rfl (by decide) (by decide) ⟨rfl, Aq2.1⟩
set_option maxHeartbeats 4000000 in
set_option maxRecDepth 100000 in
theorem sX11_then_2 {h : HP} {t : Nat} {S : HS} {B : Int} {f : Int → Int} {p : Int} {n : Nat} (c : CQ h t S B f) (hp : 0 ≤ p ∧ p < sNp S) (hn : n ≤ 100) : SpecK mX11_then [vr 30, vi p, vi (n : Int), vi 2] h (fun o h' => o = .inl (some (vi (sumF (sU S) (dysF S f n) p (sNt S)))) ∧ FS h h') := by
  refine Spec_of (by decide +kernel) (Nat.le_of_ble_eq_true rfl) ?_
  have ht := c.1
  have hH := TTt ht
  have hB := c.2.2.2.1
  have hNt := hB.1
  have hNp := hB.2.1
  have hT := c.2.2.2.2.2.1
  have hC := c.2.2.2.2.2.2.1
  have h99 := c.2.2.2.2.2.2.2.1
  have G := c.2.2.2.2.2.2.2.2
  have hf0 := hT.2.2.2.1
  obtain ⟨hTn, hCn, h0n⟩ := dysF_ok hB hT hC n (by omega)
  refine K_aload_n (dt_at dtX11_then 0 rfl) rfl rfl ?_
  refine K_iload_n (dt_at dtX11_then 1 rfl) rfl rfl ?_
  refine K_callV (M' := mX11_needPerson) (a := 30) (ci := 11) (As := [vi p]) (st := []) (dt_at dtX11_then 2 rfl) (sX11_needPerson hH c.2.1 c.2.2.1.2.1.2 hNp (by first | assumption | exact ⟨by omega, by omega⟩) (by omega)) (by decide) rfl wL_X11_184 vX11_needPerson rfl npX11_needPerson (by decide) (by decide) (Nat.le_of_ble_eq_true rfl) (by decide) (by decide) GK_E (fun v9 h9 hq => ?_) (fun E h9 hq => by cases hq.1)
  obtain ⟨e9, e8⟩ := hq
  cases e9
  rw [e8]
  show K mX11_then _ _ 1 6 5 [(0, vr 30), (1, vi p), (2, vi (n : Int)), (3, vi 2)] [] h
  refine K_iload_n (dt_at dtX11_then 3 rfl) rfl rfl ?_
  refine K_iconst (dt_at dtX11_then 4 rfl) ?_
  refine K_callS (M' := mX11_needWhat) (As := [vi 2, vi 3]) (st := []) (dt_at dtX11_then 5 rfl) (sX11_needWhat (by first | assumption | exact ⟨by omega, by omega⟩) ⟨by decide, by decide⟩ (by omega)) wL_X11_133 vX11_needWhat rfl npX11_needWhat (by decide) (by decide) (Nat.le_of_ble_eq_true rfl) (by decide) (by decide) GK_E (fun v9 h9 hq => ?_) (fun E h9 hq => by cases hq.1)
  obtain ⟨e9, e8⟩ := hq
  cases e9
  rw [e8]
  show K mX11_then _ _ 2 12 10 [(0, vr 30), (1, vi p), (2, vi (n : Int)), (3, vi 2)] [] h
  refine K_iload_n (dt_at dtX11_then 6 rfl) rfl rfl ?_
  refine K_iconst (dt_at dtX11_then 7 rfl) ?_
  refine K_bipush (dt_at dtX11_then 8 rfl) (by decide) ?_
  refine K_callS (M' := mX11_needBetween) (As := [vi (n : Int), vi 0, vi 100]) (st := []) (dt_at dtX11_then 9 rfl) (sX11_needBetween (by first | assumption | exact ⟨by omega, by omega⟩) ⟨by decide, by decide⟩ ⟨by decide, by decide⟩ (by omega)) wL_X11_111 vX11_needBetween rfl npX11_needBetween (by decide) (by decide) (Nat.le_of_ble_eq_true rfl) (by decide) (by decide) GK_E (fun v9 h9 hq => ?_) (fun E h9 hq => by cases hq.1)
  obtain ⟨e9, e8⟩ := hq
  cases e9
  rw [e8]
  show K mX11_then _ _ 3 18 17 [(0, vr 30), (1, vi p), (2, vi (n : Int)), (3, vi 2)] [] h
  refine K_aload_n (dt_at dtX11_then 10 rfl) rfl rfl ?_
  refine K_iload_n (dt_at dtX11_then 11 rfl) rfl rfl ?_
  refine K_callV (M' := mX11_ahead) (a := 30) (ci := 11) (As := [vi (n : Int)]) (st := []) (dt_at dtX11_then 12 rfl) (sX11_ahead c hn) (by decide) rfl wL_X11_234 vX11_ahead rfl npX11_ahead (by decide) (by decide) (Nat.le_of_ble_eq_true rfl) (by decide) (by decide) GK_E (fun v9 hc1 hq => ?_) (fun E h9 hq => by cases hq.1)
  have hqq2 := hq
  obtain ⟨e9q2, Aq2⟩ := hqq2
  have cq2 := CQ_FS c Aq2.1
  cases e9q2
  show K mX11_then _ _ 3 18 22 [(0, vr 30), (1, vi p), (2, vi (n : Int)), (3, vi 2)] [vr 85] hc1
  refine K_astore (ls' := [(4, vr 85), (0, vr 30), (1, vi p), (2, vi (n : Int)), (3, vi 2)]) (dt_at dtX11_then 13 rfl) (by decide) rfl ?_
  refine K_iload_n (dt_at dtX11_then 14 rfl) rfl rfl ?_
  refine K_tableIn (tgt := 74) (dt_at dtX11_then 15 rfl) ⟨by decide, by decide⟩ (by decide) (by decide) rfl (by decide) ?_
  refine K_aload_n (dt_at dtX11_then 28 rfl) rfl rfl ?_
  refine K_get (a := 30) (ci := 11) (k := 2) (v := vr t) (dt_at dtX11_then 29 rfl) (by decide) rfl (by decide) wF_X11_20 (by show vr (hR hc1 30 2) = vr t; rw [cq2.2.1]) ?_
  refine K_aload (dt_at dtX11_then 30 rfl) rfl ?_
  refine K_iload_n (dt_at dtX11_then 31 rfl) rfl rfl ?_
  refine K_callV (M' := mX3_useWith) (a := t) (ci := 3) (As := [vr 85, vi p]) (st := []) (dt_at dtX11_then 32 rfl) (sX3_useWith (n := sNt S) hH (a := 85) (by decide) (by rw [show hA hc1 (85 + 1) = (dysF S f n) from Aq2.2.1]; exact hTn.1) hNt cq2.2.2.1.2.1.1 ⟨by omega, by omega⟩) hH rfl wL_X11_267 vX3_useWith rfl npX3_useWith (by decide) (by decide) (Nat.le_of_ble_eq_true rfl) (by decide) (by decide) GK_E (fun v9 h9 hq => ?_) (fun E h9 hq => by cases hq.1)
  obtain ⟨e9, e8⟩ := hq
  cases e9
  rw [e8]
  show K mX11_then _ _ 3 18 84 [(4, vr 85), (0, vr 30), (1, vi p), (2, vi (n : Int)), (3, vi 2)] [vi (sumF (hA hc1 (t + 2)) (hA hc1 (85 + 1)) p (sNt S))] hc1
  rw [show hA hc1 (85 + 1) = (dysF S f n) from Aq2.2.1]
  rw [show hA hc1 (t + 2) = (sU S) from cq2.2.2.1.1.2.1]
  exact K_iret (dt_at dtX11_then 33 rfl) rfl rfl (by decide) (by decide) ⟨rfl, Aq2.1⟩
set_option maxHeartbeats 4000000 in
set_option maxRecDepth 100000 in
theorem sX11_then_3 {h : HP} {t : Nat} {S : HS} {B : Int} {f : Int → Int} {p : Int} {n : Nat} (c : CQ h t S B f) (hp : 0 ≤ p ∧ p < sNp S) (hn : n ≤ 100) : SpecK mX11_then [vr 30, vi p, vi (n : Int), vi 3] h (fun o h' => o = .inl (some (vi (sumF (sW S) (dysF S f n) p (sNt S)))) ∧ FS h h') := by
  refine Spec_of (by decide +kernel) (Nat.le_of_ble_eq_true rfl) ?_
  have ht := c.1
  have hH := TTt ht
  have hB := c.2.2.2.1
  have hNt := hB.1
  have hNp := hB.2.1
  have hT := c.2.2.2.2.2.1
  have hC := c.2.2.2.2.2.2.1
  have h99 := c.2.2.2.2.2.2.2.1
  have G := c.2.2.2.2.2.2.2.2
  have hf0 := hT.2.2.2.1
  obtain ⟨hTn, hCn, h0n⟩ := dysF_ok hB hT hC n (by omega)
  refine K_aload_n (dt_at dtX11_then 0 rfl) rfl rfl ?_
  refine K_iload_n (dt_at dtX11_then 1 rfl) rfl rfl ?_
  refine K_callV (M' := mX11_needPerson) (a := 30) (ci := 11) (As := [vi p]) (st := []) (dt_at dtX11_then 2 rfl) (sX11_needPerson hH c.2.1 c.2.2.1.2.1.2 hNp (by first | assumption | exact ⟨by omega, by omega⟩) (by omega)) (by decide) rfl wL_X11_184 vX11_needPerson rfl npX11_needPerson (by decide) (by decide) (Nat.le_of_ble_eq_true rfl) (by decide) (by decide) GK_E (fun v9 h9 hq => ?_) (fun E h9 hq => by cases hq.1)
  obtain ⟨e9, e8⟩ := hq
  cases e9
  rw [e8]
  show K mX11_then _ _ 1 6 5 [(0, vr 30), (1, vi p), (2, vi (n : Int)), (3, vi 3)] [] h
  refine K_iload_n (dt_at dtX11_then 3 rfl) rfl rfl ?_
  refine K_iconst (dt_at dtX11_then 4 rfl) ?_
  refine K_callS (M' := mX11_needWhat) (As := [vi 3, vi 3]) (st := []) (dt_at dtX11_then 5 rfl) (sX11_needWhat (by first | assumption | exact ⟨by omega, by omega⟩) ⟨by decide, by decide⟩ (by omega)) wL_X11_133 vX11_needWhat rfl npX11_needWhat (by decide) (by decide) (Nat.le_of_ble_eq_true rfl) (by decide) (by decide) GK_E (fun v9 h9 hq => ?_) (fun E h9 hq => by cases hq.1)
  obtain ⟨e9, e8⟩ := hq
  cases e9
  rw [e8]
  show K mX11_then _ _ 2 12 10 [(0, vr 30), (1, vi p), (2, vi (n : Int)), (3, vi 3)] [] h
  refine K_iload_n (dt_at dtX11_then 6 rfl) rfl rfl ?_
  refine K_iconst (dt_at dtX11_then 7 rfl) ?_
  refine K_bipush (dt_at dtX11_then 8 rfl) (by decide) ?_
  refine K_callS (M' := mX11_needBetween) (As := [vi (n : Int), vi 0, vi 100]) (st := []) (dt_at dtX11_then 9 rfl) (sX11_needBetween (by first | assumption | exact ⟨by omega, by omega⟩) ⟨by decide, by decide⟩ ⟨by decide, by decide⟩ (by omega)) wL_X11_111 vX11_needBetween rfl npX11_needBetween (by decide) (by decide) (Nat.le_of_ble_eq_true rfl) (by decide) (by decide) GK_E (fun v9 h9 hq => ?_) (fun E h9 hq => by cases hq.1)
  obtain ⟨e9, e8⟩ := hq
  cases e9
  rw [e8]
  show K mX11_then _ _ 3 18 17 [(0, vr 30), (1, vi p), (2, vi (n : Int)), (3, vi 3)] [] h
  refine K_aload_n (dt_at dtX11_then 10 rfl) rfl rfl ?_
  refine K_iload_n (dt_at dtX11_then 11 rfl) rfl rfl ?_
  refine K_callV (M' := mX11_ahead) (a := 30) (ci := 11) (As := [vi (n : Int)]) (st := []) (dt_at dtX11_then 12 rfl) (sX11_ahead c hn) (by decide) rfl wL_X11_234 vX11_ahead rfl npX11_ahead (by decide) (by decide) (Nat.le_of_ble_eq_true rfl) (by decide) (by decide) GK_E (fun v9 hc1 hq => ?_) (fun E h9 hq => by cases hq.1)
  have hqq2 := hq
  obtain ⟨e9q2, Aq2⟩ := hqq2
  have cq2 := CQ_FS c Aq2.1
  cases e9q2
  show K mX11_then _ _ 3 18 22 [(0, vr 30), (1, vi p), (2, vi (n : Int)), (3, vi 3)] [vr 85] hc1
  refine K_astore (ls' := [(4, vr 85), (0, vr 30), (1, vi p), (2, vi (n : Int)), (3, vi 3)]) (dt_at dtX11_then 13 rfl) (by decide) rfl ?_
  refine K_iload_n (dt_at dtX11_then 14 rfl) rfl rfl ?_
  refine K_tableOut (tgt := 85) (dt_at dtX11_then 15 rfl) ⟨by decide, by decide⟩ (by decide) (by decide) ?_
  refine K_aload_n (dt_at dtX11_then 34 rfl) rfl rfl ?_
  refine K_get (a := 30) (ci := 11) (k := 2) (v := vr t) (dt_at dtX11_then 35 rfl) (by decide) rfl (by decide) wF_X11_20 (by show vr (hR hc1 30 2) = vr t; rw [cq2.2.1]) ?_
  refine K_aload (dt_at dtX11_then 36 rfl) rfl ?_
  refine K_iload_n (dt_at dtX11_then 37 rfl) rfl rfl ?_
  refine K_callV (M' := mX3_weightWith) (a := t) (ci := 3) (As := [vr 85, vi p]) (st := []) (dt_at dtX11_then 38 rfl) (sX3_weightWith (n := sNt S) hH (a := 85) (by decide) (by rw [show hA hc1 (85 + 1) = (dysF S f n) from Aq2.2.1]; exact hTn.1) hNt cq2.2.2.1.2.1.1 ⟨by omega, by omega⟩) hH rfl wL_X11_271 vX3_weightWith rfl npX3_weightWith (by decide) (by decide) (Nat.le_of_ble_eq_true rfl) (by decide) (by decide) GK_E (fun v9 h9 hq => ?_) (fun E h9 hq => by cases hq.1)
  obtain ⟨e9, e8⟩ := hq
  cases e9
  rw [e8]
  show K mX11_then _ _ 3 18 95 [(4, vr 85), (0, vr 30), (1, vi p), (2, vi (n : Int)), (3, vi 3)] [vi (sumF (hA hc1 (t + 1)) (hA hc1 (85 + 1)) p (sNt S))] hc1
  rw [show hA hc1 (85 + 1) = (dysF S f n) from Aq2.2.1]
  rw [show hA hc1 (t + 1) = (sW S) from cq2.2.2.1.1.1]
  exact K_iret (dt_at dtX11_then 39 rfl) rfl rfl (by decide) (by decide) ⟨rfl, Aq2.1⟩
def mX11_later : MI := (yX11_later, cX11_later, 4, (some .int), rmK 8 2)
def tX11_later : List (Nat × Instr × Nat) := [(0, .iload_n 2, 1), (1, .iconst 3, 1), (2, .invokestatic 133, 3), (5, .iload_n 1, 1), (6, .iconst 0, 1), (7, .bipush 100, 2), (9, .invokestatic 111, 3), (12, .aload_n 0, 1), (13, .iload_n 1, 1), (14, .invokevirtual 234, 3), (17, .astore_n 3, 1), (18, .iload_n 2, 1), (19, .tableswitch 57 0 2 #[25, 37, 49], 25), (44, .aload_n 3, 1), (45, .aload_n 0, 1), (46, .getfield 20, 3), (49, .getfield 140, 3), (52, .invokevirtual 274, 3), (55, .ireturn, 1), (56, .aload_n 3, 1), (57, .aload_n 0, 1), (58, .getfield 20, 3), (61, .getfield 140, 3), (64, .invokevirtual 277, 3), (67, .ireturn, 1), (68, .aload_n 0, 1), (69, .getfield 69, 3), (72, .invokevirtual 280, 3), (75, .ireturn, 1), (76, .aload_n 0, 1), (77, .getfield 20, 3), (80, .aload_n 3, 1), (81, .invokevirtual 283, 3), (84, .ireturn, 1)]
theorem dtX11_later : tX11_later.all (fun q => decide (decode cX11_later q.1 = .ok (q.2.1, q.2.2))) = true := by decide +kernel
theorem npX11_later : (parseMethodDescriptor (mY mX11_later).desc).map (fun d => d.parameters.length) = some 2 := by decide +kernel
theorem vX11_later : mV mX11_later := ⟨wI_X11_later, wS_X11_later, wN_X11, wC_X11_later, by decide +kernel, by decide +kernel⟩
set_option maxHeartbeats 4000000 in
set_option maxRecDepth 100000 in
theorem sX11_later_x1 {h : HP} {t : Nat} {S : HS} {B : Int} {f : Int → Int} {d : Int} {w : Int} (c : CQ h t S B f) (hd : i32 d) (hw : i32 w) (kn : ¬ (0 ≤ w ∧ w ≤ 3)) : SpecK mX11_later [vr 30, vi d, vi w] h (fun o h' => o = .inr eNS ∧ FS h h') := by
  refine Spec_of (by decide +kernel) (Nat.le_of_ble_eq_true rfl) ?_
  have ht := c.1
  have hH := TTt ht
  have hB := c.2.2.2.1
  have hNt := hB.1
  have hNp := hB.2.1
  have hT := c.2.2.2.2.2.1
  have hC := c.2.2.2.2.2.2.1
  have h99 := c.2.2.2.2.2.2.2.1
  have G := c.2.2.2.2.2.2.2.2
  have hf0 := hT.2.2.2.1
  refine K_iload_n (dt_at dtX11_later 0 rfl) rfl rfl ?_
  refine K_iconst (dt_at dtX11_later 1 rfl) ?_
  exact K_callS (M' := mX11_needWhat) (As := [vi w, vi 3]) (st := []) (dt_at dtX11_later 2 rfl) (sX11_needWhat_no (by assumption) ⟨by decide, by decide⟩ (by omega)) wL_X11_133 vX11_needWhat rfl npX11_needWhat (by decide) (by decide) (Nat.le_of_ble_eq_true rfl) (by decide) (by decide) GK_E (fun v9 h9 hq => by cases hq.1) (fun E h9 hq => by obtain ⟨e9, e8⟩ := hq; cases e9; rw [e8]; exact KX_out (by decide) (by decide) ⟨rfl, FS_rf G⟩)
set_option maxHeartbeats 4000000 in
set_option maxRecDepth 100000 in
theorem sX11_later_x2 {h : HP} {t : Nat} {S : HS} {B : Int} {f : Int → Int} {d : Int} {w : Int} (c : CQ h t S B f) (hd : i32 d) (hw : i32 w) (k0 : 0 ≤ w ∧ w ≤ 3) (kn : ¬ (0 ≤ d ∧ d ≤ 100)) : SpecK mX11_later [vr 30, vi d, vi w] h (fun o h' => o = .inr eIA ∧ FS h h') := by
  refine Spec_of (by decide +kernel) (Nat.le_of_ble_eq_true rfl) ?_
  have ht := c.1
  have hH := TTt ht
  have hB := c.2.2.2.1
  have hNt := hB.1
  have hNp := hB.2.1
  have hT := c.2.2.2.2.2.1
  have hC := c.2.2.2.2.2.2.1
  have h99 := c.2.2.2.2.2.2.2.1
  have G := c.2.2.2.2.2.2.2.2
  have hf0 := hT.2.2.2.1
  refine K_iload_n (dt_at dtX11_later 0 rfl) rfl rfl ?_
  refine K_iconst (dt_at dtX11_later 1 rfl) ?_
  refine K_callS (M' := mX11_needWhat) (As := [vi w, vi 3]) (st := []) (dt_at dtX11_later 2 rfl) (sX11_needWhat (by first | assumption | exact ⟨by omega, by omega⟩) ⟨by decide, by decide⟩ (by omega)) wL_X11_133 vX11_needWhat rfl npX11_needWhat (by decide) (by decide) (Nat.le_of_ble_eq_true rfl) (by decide) (by decide) GK_E (fun v9 h9 hq => ?_) (fun E h9 hq => by cases hq.1)
  obtain ⟨e9, e8⟩ := hq
  cases e9
  rw [e8]
  show K mX11_later _ _ 1 6 5 [(0, vr 30), (1, vi d), (2, vi w)] [] h
  refine K_iload_n (dt_at dtX11_later 3 rfl) rfl rfl ?_
  refine K_iconst (dt_at dtX11_later 4 rfl) ?_
  refine K_bipush (dt_at dtX11_later 5 rfl) (by decide) ?_
  exact K_callS (M' := mX11_needBetween) (As := [vi d, vi 0, vi 100]) (st := []) (dt_at dtX11_later 6 rfl) (sX11_needBetween_no (by assumption) ⟨by decide, by decide⟩ ⟨by decide, by decide⟩ (by omega)) wL_X11_111 vX11_needBetween rfl npX11_needBetween (by decide) (by decide) (Nat.le_of_ble_eq_true rfl) (by decide) (by decide) GK_E (fun v9 h9 hq => by cases hq.1) (fun E h9 hq => by obtain ⟨e9, e8⟩ := hq; cases e9; rw [e8]; exact KX_out (by decide) (by decide) ⟨rfl, FS_rf G⟩)
set_option maxHeartbeats 4000000 in
set_option maxRecDepth 100000 in
theorem sX11_later_0 {h : HP} {t : Nat} {S : HS} {B : Int} {f : Int → Int} {n : Nat} (c : CQ h t S B f) (hn : n ≤ 100) : SpecK mX11_later [vr 30, vi (n : Int), vi 0] h (fun o h' => o = .inl (some (vi (bitN (fun j => decide (((dysF S f n) (1 + (j : Int))) ≠ 0)) (sNp S)))) ∧ FS h h') := by
  refine Spec_of (by decide +kernel) (Nat.le_of_ble_eq_true rfl) ?_
  have ht := c.1
  have hH := TTt ht
  have hB := c.2.2.2.1
  have hNt := hB.1
  have hNp := hB.2.1
  have hT := c.2.2.2.2.2.1
  have hC := c.2.2.2.2.2.2.1
  have h99 := c.2.2.2.2.2.2.2.1
  have G := c.2.2.2.2.2.2.2.2
  have hf0 := hT.2.2.2.1
  obtain ⟨hTn, hCn, h0n⟩ := dysF_ok hB hT hC n (by omega)
  refine K_iload_n (dt_at dtX11_later 0 rfl) rfl rfl ?_
  refine K_iconst (dt_at dtX11_later 1 rfl) ?_
  refine K_callS (M' := mX11_needWhat) (As := [vi 0, vi 3]) (st := []) (dt_at dtX11_later 2 rfl) (sX11_needWhat (by first | assumption | exact ⟨by omega, by omega⟩) ⟨by decide, by decide⟩ (by omega)) wL_X11_133 vX11_needWhat rfl npX11_needWhat (by decide) (by decide) (Nat.le_of_ble_eq_true rfl) (by decide) (by decide) GK_E (fun v9 h9 hq => ?_) (fun E h9 hq => by cases hq.1)
  obtain ⟨e9, e8⟩ := hq
  cases e9
  rw [e8]
  show K mX11_later _ _ 1 6 5 [(0, vr 30), (1, vi (n : Int)), (2, vi 0)] [] h
  refine K_iload_n (dt_at dtX11_later 3 rfl) rfl rfl ?_
  refine K_iconst (dt_at dtX11_later 4 rfl) ?_
  refine K_bipush (dt_at dtX11_later 5 rfl) (by decide) ?_
  refine K_callS (M' := mX11_needBetween) (As := [vi (n : Int), vi 0, vi 100]) (st := []) (dt_at dtX11_later 6 rfl) (sX11_needBetween (by first | assumption | exact ⟨by omega, by omega⟩) ⟨by decide, by decide⟩ ⟨by decide, by decide⟩ (by omega)) wL_X11_111 vX11_needBetween rfl npX11_needBetween (by decide) (by decide) (Nat.le_of_ble_eq_true rfl) (by decide) (by decide) GK_E (fun v9 h9 hq => ?_) (fun E h9 hq => by cases hq.1)
  obtain ⟨e9, e8⟩ := hq
  cases e9
  rw [e8]
  show K mX11_later _ _ 2 12 12 [(0, vr 30), (1, vi (n : Int)), (2, vi 0)] [] h
  refine K_aload_n (dt_at dtX11_later 7 rfl) rfl rfl ?_
  refine K_iload_n (dt_at dtX11_later 8 rfl) rfl rfl ?_
  refine K_callV (M' := mX11_ahead) (a := 30) (ci := 11) (As := [vi (n : Int)]) (st := []) (dt_at dtX11_later 9 rfl) (sX11_ahead c hn) (by decide) rfl wL_X11_234 vX11_ahead rfl npX11_ahead (by decide) (by decide) (Nat.le_of_ble_eq_true rfl) (by decide) (by decide) GK_E (fun v9 hc1 hq => ?_) (fun E h9 hq => by cases hq.1)
  have hqq2 := hq
  obtain ⟨e9q2, Aq2⟩ := hqq2
  have cq2 := CQ_FS c Aq2.1
  cases e9q2
  show K mX11_later _ _ 2 12 17 [(0, vr 30), (1, vi (n : Int)), (2, vi 0)] [vr 85] hc1
  refine K_astore_n (ls' := [(3, vr 85), (0, vr 30), (1, vi (n : Int)), (2, vi 0)]) (dt_at dtX11_later 10 rfl) rfl (by decide) rfl ?_
  refine K_iload_n (dt_at dtX11_later 11 rfl) rfl rfl ?_
  refine K_tableIn (tgt := 44) (dt_at dtX11_later 12 rfl) ⟨by decide, by decide⟩ (by decide) (by decide) rfl (by decide) ?_
  refine K_aload_n (dt_at dtX11_later 13 rfl) rfl rfl ?_
  refine K_aload_n (dt_at dtX11_later 14 rfl) rfl rfl ?_
  refine K_get (a := 30) (ci := 11) (k := 2) (v := vr t) (dt_at dtX11_later 15 rfl) (by decide) rfl (by decide) wF_X11_20 (by show vr (hR hc1 30 2) = vr t; rw [cq2.2.1]) ?_
  refine K_get (a := t) (ci := 3) (k := 11) (v := vi (sNp S : Int)) (dt_at dtX11_later 16 rfl) hH rfl (by decide) wF_X11_140 (by show vi (hI hc1 t 11) = vi (sNp S : Int); rw [cq2.2.2.1.2.1.2]) ?_
  refine K_callV (M' := mX8_whoIsOut) (a := 85) (ci := 8) (As := [vi (sNp S : Int)]) (st := []) (dt_at dtX11_later 17 rfl) (sX8_whoIsOut (n := sNp S) (a := 85) (by decide) (by rw [show hA hc1 (85 + 1) = (dysF S f n) from Aq2.2.1]; exact hTn.1) hNp) (by decide) rfl wL_X11_274 vX8_whoIsOut rfl npX8_whoIsOut (by decide) (by decide) (Nat.le_of_ble_eq_true rfl) (by decide) (by decide) GK_E (fun v9 h9 hq => ?_) (fun E h9 hq => by cases hq.1)
  obtain ⟨e9, e8⟩ := hq
  cases e9
  rw [e8]
  show K mX11_later _ _ 2 12 55 [(3, vr 85), (0, vr 30), (1, vi (n : Int)), (2, vi 0)] [vi (bitN (fun j => decide ((hA hc1 (85 + 1) (1 + (j : Int))) ≠ 0)) (sNp S))] hc1
  rw [show hA hc1 (85 + 1) = (dysF S f n) from Aq2.2.1]
  exact K_iret (dt_at dtX11_later 18 rfl) rfl rfl (by decide) (by decide) ⟨rfl, Aq2.1⟩
set_option maxHeartbeats 4000000 in
set_option maxRecDepth 100000 in
theorem sX11_later_1 {h : HP} {t : Nat} {S : HS} {B : Int} {f : Int → Int} {n : Nat} (c : CQ h t S B f) (hn : n ≤ 100) : SpecK mX11_later [vr 30, vi (n : Int), vi 1] h (fun o h' => o = .inl (some (vi (selN (fun j v => decide (((dysF S f n) (22 + (j : Int))) ≠ -1) && (decide (v = -1) || decide (((dysF S f n) (15 + (j : Int))) < ((dysF S f n) (15 + v))))) (sNp S)))) ∧ FS h h') := by
  refine Spec_of (by decide +kernel) (Nat.le_of_ble_eq_true rfl) ?_
  have ht := c.1
  have hH := TTt ht
  have hB := c.2.2.2.1
  have hNt := hB.1
  have hNp := hB.2.1
  have hT := c.2.2.2.2.2.1
  have hC := c.2.2.2.2.2.2.1
  have h99 := c.2.2.2.2.2.2.2.1
  have G := c.2.2.2.2.2.2.2.2
  have hf0 := hT.2.2.2.1
  obtain ⟨hTn, hCn, h0n⟩ := dysF_ok hB hT hC n (by omega)
  refine K_iload_n (dt_at dtX11_later 0 rfl) rfl rfl ?_
  refine K_iconst (dt_at dtX11_later 1 rfl) ?_
  refine K_callS (M' := mX11_needWhat) (As := [vi 1, vi 3]) (st := []) (dt_at dtX11_later 2 rfl) (sX11_needWhat (by first | assumption | exact ⟨by omega, by omega⟩) ⟨by decide, by decide⟩ (by omega)) wL_X11_133 vX11_needWhat rfl npX11_needWhat (by decide) (by decide) (Nat.le_of_ble_eq_true rfl) (by decide) (by decide) GK_E (fun v9 h9 hq => ?_) (fun E h9 hq => by cases hq.1)
  obtain ⟨e9, e8⟩ := hq
  cases e9
  rw [e8]
  show K mX11_later _ _ 1 6 5 [(0, vr 30), (1, vi (n : Int)), (2, vi 1)] [] h
  refine K_iload_n (dt_at dtX11_later 3 rfl) rfl rfl ?_
  refine K_iconst (dt_at dtX11_later 4 rfl) ?_
  refine K_bipush (dt_at dtX11_later 5 rfl) (by decide) ?_
  refine K_callS (M' := mX11_needBetween) (As := [vi (n : Int), vi 0, vi 100]) (st := []) (dt_at dtX11_later 6 rfl) (sX11_needBetween (by first | assumption | exact ⟨by omega, by omega⟩) ⟨by decide, by decide⟩ ⟨by decide, by decide⟩ (by omega)) wL_X11_111 vX11_needBetween rfl npX11_needBetween (by decide) (by decide) (Nat.le_of_ble_eq_true rfl) (by decide) (by decide) GK_E (fun v9 h9 hq => ?_) (fun E h9 hq => by cases hq.1)
  obtain ⟨e9, e8⟩ := hq
  cases e9
  rw [e8]
  show K mX11_later _ _ 2 12 12 [(0, vr 30), (1, vi (n : Int)), (2, vi 1)] [] h
  refine K_aload_n (dt_at dtX11_later 7 rfl) rfl rfl ?_
  refine K_iload_n (dt_at dtX11_later 8 rfl) rfl rfl ?_
  refine K_callV (M' := mX11_ahead) (a := 30) (ci := 11) (As := [vi (n : Int)]) (st := []) (dt_at dtX11_later 9 rfl) (sX11_ahead c hn) (by decide) rfl wL_X11_234 vX11_ahead rfl npX11_ahead (by decide) (by decide) (Nat.le_of_ble_eq_true rfl) (by decide) (by decide) GK_E (fun v9 hc1 hq => ?_) (fun E h9 hq => by cases hq.1)
  have hqq2 := hq
  obtain ⟨e9q2, Aq2⟩ := hqq2
  have cq2 := CQ_FS c Aq2.1
  cases e9q2
  show K mX11_later _ _ 2 12 17 [(0, vr 30), (1, vi (n : Int)), (2, vi 1)] [vr 85] hc1
  refine K_astore_n (ls' := [(3, vr 85), (0, vr 30), (1, vi (n : Int)), (2, vi 1)]) (dt_at dtX11_later 10 rfl) rfl (by decide) rfl ?_
  refine K_iload_n (dt_at dtX11_later 11 rfl) rfl rfl ?_
  refine K_tableIn (tgt := 56) (dt_at dtX11_later 12 rfl) ⟨by decide, by decide⟩ (by decide) (by decide) rfl (by decide) ?_
  refine K_aload_n (dt_at dtX11_later 19 rfl) rfl rfl ?_
  refine K_aload_n (dt_at dtX11_later 20 rfl) rfl rfl ?_
  refine K_get (a := 30) (ci := 11) (k := 2) (v := vr t) (dt_at dtX11_later 21 rfl) (by decide) rfl (by decide) wF_X11_20 (by show vr (hR hc1 30 2) = vr t; rw [cq2.2.1]) ?_
  refine K_get (a := t) (ci := 3) (k := 11) (v := vi (sNp S : Int)) (dt_at dtX11_later 22 rfl) hH rfl (by decide) wF_X11_140 (by show vi (hI hc1 t 11) = vi (sNp S : Int); rw [cq2.2.2.1.2.1.2]) ?_
  refine K_callV (M' := mX8_crossest) (a := 85) (ci := 8) (As := [vi (sNp S : Int)]) (st := []) (dt_at dtX11_later 23 rfl) (sX8_crossest (n := sNp S) (a := 85) (by decide) (by rw [show hA hc1 (85 + 1) = (dysF S f n) from Aq2.2.1]; exact hTn.1) hNp) (by decide) rfl wL_X11_277 vX8_crossest rfl npX8_crossest (by decide) (by decide) (Nat.le_of_ble_eq_true rfl) (by decide) (by decide) GK_E (fun v9 h9 hq => ?_) (fun E h9 hq => by cases hq.1)
  obtain ⟨e9, e8⟩ := hq
  cases e9
  rw [e8]
  show K mX11_later _ _ 2 12 67 [(3, vr 85), (0, vr 30), (1, vi (n : Int)), (2, vi 1)] [vi (selN (fun j v => decide ((hA hc1 (85 + 1) (22 + (j : Int))) ≠ -1) && (decide (v = -1) || decide ((hA hc1 (85 + 1) (15 + (j : Int))) < (hA hc1 (85 + 1) (15 + v))))) (sNp S))] hc1
  rw [show hA hc1 (85 + 1) = (dysF S f n) from Aq2.2.1]
  exact K_iret (dt_at dtX11_later 24 rfl) rfl rfl (by decide) (by decide) ⟨rfl, Aq2.1⟩
set_option maxHeartbeats 4000000 in
set_option maxRecDepth 100000 in
theorem sX11_later_2 {h : HP} {t : Nat} {S : HS} {B : Int} {f : Int → Int} {n : Nat} (c : CQ h t S B f) (hn : n ≤ 100) : SpecK mX11_later [vr 30, vi (n : Int), vi 2] h (fun o h' => o = .inl (some (vi (emD S f 0 n))) ∧ FS h h') := by
  refine Spec_of (by decide +kernel) (Nat.le_of_ble_eq_true rfl) ?_
  have ht := c.1
  have hH := TTt ht
  have hB := c.2.2.2.1
  have hNt := hB.1
  have hNp := hB.2.1
  have hT := c.2.2.2.2.2.1
  have hC := c.2.2.2.2.2.2.1
  have h99 := c.2.2.2.2.2.2.2.1
  have G := c.2.2.2.2.2.2.2.2
  have hf0 := hT.2.2.2.1
  obtain ⟨hTn, hCn, h0n⟩ := dysF_ok hB hT hC n (by omega)
  refine K_iload_n (dt_at dtX11_later 0 rfl) rfl rfl ?_
  refine K_iconst (dt_at dtX11_later 1 rfl) ?_
  refine K_callS (M' := mX11_needWhat) (As := [vi 2, vi 3]) (st := []) (dt_at dtX11_later 2 rfl) (sX11_needWhat (by first | assumption | exact ⟨by omega, by omega⟩) ⟨by decide, by decide⟩ (by omega)) wL_X11_133 vX11_needWhat rfl npX11_needWhat (by decide) (by decide) (Nat.le_of_ble_eq_true rfl) (by decide) (by decide) GK_E (fun v9 h9 hq => ?_) (fun E h9 hq => by cases hq.1)
  obtain ⟨e9, e8⟩ := hq
  cases e9
  rw [e8]
  show K mX11_later _ _ 1 6 5 [(0, vr 30), (1, vi (n : Int)), (2, vi 2)] [] h
  refine K_iload_n (dt_at dtX11_later 3 rfl) rfl rfl ?_
  refine K_iconst (dt_at dtX11_later 4 rfl) ?_
  refine K_bipush (dt_at dtX11_later 5 rfl) (by decide) ?_
  refine K_callS (M' := mX11_needBetween) (As := [vi (n : Int), vi 0, vi 100]) (st := []) (dt_at dtX11_later 6 rfl) (sX11_needBetween (by first | assumption | exact ⟨by omega, by omega⟩) ⟨by decide, by decide⟩ ⟨by decide, by decide⟩ (by omega)) wL_X11_111 vX11_needBetween rfl npX11_needBetween (by decide) (by decide) (Nat.le_of_ble_eq_true rfl) (by decide) (by decide) GK_E (fun v9 h9 hq => ?_) (fun E h9 hq => by cases hq.1)
  obtain ⟨e9, e8⟩ := hq
  cases e9
  rw [e8]
  show K mX11_later _ _ 2 12 12 [(0, vr 30), (1, vi (n : Int)), (2, vi 2)] [] h
  refine K_aload_n (dt_at dtX11_later 7 rfl) rfl rfl ?_
  refine K_iload_n (dt_at dtX11_later 8 rfl) rfl rfl ?_
  refine K_callV (M' := mX11_ahead) (a := 30) (ci := 11) (As := [vi (n : Int)]) (st := []) (dt_at dtX11_later 9 rfl) (sX11_ahead c hn) (by decide) rfl wL_X11_234 vX11_ahead rfl npX11_ahead (by decide) (by decide) (Nat.le_of_ble_eq_true rfl) (by decide) (by decide) GK_E (fun v9 hc1 hq => ?_) (fun E h9 hq => by cases hq.1)
  have hqq2 := hq
  obtain ⟨e9q2, Aq2⟩ := hqq2
  have cq2 := CQ_FS c Aq2.1
  cases e9q2
  show K mX11_later _ _ 2 12 17 [(0, vr 30), (1, vi (n : Int)), (2, vi 2)] [vr 85] hc1
  refine K_astore_n (ls' := [(3, vr 85), (0, vr 30), (1, vi (n : Int)), (2, vi 2)]) (dt_at dtX11_later 10 rfl) rfl (by decide) rfl ?_
  refine K_iload_n (dt_at dtX11_later 11 rfl) rfl rfl ?_
  refine K_tableIn (tgt := 68) (dt_at dtX11_later 12 rfl) ⟨by decide, by decide⟩ (by decide) (by decide) rfl (by decide) ?_
  refine K_aload_n (dt_at dtX11_later 25 rfl) rfl rfl ?_
  refine K_get (a := 30) (ci := 11) (k := 11) (v := vr 84) (dt_at dtX11_later 26 rfl) (by decide) rfl (by decide) wF_X11_69 rfl ?_
  refine K_callV (M' := mX10_emptyCases) (a := 84) (ci := 10) (As := []) (st := []) (dt_at dtX11_later 27 rfl) (sX10_emptyCases (w := 84) (by decide)) (show TT 84 = (0, 10) from rfl) rfl wL_X11_280 vX10_emptyCases rfl npX10_emptyCases (by decide) (by decide) (Nat.le_of_ble_eq_true rfl) (by decide) (by decide) GK_E (fun v9 h9 hq => ?_) (fun E h9 hq => by cases hq.1)
  obtain ⟨e9, e8⟩ := hq
  cases e9
  rw [e8]
  show K mX11_later _ _ 2 12 75 [(3, vr 85), (0, vr 30), (1, vi (n : Int)), (2, vi 2)] [vi (hI hc1 84 6)] hc1
  rw [show hI hc1 84 6 = emD S f 0 n from Aq2.2.2.2]
  exact K_iret (dt_at dtX11_later 28 rfl) rfl rfl (by decide) (by decide) ⟨rfl, Aq2.1⟩
set_option maxHeartbeats 4000000 in
set_option maxRecDepth 100000 in
theorem sX11_later_3 {h : HP} {t : Nat} {S : HS} {B : Int} {f : Int → Int} {n : Nat} (c : CQ h t S B f) (hn : n ≤ 100) : SpecK mX11_later [vr 30, vi (n : Int), vi 3] h (fun o h' => o = .inl (some (vi (fmN 0 0 (-1) (fun j => sumF (sW S) (dysF S f n) (j : Int) (sNt S)) (sNp S)))) ∧ FS h h') := by
  refine Spec_of (by decide +kernel) (Nat.le_of_ble_eq_true rfl) ?_
  have ht := c.1
  have hH := TTt ht
  have hB := c.2.2.2.1
  have hNt := hB.1
  have hNp := hB.2.1
  have hT := c.2.2.2.2.2.1
  have hC := c.2.2.2.2.2.2.1
  have h99 := c.2.2.2.2.2.2.2.1
  have G := c.2.2.2.2.2.2.2.2
  have hf0 := hT.2.2.2.1
  obtain ⟨hTn, hCn, h0n⟩ := dysF_ok hB hT hC n (by omega)
  refine K_iload_n (dt_at dtX11_later 0 rfl) rfl rfl ?_
  refine K_iconst (dt_at dtX11_later 1 rfl) ?_
  refine K_callS (M' := mX11_needWhat) (As := [vi 3, vi 3]) (st := []) (dt_at dtX11_later 2 rfl) (sX11_needWhat (by first | assumption | exact ⟨by omega, by omega⟩) ⟨by decide, by decide⟩ (by omega)) wL_X11_133 vX11_needWhat rfl npX11_needWhat (by decide) (by decide) (Nat.le_of_ble_eq_true rfl) (by decide) (by decide) GK_E (fun v9 h9 hq => ?_) (fun E h9 hq => by cases hq.1)
  obtain ⟨e9, e8⟩ := hq
  cases e9
  rw [e8]
  show K mX11_later _ _ 1 6 5 [(0, vr 30), (1, vi (n : Int)), (2, vi 3)] [] h
  refine K_iload_n (dt_at dtX11_later 3 rfl) rfl rfl ?_
  refine K_iconst (dt_at dtX11_later 4 rfl) ?_
  refine K_bipush (dt_at dtX11_later 5 rfl) (by decide) ?_
  refine K_callS (M' := mX11_needBetween) (As := [vi (n : Int), vi 0, vi 100]) (st := []) (dt_at dtX11_later 6 rfl) (sX11_needBetween (by first | assumption | exact ⟨by omega, by omega⟩) ⟨by decide, by decide⟩ ⟨by decide, by decide⟩ (by omega)) wL_X11_111 vX11_needBetween rfl npX11_needBetween (by decide) (by decide) (Nat.le_of_ble_eq_true rfl) (by decide) (by decide) GK_E (fun v9 h9 hq => ?_) (fun E h9 hq => by cases hq.1)
  obtain ⟨e9, e8⟩ := hq
  cases e9
  rw [e8]
  show K mX11_later _ _ 2 12 12 [(0, vr 30), (1, vi (n : Int)), (2, vi 3)] [] h
  refine K_aload_n (dt_at dtX11_later 7 rfl) rfl rfl ?_
  refine K_iload_n (dt_at dtX11_later 8 rfl) rfl rfl ?_
  refine K_callV (M' := mX11_ahead) (a := 30) (ci := 11) (As := [vi (n : Int)]) (st := []) (dt_at dtX11_later 9 rfl) (sX11_ahead c hn) (by decide) rfl wL_X11_234 vX11_ahead rfl npX11_ahead (by decide) (by decide) (Nat.le_of_ble_eq_true rfl) (by decide) (by decide) GK_E (fun v9 hc1 hq => ?_) (fun E h9 hq => by cases hq.1)
  have hqq2 := hq
  obtain ⟨e9q2, Aq2⟩ := hqq2
  have cq2 := CQ_FS c Aq2.1
  cases e9q2
  show K mX11_later _ _ 2 12 17 [(0, vr 30), (1, vi (n : Int)), (2, vi 3)] [vr 85] hc1
  refine K_astore_n (ls' := [(3, vr 85), (0, vr 30), (1, vi (n : Int)), (2, vi 3)]) (dt_at dtX11_later 10 rfl) rfl (by decide) rfl ?_
  refine K_iload_n (dt_at dtX11_later 11 rfl) rfl rfl ?_
  refine K_tableOut (tgt := 76) (dt_at dtX11_later 12 rfl) ⟨by decide, by decide⟩ (by decide) (by decide) ?_
  refine K_aload_n (dt_at dtX11_later 29 rfl) rfl rfl ?_
  refine K_get (a := 30) (ci := 11) (k := 2) (v := vr t) (dt_at dtX11_later 30 rfl) (by decide) rfl (by decide) wF_X11_20 (by show vr (hR hc1 30 2) = vr t; rw [cq2.2.1]) ?_
  refine K_aload_n (dt_at dtX11_later 31 rfl) rfl rfl ?_
  refine K_callV (M' := mX3_heaviest) (a := t) (ci := 3) (As := [vr 85]) (st := []) (dt_at dtX11_later 32 rfl) (sX3_heaviest (n := sNt S) (np := sNp S) hH (a := 85) (by decide) (by rw [show hA hc1 (85 + 1) = (dysF S f n) from Aq2.2.1]; exact hTn) hNt cq2.2.2.1.2.1.1 cq2.2.2.1.2.1.2 hNp (by rw [cq2.2.2.1.1.1]; exact fun i a b => by have := (hB.2.2.1 i a b).1; constructor <;> omega)) hH rfl wL_X11_283 vX3_heaviest rfl npX3_heaviest (by decide) (by decide) (Nat.le_of_ble_eq_true rfl) (by decide) (by decide) GK_E (fun v9 h9 hq => ?_) (fun E h9 hq => by cases hq.1)
  obtain ⟨e9, e8⟩ := hq
  cases e9
  rw [e8]
  show K mX11_later _ _ 2 12 84 [(3, vr 85), (0, vr 30), (1, vi (n : Int)), (2, vi 3)] [vi (fmN 0 0 (-1) (fun j => sumF (hA hc1 (t + 1)) (hA hc1 (85 + 1)) (j : Int) (sNt S)) (sNp S))] hc1
  rw [show hA hc1 (85 + 1) = (dysF S f n) from Aq2.2.1]
  rw [cq2.2.2.1.1.1]
  exact K_iret (dt_at dtX11_later 33 rfl) rfl rfl (by decide) (by decide) ⟨rfl, Aq2.1⟩
def mX11_without : MI := (yX11_without, cX11_without, 5, (some .int), rmK 8 3)
def tX11_without : List (Nat × Instr × Nat) := [(0, .aload_n 0, 1), (1, .iload_n 1, 1), (2, .invokevirtual 184, 3), (5, .aload_n 0, 1), (6, .iload_n 2, 1), (7, .invokevirtual 172, 3), (10, .iload_n 3, 1), (11, .iconst 0, 1), (12, .bipush 100, 2), (14, .invokestatic 111, 3), (17, .aload_n 0, 1), (18, .iload_n 3, 1), (19, .invokevirtual 234, 3), (22, .iload_n 2, 1), (23, .invokevirtual 181, 3), (26, .istore 4, 2), (28, .aload_n 0, 1), (29, .getfield 69, 3), (32, .aload_n 0, 1), (33, .getfield 20, 3), (36, .aload_n 0, 1), (37, .getfield 39, 3), (40, .invokevirtual 286, 3), (43, .aload_n 0, 1), (44, .getfield 69, 3), (47, .getfield 291, 3), (50, .iload_n 1, 1), (51, .aload_n 0, 1), (52, .getfield 20, 3), (55, .getfield 140, 3), (58, .invokevirtual 319, 3), (61, .aload_n 0, 1), (62, .getfield 69, 3), (65, .iload_n 3, 1), (66, .invokevirtual 322, 3), (69, .aload_n 0, 1), (70, .getfield 69, 3), (73, .getfield 291, 3), (76, .iload_n 2, 1), (77, .invokevirtual 181, 3), (80, .iload 4, 2), (82, .isub, 1), (83, .ireturn, 1)]
theorem dtX11_without : tX11_without.all (fun q => decide (decode cX11_without q.1 = .ok (q.2.1, q.2.2))) = true := by decide +kernel
theorem npX11_without : (parseMethodDescriptor (mY mX11_without).desc).map (fun d => d.parameters.length) = some 3 := by decide +kernel
theorem vX11_without : mV mX11_without := ⟨wI_X11_without, wS_X11_without, wN_X11, wC_X11_without, by decide +kernel, by decide +kernel⟩
set_option maxHeartbeats 4000000 in
set_option maxRecDepth 100000 in
theorem sX11_without_x1 {h : HP} {t : Nat} {S : HS} {B : Int} {f : Int → Int} {p : Int} {q : Int} {d : Int} (c : CQ h t S B f) (hp : i32 p) (hq : i32 q) (hd : i32 d) (kn : ¬ (0 ≤ p ∧ p < sNp S)) : SpecK mX11_without [vr 30, vi p, vi q, vi d] h (fun o h' => o = .inr eNS ∧ FS h h') := by
  refine Spec_of (by decide +kernel) (Nat.le_of_ble_eq_true rfl) ?_
  have ht := c.1
  have hH := TTt ht
  have hB := c.2.2.2.1
  have hNt := hB.1
  have hNp := hB.2.1
  have hT := c.2.2.2.2.2.1
  have hC := c.2.2.2.2.2.2.1
  have h99 := c.2.2.2.2.2.2.2.1
  have G := c.2.2.2.2.2.2.2.2
  have hf0 := hT.2.2.2.1
  refine K_aload_n (dt_at dtX11_without 0 rfl) rfl rfl ?_
  refine K_iload_n (dt_at dtX11_without 1 rfl) rfl rfl ?_
  exact K_callV (M' := mX11_needPerson) (a := 30) (ci := 11) (As := [vi p]) (st := []) (dt_at dtX11_without 2 rfl) (sX11_needPerson_no hH c.2.1 c.2.2.1.2.1.2 hNp (by assumption) (by omega)) (by decide) rfl wL_X11_184 vX11_needPerson rfl npX11_needPerson (by decide) (by decide) (Nat.le_of_ble_eq_true rfl) (by decide) (by decide) GK_E (fun v9 h9 hq => by cases hq.1) (fun E h9 hq => by obtain ⟨e9, e8⟩ := hq; cases e9; rw [e8]; exact KX_out (by decide) (by decide) ⟨rfl, FS_rf G⟩)
set_option maxHeartbeats 4000000 in
set_option maxRecDepth 100000 in
theorem sX11_without_x2 {h : HP} {t : Nat} {S : HS} {B : Int} {f : Int → Int} {p : Int} {q : Int} {d : Int} (c : CQ h t S B f) (hp : i32 p) (hq : i32 q) (hd : i32 d) (k0 : 0 ≤ p ∧ p < sNp S) (kn : ¬ (0 ≤ q ∧ q < sNt S)) : SpecK mX11_without [vr 30, vi p, vi q, vi d] h (fun o h' => o = .inr eNS ∧ FS h h') := by
  refine Spec_of (by decide +kernel) (Nat.le_of_ble_eq_true rfl) ?_
  have ht := c.1
  have hH := TTt ht
  have hB := c.2.2.2.1
  have hNt := hB.1
  have hNp := hB.2.1
  have hT := c.2.2.2.2.2.1
  have hC := c.2.2.2.2.2.2.1
  have h99 := c.2.2.2.2.2.2.2.1
  have G := c.2.2.2.2.2.2.2.2
  have hf0 := hT.2.2.2.1
  refine K_aload_n (dt_at dtX11_without 0 rfl) rfl rfl ?_
  refine K_iload_n (dt_at dtX11_without 1 rfl) rfl rfl ?_
  refine K_callV (M' := mX11_needPerson) (a := 30) (ci := 11) (As := [vi p]) (st := []) (dt_at dtX11_without 2 rfl) (sX11_needPerson hH c.2.1 c.2.2.1.2.1.2 hNp (by first | assumption | exact ⟨by omega, by omega⟩) (by omega)) (by decide) rfl wL_X11_184 vX11_needPerson rfl npX11_needPerson (by decide) (by decide) (Nat.le_of_ble_eq_true rfl) (by decide) (by decide) GK_E (fun v9 h9 hq => ?_) (fun E h9 hq => by cases hq.1)
  obtain ⟨e9, e8⟩ := hq
  cases e9
  rw [e8]
  show K mX11_without _ _ 1 6 5 [(0, vr 30), (1, vi p), (2, vi q), (3, vi d)] [] h
  refine K_aload_n (dt_at dtX11_without 3 rfl) rfl rfl ?_
  refine K_iload_n (dt_at dtX11_without 4 rfl) rfl rfl ?_
  exact K_callV (M' := mX11_needThing) (a := 30) (ci := 11) (As := [vi q]) (st := []) (dt_at dtX11_without 5 rfl) (sX11_needThing_no hH c.2.1 c.2.2.1.2.1.1 hNt (by assumption) (by omega)) (by decide) rfl wL_X11_172 vX11_needThing rfl npX11_needThing (by decide) (by decide) (Nat.le_of_ble_eq_true rfl) (by decide) (by decide) GK_E (fun v9 h9 hq => by cases hq.1) (fun E h9 hq => by obtain ⟨e9, e8⟩ := hq; cases e9; rw [e8]; exact KX_out (by decide) (by decide) ⟨rfl, FS_rf G⟩)
set_option maxHeartbeats 4000000 in
set_option maxRecDepth 100000 in
theorem sX11_without_x3 {h : HP} {t : Nat} {S : HS} {B : Int} {f : Int → Int} {p : Int} {q : Int} {d : Int} (c : CQ h t S B f) (hp : i32 p) (hq : i32 q) (hd : i32 d) (k0 : 0 ≤ p ∧ p < sNp S) (k1 : 0 ≤ q ∧ q < sNt S) (kn : ¬ (0 ≤ d ∧ d ≤ 100)) : SpecK mX11_without [vr 30, vi p, vi q, vi d] h (fun o h' => o = .inr eIA ∧ FS h h') := by
  refine Spec_of (by decide +kernel) (Nat.le_of_ble_eq_true rfl) ?_
  have ht := c.1
  have hH := TTt ht
  have hB := c.2.2.2.1
  have hNt := hB.1
  have hNp := hB.2.1
  have hT := c.2.2.2.2.2.1
  have hC := c.2.2.2.2.2.2.1
  have h99 := c.2.2.2.2.2.2.2.1
  have G := c.2.2.2.2.2.2.2.2
  have hf0 := hT.2.2.2.1
  refine K_aload_n (dt_at dtX11_without 0 rfl) rfl rfl ?_
  refine K_iload_n (dt_at dtX11_without 1 rfl) rfl rfl ?_
  refine K_callV (M' := mX11_needPerson) (a := 30) (ci := 11) (As := [vi p]) (st := []) (dt_at dtX11_without 2 rfl) (sX11_needPerson hH c.2.1 c.2.2.1.2.1.2 hNp (by first | assumption | exact ⟨by omega, by omega⟩) (by omega)) (by decide) rfl wL_X11_184 vX11_needPerson rfl npX11_needPerson (by decide) (by decide) (Nat.le_of_ble_eq_true rfl) (by decide) (by decide) GK_E (fun v9 h9 hq => ?_) (fun E h9 hq => by cases hq.1)
  obtain ⟨e9, e8⟩ := hq
  cases e9
  rw [e8]
  show K mX11_without _ _ 1 6 5 [(0, vr 30), (1, vi p), (2, vi q), (3, vi d)] [] h
  refine K_aload_n (dt_at dtX11_without 3 rfl) rfl rfl ?_
  refine K_iload_n (dt_at dtX11_without 4 rfl) rfl rfl ?_
  refine K_callV (M' := mX11_needThing) (a := 30) (ci := 11) (As := [vi q]) (st := []) (dt_at dtX11_without 5 rfl) (sX11_needThing hH c.2.1 c.2.2.1.2.1.1 hNt (by first | assumption | exact ⟨by omega, by omega⟩) (by omega)) (by decide) rfl wL_X11_172 vX11_needThing rfl npX11_needThing (by decide) (by decide) (Nat.le_of_ble_eq_true rfl) (by decide) (by decide) GK_E (fun v9 h9 hq => ?_) (fun E h9 hq => by cases hq.1)
  obtain ⟨e9, e8⟩ := hq
  cases e9
  rw [e8]
  show K mX11_without _ _ 2 12 10 [(0, vr 30), (1, vi p), (2, vi q), (3, vi d)] [] h
  refine K_iload_n (dt_at dtX11_without 6 rfl) rfl rfl ?_
  refine K_iconst (dt_at dtX11_without 7 rfl) ?_
  refine K_bipush (dt_at dtX11_without 8 rfl) (by decide) ?_
  exact K_callS (M' := mX11_needBetween) (As := [vi d, vi 0, vi 100]) (st := []) (dt_at dtX11_without 9 rfl) (sX11_needBetween_no (by assumption) ⟨by decide, by decide⟩ ⟨by decide, by decide⟩ (by omega)) wL_X11_111 vX11_needBetween rfl npX11_needBetween (by decide) (by decide) (Nat.le_of_ble_eq_true rfl) (by decide) (by decide) GK_E (fun v9 h9 hq => by cases hq.1) (fun E h9 hq => by obtain ⟨e9, e8⟩ := hq; cases e9; rw [e8]; exact KX_out (by decide) (by decide) ⟨rfl, FS_rf G⟩)
theorem disF_ok {S : HS} {B : Int} {f : Int → Int} {q : Int} {n : Nat} (h : rT B f) (hC : rC S f) (hn : n ≤ 7) : rT B (disF f q n) ∧ rC S (disF f q n) ∧ disF f q n 0 = f 0 := by
  obtain ⟨g1, g2, g3, g4, g5, g6⟩ := h
  have hi : ∀ j, 29 ≤ j → disF f q n j = f j := fun j hj => if_neg (by omega)
  have lo : ∀ j, j < 22 → disF f q n j = f j := fun j hj => if_neg (by omega)
  refine ⟨⟨⟨fun i a b => ?_, fun p a b => ?_⟩, fun j a b => by rw [hi j a]; exact g2 j a b, fun t a b => ?_, by rw [lo 0 (by omega)]; exact g4, by rw [lo 0 (by omega)]; exact g5, g6⟩, fun p a b => ?_, lo 0 (by omega)⟩
  · have w := g1.1 i a b
    unfold disF
    by_cases e : 22 ≤ i ∧ i < 22 + (n : Int) ∧ f i = q
    · rw [if_pos e]; constructor <;> omega
    · rw [if_neg e]; exact w
  · have w := g1.2 p a b
    rw [lo (1 + p) (by omega), lo (8 + p) (by omega), lo (15 + p) (by omega)]
    refine ⟨w.1, w.2.1, w.2.2.1, ?_⟩
    unfold disF
    by_cases e : 22 ≤ 22 + p ∧ 22 + p < 22 + (n : Int) ∧ f (22 + p) = q
    · rw [if_pos e]; constructor <;> omega
    · rw [if_neg e]; exact w.2.2.2
  · rw [hi (29 + t) (by omega), hi (35 + t) (by omega), hi (41 + t) (by omega), hi (47 + t) (by omega), hi (53 + t) (by omega), hi (59 + t) (by omega), hi (65 + t) (by omega), hi (71 + t) (by omega)]
    exact g3 t a b
  · rcases (show p < 14 ∨ 14 ≤ p by omega) with z | z
    · rw [lo (8 + p) (by omega)]; exact hC p a b
    · have := hC p a b
      unfold disF
      by_cases e : 22 ≤ 8 + p ∧ 8 + p < 22 + (n : Int) ∧ f (8 + p) = q
      · rw [if_pos e]; omega
      · rw [if_neg e]; exact this
set_option maxHeartbeats 4000000 in
set_option maxRecDepth 100000 in
theorem sX11_without {h : HP} {t : Nat} {S : HS} {B : Int} {f : Int → Int} {p q : Int} {n : Nat} (c : CQ h t S B f) (hp : 0 ≤ p ∧ p < sNp S) (hqt : 0 ≤ q ∧ q < sNt S) (hn : n ≤ 100) : SpecK mX11_without [vr 30, vi p, vi q, vi (n : Int)] h (fun o h' => o = .inl (some (vi (dysF S (disF f p (sNp S)) n (29 + q) - dysF S f n (29 + q)))) ∧ FS h h') := by
  refine Spec_of (by decide +kernel) (Nat.le_of_ble_eq_true rfl) ?_
  have ht := c.1
  have hH := TTt ht
  have hB := c.2.2.2.1
  have hNt := hB.1
  have hNp := hB.2.1
  have hT := c.2.2.2.2.2.1
  have hC := c.2.2.2.2.2.2.1
  have h99 := c.2.2.2.2.2.2.2.1
  have G := c.2.2.2.2.2.2.2.2
  have hf0 := hT.2.2.2.1
  obtain ⟨hTn, hCn, h0n⟩ := dysF_ok hB hT hC n (by omega)
  refine K_aload_n (dt_at dtX11_without 0 rfl) rfl rfl ?_
  refine K_iload_n (dt_at dtX11_without 1 rfl) rfl rfl ?_
  refine K_callV (M' := mX11_needPerson) (a := 30) (ci := 11) (As := [vi p]) (st := []) (dt_at dtX11_without 2 rfl) (sX11_needPerson hH c.2.1 c.2.2.1.2.1.2 hNp (by first | assumption | exact ⟨by omega, by omega⟩) (by omega)) (by decide) rfl wL_X11_184 vX11_needPerson rfl npX11_needPerson (by decide) (by decide) (Nat.le_of_ble_eq_true rfl) (by decide) (by decide) GK_E (fun v9 h9 hq => ?_) (fun E h9 hq => by cases hq.1)
  obtain ⟨e9, e8⟩ := hq
  cases e9
  rw [e8]
  show K mX11_without _ _ 1 6 5 [(0, vr 30), (1, vi p), (2, vi q), (3, vi (n : Int))] [] h
  refine K_aload_n (dt_at dtX11_without 3 rfl) rfl rfl ?_
  refine K_iload_n (dt_at dtX11_without 4 rfl) rfl rfl ?_
  refine K_callV (M' := mX11_needThing) (a := 30) (ci := 11) (As := [vi q]) (st := []) (dt_at dtX11_without 5 rfl) (sX11_needThing hH c.2.1 c.2.2.1.2.1.1 hNt (by first | assumption | exact ⟨by omega, by omega⟩) (by omega)) (by decide) rfl wL_X11_172 vX11_needThing rfl npX11_needThing (by decide) (by decide) (Nat.le_of_ble_eq_true rfl) (by decide) (by decide) GK_E (fun v9 h9 hq => ?_) (fun E h9 hq => by cases hq.1)
  obtain ⟨e9, e8⟩ := hq
  cases e9
  rw [e8]
  show K mX11_without _ _ 2 12 10 [(0, vr 30), (1, vi p), (2, vi q), (3, vi (n : Int))] [] h
  refine K_iload_n (dt_at dtX11_without 6 rfl) rfl rfl ?_
  refine K_iconst (dt_at dtX11_without 7 rfl) ?_
  refine K_bipush (dt_at dtX11_without 8 rfl) (by decide) ?_
  refine K_callS (M' := mX11_needBetween) (As := [vi (n : Int), vi 0, vi 100]) (st := []) (dt_at dtX11_without 9 rfl) (sX11_needBetween (by first | assumption | exact ⟨by omega, by omega⟩) ⟨by decide, by decide⟩ ⟨by decide, by decide⟩ (by omega)) wL_X11_111 vX11_needBetween rfl npX11_needBetween (by decide) (by decide) (Nat.le_of_ble_eq_true rfl) (by decide) (by decide) GK_E (fun v9 h9 hq => ?_) (fun E h9 hq => by cases hq.1)
  obtain ⟨e9, e8⟩ := hq
  cases e9
  rw [e8]
  show K mX11_without _ _ 3 18 17 [(0, vr 30), (1, vi p), (2, vi q), (3, vi (n : Int))] [] h
  refine K_aload_n (dt_at dtX11_without 10 rfl) rfl rfl ?_
  refine K_iload_n (dt_at dtX11_without 11 rfl) rfl rfl ?_
  refine K_callV (M' := mX11_ahead) (a := 30) (ci := 11) (As := [vi (n : Int)]) (st := []) (dt_at dtX11_without 12 rfl) (sX11_ahead c hn) (by decide) rfl wL_X11_234 vX11_ahead rfl npX11_ahead (by decide) (by decide) (Nat.le_of_ble_eq_true rfl) (by decide) (by decide) GK_E (fun v9 hc1 hq => ?_) (fun E h9 hq => by cases hq.1)
  have hqq2 := hq
  obtain ⟨e9q2, Aq2⟩ := hqq2
  have cq2 := CQ_FS c Aq2.1
  cases e9q2
  show K mX11_without _ _ 3 18 22 [(0, vr 30), (1, vi p), (2, vi q), (3, vi (n : Int))] [vr 85] hc1
  refine K_iload_n (dt_at dtX11_without 13 rfl) rfl rfl ?_
  refine K_callV (M' := mX8_stock) (a := 85) (ci := 8) (As := [vi q]) (st := []) (dt_at dtX11_without 14 rfl) (sX8_stock (a := 85) (by decide) ⟨by omega, by omega⟩) (by decide) rfl wL_X11_181 vX8_stock rfl npX8_stock (by decide) (by decide) (Nat.le_of_ble_eq_true rfl) (by decide) (by decide) GK_E (fun v9 h9 hq => ?_) (fun E h9 hq => by cases hq.1)
  obtain ⟨e9, e8⟩ := hq
  cases e9
  rw [e8]
  show K mX11_without _ _ 3 18 26 [(0, vr 30), (1, vi p), (2, vi q), (3, vi (n : Int))] [vi (hA hc1 (85 + 1) (29 + q))] hc1
  rw [show hA hc1 (85 + 1) = (dysF S f n) from Aq2.2.1]
  refine K_istore (ls' := [(4, vi ((dysF S f n) (29 + q))), (0, vr 30), (1, vi p), (2, vi q), (3, vi (n : Int))]) (dt_at dtX11_without 15 rfl) (by decide) rfl ?_
  refine K_aload_n (dt_at dtX11_without 16 rfl) rfl rfl ?_
  refine K_get (a := 30) (ci := 11) (k := 11) (v := vr 84) (dt_at dtX11_without 17 rfl) (by decide) rfl (by decide) wF_X11_69 rfl ?_
  refine K_aload_n (dt_at dtX11_without 18 rfl) rfl rfl ?_
  refine K_get (a := 30) (ci := 11) (k := 2) (v := vr t) (dt_at dtX11_without 19 rfl) (by decide) rfl (by decide) wF_X11_20 (by show vr (hR hc1 30 2) = vr t; rw [cq2.2.1]) ?_
  refine K_aload_n (dt_at dtX11_without 20 rfl) rfl rfl ?_
  refine K_get (a := 30) (ci := 11) (k := 5) (v := vr 66) (dt_at dtX11_without 21 rfl) (by decide) rfl (by decide) wF_X11_39 rfl ?_
  refine K_callV (M' := mX10_begin) (a := 84) (ci := 10) (As := [vr t, vr 66]) (st := []) (dt_at dtX11_without 22 rfl) (sX10_begin (w := 84) (t := t) (a := 66) (Or.inl rfl) ht (by decide) (by decide)) (show TT 84 = (0, 10) from rfl) rfl wL_X11_286 vX10_begin rfl npX10_begin (by decide) (by decide) (Nat.le_of_ble_eq_true rfl) (by decide) (by decide) GK_E (fun v9 hc3 hq => ?_) (fun E h9 hq => by cases hq.1)
  have hqq4 := hq
  obtain ⟨e9q4, b1, b2, b3, b4, b5, b6, b7⟩ := hqq4
  obtain ⟨F1, X, P1⟩ := BG_ok (w := 84) (Or.inl rfl) ht cq2.2.2.1 hB cq2.2.2.2.2.2.2.2.2 b1 b2 b3 b4 b5 b6 b7
  rw [cq2.2.2.2.2.1] at P1
  cases e9q4
  show K mX11_without _ _ 3 18 43 [(4, vi ((dysF S f n) (29 + q))), (0, vr 30), (1, vi p), (2, vi q), (3, vi (n : Int))] [] hc3
  refine K_aload_n (dt_at dtX11_without 23 rfl) rfl rfl ?_
  refine K_get (a := 30) (ci := 11) (k := 11) (v := vr 84) (dt_at dtX11_without 24 rfl) (by decide) rfl (by decide) wF_X11_69 rfl ?_
  refine K_get (a := 84) (ci := 10) (k := 0) (v := vr 85) (dt_at dtX11_without 25 rfl) (show TT 84 = (0, 10) from rfl) rfl (by decide) wF_X11_291 rfl ?_
  refine K_iload_n (dt_at dtX11_without 26 rfl) rfl rfl ?_
  refine K_aload_n (dt_at dtX11_without 27 rfl) rfl rfl ?_
  refine K_get (a := 30) (ci := 11) (k := 2) (v := vr t) (dt_at dtX11_without 28 rfl) (by decide) rfl (by decide) wF_X11_20 (by show vr (hR hc3 30 2) = vr t; rw [(CQ_FS cq2 F1).2.1]) ?_
  refine K_get (a := t) (ci := 3) (k := 11) (v := vi (sNp S : Int)) (dt_at dtX11_without 29 rfl) hH rfl (by decide) wF_X11_140 (by show vi (hI hc3 t 11) = vi (sNp S : Int); rw [(CQ_FS cq2 F1).2.2.1.2.1.2]) ?_
  refine K_callV (M' := mX8_dismiss) (a := 85) (ci := 8) (As := [vi p, vi (sNp S : Int)]) (st := []) (dt_at dtX11_without 30 rfl) (sX8_dismiss (a := 85) (n := sNp S) (by decide) (by rw [show hA hc3 (85 + 1) = f from P1.2.1]; exact hT.1) hNp (by first | assumption | exact ⟨by omega, by omega⟩)) (show TT 85 = (0, 8) from rfl) rfl wL_X11_319 vX8_dismiss rfl npX8_dismiss (by decide) (by decide) (Nat.le_of_ble_eq_true rfl) (by decide) (by decide) GK_E (fun v9 hc5 hq => ?_) (fun E h9 hq => by cases hq.1)
  have hqq6 := hq
  obtain ⟨e9q6, e8q6⟩ := hqq6
  obtain ⟨hfq6, frq6, hiq6, hrq6⟩ := sF_fx e8q6
  rw [show hA hc3 (85 + 1) = f from P1.2.1] at hfq6
  have P2 : PW hc3 hc5 84 t (disF f p (sNp S)) (fun _ => 0) 0 := ⟨WK_A X P1.1 (Or.inl rfl) frq6 hiq6 hrq6, hfq6, by rw [frq6 _ (by decide)]; exact P1.2.2.1, by rw [hiq6]; exact P1.2.2.2⟩
  have F2 := FS_tr F1 (WK_FS X P2.1 F1.2.2.2)
  obtain ⟨hTd, hCd, h0d⟩ := disF_ok (q := p) hT hC hNp
  cases e9q6
  show K mX11_without _ _ 3 18 61 [(4, vi ((dysF S f n) (29 + q))), (0, vr 30), (1, vi p), (2, vi q), (3, vi (n : Int))] [] hc5
  refine K_aload_n (dt_at dtX11_without 31 rfl) rfl rfl ?_
  refine K_get (a := 30) (ci := 11) (k := 11) (v := vr 84) (dt_at dtX11_without 32 rfl) (by decide) rfl (by decide) wF_X11_69 rfl ?_
  refine K_iload_n (dt_at dtX11_without 33 rfl) rfl rfl ?_
  refine K_callV (M' := mX10_pass) (a := 84) (ci := 10) (As := [vi (n : Int)]) (st := []) (dt_at dtX11_without 34 rfl) (sX10_pass X P2 hTd hCd (by omega)) (show TT 84 = (0, 10) from rfl) rfl wL_X11_322 vX10_pass rfl npX10_pass (by decide) (by decide) (Nat.le_of_ble_eq_true rfl) (by decide) (by decide) GK_E (fun v9 hc7 hq => ?_) (fun E h9 hq => by cases hq.1)
  have hqq8 := hq
  obtain ⟨e9q8, P3⟩ := hqq8
  have F3 := FS_tr F1 (WK_FS X P3.1 F1.2.2.2)
  cases e9q8
  show K mX11_without _ _ 3 18 69 [(4, vi ((dysF S f n) (29 + q))), (0, vr 30), (1, vi p), (2, vi q), (3, vi (n : Int))] [] hc7
  refine K_aload_n (dt_at dtX11_without 35 rfl) rfl rfl ?_
  refine K_get (a := 30) (ci := 11) (k := 11) (v := vr 84) (dt_at dtX11_without 36 rfl) (by decide) rfl (by decide) wF_X11_69 rfl ?_
  refine K_get (a := 84) (ci := 10) (k := 0) (v := vr 85) (dt_at dtX11_without 37 rfl) (show TT 84 = (0, 10) from rfl) rfl (by decide) wF_X11_291 rfl ?_
  refine K_iload_n (dt_at dtX11_without 38 rfl) rfl rfl ?_
  refine K_callV (M' := mX8_stock) (a := 85) (ci := 8) (As := [vi q]) (st := []) (dt_at dtX11_without 39 rfl) (sX8_stock (a := 85) (by decide) ⟨by omega, by omega⟩) (show TT 85 = (0, 8) from rfl) rfl wL_X11_181 vX8_stock rfl npX8_stock (by decide) (by decide) (Nat.le_of_ble_eq_true rfl) (by decide) (by decide) GK_E (fun v9 h9 hq => ?_) (fun E h9 hq => by cases hq.1)
  obtain ⟨e9, e8⟩ := hq
  cases e9
  rw [e8]
  show K mX11_without _ _ 3 18 80 [(4, vi ((dysF S f n) (29 + q))), (0, vr 30), (1, vi p), (2, vi q), (3, vi (n : Int))] [vi (hA hc7 (85 + 1) (29 + q))] hc7
  rw [show hA hc7 (85 + 1) = (dysF S (disF f p (sNp S)) n) from P3.2.1]
  refine K_iload (dt_at dtX11_without 40 rfl) rfl ?_
  refine K_isub (dt_at dtX11_without 41 rfl) ?_
  exact K_iret (dt_at dtX11_without 42 rfl) rfl rfl (by decide) (by decide) ⟨rfl, FS_tr Aq2.1 F3⟩
