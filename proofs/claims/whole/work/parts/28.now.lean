def mX0_kept : MI := (yX0_kept, cX0_kept, 1, (some .int), rmK 1 0)
def tX0_kept : List (Nat × Instr × Nat) := [(0, .aload_n 0, 1), (1, .getfield 21, 3), (4, .ireturn, 1)]
theorem dtX0_kept : tX0_kept.all (fun q => decide (decode cX0_kept q.1 = .ok (q.2.1, q.2.2))) = true := by decide +kernel
theorem npX0_kept : (parseMethodDescriptor (mY mX0_kept).desc).map (fun d => d.parameters.length) = some 0 := by decide +kernel
theorem vX0_kept : mV mX0_kept := ⟨wI_X0_kept, wS_X0_kept, wN_X0, wC_X0_kept, by decide +kernel, by decide +kernel⟩
set_option maxHeartbeats 4000000 in
set_option maxRecDepth 100000 in
theorem sX0_kept {h : HP} {a : Nat} (hA0 : TT a = (0, 0)) : SpecK mX0_kept [vr a] h (fun o h' => o = .inl (some (vi (hI h a 2))) ∧ h' = h) := by
  refine Spec_of (by decide +kernel) (Nat.le_of_ble_eq_true rfl) ?_
  refine K_aload_n (dt_at dtX0_kept 0 rfl) rfl rfl ?_
  refine K_get (a := a) (ci := 0) (k := 2) (v := vi (hI h a 2)) (dt_at dtX0_kept 1 rfl) hA0 rfl (by decide) wF_X0_21 rfl ?_
  exact K_iret (dt_at dtX0_kept 2 rfl) rfl rfl (by decide) (by decide) ⟨rfl, rfl⟩
def mX7_many : MI := (yX7_many, cX7_many, 1, (some .int), rmK 1 0)
def tX7_many : List (Nat × Instr × Nat) := [(0, .aload_n 0, 1), (1, .getfield 24, 3), (4, .ireturn, 1)]
theorem dtX7_many : tX7_many.all (fun q => decide (decode cX7_many q.1 = .ok (q.2.1, q.2.2))) = true := by decide +kernel
theorem npX7_many : (parseMethodDescriptor (mY mX7_many).desc).map (fun d => d.parameters.length) = some 0 := by decide +kernel
theorem vX7_many : mV mX7_many := ⟨wI_X7_many, wS_X7_many, wN_X7, wC_X7_many, by decide +kernel, by decide +kernel⟩
set_option maxHeartbeats 4000000 in
set_option maxRecDepth 100000 in
theorem sX7_many {h : HP} {a : Nat} (hS7 : TT a = (0, 7)) : SpecK mX7_many [vr a] h (fun o h' => o = .inl (some (vi (hI h a 4))) ∧ h' = h) := by
  refine Spec_of (by decide +kernel) (Nat.le_of_ble_eq_true rfl) ?_
  refine K_aload_n (dt_at dtX7_many 0 rfl) rfl rfl ?_
  refine K_get (a := a) (ci := 7) (k := 4) (v := vi (hI h a 4)) (dt_at dtX7_many 1 rfl) hS7 rfl (by decide) wF_X7_24 rfl ?_
  exact K_iret (dt_at dtX7_many 2 rfl) rfl rfl (by decide) (by decide) ⟨rfl, rfl⟩
def mX11_fault : MI := (yX11_fault, cX11_fault, 1, (some .int), rmK 1 0)
def tX11_fault : List (Nat × Instr × Nat) := [(0, .aload_n 0, 1), (1, .getfield 100, 3), (4, .ireturn, 1)]
theorem dtX11_fault : tX11_fault.all (fun q => decide (decode cX11_fault q.1 = .ok (q.2.1, q.2.2))) = true := by decide +kernel
theorem npX11_fault : (parseMethodDescriptor (mY mX11_fault).desc).map (fun d => d.parameters.length) = some 0 := by decide +kernel
theorem vX11_fault : mV mX11_fault := ⟨wI_X11_fault, wS_X11_fault, wN_X11, wC_X11_fault, by decide +kernel, by decide +kernel⟩
set_option maxHeartbeats 4000000 in
set_option maxRecDepth 100000 in
theorem sX11_fault {h : HP}  : SpecK mX11_fault [vr 30] h (fun o h' => o = .inl (some (vi (hI h 30 16))) ∧ h' = h) := by
  refine Spec_of (by decide +kernel) (Nat.le_of_ble_eq_true rfl) ?_
  refine K_aload_n (dt_at dtX11_fault 0 rfl) rfl rfl ?_
  refine K_get (a := 30) (ci := 11) (k := 16) (v := vi (hI h 30 16)) (dt_at dtX11_fault 1 rfl) (by decide) rfl (by decide) wF_X11_100 rfl ?_
  exact K_iret (dt_at dtX11_fault 2 rfl) rfl rfl (by decide) (by decide) ⟨rfl, rfl⟩
def mX11_count : MI := (yX11_count, cX11_count, 2, (some .int), rmK 8 1)
def tX11_count : List (Nat × Instr × Nat) := [(0, .iload_n 1, 1), (1, .bipush 14, 2), (3, .invokestatic 133, 3), (6, .iload_n 1, 1), (7, .tableswitch 190 0 11 #[61, 69, 77, 85, 100, 115, 130, 145, 157, 169, 177, 185], 61), (68, .aload_n 0, 1), (69, .getfield 20, 3), (72, .getfield 137, 3), (75, .ireturn, 1), (76, .aload_n 0, 1), (77, .getfield 20, 3), (80, .getfield 140, 3), (83, .ireturn, 1), (84, .aload_n 0, 1), (85, .getfield 39, 3), (88, .invokevirtual 143, 3), (91, .ireturn, 1), (92, .aload_n 0, 1), (93, .getfield 39, 3), (96, .aload_n 0, 1), (97, .getfield 20, 3), (100, .getfield 140, 3), (103, .invokevirtual 146, 3), (106, .ireturn, 1), (107, .aload_n 0, 1), (108, .getfield 39, 3), (111, .aload_n 0, 1), (112, .getfield 20, 3), (115, .getfield 140, 3), (118, .invokevirtual 150, 3), (121, .ireturn, 1), (122, .aload_n 0, 1), (123, .getfield 39, 3), (126, .aload_n 0, 1), (127, .getfield 20, 3), (130, .getfield 140, 3), (133, .invokevirtual 153, 3), (136, .ireturn, 1), (137, .aload_n 0, 1), (138, .getfield 39, 3), (141, .aload_n 0, 1), (142, .getfield 20, 3), (145, .getfield 140, 3), (148, .invokevirtual 156, 3), (151, .ireturn, 1), (152, .aload_n 0, 1), (153, .getfield 20, 3), (156, .aload_n 0, 1), (157, .getfield 39, 3), (160, .invokevirtual 159, 3), (163, .ireturn, 1), (164, .aload_n 0, 1), (165, .getfield 20, 3), (168, .aload_n 0, 1), (169, .getfield 39, 3), (172, .invokevirtual 163, 3), (175, .ireturn, 1), (176, .aload_n 0, 1), (177, .getfield 46, 3), (180, .invokevirtual 166, 3), (183, .ireturn, 1), (184, .aload_n 0, 1), (185, .getfield 53, 3), (188, .invokevirtual 169, 3), (191, .ireturn, 1), (192, .aload_n 0, 1), (193, .getfield 96, 3), (196, .ireturn, 1), (197, .aload_n 0, 1), (198, .getfield 13, 3), (201, .iload_n 1, 1), (202, .bipush 12, 2), (204, .isub, 1), (205, .iaload, 1), (206, .ireturn, 1)]
theorem dtX11_count : tX11_count.all (fun q => decide (decode cX11_count q.1 = .ok (q.2.1, q.2.2))) = true := by decide +kernel
theorem npX11_count : (parseMethodDescriptor (mY mX11_count).desc).map (fun d => d.parameters.length) = some 1 := by decide +kernel
theorem vX11_count : mV mX11_count := ⟨wI_X11_count, wS_X11_count, wN_X11, wC_X11_count, by decide +kernel, by decide +kernel⟩
set_option maxHeartbeats 4000000 in
set_option maxRecDepth 100000 in
theorem sX11_count_x1 {h : HP} {t : Nat} {S : HS} {B : Int} {f : Int → Int} {w : Int} (c : CQ h t S B f) (hw : i32 w) (kn : ¬ (0 ≤ w ∧ w ≤ 14)) : SpecK mX11_count [vr 30, vi w] h (fun o h' => o = .inr eNS ∧ FS h h') := by
  refine Spec_of (by decide +kernel) (Nat.le_of_ble_eq_true rfl) ?_
  have ht := c.1
  have hH := TTt ht
  have hB := c.2.2.2.1
  have hNt := hB.1
  have hNp := hB.2.1
  have hT := c.2.2.2.2.2.1
  have hC := c.2.2.2.2.2.2.1
  have h99 := c.2.2.2.2.2.2.2.1
  have G := c.2.2.2.2.2.2.2.2
  have hf0 := hT.2.2.2.1
  refine K_iload_n (dt_at dtX11_count 0 rfl) rfl rfl ?_
  refine K_bipush (dt_at dtX11_count 1 rfl) (by decide) ?_
  exact K_callS (M' := mX11_needWhat) (As := [vi w, vi 14]) (st := []) (dt_at dtX11_count 2 rfl) (sX11_needWhat_no (by assumption) ⟨by decide, by decide⟩ (by omega)) wL_X11_133 vX11_needWhat rfl npX11_needWhat (by decide) (by decide) (Nat.le_of_ble_eq_true rfl) (by decide) (by decide) GK_E (fun v9 h9 hq => by cases hq.1) (fun E h9 hq => by obtain ⟨e9, e8⟩ := hq; cases e9; rw [e8]; exact KX_out (by decide) (by decide) ⟨rfl, FS_rf G⟩)
set_option maxHeartbeats 4000000 in
set_option maxRecDepth 100000 in
theorem sX11_count_0 {h : HP} {t : Nat} {S : HS} {B : Int} {f : Int → Int} (c : CQ h t S B f) : SpecK mX11_count [vr 30, vi 0] h (fun o h' => o = .inl (some (vi (sNt S : Int))) ∧ FS h h') := by
  refine Spec_of (by decide +kernel) (Nat.le_of_ble_eq_true rfl) ?_
  have ht := c.1
  have hH := TTt ht
  have hB := c.2.2.2.1
  have hNt := hB.1
  have hNp := hB.2.1
  have hT := c.2.2.2.2.2.1
  have hC := c.2.2.2.2.2.2.1
  have h99 := c.2.2.2.2.2.2.2.1
  have G := c.2.2.2.2.2.2.2.2
  have hf0 := hT.2.2.2.1
  refine K_iload_n (dt_at dtX11_count 0 rfl) rfl rfl ?_
  refine K_bipush (dt_at dtX11_count 1 rfl) (by decide) ?_
  refine K_callS (M' := mX11_needWhat) (As := [vi 0, vi 14]) (st := []) (dt_at dtX11_count 2 rfl) (sX11_needWhat (by first | assumption | exact ⟨by omega, by omega⟩) ⟨by decide, by decide⟩ (by omega)) wL_X11_133 vX11_needWhat rfl npX11_needWhat (by decide) (by decide) (Nat.le_of_ble_eq_true rfl) (by decide) (by decide) GK_E (fun v9 h9 hq => ?_) (fun E h9 hq => by cases hq.1)
  obtain ⟨e9, e8⟩ := hq
  cases e9
  rw [e8]
  show K mX11_count _ _ 1 6 6 [(0, vr 30), (1, vi 0)] [] h
  refine K_iload_n (dt_at dtX11_count 3 rfl) rfl rfl ?_
  refine K_tableIn (tgt := 68) (dt_at dtX11_count 4 rfl) ⟨by decide, by decide⟩ (by decide) (by decide) rfl (by decide) ?_
  refine K_aload_n (dt_at dtX11_count 5 rfl) rfl rfl ?_
  refine K_get (a := 30) (ci := 11) (k := 2) (v := vr t) (dt_at dtX11_count 6 rfl) (by decide) rfl (by decide) wF_X11_20 (by show vr (hR h 30 2) = vr t; rw [c.2.1]) ?_
  refine K_get (a := t) (ci := 3) (k := 10) (v := vi (sNt S : Int)) (dt_at dtX11_count 7 rfl) hH rfl (by decide) wF_X11_137 (by show vi (hI h t 10) = vi (sNt S : Int); rw [c.2.2.1.2.1.1]) ?_
  exact K_iret (dt_at dtX11_count 8 rfl) rfl rfl (by decide) (by decide) ⟨rfl, FS_rf G⟩
set_option maxHeartbeats 4000000 in
set_option maxRecDepth 100000 in
theorem sX11_count_1 {h : HP} {t : Nat} {S : HS} {B : Int} {f : Int → Int} (c : CQ h t S B f) : SpecK mX11_count [vr 30, vi 1] h (fun o h' => o = .inl (some (vi (sNp S : Int))) ∧ FS h h') := by
  refine Spec_of (by decide +kernel) (Nat.le_of_ble_eq_true rfl) ?_
  have ht := c.1
  have hH := TTt ht
  have hB := c.2.2.2.1
  have hNt := hB.1
  have hNp := hB.2.1
  have hT := c.2.2.2.2.2.1
  have hC := c.2.2.2.2.2.2.1
  have h99 := c.2.2.2.2.2.2.2.1
  have G := c.2.2.2.2.2.2.2.2
  have hf0 := hT.2.2.2.1
  refine K_iload_n (dt_at dtX11_count 0 rfl) rfl rfl ?_
  refine K_bipush (dt_at dtX11_count 1 rfl) (by decide) ?_
  refine K_callS (M' := mX11_needWhat) (As := [vi 1, vi 14]) (st := []) (dt_at dtX11_count 2 rfl) (sX11_needWhat (by first | assumption | exact ⟨by omega, by omega⟩) ⟨by decide, by decide⟩ (by omega)) wL_X11_133 vX11_needWhat rfl npX11_needWhat (by decide) (by decide) (Nat.le_of_ble_eq_true rfl) (by decide) (by decide) GK_E (fun v9 h9 hq => ?_) (fun E h9 hq => by cases hq.1)
  obtain ⟨e9, e8⟩ := hq
  cases e9
  rw [e8]
  show K mX11_count _ _ 1 6 6 [(0, vr 30), (1, vi 1)] [] h
  refine K_iload_n (dt_at dtX11_count 3 rfl) rfl rfl ?_
  refine K_tableIn (tgt := 76) (dt_at dtX11_count 4 rfl) ⟨by decide, by decide⟩ (by decide) (by decide) rfl (by decide) ?_
  refine K_aload_n (dt_at dtX11_count 9 rfl) rfl rfl ?_
  refine K_get (a := 30) (ci := 11) (k := 2) (v := vr t) (dt_at dtX11_count 10 rfl) (by decide) rfl (by decide) wF_X11_20 (by show vr (hR h 30 2) = vr t; rw [c.2.1]) ?_
  refine K_get (a := t) (ci := 3) (k := 11) (v := vi (sNp S : Int)) (dt_at dtX11_count 11 rfl) hH rfl (by decide) wF_X11_140 (by show vi (hI h t 11) = vi (sNp S : Int); rw [c.2.2.1.2.1.2]) ?_
  exact K_iret (dt_at dtX11_count 12 rfl) rfl rfl (by decide) (by decide) ⟨rfl, FS_rf G⟩
set_option maxHeartbeats 4000000 in
set_option maxRecDepth 100000 in
theorem sX11_count_2 {h : HP} {t : Nat} {S : HS} {B : Int} {f : Int → Int} (c : CQ h t S B f) : SpecK mX11_count [vr 30, vi 2] h (fun o h' => o = .inl (some (vi (f 0))) ∧ FS h h') := by
  refine Spec_of (by decide +kernel) (Nat.le_of_ble_eq_true rfl) ?_
  have ht := c.1
  have hH := TTt ht
  have hB := c.2.2.2.1
  have hNt := hB.1
  have hNp := hB.2.1
  have hT := c.2.2.2.2.2.1
  have hC := c.2.2.2.2.2.2.1
  have h99 := c.2.2.2.2.2.2.2.1
  have G := c.2.2.2.2.2.2.2.2
  have hf0 := hT.2.2.2.1
  refine K_iload_n (dt_at dtX11_count 0 rfl) rfl rfl ?_
  refine K_bipush (dt_at dtX11_count 1 rfl) (by decide) ?_
  refine K_callS (M' := mX11_needWhat) (As := [vi 2, vi 14]) (st := []) (dt_at dtX11_count 2 rfl) (sX11_needWhat (by first | assumption | exact ⟨by omega, by omega⟩) ⟨by decide, by decide⟩ (by omega)) wL_X11_133 vX11_needWhat rfl npX11_needWhat (by decide) (by decide) (Nat.le_of_ble_eq_true rfl) (by decide) (by decide) GK_E (fun v9 h9 hq => ?_) (fun E h9 hq => by cases hq.1)
  obtain ⟨e9, e8⟩ := hq
  cases e9
  rw [e8]
  show K mX11_count _ _ 1 6 6 [(0, vr 30), (1, vi 2)] [] h
  refine K_iload_n (dt_at dtX11_count 3 rfl) rfl rfl ?_
  refine K_tableIn (tgt := 84) (dt_at dtX11_count 4 rfl) ⟨by decide, by decide⟩ (by decide) (by decide) rfl (by decide) ?_
  refine K_aload_n (dt_at dtX11_count 13 rfl) rfl rfl ?_
  refine K_get (a := 30) (ci := 11) (k := 5) (v := vr 66) (dt_at dtX11_count 14 rfl) (by decide) rfl (by decide) wF_X11_39 rfl ?_
  refine K_callV (M' := mX8_day) (a := 66) (ci := 8) (As := []) (st := []) (dt_at dtX11_count 15 rfl) (sX8_day (a := 66) (by decide)) (show TT 66 = (0, 8) from rfl) rfl wL_X11_143 vX8_day rfl npX8_day (by decide) (by decide) (Nat.le_of_ble_eq_true rfl) (by decide) (by decide) GK_E (fun v9 h9 hq => ?_) (fun E h9 hq => by cases hq.1)
  obtain ⟨e9, e8⟩ := hq
  cases e9
  rw [e8]
  show K mX11_count _ _ 1 6 91 [(0, vr 30), (1, vi 2)] [vi (hA h (66 + 1) 0)] h
  rw [show hA h (66 + 1) = f from c.2.2.2.2.1]
  exact K_iret (dt_at dtX11_count 16 rfl) rfl rfl (by decide) (by decide) ⟨rfl, FS_rf G⟩
set_option maxHeartbeats 4000000 in
set_option maxRecDepth 100000 in
theorem sX11_count_3 {h : HP} {t : Nat} {S : HS} {B : Int} {f : Int → Int} (c : CQ h t S B f) : SpecK mX11_count [vr 30, vi 3] h (fun o h' => o = .inl (some (vi (bAnd (bXor (bitN (fun j => decide ((f (1 + (j : Int))) ≠ 0)) (sNp S)) (-1)) (bShl 1 (sNp S : Int) - 1)))) ∧ FS h h') := by
  refine Spec_of (by decide +kernel) (Nat.le_of_ble_eq_true rfl) ?_
  have ht := c.1
  have hH := TTt ht
  have hB := c.2.2.2.1
  have hNt := hB.1
  have hNp := hB.2.1
  have hT := c.2.2.2.2.2.1
  have hC := c.2.2.2.2.2.2.1
  have h99 := c.2.2.2.2.2.2.2.1
  have G := c.2.2.2.2.2.2.2.2
  have hf0 := hT.2.2.2.1
  refine K_iload_n (dt_at dtX11_count 0 rfl) rfl rfl ?_
  refine K_bipush (dt_at dtX11_count 1 rfl) (by decide) ?_
  refine K_callS (M' := mX11_needWhat) (As := [vi 3, vi 14]) (st := []) (dt_at dtX11_count 2 rfl) (sX11_needWhat (by first | assumption | exact ⟨by omega, by omega⟩) ⟨by decide, by decide⟩ (by omega)) wL_X11_133 vX11_needWhat rfl npX11_needWhat (by decide) (by decide) (Nat.le_of_ble_eq_true rfl) (by decide) (by decide) GK_E (fun v9 h9 hq => ?_) (fun E h9 hq => by cases hq.1)
  obtain ⟨e9, e8⟩ := hq
  cases e9
  rw [e8]
  show K mX11_count _ _ 1 6 6 [(0, vr 30), (1, vi 3)] [] h
  refine K_iload_n (dt_at dtX11_count 3 rfl) rfl rfl ?_
  refine K_tableIn (tgt := 92) (dt_at dtX11_count 4 rfl) ⟨by decide, by decide⟩ (by decide) (by decide) rfl (by decide) ?_
  refine K_aload_n (dt_at dtX11_count 17 rfl) rfl rfl ?_
  refine K_get (a := 30) (ci := 11) (k := 5) (v := vr 66) (dt_at dtX11_count 18 rfl) (by decide) rfl (by decide) wF_X11_39 rfl ?_
  refine K_aload_n (dt_at dtX11_count 19 rfl) rfl rfl ?_
  refine K_get (a := 30) (ci := 11) (k := 2) (v := vr t) (dt_at dtX11_count 20 rfl) (by decide) rfl (by decide) wF_X11_20 (by show vr (hR h 30 2) = vr t; rw [c.2.1]) ?_
  refine K_get (a := t) (ci := 3) (k := 11) (v := vi (sNp S : Int)) (dt_at dtX11_count 21 rfl) hH rfl (by decide) wF_X11_140 (by show vi (hI h t 11) = vi (sNp S : Int); rw [c.2.2.1.2.1.2]) ?_
  refine K_callV (M' := mX8_whoIsIn) (a := 66) (ci := 8) (As := [vi (sNp S : Int)]) (st := []) (dt_at dtX11_count 22 rfl) (sX8_whoIsIn (n := sNp S) (a := 66) (by decide) (by rw [show hA h (66 + 1) = f from c.2.2.2.2.1]; exact hT.1) hNp) (show TT 66 = (0, 8) from rfl) rfl wL_X11_146 vX8_whoIsIn rfl npX8_whoIsIn (by decide) (by decide) (Nat.le_of_ble_eq_true rfl) (by decide) (by decide) GK_E (fun v9 h9 hq => ?_) (fun E h9 hq => by cases hq.1)
  obtain ⟨e9, e8⟩ := hq
  cases e9
  rw [e8]
  show K mX11_count _ _ 1 6 106 [(0, vr 30), (1, vi 3)] [vi (bAnd (bXor (bitN (fun j => decide ((hA h (66 + 1) (1 + (j : Int))) ≠ 0)) (sNp S)) (-1)) (bShl 1 (sNp S : Int) - 1))] h
  rw [show hA h (66 + 1) = f from c.2.2.2.2.1]
  exact K_iret (dt_at dtX11_count 23 rfl) rfl rfl (by decide) (by decide) ⟨rfl, FS_rf G⟩
set_option maxHeartbeats 4000000 in
set_option maxRecDepth 100000 in
theorem sX11_count_4 {h : HP} {t : Nat} {S : HS} {B : Int} {f : Int → Int} (c : CQ h t S B f) : SpecK mX11_count [vr 30, vi 4] h (fun o h' => o = .inl (some (vi (bitN (fun j => decide ((f (8 + (j : Int))) ≠ (j : Int))) (sNp S)))) ∧ FS h h') := by
  refine Spec_of (by decide +kernel) (Nat.le_of_ble_eq_true rfl) ?_
  have ht := c.1
  have hH := TTt ht
  have hB := c.2.2.2.1
  have hNt := hB.1
  have hNp := hB.2.1
  have hT := c.2.2.2.2.2.1
  have hC := c.2.2.2.2.2.2.1
  have h99 := c.2.2.2.2.2.2.2.1
  have G := c.2.2.2.2.2.2.2.2
  have hf0 := hT.2.2.2.1
  refine K_iload_n (dt_at dtX11_count 0 rfl) rfl rfl ?_
  refine K_bipush (dt_at dtX11_count 1 rfl) (by decide) ?_
  refine K_callS (M' := mX11_needWhat) (As := [vi 4, vi 14]) (st := []) (dt_at dtX11_count 2 rfl) (sX11_needWhat (by first | assumption | exact ⟨by omega, by omega⟩) ⟨by decide, by decide⟩ (by omega)) wL_X11_133 vX11_needWhat rfl npX11_needWhat (by decide) (by decide) (Nat.le_of_ble_eq_true rfl) (by decide) (by decide) GK_E (fun v9 h9 hq => ?_) (fun E h9 hq => by cases hq.1)
  obtain ⟨e9, e8⟩ := hq
  cases e9
  rw [e8]
  show K mX11_count _ _ 1 6 6 [(0, vr 30), (1, vi 4)] [] h
  refine K_iload_n (dt_at dtX11_count 3 rfl) rfl rfl ?_
  refine K_tableIn (tgt := 107) (dt_at dtX11_count 4 rfl) ⟨by decide, by decide⟩ (by decide) (by decide) rfl (by decide) ?_
  refine K_aload_n (dt_at dtX11_count 24 rfl) rfl rfl ?_
  refine K_get (a := 30) (ci := 11) (k := 5) (v := vr 66) (dt_at dtX11_count 25 rfl) (by decide) rfl (by decide) wF_X11_39 rfl ?_
  refine K_aload_n (dt_at dtX11_count 26 rfl) rfl rfl ?_
  refine K_get (a := 30) (ci := 11) (k := 2) (v := vr t) (dt_at dtX11_count 27 rfl) (by decide) rfl (by decide) wF_X11_20 (by show vr (hR h 30 2) = vr t; rw [c.2.1]) ?_
  refine K_get (a := t) (ci := 3) (k := 11) (v := vi (sNp S : Int)) (dt_at dtX11_count 28 rfl) hH rfl (by decide) wF_X11_140 (by show vi (hI h t 11) = vi (sNp S : Int); rw [c.2.2.1.2.1.2]) ?_
  refine K_callV (M' := mX8_mixed) (a := 66) (ci := 8) (As := [vi (sNp S : Int)]) (st := []) (dt_at dtX11_count 29 rfl) (sX8_mixed (n := sNp S) (a := 66) (by decide) (by rw [show hA h (66 + 1) = f from c.2.2.2.2.1]; exact hT.1) hNp) (show TT 66 = (0, 8) from rfl) rfl wL_X11_150 vX8_mixed rfl npX8_mixed (by decide) (by decide) (Nat.le_of_ble_eq_true rfl) (by decide) (by decide) GK_E (fun v9 h9 hq => ?_) (fun E h9 hq => by cases hq.1)
  obtain ⟨e9, e8⟩ := hq
  cases e9
  rw [e8]
  show K mX11_count _ _ 1 6 121 [(0, vr 30), (1, vi 4)] [vi (bitN (fun j => decide ((hA h (66 + 1) (8 + (j : Int))) ≠ (j : Int))) (sNp S))] h
  rw [show hA h (66 + 1) = f from c.2.2.2.2.1]
  exact K_iret (dt_at dtX11_count 30 rfl) rfl rfl (by decide) (by decide) ⟨rfl, FS_rf G⟩
set_option maxHeartbeats 4000000 in
set_option maxRecDepth 100000 in
theorem sX11_count_5 {h : HP} {t : Nat} {S : HS} {B : Int} {f : Int → Int} (c : CQ h t S B f) : SpecK mX11_count [vr 30, vi 5] h (fun o h' => o = .inl (some (vi (cntN (fun j => decide (bAnd (roundF f (sNp S) (j : Int) 0) (bShl 1 (j : Int) - 1) ≠ 0)) (sNp S)))) ∧ FS h h') := by
  refine Spec_of (by decide +kernel) (Nat.le_of_ble_eq_true rfl) ?_
  have ht := c.1
  have hH := TTt ht
  have hB := c.2.2.2.1
  have hNt := hB.1
  have hNp := hB.2.1
  have hT := c.2.2.2.2.2.1
  have hC := c.2.2.2.2.2.2.1
  have h99 := c.2.2.2.2.2.2.2.1
  have G := c.2.2.2.2.2.2.2.2
  have hf0 := hT.2.2.2.1
  refine K_iload_n (dt_at dtX11_count 0 rfl) rfl rfl ?_
  refine K_bipush (dt_at dtX11_count 1 rfl) (by decide) ?_
  refine K_callS (M' := mX11_needWhat) (As := [vi 5, vi 14]) (st := []) (dt_at dtX11_count 2 rfl) (sX11_needWhat (by first | assumption | exact ⟨by omega, by omega⟩) ⟨by decide, by decide⟩ (by omega)) wL_X11_133 vX11_needWhat rfl npX11_needWhat (by decide) (by decide) (Nat.le_of_ble_eq_true rfl) (by decide) (by decide) GK_E (fun v9 h9 hq => ?_) (fun E h9 hq => by cases hq.1)
  obtain ⟨e9, e8⟩ := hq
  cases e9
  rw [e8]
  show K mX11_count _ _ 1 6 6 [(0, vr 30), (1, vi 5)] [] h
  refine K_iload_n (dt_at dtX11_count 3 rfl) rfl rfl ?_
  refine K_tableIn (tgt := 122) (dt_at dtX11_count 4 rfl) ⟨by decide, by decide⟩ (by decide) (by decide) rfl (by decide) ?_
  refine K_aload_n (dt_at dtX11_count 31 rfl) rfl rfl ?_
  refine K_get (a := 30) (ci := 11) (k := 5) (v := vr 66) (dt_at dtX11_count 32 rfl) (by decide) rfl (by decide) wF_X11_39 rfl ?_
  refine K_aload_n (dt_at dtX11_count 33 rfl) rfl rfl ?_
  refine K_get (a := 30) (ci := 11) (k := 2) (v := vr t) (dt_at dtX11_count 34 rfl) (by decide) rfl (by decide) wF_X11_20 (by show vr (hR h 30 2) = vr t; rw [c.2.1]) ?_
  refine K_get (a := t) (ci := 3) (k := 11) (v := vi (sNp S : Int)) (dt_at dtX11_count 35 rfl) hH rfl (by decide) wF_X11_140 (by show vi (hI h t 11) = vi (sNp S : Int); rw [c.2.2.1.2.1.2]) ?_
  refine K_callV (M' := mX8_toRight) (a := 66) (ci := 8) (As := [vi (sNp S : Int)]) (st := []) (dt_at dtX11_count 36 rfl) (sX8_toRight (n := sNp S) (a := 66) (by decide) (by rw [show hA h (66 + 1) = f from c.2.2.2.2.1]; exact hT.1) hNp) (show TT 66 = (0, 8) from rfl) rfl wL_X11_153 vX8_toRight rfl npX8_toRight (by decide) (by decide) (Nat.le_of_ble_eq_true rfl) (by decide) (by decide) GK_E (fun v9 h9 hq => ?_) (fun E h9 hq => by cases hq.1)
  obtain ⟨e9, e8⟩ := hq
  cases e9
  rw [e8]
  show K mX11_count _ _ 1 6 136 [(0, vr 30), (1, vi 5)] [vi (cntN (fun j => decide (bAnd (roundF (hA h (66 + 1)) (sNp S) (j : Int) 0) (bShl 1 (j : Int) - 1) ≠ 0)) (sNp S))] h
  rw [show hA h (66 + 1) = f from c.2.2.2.2.1]
  exact K_iret (dt_at dtX11_count 37 rfl) rfl rfl (by decide) (by decide) ⟨rfl, FS_rf G⟩
set_option maxHeartbeats 4000000 in
set_option maxRecDepth 100000 in
theorem sX11_count_6 {h : HP} {t : Nat} {S : HS} {B : Int} {f : Int → Int} (c : CQ h t S B f) : SpecK mX11_count [vr 30, vi 6] h (fun o h' => o = .inl (some (vi (srN (fun k => soN (fun j => if bAnd (roundF f (sNp S) (k : Int) 0) (bShl 1 (j : Int)) = 0 then none else some (10 * (k : Int) + (j : Int))) (k + 1) (sNp S - (k + 1))) (-1) 0 (sNp S)))) ∧ FS h h') := by
  refine Spec_of (by decide +kernel) (Nat.le_of_ble_eq_true rfl) ?_
  have ht := c.1
  have hH := TTt ht
  have hB := c.2.2.2.1
  have hNt := hB.1
  have hNp := hB.2.1
  have hT := c.2.2.2.2.2.1
  have hC := c.2.2.2.2.2.2.1
  have h99 := c.2.2.2.2.2.2.2.1
  have G := c.2.2.2.2.2.2.2.2
  have hf0 := hT.2.2.2.1
  refine K_iload_n (dt_at dtX11_count 0 rfl) rfl rfl ?_
  refine K_bipush (dt_at dtX11_count 1 rfl) (by decide) ?_
  refine K_callS (M' := mX11_needWhat) (As := [vi 6, vi 14]) (st := []) (dt_at dtX11_count 2 rfl) (sX11_needWhat (by first | assumption | exact ⟨by omega, by omega⟩) ⟨by decide, by decide⟩ (by omega)) wL_X11_133 vX11_needWhat rfl npX11_needWhat (by decide) (by decide) (Nat.le_of_ble_eq_true rfl) (by decide) (by decide) GK_E (fun v9 h9 hq => ?_) (fun E h9 hq => by cases hq.1)
  obtain ⟨e9, e8⟩ := hq
  cases e9
  rw [e8]
  show K mX11_count _ _ 1 6 6 [(0, vr 30), (1, vi 6)] [] h
  refine K_iload_n (dt_at dtX11_count 3 rfl) rfl rfl ?_
  refine K_tableIn (tgt := 137) (dt_at dtX11_count 4 rfl) ⟨by decide, by decide⟩ (by decide) (by decide) rfl (by decide) ?_
  refine K_aload_n (dt_at dtX11_count 38 rfl) rfl rfl ?_
  refine K_get (a := 30) (ci := 11) (k := 5) (v := vr 66) (dt_at dtX11_count 39 rfl) (by decide) rfl (by decide) wF_X11_39 rfl ?_
  refine K_aload_n (dt_at dtX11_count 40 rfl) rfl rfl ?_
  refine K_get (a := 30) (ci := 11) (k := 2) (v := vr t) (dt_at dtX11_count 41 rfl) (by decide) rfl (by decide) wF_X11_20 (by show vr (hR h 30 2) = vr t; rw [c.2.1]) ?_
  refine K_get (a := t) (ci := 3) (k := 11) (v := vi (sNp S : Int)) (dt_at dtX11_count 42 rfl) hH rfl (by decide) wF_X11_140 (by show vi (hI h t 11) = vi (sNp S : Int); rw [c.2.2.1.2.1.2]) ?_
  refine K_callV (M' := mX8_firstToRight) (a := 66) (ci := 8) (As := [vi (sNp S : Int)]) (st := []) (dt_at dtX11_count 43 rfl) (sX8_firstToRight (n := sNp S) (a := 66) (by decide) (by rw [show hA h (66 + 1) = f from c.2.2.2.2.1]; exact hT.1) hNp) (show TT 66 = (0, 8) from rfl) rfl wL_X11_156 vX8_firstToRight rfl npX8_firstToRight (by decide) (by decide) (Nat.le_of_ble_eq_true rfl) (by decide) (by decide) GK_E (fun v9 h9 hq => ?_) (fun E h9 hq => by cases hq.1)
  obtain ⟨e9, e8⟩ := hq
  cases e9
  rw [e8]
  show K mX11_count _ _ 1 6 151 [(0, vr 30), (1, vi 6)] [vi (srN (fun k => soN (fun j => if bAnd (roundF (hA h (66 + 1)) (sNp S) (k : Int) 0) (bShl 1 (j : Int)) = 0 then none else some (10 * (k : Int) + (j : Int))) (k + 1) (sNp S - (k + 1))) (-1) 0 (sNp S))] h
  rw [show hA h (66 + 1) = f from c.2.2.2.2.1]
  exact K_iret (dt_at dtX11_count 44 rfl) rfl rfl (by decide) (by decide) ⟨rfl, FS_rf G⟩
set_option maxHeartbeats 4000000 in
set_option maxRecDepth 100000 in
theorem sX11_count_7 {h : HP} {t : Nat} {S : HS} {B : Int} {f : Int → Int} (c : CQ h t S B f) : SpecK mX11_count [vr 30, vi 7] h (fun o h' => o = .inl (some (vi (itN (fun j v => v + sumF (sW S) f (j : Int) (sNt S)) (itN (fun j v => v + ((sW S) (j : Int)) * (f (29 + (j : Int)))) 0 (sNt S)) (sNp S)))) ∧ FS h h') := by
  refine Spec_of (by decide +kernel) (Nat.le_of_ble_eq_true rfl) ?_
  have ht := c.1
  have hH := TTt ht
  have hB := c.2.2.2.1
  have hNt := hB.1
  have hNp := hB.2.1
  have hT := c.2.2.2.2.2.1
  have hC := c.2.2.2.2.2.2.1
  have h99 := c.2.2.2.2.2.2.2.1
  have G := c.2.2.2.2.2.2.2.2
  have hf0 := hT.2.2.2.1
  refine K_iload_n (dt_at dtX11_count 0 rfl) rfl rfl ?_
  refine K_bipush (dt_at dtX11_count 1 rfl) (by decide) ?_
  refine K_callS (M' := mX11_needWhat) (As := [vi 7, vi 14]) (st := []) (dt_at dtX11_count 2 rfl) (sX11_needWhat (by first | assumption | exact ⟨by omega, by omega⟩) ⟨by decide, by decide⟩ (by omega)) wL_X11_133 vX11_needWhat rfl npX11_needWhat (by decide) (by decide) (Nat.le_of_ble_eq_true rfl) (by decide) (by decide) GK_E (fun v9 h9 hq => ?_) (fun E h9 hq => by cases hq.1)
  obtain ⟨e9, e8⟩ := hq
  cases e9
  rw [e8]
  show K mX11_count _ _ 1 6 6 [(0, vr 30), (1, vi 7)] [] h
  refine K_iload_n (dt_at dtX11_count 3 rfl) rfl rfl ?_
  refine K_tableIn (tgt := 152) (dt_at dtX11_count 4 rfl) ⟨by decide, by decide⟩ (by decide) (by decide) rfl (by decide) ?_
  refine K_aload_n (dt_at dtX11_count 45 rfl) rfl rfl ?_
  refine K_get (a := 30) (ci := 11) (k := 2) (v := vr t) (dt_at dtX11_count 46 rfl) (by decide) rfl (by decide) wF_X11_20 (by show vr (hR h 30 2) = vr t; rw [c.2.1]) ?_
  refine K_aload_n (dt_at dtX11_count 47 rfl) rfl rfl ?_
  refine K_get (a := 30) (ci := 11) (k := 5) (v := vr 66) (dt_at dtX11_count 48 rfl) (by decide) rfl (by decide) wF_X11_39 rfl ?_
  refine K_callV (M' := mX3_weightInAll) (a := t) (ci := 3) (As := [vr 66]) (st := []) (dt_at dtX11_count 49 rfl) (sX3_weightInAll (n := sNt S) (np := sNp S) hH (a := 66) (by decide) (by rw [show hA h (66 + 1) = f from c.2.2.2.2.1]; exact hT.1) hNt c.2.2.1.2.1.1 c.2.2.1.2.1.2 hNp) hH rfl wL_X11_159 vX3_weightInAll rfl npX3_weightInAll (by decide) (by decide) (Nat.le_of_ble_eq_true rfl) (by decide) (by decide) GK_E (fun v9 h9 hq => ?_) (fun E h9 hq => by cases hq.1)
  obtain ⟨e9, e8⟩ := hq
  cases e9
  rw [e8]
  show K mX11_count _ _ 1 6 163 [(0, vr 30), (1, vi 7)] [vi (itN (fun j v => v + sumF (hA h (t + 1)) (hA h (66 + 1)) (j : Int) (sNt S)) (itN (fun j v => v + (hA h (t + 1) (j : Int)) * (hA h (66 + 1) (29 + (j : Int)))) 0 (sNt S)) (sNp S))] h
  rw [show hA h (66 + 1) = f from c.2.2.2.2.1]
  rw [c.2.2.1.1.1]
  exact K_iret (dt_at dtX11_count 50 rfl) rfl rfl (by decide) (by decide) ⟨rfl, FS_rf G⟩
set_option maxHeartbeats 4000000 in
set_option maxRecDepth 100000 in
theorem sX11_count_8 {h : HP} {t : Nat} {S : HS} {B : Int} {f : Int → Int} (c : CQ h t S B f) : SpecK mX11_count [vr 30, vi 8] h (fun o h' => o = .inl (some (vi (fmN 0 0 (-1) (fun j => pcF f (j : Int) (sNp S)) (sNt S)))) ∧ FS h h') := by
  refine Spec_of (by decide +kernel) (Nat.le_of_ble_eq_true rfl) ?_
  have ht := c.1
  have hH := TTt ht
  have hB := c.2.2.2.1
  have hNt := hB.1
  have hNp := hB.2.1
  have hT := c.2.2.2.2.2.1
  have hC := c.2.2.2.2.2.2.1
  have h99 := c.2.2.2.2.2.2.2.1
  have G := c.2.2.2.2.2.2.2.2
  have hf0 := hT.2.2.2.1
  refine K_iload_n (dt_at dtX11_count 0 rfl) rfl rfl ?_
  refine K_bipush (dt_at dtX11_count 1 rfl) (by decide) ?_
  refine K_callS (M' := mX11_needWhat) (As := [vi 8, vi 14]) (st := []) (dt_at dtX11_count 2 rfl) (sX11_needWhat (by first | assumption | exact ⟨by omega, by omega⟩) ⟨by decide, by decide⟩ (by omega)) wL_X11_133 vX11_needWhat rfl npX11_needWhat (by decide) (by decide) (Nat.le_of_ble_eq_true rfl) (by decide) (by decide) GK_E (fun v9 h9 hq => ?_) (fun E h9 hq => by cases hq.1)
  obtain ⟨e9, e8⟩ := hq
  cases e9
  rw [e8]
  show K mX11_count _ _ 1 6 6 [(0, vr 30), (1, vi 8)] [] h
  refine K_iload_n (dt_at dtX11_count 3 rfl) rfl rfl ?_
  refine K_tableIn (tgt := 164) (dt_at dtX11_count 4 rfl) ⟨by decide, by decide⟩ (by decide) (by decide) rfl (by decide) ?_
  refine K_aload_n (dt_at dtX11_count 51 rfl) rfl rfl ?_
  refine K_get (a := 30) (ci := 11) (k := 2) (v := vr t) (dt_at dtX11_count 52 rfl) (by decide) rfl (by decide) wF_X11_20 (by show vr (hR h 30 2) = vr t; rw [c.2.1]) ?_
  refine K_aload_n (dt_at dtX11_count 53 rfl) rfl rfl ?_
  refine K_get (a := 30) (ci := 11) (k := 5) (v := vr 66) (dt_at dtX11_count 54 rfl) (by decide) rfl (by decide) wF_X11_39 rfl ?_
  refine K_callV (M' := mX3_mostWanted) (a := t) (ci := 3) (As := [vr 66]) (st := []) (dt_at dtX11_count 55 rfl) (sX3_mostWanted (n := sNt S) (np := sNp S) hH (a := 66) (by decide) (by rw [show hA h (66 + 1) = f from c.2.2.2.2.1]; exact hT) hNt c.2.2.1.2.1.1 c.2.2.1.2.1.2 hNp (by rw [c.2.2.1.1.1]; exact fun i a b => by have := (hB.2.2.1 i a b).1; constructor <;> omega)) hH rfl wL_X11_163 vX3_mostWanted rfl npX3_mostWanted (by decide) (by decide) (Nat.le_of_ble_eq_true rfl) (by decide) (by decide) GK_E (fun v9 h9 hq => ?_) (fun E h9 hq => by cases hq.1)
  obtain ⟨e9, e8⟩ := hq
  cases e9
  rw [e8]
  show K mX11_count _ _ 1 6 175 [(0, vr 30), (1, vi 8)] [vi (fmN 0 0 (-1) (fun j => pcF (hA h (66 + 1)) (j : Int) (sNp S)) (sNt S))] h
  rw [show hA h (66 + 1) = f from c.2.2.2.2.1]
  exact K_iret (dt_at dtX11_count 56 rfl) rfl rfl (by decide) (by decide) ⟨rfl, FS_rf G⟩
set_option maxHeartbeats 4000000 in
set_option maxRecDepth 100000 in
theorem sX11_count_9 {h : HP} {t : Nat} {S : HS} {B : Int} {f : Int → Int} (c : CQ h t S B f) : SpecK mX11_count [vr 30, vi 9] h (fun o h' => o = .inl (some (vi (hI h 68 2))) ∧ FS h h') := by
  refine Spec_of (by decide +kernel) (Nat.le_of_ble_eq_true rfl) ?_
  have ht := c.1
  have hH := TTt ht
  have hB := c.2.2.2.1
  have hNt := hB.1
  have hNp := hB.2.1
  have hT := c.2.2.2.2.2.1
  have hC := c.2.2.2.2.2.2.1
  have h99 := c.2.2.2.2.2.2.2.1
  have G := c.2.2.2.2.2.2.2.2
  have hf0 := hT.2.2.2.1
  refine K_iload_n (dt_at dtX11_count 0 rfl) rfl rfl ?_
  refine K_bipush (dt_at dtX11_count 1 rfl) (by decide) ?_
  refine K_callS (M' := mX11_needWhat) (As := [vi 9, vi 14]) (st := []) (dt_at dtX11_count 2 rfl) (sX11_needWhat (by first | assumption | exact ⟨by omega, by omega⟩) ⟨by decide, by decide⟩ (by omega)) wL_X11_133 vX11_needWhat rfl npX11_needWhat (by decide) (by decide) (Nat.le_of_ble_eq_true rfl) (by decide) (by decide) GK_E (fun v9 h9 hq => ?_) (fun E h9 hq => by cases hq.1)
  obtain ⟨e9, e8⟩ := hq
  cases e9
  rw [e8]
  show K mX11_count _ _ 1 6 6 [(0, vr 30), (1, vi 9)] [] h
  refine K_iload_n (dt_at dtX11_count 3 rfl) rfl rfl ?_
  refine K_tableIn (tgt := 176) (dt_at dtX11_count 4 rfl) ⟨by decide, by decide⟩ (by decide) (by decide) rfl (by decide) ?_
  refine K_aload_n (dt_at dtX11_count 57 rfl) rfl rfl ?_
  refine K_get (a := 30) (ci := 11) (k := 6) (v := vr 68) (dt_at dtX11_count 58 rfl) (by decide) rfl (by decide) wF_X11_46 rfl ?_
  refine K_callV (M' := mX0_kept) (a := 68) (ci := 0) (As := []) (st := []) (dt_at dtX11_count 59 rfl) (sX0_kept (a := 68) (by decide)) (show TT 68 = (0, 0) from rfl) rfl wL_X11_166 vX0_kept rfl npX0_kept (by decide) (by decide) (Nat.le_of_ble_eq_true rfl) (by decide) (by decide) GK_E (fun v9 h9 hq => ?_) (fun E h9 hq => by cases hq.1)
  obtain ⟨e9, e8⟩ := hq
  cases e9
  rw [e8]
  show K mX11_count _ _ 1 6 183 [(0, vr 30), (1, vi 9)] [vi (hI h 68 2)] h
  exact K_iret (dt_at dtX11_count 60 rfl) rfl rfl (by decide) (by decide) ⟨rfl, FS_rf G⟩
set_option maxHeartbeats 4000000 in
set_option maxRecDepth 100000 in
theorem sX11_count_10 {h : HP} {t : Nat} {S : HS} {B : Int} {f : Int → Int} (c : CQ h t S B f) : SpecK mX11_count [vr 30, vi 10] h (fun o h' => o = .inl (some (vi (hI h 70 4))) ∧ FS h h') := by
  refine Spec_of (by decide +kernel) (Nat.le_of_ble_eq_true rfl) ?_
  have ht := c.1
  have hH := TTt ht
  have hB := c.2.2.2.1
  have hNt := hB.1
  have hNp := hB.2.1
  have hT := c.2.2.2.2.2.1
  have hC := c.2.2.2.2.2.2.1
  have h99 := c.2.2.2.2.2.2.2.1
  have G := c.2.2.2.2.2.2.2.2
  have hf0 := hT.2.2.2.1
  refine K_iload_n (dt_at dtX11_count 0 rfl) rfl rfl ?_
  refine K_bipush (dt_at dtX11_count 1 rfl) (by decide) ?_
  refine K_callS (M' := mX11_needWhat) (As := [vi 10, vi 14]) (st := []) (dt_at dtX11_count 2 rfl) (sX11_needWhat (by first | assumption | exact ⟨by omega, by omega⟩) ⟨by decide, by decide⟩ (by omega)) wL_X11_133 vX11_needWhat rfl npX11_needWhat (by decide) (by decide) (Nat.le_of_ble_eq_true rfl) (by decide) (by decide) GK_E (fun v9 h9 hq => ?_) (fun E h9 hq => by cases hq.1)
  obtain ⟨e9, e8⟩ := hq
  cases e9
  rw [e8]
  show K mX11_count _ _ 1 6 6 [(0, vr 30), (1, vi 10)] [] h
  refine K_iload_n (dt_at dtX11_count 3 rfl) rfl rfl ?_
  refine K_tableIn (tgt := 184) (dt_at dtX11_count 4 rfl) ⟨by decide, by decide⟩ (by decide) (by decide) rfl (by decide) ?_
  refine K_aload_n (dt_at dtX11_count 61 rfl) rfl rfl ?_
  refine K_get (a := 30) (ci := 11) (k := 7) (v := vr 70) (dt_at dtX11_count 62 rfl) (by decide) rfl (by decide) wF_X11_53 rfl ?_
  refine K_callV (M' := mX7_many) (a := 70) (ci := 7) (As := []) (st := []) (dt_at dtX11_count 63 rfl) (sX7_many (a := 70) (by decide)) (show TT 70 = (0, 7) from rfl) rfl wL_X11_169 vX7_many rfl npX7_many (by decide) (by decide) (Nat.le_of_ble_eq_true rfl) (by decide) (by decide) GK_E (fun v9 h9 hq => ?_) (fun E h9 hq => by cases hq.1)
  obtain ⟨e9, e8⟩ := hq
  cases e9
  rw [e8]
  show K mX11_count _ _ 1 6 191 [(0, vr 30), (1, vi 10)] [vi (hI h 70 4)] h
  exact K_iret (dt_at dtX11_count 64 rfl) rfl rfl (by decide) (by decide) ⟨rfl, FS_rf G⟩
set_option maxHeartbeats 4000000 in
set_option maxRecDepth 100000 in
theorem sX11_count_11 {h : HP} {t : Nat} {S : HS} {B : Int} {f : Int → Int} (c : CQ h t S B f) : SpecK mX11_count [vr 30, vi 11] h (fun o h' => o = .inl (some (vi (hI h 30 15))) ∧ FS h h') := by
  refine Spec_of (by decide +kernel) (Nat.le_of_ble_eq_true rfl) ?_
  have ht := c.1
  have hH := TTt ht
  have hB := c.2.2.2.1
  have hNt := hB.1
  have hNp := hB.2.1
  have hT := c.2.2.2.2.2.1
  have hC := c.2.2.2.2.2.2.1
  have h99 := c.2.2.2.2.2.2.2.1
  have G := c.2.2.2.2.2.2.2.2
  have hf0 := hT.2.2.2.1
  refine K_iload_n (dt_at dtX11_count 0 rfl) rfl rfl ?_
  refine K_bipush (dt_at dtX11_count 1 rfl) (by decide) ?_
  refine K_callS (M' := mX11_needWhat) (As := [vi 11, vi 14]) (st := []) (dt_at dtX11_count 2 rfl) (sX11_needWhat (by first | assumption | exact ⟨by omega, by omega⟩) ⟨by decide, by decide⟩ (by omega)) wL_X11_133 vX11_needWhat rfl npX11_needWhat (by decide) (by decide) (Nat.le_of_ble_eq_true rfl) (by decide) (by decide) GK_E (fun v9 h9 hq => ?_) (fun E h9 hq => by cases hq.1)
  obtain ⟨e9, e8⟩ := hq
  cases e9
  rw [e8]
  show K mX11_count _ _ 1 6 6 [(0, vr 30), (1, vi 11)] [] h
  refine K_iload_n (dt_at dtX11_count 3 rfl) rfl rfl ?_
  refine K_tableIn (tgt := 192) (dt_at dtX11_count 4 rfl) ⟨by decide, by decide⟩ (by decide) (by decide) rfl (by decide) ?_
  refine K_aload_n (dt_at dtX11_count 65 rfl) rfl rfl ?_
  refine K_get (a := 30) (ci := 11) (k := 15) (v := vi (hI h 30 15)) (dt_at dtX11_count 66 rfl) (by decide) rfl (by decide) wF_X11_96 rfl ?_
  exact K_iret (dt_at dtX11_count 67 rfl) rfl rfl (by decide) (by decide) ⟨rfl, FS_rf G⟩
set_option maxHeartbeats 4000000 in
set_option maxRecDepth 100000 in
theorem sX11_count_12 {h : HP} {t : Nat} {S : HS} {B : Int} {f : Int → Int} (c : CQ h t S B f) : SpecK mX11_count [vr 30, vi 12] h (fun o h' => o = .inl (some (vi (hA h 32 0))) ∧ FS h h') := by
  refine Spec_of (by decide +kernel) (Nat.le_of_ble_eq_true rfl) ?_
  have ht := c.1
  have hH := TTt ht
  have hB := c.2.2.2.1
  have hNt := hB.1
  have hNp := hB.2.1
  have hT := c.2.2.2.2.2.1
  have hC := c.2.2.2.2.2.2.1
  have h99 := c.2.2.2.2.2.2.2.1
  have G := c.2.2.2.2.2.2.2.2
  have hf0 := hT.2.2.2.1
  refine K_iload_n (dt_at dtX11_count 0 rfl) rfl rfl ?_
  refine K_bipush (dt_at dtX11_count 1 rfl) (by decide) ?_
  refine K_callS (M' := mX11_needWhat) (As := [vi 12, vi 14]) (st := []) (dt_at dtX11_count 2 rfl) (sX11_needWhat (by first | assumption | exact ⟨by omega, by omega⟩) ⟨by decide, by decide⟩ (by omega)) wL_X11_133 vX11_needWhat rfl npX11_needWhat (by decide) (by decide) (Nat.le_of_ble_eq_true rfl) (by decide) (by decide) GK_E (fun v9 h9 hq => ?_) (fun E h9 hq => by cases hq.1)
  obtain ⟨e9, e8⟩ := hq
  cases e9
  rw [e8]
  show K mX11_count _ _ 1 6 6 [(0, vr 30), (1, vi 12)] [] h
  refine K_iload_n (dt_at dtX11_count 3 rfl) rfl rfl ?_
  refine K_tableOut (tgt := 197) (dt_at dtX11_count 4 rfl) ⟨by decide, by decide⟩ (by decide) (by decide) ?_
  refine K_aload_n (dt_at dtX11_count 68 rfl) rfl rfl ?_
  refine K_get (a := 30) (ci := 11) (k := 1) (v := vr 32) (dt_at dtX11_count 69 rfl) (by decide) rfl (by decide) wF_X11_13 rfl ?_
  refine K_iload_n (dt_at dtX11_count 70 rfl) rfl rfl ?_
  refine K_bipush (dt_at dtX11_count 71 rfl) (by decide) ?_
  refine K_isub (dt_at dtX11_count 72 rfl) ?_
  refine K_iald (dt_at dtX11_count 73 rfl) (show TT 32 = (1, 3) from rfl) (by omega) (by omega) ?_
  exact K_iret (dt_at dtX11_count 74 rfl) rfl rfl (by decide) (by decide) ⟨rfl, FS_rf G⟩
set_option maxHeartbeats 4000000 in
set_option maxRecDepth 100000 in
theorem sX11_count_13 {h : HP} {t : Nat} {S : HS} {B : Int} {f : Int → Int} (c : CQ h t S B f) : SpecK mX11_count [vr 30, vi 13] h (fun o h' => o = .inl (some (vi (hA h 32 1))) ∧ FS h h') := by
  refine Spec_of (by decide +kernel) (Nat.le_of_ble_eq_true rfl) ?_
  have ht := c.1
  have hH := TTt ht
  have hB := c.2.2.2.1
  have hNt := hB.1
  have hNp := hB.2.1
  have hT := c.2.2.2.2.2.1
  have hC := c.2.2.2.2.2.2.1
  have h99 := c.2.2.2.2.2.2.2.1
  have G := c.2.2.2.2.2.2.2.2
  have hf0 := hT.2.2.2.1
  refine K_iload_n (dt_at dtX11_count 0 rfl) rfl rfl ?_
  refine K_bipush (dt_at dtX11_count 1 rfl) (by decide) ?_
  refine K_callS (M' := mX11_needWhat) (As := [vi 13, vi 14]) (st := []) (dt_at dtX11_count 2 rfl) (sX11_needWhat (by first | assumption | exact ⟨by omega, by omega⟩) ⟨by decide, by decide⟩ (by omega)) wL_X11_133 vX11_needWhat rfl npX11_needWhat (by decide) (by decide) (Nat.le_of_ble_eq_true rfl) (by decide) (by decide) GK_E (fun v9 h9 hq => ?_) (fun E h9 hq => by cases hq.1)
  obtain ⟨e9, e8⟩ := hq
  cases e9
  rw [e8]
  show K mX11_count _ _ 1 6 6 [(0, vr 30), (1, vi 13)] [] h
  refine K_iload_n (dt_at dtX11_count 3 rfl) rfl rfl ?_
  refine K_tableOut (tgt := 197) (dt_at dtX11_count 4 rfl) ⟨by decide, by decide⟩ (by decide) (by decide) ?_
  refine K_aload_n (dt_at dtX11_count 68 rfl) rfl rfl ?_
  refine K_get (a := 30) (ci := 11) (k := 1) (v := vr 32) (dt_at dtX11_count 69 rfl) (by decide) rfl (by decide) wF_X11_13 rfl ?_
  refine K_iload_n (dt_at dtX11_count 70 rfl) rfl rfl ?_
  refine K_bipush (dt_at dtX11_count 71 rfl) (by decide) ?_
  refine K_isub (dt_at dtX11_count 72 rfl) ?_
  refine K_iald (dt_at dtX11_count 73 rfl) (show TT 32 = (1, 3) from rfl) (by omega) (by omega) ?_
  exact K_iret (dt_at dtX11_count 74 rfl) rfl rfl (by decide) (by decide) ⟨rfl, FS_rf G⟩
set_option maxHeartbeats 4000000 in
set_option maxRecDepth 100000 in
theorem sX11_count_14 {h : HP} {t : Nat} {S : HS} {B : Int} {f : Int → Int} (c : CQ h t S B f) : SpecK mX11_count [vr 30, vi 14] h (fun o h' => o = .inl (some (vi (hA h 32 2))) ∧ FS h h') := by
  refine Spec_of (by decide +kernel) (Nat.le_of_ble_eq_true rfl) ?_
  have ht := c.1
  have hH := TTt ht
  have hB := c.2.2.2.1
  have hNt := hB.1
  have hNp := hB.2.1
  have hT := c.2.2.2.2.2.1
  have hC := c.2.2.2.2.2.2.1
  have h99 := c.2.2.2.2.2.2.2.1
  have G := c.2.2.2.2.2.2.2.2
  have hf0 := hT.2.2.2.1
  refine K_iload_n (dt_at dtX11_count 0 rfl) rfl rfl ?_
  refine K_bipush (dt_at dtX11_count 1 rfl) (by decide) ?_
  refine K_callS (M' := mX11_needWhat) (As := [vi 14, vi 14]) (st := []) (dt_at dtX11_count 2 rfl) (sX11_needWhat (by first | assumption | exact ⟨by omega, by omega⟩) ⟨by decide, by decide⟩ (by omega)) wL_X11_133 vX11_needWhat rfl npX11_needWhat (by decide) (by decide) (Nat.le_of_ble_eq_true rfl) (by decide) (by decide) GK_E (fun v9 h9 hq => ?_) (fun E h9 hq => by cases hq.1)
  obtain ⟨e9, e8⟩ := hq
  cases e9
  rw [e8]
  show K mX11_count _ _ 1 6 6 [(0, vr 30), (1, vi 14)] [] h
  refine K_iload_n (dt_at dtX11_count 3 rfl) rfl rfl ?_
  refine K_tableOut (tgt := 197) (dt_at dtX11_count 4 rfl) ⟨by decide, by decide⟩ (by decide) (by decide) ?_
  refine K_aload_n (dt_at dtX11_count 68 rfl) rfl rfl ?_
  refine K_get (a := 30) (ci := 11) (k := 1) (v := vr 32) (dt_at dtX11_count 69 rfl) (by decide) rfl (by decide) wF_X11_13 rfl ?_
  refine K_iload_n (dt_at dtX11_count 70 rfl) rfl rfl ?_
  refine K_bipush (dt_at dtX11_count 71 rfl) (by decide) ?_
  refine K_isub (dt_at dtX11_count 72 rfl) ?_
  refine K_iald (dt_at dtX11_count 73 rfl) (show TT 32 = (1, 3) from rfl) (by omega) (by omega) ?_
  exact K_iret (dt_at dtX11_count 74 rfl) rfl rfl (by decide) (by decide) ⟨rfl, FS_rf G⟩
def mX11_thing : MI := (yX11_thing, cX11_thing, 3, (some .int), rmK 8 2)
def tX11_thing : List (Nat × Instr × Nat) := [(0, .aload_n 0, 1), (1, .iload_n 1, 1), (2, .invokevirtual 172, 3), (5, .iload_n 2, 1), (6, .iconst 2, 1), (7, .invokestatic 133, 3), (10, .iload_n 2, 1), (11, .lookupswitch 45 #[(0, 25), (1, 35)], 25), (36, .aload_n 0, 1), (37, .getfield 20, 3), (40, .getfield 175, 3), (43, .iload_n 1, 1), (44, .iaload, 1), (45, .ireturn, 1), (46, .aload_n 0, 1), (47, .getfield 20, 3), (50, .getfield 178, 3), (53, .iload_n 1, 1), (54, .iaload, 1), (55, .ireturn, 1), (56, .aload_n 0, 1), (57, .getfield 39, 3), (60, .iload_n 1, 1), (61, .invokevirtual 181, 3), (64, .ireturn, 1)]
theorem dtX11_thing : tX11_thing.all (fun q => decide (decode cX11_thing q.1 = .ok (q.2.1, q.2.2))) = true := by decide +kernel
theorem npX11_thing : (parseMethodDescriptor (mY mX11_thing).desc).map (fun d => d.parameters.length) = some 2 := by decide +kernel
theorem vX11_thing : mV mX11_thing := ⟨wI_X11_thing, wS_X11_thing, wN_X11, wC_X11_thing, by decide +kernel, by decide +kernel⟩
set_option maxHeartbeats 4000000 in
set_option maxRecDepth 100000 in
theorem sX11_thing_x1 {h : HP} {t : Nat} {S : HS} {B : Int} {f : Int → Int} {q : Int} {w : Int} (c : CQ h t S B f) (hq : i32 q) (hw : i32 w) (kn : ¬ (0 ≤ q ∧ q < sNt S)) : SpecK mX11_thing [vr 30, vi q, vi w] h (fun o h' => o = .inr eNS ∧ FS h h') := by
  refine Spec_of (by decide +kernel) (Nat.le_of_ble_eq_true rfl) ?_
  have ht := c.1
  have hH := TTt ht
  have hB := c.2.2.2.1
  have hNt := hB.1
  have hNp := hB.2.1
  have hT := c.2.2.2.2.2.1
  have hC := c.2.2.2.2.2.2.1
  have h99 := c.2.2.2.2.2.2.2.1
  have G := c.2.2.2.2.2.2.2.2
  have hf0 := hT.2.2.2.1
  refine K_aload_n (dt_at dtX11_thing 0 rfl) rfl rfl ?_
  refine K_iload_n (dt_at dtX11_thing 1 rfl) rfl rfl ?_
  exact K_callV (M' := mX11_needThing) (a := 30) (ci := 11) (As := [vi q]) (st := []) (dt_at dtX11_thing 2 rfl) (sX11_needThing_no hH c.2.1 c.2.2.1.2.1.1 hNt (by assumption) (by omega)) (by decide) rfl wL_X11_172 vX11_needThing rfl npX11_needThing (by decide) (by decide) (Nat.le_of_ble_eq_true rfl) (by decide) (by decide) GK_E (fun v9 h9 hq => by cases hq.1) (fun E h9 hq => by obtain ⟨e9, e8⟩ := hq; cases e9; rw [e8]; exact KX_out (by decide) (by decide) ⟨rfl, FS_rf G⟩)
set_option maxHeartbeats 4000000 in
set_option maxRecDepth 100000 in
theorem sX11_thing_x2 {h : HP} {t : Nat} {S : HS} {B : Int} {f : Int → Int} {q : Int} {w : Int} (c : CQ h t S B f) (hq : i32 q) (hw : i32 w) (k0 : 0 ≤ q ∧ q < sNt S) (kn : ¬ (0 ≤ w ∧ w ≤ 2)) : SpecK mX11_thing [vr 30, vi q, vi w] h (fun o h' => o = .inr eNS ∧ FS h h') := by
  refine Spec_of (by decide +kernel) (Nat.le_of_ble_eq_true rfl) ?_
  have ht := c.1
  have hH := TTt ht
  have hB := c.2.2.2.1
  have hNt := hB.1
  have hNp := hB.2.1
  have hT := c.2.2.2.2.2.1
  have hC := c.2.2.2.2.2.2.1
  have h99 := c.2.2.2.2.2.2.2.1
  have G := c.2.2.2.2.2.2.2.2
  have hf0 := hT.2.2.2.1
  refine K_aload_n (dt_at dtX11_thing 0 rfl) rfl rfl ?_
  refine K_iload_n (dt_at dtX11_thing 1 rfl) rfl rfl ?_
  refine K_callV (M' := mX11_needThing) (a := 30) (ci := 11) (As := [vi q]) (st := []) (dt_at dtX11_thing 2 rfl) (sX11_needThing hH c.2.1 c.2.2.1.2.1.1 hNt (by first | assumption | exact ⟨by omega, by omega⟩) (by omega)) (by decide) rfl wL_X11_172 vX11_needThing rfl npX11_needThing (by decide) (by decide) (Nat.le_of_ble_eq_true rfl) (by decide) (by decide) GK_E (fun v9 h9 hq => ?_) (fun E h9 hq => by cases hq.1)
  obtain ⟨e9, e8⟩ := hq
  cases e9
  rw [e8]
  show K mX11_thing _ _ 1 6 5 [(0, vr 30), (1, vi q), (2, vi w)] [] h
  refine K_iload_n (dt_at dtX11_thing 3 rfl) rfl rfl ?_
  refine K_iconst (dt_at dtX11_thing 4 rfl) ?_
  exact K_callS (M' := mX11_needWhat) (As := [vi w, vi 2]) (st := []) (dt_at dtX11_thing 5 rfl) (sX11_needWhat_no (by assumption) ⟨by decide, by decide⟩ (by omega)) wL_X11_133 vX11_needWhat rfl npX11_needWhat (by decide) (by decide) (Nat.le_of_ble_eq_true rfl) (by decide) (by decide) GK_E (fun v9 h9 hq => by cases hq.1) (fun E h9 hq => by obtain ⟨e9, e8⟩ := hq; cases e9; rw [e8]; exact KX_out (by decide) (by decide) ⟨rfl, FS_rf G⟩)
set_option maxHeartbeats 4000000 in
set_option maxRecDepth 100000 in
theorem sX11_thing_0 {h : HP} {t : Nat} {S : HS} {B : Int} {f : Int → Int} {q : Int} (c : CQ h t S B f) (hqt : 0 ≤ q ∧ q < sNt S) : SpecK mX11_thing [vr 30, vi q, vi 0] h (fun o h' => o = .inl (some (vi (sW S q))) ∧ FS h h') := by
  refine Spec_of (by decide +kernel) (Nat.le_of_ble_eq_true rfl) ?_
  have ht := c.1
  have hH := TTt ht
  have hB := c.2.2.2.1
  have hNt := hB.1
  have hNp := hB.2.1
  have hT := c.2.2.2.2.2.1
  have hC := c.2.2.2.2.2.2.1
  have h99 := c.2.2.2.2.2.2.2.1
  have G := c.2.2.2.2.2.2.2.2
  have hf0 := hT.2.2.2.1
  refine K_aload_n (dt_at dtX11_thing 0 rfl) rfl rfl ?_
  refine K_iload_n (dt_at dtX11_thing 1 rfl) rfl rfl ?_
  refine K_callV (M' := mX11_needThing) (a := 30) (ci := 11) (As := [vi q]) (st := []) (dt_at dtX11_thing 2 rfl) (sX11_needThing hH c.2.1 c.2.2.1.2.1.1 hNt (by first | assumption | exact ⟨by omega, by omega⟩) (by omega)) (by decide) rfl wL_X11_172 vX11_needThing rfl npX11_needThing (by decide) (by decide) (Nat.le_of_ble_eq_true rfl) (by decide) (by decide) GK_E (fun v9 h9 hq => ?_) (fun E h9 hq => by cases hq.1)
  obtain ⟨e9, e8⟩ := hq
  cases e9
  rw [e8]
  show K mX11_thing _ _ 1 6 5 [(0, vr 30), (1, vi q), (2, vi 0)] [] h
  refine K_iload_n (dt_at dtX11_thing 3 rfl) rfl rfl ?_
  refine K_iconst (dt_at dtX11_thing 4 rfl) ?_
  refine K_callS (M' := mX11_needWhat) (As := [vi 0, vi 2]) (st := []) (dt_at dtX11_thing 5 rfl) (sX11_needWhat (by first | assumption | exact ⟨by omega, by omega⟩) ⟨by decide, by decide⟩ (by omega)) wL_X11_133 vX11_needWhat rfl npX11_needWhat (by decide) (by decide) (Nat.le_of_ble_eq_true rfl) (by decide) (by decide) GK_E (fun v9 h9 hq => ?_) (fun E h9 hq => by cases hq.1)
  obtain ⟨e9, e8⟩ := hq
  cases e9
  rw [e8]
  show K mX11_thing _ _ 2 12 10 [(0, vr 30), (1, vi q), (2, vi 0)] [] h
  refine K_iload_n (dt_at dtX11_thing 6 rfl) rfl rfl ?_
  refine K_lookup (off := 25) (tgt := 36) (dt_at dtX11_thing 7 rfl) ⟨by decide, by decide⟩ (by decide) (by decide) (by decide) ?_
  refine K_aload_n (dt_at dtX11_thing 8 rfl) rfl rfl ?_
  refine K_get (a := 30) (ci := 11) (k := 2) (v := vr t) (dt_at dtX11_thing 9 rfl) (by decide) rfl (by decide) wF_X11_20 (by show vr (hR h 30 2) = vr t; rw [c.2.1]) ?_
  refine K_get (a := t) (ci := 3) (k := 0) (v := vr (t + 1)) (dt_at dtX11_thing 10 rfl) hH rfl (by decide) wF_X11_175 rfl ?_
  refine K_iload_n (dt_at dtX11_thing 11 rfl) rfl rfl ?_
  refine K_iald (dt_at dtX11_thing 12 rfl) (lay_3_0 hH) (by omega) (by omega) ?_
  rw [c.2.2.1.1.1]
  exact K_iret (dt_at dtX11_thing 13 rfl) rfl rfl (by decide) (by decide) ⟨rfl, FS_rf G⟩
set_option maxHeartbeats 4000000 in
set_option maxRecDepth 100000 in
theorem sX11_thing_1 {h : HP} {t : Nat} {S : HS} {B : Int} {f : Int → Int} {q : Int} (c : CQ h t S B f) (hqt : 0 ≤ q ∧ q < sNt S) : SpecK mX11_thing [vr 30, vi q, vi 1] h (fun o h' => o = .inl (some (vi (sU S q))) ∧ FS h h') := by
  refine Spec_of (by decide +kernel) (Nat.le_of_ble_eq_true rfl) ?_
  have ht := c.1
  have hH := TTt ht
  have hB := c.2.2.2.1
  have hNt := hB.1
  have hNp := hB.2.1
  have hT := c.2.2.2.2.2.1
  have hC := c.2.2.2.2.2.2.1
  have h99 := c.2.2.2.2.2.2.2.1
  have G := c.2.2.2.2.2.2.2.2
  have hf0 := hT.2.2.2.1
  refine K_aload_n (dt_at dtX11_thing 0 rfl) rfl rfl ?_
  refine K_iload_n (dt_at dtX11_thing 1 rfl) rfl rfl ?_
  refine K_callV (M' := mX11_needThing) (a := 30) (ci := 11) (As := [vi q]) (st := []) (dt_at dtX11_thing 2 rfl) (sX11_needThing hH c.2.1 c.2.2.1.2.1.1 hNt (by first | assumption | exact ⟨by omega, by omega⟩) (by omega)) (by decide) rfl wL_X11_172 vX11_needThing rfl npX11_needThing (by decide) (by decide) (Nat.le_of_ble_eq_true rfl) (by decide) (by decide) GK_E (fun v9 h9 hq => ?_) (fun E h9 hq => by cases hq.1)
  obtain ⟨e9, e8⟩ := hq
  cases e9
  rw [e8]
  show K mX11_thing _ _ 1 6 5 [(0, vr 30), (1, vi q), (2, vi 1)] [] h
  refine K_iload_n (dt_at dtX11_thing 3 rfl) rfl rfl ?_
  refine K_iconst (dt_at dtX11_thing 4 rfl) ?_
  refine K_callS (M' := mX11_needWhat) (As := [vi 1, vi 2]) (st := []) (dt_at dtX11_thing 5 rfl) (sX11_needWhat (by first | assumption | exact ⟨by omega, by omega⟩) ⟨by decide, by decide⟩ (by omega)) wL_X11_133 vX11_needWhat rfl npX11_needWhat (by decide) (by decide) (Nat.le_of_ble_eq_true rfl) (by decide) (by decide) GK_E (fun v9 h9 hq => ?_) (fun E h9 hq => by cases hq.1)
  obtain ⟨e9, e8⟩ := hq
  cases e9
  rw [e8]
  show K mX11_thing _ _ 2 12 10 [(0, vr 30), (1, vi q), (2, vi 1)] [] h
  refine K_iload_n (dt_at dtX11_thing 6 rfl) rfl rfl ?_
  refine K_lookup (off := 35) (tgt := 46) (dt_at dtX11_thing 7 rfl) ⟨by decide, by decide⟩ (by decide) (by decide) (by decide) ?_
  refine K_aload_n (dt_at dtX11_thing 14 rfl) rfl rfl ?_
  refine K_get (a := 30) (ci := 11) (k := 2) (v := vr t) (dt_at dtX11_thing 15 rfl) (by decide) rfl (by decide) wF_X11_20 (by show vr (hR h 30 2) = vr t; rw [c.2.1]) ?_
  refine K_get (a := t) (ci := 3) (k := 1) (v := vr (t + 2)) (dt_at dtX11_thing 16 rfl) hH rfl (by decide) wF_X11_178 rfl ?_
  refine K_iload_n (dt_at dtX11_thing 17 rfl) rfl rfl ?_
  refine K_iald (dt_at dtX11_thing 18 rfl) (lay_3_1 hH) (by omega) (by omega) ?_
  rw [c.2.2.1.1.2.1]
  exact K_iret (dt_at dtX11_thing 19 rfl) rfl rfl (by decide) (by decide) ⟨rfl, FS_rf G⟩
set_option maxHeartbeats 4000000 in
set_option maxRecDepth 100000 in
theorem sX11_thing_2 {h : HP} {t : Nat} {S : HS} {B : Int} {f : Int → Int} {q : Int} (c : CQ h t S B f) (hqt : 0 ≤ q ∧ q < sNt S) : SpecK mX11_thing [vr 30, vi q, vi 2] h (fun o h' => o = .inl (some (vi (f (29 + q)))) ∧ FS h h') := by
  refine Spec_of (by decide +kernel) (Nat.le_of_ble_eq_true rfl) ?_
  have ht := c.1
  have hH := TTt ht
  have hB := c.2.2.2.1
  have hNt := hB.1
  have hNp := hB.2.1
  have hT := c.2.2.2.2.2.1
  have hC := c.2.2.2.2.2.2.1
  have h99 := c.2.2.2.2.2.2.2.1
  have G := c.2.2.2.2.2.2.2.2
  have hf0 := hT.2.2.2.1
  refine K_aload_n (dt_at dtX11_thing 0 rfl) rfl rfl ?_
  refine K_iload_n (dt_at dtX11_thing 1 rfl) rfl rfl ?_
  refine K_callV (M' := mX11_needThing) (a := 30) (ci := 11) (As := [vi q]) (st := []) (dt_at dtX11_thing 2 rfl) (sX11_needThing hH c.2.1 c.2.2.1.2.1.1 hNt (by first | assumption | exact ⟨by omega, by omega⟩) (by omega)) (by decide) rfl wL_X11_172 vX11_needThing rfl npX11_needThing (by decide) (by decide) (Nat.le_of_ble_eq_true rfl) (by decide) (by decide) GK_E (fun v9 h9 hq => ?_) (fun E h9 hq => by cases hq.1)
  obtain ⟨e9, e8⟩ := hq
  cases e9
  rw [e8]
  show K mX11_thing _ _ 1 6 5 [(0, vr 30), (1, vi q), (2, vi 2)] [] h
  refine K_iload_n (dt_at dtX11_thing 3 rfl) rfl rfl ?_
  refine K_iconst (dt_at dtX11_thing 4 rfl) ?_
  refine K_callS (M' := mX11_needWhat) (As := [vi 2, vi 2]) (st := []) (dt_at dtX11_thing 5 rfl) (sX11_needWhat (by first | assumption | exact ⟨by omega, by omega⟩) ⟨by decide, by decide⟩ (by omega)) wL_X11_133 vX11_needWhat rfl npX11_needWhat (by decide) (by decide) (Nat.le_of_ble_eq_true rfl) (by decide) (by decide) GK_E (fun v9 h9 hq => ?_) (fun E h9 hq => by cases hq.1)
  obtain ⟨e9, e8⟩ := hq
  cases e9
  rw [e8]
  show K mX11_thing _ _ 2 12 10 [(0, vr 30), (1, vi q), (2, vi 2)] [] h
  refine K_iload_n (dt_at dtX11_thing 6 rfl) rfl rfl ?_
  refine K_lookup (off := 45) (tgt := 56) (dt_at dtX11_thing 7 rfl) ⟨by decide, by decide⟩ (by decide) (by decide) (by decide) ?_
  refine K_aload_n (dt_at dtX11_thing 20 rfl) rfl rfl ?_
  refine K_get (a := 30) (ci := 11) (k := 5) (v := vr 66) (dt_at dtX11_thing 21 rfl) (by decide) rfl (by decide) wF_X11_39 rfl ?_
  refine K_iload_n (dt_at dtX11_thing 22 rfl) rfl rfl ?_
  refine K_callV (M' := mX8_stock) (a := 66) (ci := 8) (As := [vi q]) (st := []) (dt_at dtX11_thing 23 rfl) (sX8_stock (a := 66) (by decide) ⟨by omega, by omega⟩) (show TT 66 = (0, 8) from rfl) rfl wL_X11_181 vX8_stock rfl npX8_stock (by decide) (by decide) (Nat.le_of_ble_eq_true rfl) (by decide) (by decide) GK_E (fun v9 h9 hq => ?_) (fun E h9 hq => by cases hq.1)
  obtain ⟨e9, e8⟩ := hq
  cases e9
  rw [e8]
  show K mX11_thing _ _ 2 12 64 [(0, vr 30), (1, vi q), (2, vi 2)] [vi (hA h (66 + 1) (29 + q))] h
  rw [show hA h (66 + 1) = f from c.2.2.2.2.1]
  exact K_iret (dt_at dtX11_thing 24 rfl) rfl rfl (by decide) (by decide) ⟨rfl, FS_rf G⟩
def mX11_person : MI := (yX11_person, cX11_person, 3, (some .int), rmK 8 2)
def tX11_person : List (Nat × Instr × Nat) := [(0, .aload_n 0, 1), (1, .iload_n 1, 1), (2, .invokevirtual 184, 3), (5, .iload_n 2, 1), (6, .bipush 9, 2), (8, .invokestatic 133, 3), (11, .iload_n 2, 1), (12, .tableswitch 150 0 8 #[52, 62, 72, 82, 91, 100, 109, 118, 134], 52), (64, .aload_n 0, 1), (65, .getfield 20, 3), (68, .getfield 187, 3), (71, .iload_n 1, 1), (72, .iaload, 1), (73, .ireturn, 1), (74, .aload_n 0, 1), (75, .getfield 20, 3), (78, .getfield 190, 3), (81, .iload_n 1, 1), (82, .iaload, 1), (83, .ireturn, 1), (84, .aload_n 0, 1), (85, .getfield 20, 3), (88, .getfield 193, 3), (91, .iload_n 1, 1), (92, .iaload, 1), (93, .ireturn, 1), (94, .aload_n 0, 1), (95, .getfield 39, 3), (98, .iload_n 1, 1), (99, .invokevirtual 196, 3), (102, .ireturn, 1), (103, .aload_n 0, 1), (104, .getfield 39, 3), (107, .iload_n 1, 1), (108, .invokevirtual 199, 3), (111, .ireturn, 1), (112, .aload_n 0, 1), (113, .getfield 39, 3), (116, .iload_n 1, 1), (117, .invokevirtual 202, 3), (120, .ireturn, 1), (121, .aload_n 0, 1), (122, .getfield 39, 3), (125, .iload_n 1, 1), (126, .invokevirtual 205, 3), (129, .ireturn, 1), (130, .aload_n 0, 1), (131, .getfield 39, 3), (134, .iload_n 1, 1), (135, .aload_n 0, 1), (136, .getfield 20, 3), (139, .getfield 140, 3), (142, .invokevirtual 208, 3), (145, .ireturn, 1), (146, .aload_n 0, 1), (147, .getfield 39, 3), (150, .iload_n 1, 1), (151, .aload_n 0, 1), (152, .getfield 20, 3), (155, .getfield 140, 3), (158, .invokevirtual 212, 3), (161, .ireturn, 1), (162, .aload_n 0, 1), (163, .getfield 39, 3), (166, .iload_n 1, 1), (167, .aload_n 0, 1), (168, .getfield 20, 3), (171, .getfield 140, 3), (174, .invokevirtual 215, 3), (177, .ireturn, 1)]
theorem dtX11_person : tX11_person.all (fun q => decide (decode cX11_person q.1 = .ok (q.2.1, q.2.2))) = true := by decide +kernel
theorem npX11_person : (parseMethodDescriptor (mY mX11_person).desc).map (fun d => d.parameters.length) = some 2 := by decide +kernel
theorem vX11_person : mV mX11_person := ⟨wI_X11_person, wS_X11_person, wN_X11, wC_X11_person, by decide +kernel, by decide +kernel⟩
set_option maxHeartbeats 4000000 in
set_option maxRecDepth 100000 in
theorem sX11_person_x1 {h : HP} {t : Nat} {S : HS} {B : Int} {f : Int → Int} {p : Int} {w : Int} (c : CQ h t S B f) (hp : i32 p) (hw : i32 w) (kn : ¬ (0 ≤ p ∧ p < sNp S)) : SpecK mX11_person [vr 30, vi p, vi w] h (fun o h' => o = .inr eNS ∧ FS h h') := by
  refine Spec_of (by decide +kernel) (Nat.le_of_ble_eq_true rfl) ?_
  have ht := c.1
  have hH := TTt ht
  have hB := c.2.2.2.1
  have hNt := hB.1
  have hNp := hB.2.1
  have hT := c.2.2.2.2.2.1
  have hC := c.2.2.2.2.2.2.1
  have h99 := c.2.2.2.2.2.2.2.1
  have G := c.2.2.2.2.2.2.2.2
  have hf0 := hT.2.2.2.1
  refine K_aload_n (dt_at dtX11_person 0 rfl) rfl rfl ?_
  refine K_iload_n (dt_at dtX11_person 1 rfl) rfl rfl ?_
  exact K_callV (M' := mX11_needPerson) (a := 30) (ci := 11) (As := [vi p]) (st := []) (dt_at dtX11_person 2 rfl) (sX11_needPerson_no hH c.2.1 c.2.2.1.2.1.2 hNp (by assumption) (by omega)) (by decide) rfl wL_X11_184 vX11_needPerson rfl npX11_needPerson (by decide) (by decide) (Nat.le_of_ble_eq_true rfl) (by decide) (by decide) GK_E (fun v9 h9 hq => by cases hq.1) (fun E h9 hq => by obtain ⟨e9, e8⟩ := hq; cases e9; rw [e8]; exact KX_out (by decide) (by decide) ⟨rfl, FS_rf G⟩)
set_option maxHeartbeats 4000000 in
set_option maxRecDepth 100000 in
theorem sX11_person_x2 {h : HP} {t : Nat} {S : HS} {B : Int} {f : Int → Int} {p : Int} {w : Int} (c : CQ h t S B f) (hp : i32 p) (hw : i32 w) (k0 : 0 ≤ p ∧ p < sNp S) (kn : ¬ (0 ≤ w ∧ w ≤ 9)) : SpecK mX11_person [vr 30, vi p, vi w] h (fun o h' => o = .inr eNS ∧ FS h h') := by
  refine Spec_of (by decide +kernel) (Nat.le_of_ble_eq_true rfl) ?_
  have ht := c.1
  have hH := TTt ht
  have hB := c.2.2.2.1
  have hNt := hB.1
  have hNp := hB.2.1
  have hT := c.2.2.2.2.2.1
  have hC := c.2.2.2.2.2.2.1
  have h99 := c.2.2.2.2.2.2.2.1
  have G := c.2.2.2.2.2.2.2.2
  have hf0 := hT.2.2.2.1
  refine K_aload_n (dt_at dtX11_person 0 rfl) rfl rfl ?_
  refine K_iload_n (dt_at dtX11_person 1 rfl) rfl rfl ?_
  refine K_callV (M' := mX11_needPerson) (a := 30) (ci := 11) (As := [vi p]) (st := []) (dt_at dtX11_person 2 rfl) (sX11_needPerson hH c.2.1 c.2.2.1.2.1.2 hNp (by first | assumption | exact ⟨by omega, by omega⟩) (by omega)) (by decide) rfl wL_X11_184 vX11_needPerson rfl npX11_needPerson (by decide) (by decide) (Nat.le_of_ble_eq_true rfl) (by decide) (by decide) GK_E (fun v9 h9 hq => ?_) (fun E h9 hq => by cases hq.1)
  obtain ⟨e9, e8⟩ := hq
  cases e9
  rw [e8]
  show K mX11_person _ _ 1 6 5 [(0, vr 30), (1, vi p), (2, vi w)] [] h
  refine K_iload_n (dt_at dtX11_person 3 rfl) rfl rfl ?_
  refine K_bipush (dt_at dtX11_person 4 rfl) (by decide) ?_
  exact K_callS (M' := mX11_needWhat) (As := [vi w, vi 9]) (st := []) (dt_at dtX11_person 5 rfl) (sX11_needWhat_no (by assumption) ⟨by decide, by decide⟩ (by omega)) wL_X11_133 vX11_needWhat rfl npX11_needWhat (by decide) (by decide) (Nat.le_of_ble_eq_true rfl) (by decide) (by decide) GK_E (fun v9 h9 hq => by cases hq.1) (fun E h9 hq => by obtain ⟨e9, e8⟩ := hq; cases e9; rw [e8]; exact KX_out (by decide) (by decide) ⟨rfl, FS_rf G⟩)
set_option maxHeartbeats 4000000 in
set_option maxRecDepth 100000 in
theorem sX11_person_0 {h : HP} {t : Nat} {S : HS} {B : Int} {f : Int → Int} {p : Int} (c : CQ h t S B f) (hp : 0 ≤ p ∧ p < sNp S) : SpecK mX11_person [vr 30, vi p, vi 0] h (fun o h' => o = .inl (some (vi (sH S p))) ∧ FS h h') := by
  refine Spec_of (by decide +kernel) (Nat.le_of_ble_eq_true rfl) ?_
  have ht := c.1
  have hH := TTt ht
  have hB := c.2.2.2.1
  have hNt := hB.1
  have hNp := hB.2.1
  have hT := c.2.2.2.2.2.1
  have hC := c.2.2.2.2.2.2.1
  have h99 := c.2.2.2.2.2.2.2.1
  have G := c.2.2.2.2.2.2.2.2
  have hf0 := hT.2.2.2.1
  refine K_aload_n (dt_at dtX11_person 0 rfl) rfl rfl ?_
  refine K_iload_n (dt_at dtX11_person 1 rfl) rfl rfl ?_
  refine K_callV (M' := mX11_needPerson) (a := 30) (ci := 11) (As := [vi p]) (st := []) (dt_at dtX11_person 2 rfl) (sX11_needPerson hH c.2.1 c.2.2.1.2.1.2 hNp (by first | assumption | exact ⟨by omega, by omega⟩) (by omega)) (by decide) rfl wL_X11_184 vX11_needPerson rfl npX11_needPerson (by decide) (by decide) (Nat.le_of_ble_eq_true rfl) (by decide) (by decide) GK_E (fun v9 h9 hq => ?_) (fun E h9 hq => by cases hq.1)
  obtain ⟨e9, e8⟩ := hq
  cases e9
  rw [e8]
  show K mX11_person _ _ 1 6 5 [(0, vr 30), (1, vi p), (2, vi 0)] [] h
  refine K_iload_n (dt_at dtX11_person 3 rfl) rfl rfl ?_
  refine K_bipush (dt_at dtX11_person 4 rfl) (by decide) ?_
  refine K_callS (M' := mX11_needWhat) (As := [vi 0, vi 9]) (st := []) (dt_at dtX11_person 5 rfl) (sX11_needWhat (by first | assumption | exact ⟨by omega, by omega⟩) ⟨by decide, by decide⟩ (by omega)) wL_X11_133 vX11_needWhat rfl npX11_needWhat (by decide) (by decide) (Nat.le_of_ble_eq_true rfl) (by decide) (by decide) GK_E (fun v9 h9 hq => ?_) (fun E h9 hq => by cases hq.1)
  obtain ⟨e9, e8⟩ := hq
  cases e9
  rw [e8]
  show K mX11_person _ _ 2 12 11 [(0, vr 30), (1, vi p), (2, vi 0)] [] h
  refine K_iload_n (dt_at dtX11_person 6 rfl) rfl rfl ?_
  refine K_tableIn (tgt := 64) (dt_at dtX11_person 7 rfl) ⟨by decide, by decide⟩ (by decide) (by decide) rfl (by decide) ?_
  refine K_aload_n (dt_at dtX11_person 8 rfl) rfl rfl ?_
  refine K_get (a := 30) (ci := 11) (k := 2) (v := vr t) (dt_at dtX11_person 9 rfl) (by decide) rfl (by decide) wF_X11_20 (by show vr (hR h 30 2) = vr t; rw [c.2.1]) ?_
  refine K_get (a := t) (ci := 3) (k := 3) (v := vr (t + 4)) (dt_at dtX11_person 10 rfl) hH rfl (by decide) wF_X11_187 rfl ?_
  refine K_iload_n (dt_at dtX11_person 11 rfl) rfl rfl ?_
  refine K_iald (dt_at dtX11_person 12 rfl) (lay_3_3 hH) (by omega) (by omega) ?_
  rw [c.2.2.1.1.2.2.1]
  exact K_iret (dt_at dtX11_person 13 rfl) rfl rfl (by decide) (by decide) ⟨rfl, FS_rf G⟩
set_option maxHeartbeats 4000000 in
set_option maxRecDepth 100000 in
theorem sX11_person_1 {h : HP} {t : Nat} {S : HS} {B : Int} {f : Int → Int} {p : Int} (c : CQ h t S B f) (hp : 0 ≤ p ∧ p < sNp S) : SpecK mX11_person [vr 30, vi p, vi 1] h (fun o h' => o = .inl (some (vi (sE S p))) ∧ FS h h') := by
  refine Spec_of (by decide +kernel) (Nat.le_of_ble_eq_true rfl) ?_
  have ht := c.1
  have hH := TTt ht
  have hB := c.2.2.2.1
  have hNt := hB.1
  have hNp := hB.2.1
  have hT := c.2.2.2.2.2.1
  have hC := c.2.2.2.2.2.2.1
  have h99 := c.2.2.2.2.2.2.2.1
  have G := c.2.2.2.2.2.2.2.2
  have hf0 := hT.2.2.2.1
  refine K_aload_n (dt_at dtX11_person 0 rfl) rfl rfl ?_
  refine K_iload_n (dt_at dtX11_person 1 rfl) rfl rfl ?_
  refine K_callV (M' := mX11_needPerson) (a := 30) (ci := 11) (As := [vi p]) (st := []) (dt_at dtX11_person 2 rfl) (sX11_needPerson hH c.2.1 c.2.2.1.2.1.2 hNp (by first | assumption | exact ⟨by omega, by omega⟩) (by omega)) (by decide) rfl wL_X11_184 vX11_needPerson rfl npX11_needPerson (by decide) (by decide) (Nat.le_of_ble_eq_true rfl) (by decide) (by decide) GK_E (fun v9 h9 hq => ?_) (fun E h9 hq => by cases hq.1)
  obtain ⟨e9, e8⟩ := hq
  cases e9
  rw [e8]
  show K mX11_person _ _ 1 6 5 [(0, vr 30), (1, vi p), (2, vi 1)] [] h
  refine K_iload_n (dt_at dtX11_person 3 rfl) rfl rfl ?_
  refine K_bipush (dt_at dtX11_person 4 rfl) (by decide) ?_
  refine K_callS (M' := mX11_needWhat) (As := [vi 1, vi 9]) (st := []) (dt_at dtX11_person 5 rfl) (sX11_needWhat (by first | assumption | exact ⟨by omega, by omega⟩) ⟨by decide, by decide⟩ (by omega)) wL_X11_133 vX11_needWhat rfl npX11_needWhat (by decide) (by decide) (Nat.le_of_ble_eq_true rfl) (by decide) (by decide) GK_E (fun v9 h9 hq => ?_) (fun E h9 hq => by cases hq.1)
  obtain ⟨e9, e8⟩ := hq
  cases e9
  rw [e8]
  show K mX11_person _ _ 2 12 11 [(0, vr 30), (1, vi p), (2, vi 1)] [] h
  refine K_iload_n (dt_at dtX11_person 6 rfl) rfl rfl ?_
  refine K_tableIn (tgt := 74) (dt_at dtX11_person 7 rfl) ⟨by decide, by decide⟩ (by decide) (by decide) rfl (by decide) ?_
  refine K_aload_n (dt_at dtX11_person 14 rfl) rfl rfl ?_
  refine K_get (a := 30) (ci := 11) (k := 2) (v := vr t) (dt_at dtX11_person 15 rfl) (by decide) rfl (by decide) wF_X11_20 (by show vr (hR h 30 2) = vr t; rw [c.2.1]) ?_
  refine K_get (a := t) (ci := 3) (k := 4) (v := vr (t + 5)) (dt_at dtX11_person 16 rfl) hH rfl (by decide) wF_X11_190 rfl ?_
  refine K_iload_n (dt_at dtX11_person 17 rfl) rfl rfl ?_
  refine K_iald (dt_at dtX11_person 18 rfl) (lay_3_4 hH) (by omega) (by omega) ?_
  rw [c.2.2.1.1.2.2.2.1]
  exact K_iret (dt_at dtX11_person 19 rfl) rfl rfl (by decide) (by decide) ⟨rfl, FS_rf G⟩
set_option maxHeartbeats 4000000 in
set_option maxRecDepth 100000 in
theorem sX11_person_2 {h : HP} {t : Nat} {S : HS} {B : Int} {f : Int → Int} {p : Int} (c : CQ h t S B f) (hp : 0 ≤ p ∧ p < sNp S) : SpecK mX11_person [vr 30, vi p, vi 2] h (fun o h' => o = .inl (some (vi (sAw S p))) ∧ FS h h') := by
  refine Spec_of (by decide +kernel) (Nat.le_of_ble_eq_true rfl) ?_
  have ht := c.1
  have hH := TTt ht
  have hB := c.2.2.2.1
  have hNt := hB.1
  have hNp := hB.2.1
  have hT := c.2.2.2.2.2.1
  have hC := c.2.2.2.2.2.2.1
  have h99 := c.2.2.2.2.2.2.2.1
  have G := c.2.2.2.2.2.2.2.2
  have hf0 := hT.2.2.2.1
  refine K_aload_n (dt_at dtX11_person 0 rfl) rfl rfl ?_
  refine K_iload_n (dt_at dtX11_person 1 rfl) rfl rfl ?_
  refine K_callV (M' := mX11_needPerson) (a := 30) (ci := 11) (As := [vi p]) (st := []) (dt_at dtX11_person 2 rfl) (sX11_needPerson hH c.2.1 c.2.2.1.2.1.2 hNp (by first | assumption | exact ⟨by omega, by omega⟩) (by omega)) (by decide) rfl wL_X11_184 vX11_needPerson rfl npX11_needPerson (by decide) (by decide) (Nat.le_of_ble_eq_true rfl) (by decide) (by decide) GK_E (fun v9 h9 hq => ?_) (fun E h9 hq => by cases hq.1)
  obtain ⟨e9, e8⟩ := hq
  cases e9
  rw [e8]
  show K mX11_person _ _ 1 6 5 [(0, vr 30), (1, vi p), (2, vi 2)] [] h
  refine K_iload_n (dt_at dtX11_person 3 rfl) rfl rfl ?_
  refine K_bipush (dt_at dtX11_person 4 rfl) (by decide) ?_
  refine K_callS (M' := mX11_needWhat) (As := [vi 2, vi 9]) (st := []) (dt_at dtX11_person 5 rfl) (sX11_needWhat (by first | assumption | exact ⟨by omega, by omega⟩) ⟨by decide, by decide⟩ (by omega)) wL_X11_133 vX11_needWhat rfl npX11_needWhat (by decide) (by decide) (Nat.le_of_ble_eq_true rfl) (by decide) (by decide) GK_E (fun v9 h9 hq => ?_) (fun E h9 hq => by cases hq.1)
  obtain ⟨e9, e8⟩ := hq
  cases e9
  rw [e8]
  show K mX11_person _ _ 2 12 11 [(0, vr 30), (1, vi p), (2, vi 2)] [] h
  refine K_iload_n (dt_at dtX11_person 6 rfl) rfl rfl ?_
  refine K_tableIn (tgt := 84) (dt_at dtX11_person 7 rfl) ⟨by decide, by decide⟩ (by decide) (by decide) rfl (by decide) ?_
  refine K_aload_n (dt_at dtX11_person 20 rfl) rfl rfl ?_
  refine K_get (a := 30) (ci := 11) (k := 2) (v := vr t) (dt_at dtX11_person 21 rfl) (by decide) rfl (by decide) wF_X11_20 (by show vr (hR h 30 2) = vr t; rw [c.2.1]) ?_
  refine K_get (a := t) (ci := 3) (k := 5) (v := vr (t + 6)) (dt_at dtX11_person 22 rfl) hH rfl (by decide) wF_X11_193 rfl ?_
  refine K_iload_n (dt_at dtX11_person 23 rfl) rfl rfl ?_
  refine K_iald (dt_at dtX11_person 24 rfl) (lay_3_5 hH) (by omega) (by omega) ?_
  rw [c.2.2.1.1.2.2.2.2]
  exact K_iret (dt_at dtX11_person 25 rfl) rfl rfl (by decide) (by decide) ⟨rfl, FS_rf G⟩
set_option maxHeartbeats 4000000 in
set_option maxRecDepth 100000 in
theorem sX11_person_3 {h : HP} {t : Nat} {S : HS} {B : Int} {f : Int → Int} {p : Int} (c : CQ h t S B f) (hp : 0 ≤ p ∧ p < sNp S) : SpecK mX11_person [vr 30, vi p, vi 3] h (fun o h' => o = .inl (some (vi (f (15 + p)))) ∧ FS h h') := by
  refine Spec_of (by decide +kernel) (Nat.le_of_ble_eq_true rfl) ?_
  have ht := c.1
  have hH := TTt ht
  have hB := c.2.2.2.1
  have hNt := hB.1
  have hNp := hB.2.1
  have hT := c.2.2.2.2.2.1
  have hC := c.2.2.2.2.2.2.1
  have h99 := c.2.2.2.2.2.2.2.1
  have G := c.2.2.2.2.2.2.2.2
  have hf0 := hT.2.2.2.1
  refine K_aload_n (dt_at dtX11_person 0 rfl) rfl rfl ?_
  refine K_iload_n (dt_at dtX11_person 1 rfl) rfl rfl ?_
  refine K_callV (M' := mX11_needPerson) (a := 30) (ci := 11) (As := [vi p]) (st := []) (dt_at dtX11_person 2 rfl) (sX11_needPerson hH c.2.1 c.2.2.1.2.1.2 hNp (by first | assumption | exact ⟨by omega, by omega⟩) (by omega)) (by decide) rfl wL_X11_184 vX11_needPerson rfl npX11_needPerson (by decide) (by decide) (Nat.le_of_ble_eq_true rfl) (by decide) (by decide) GK_E (fun v9 h9 hq => ?_) (fun E h9 hq => by cases hq.1)
  obtain ⟨e9, e8⟩ := hq
  cases e9
  rw [e8]
  show K mX11_person _ _ 1 6 5 [(0, vr 30), (1, vi p), (2, vi 3)] [] h
  refine K_iload_n (dt_at dtX11_person 3 rfl) rfl rfl ?_
  refine K_bipush (dt_at dtX11_person 4 rfl) (by decide) ?_
  refine K_callS (M' := mX11_needWhat) (As := [vi 3, vi 9]) (st := []) (dt_at dtX11_person 5 rfl) (sX11_needWhat (by first | assumption | exact ⟨by omega, by omega⟩) ⟨by decide, by decide⟩ (by omega)) wL_X11_133 vX11_needWhat rfl npX11_needWhat (by decide) (by decide) (Nat.le_of_ble_eq_true rfl) (by decide) (by decide) GK_E (fun v9 h9 hq => ?_) (fun E h9 hq => by cases hq.1)
  obtain ⟨e9, e8⟩ := hq
  cases e9
  rw [e8]
  show K mX11_person _ _ 2 12 11 [(0, vr 30), (1, vi p), (2, vi 3)] [] h
  refine K_iload_n (dt_at dtX11_person 6 rfl) rfl rfl ?_
  refine K_tableIn (tgt := 94) (dt_at dtX11_person 7 rfl) ⟨by decide, by decide⟩ (by decide) (by decide) rfl (by decide) ?_
  refine K_aload_n (dt_at dtX11_person 26 rfl) rfl rfl ?_
  refine K_get (a := 30) (ci := 11) (k := 5) (v := vr 66) (dt_at dtX11_person 27 rfl) (by decide) rfl (by decide) wF_X11_39 rfl ?_
  refine K_iload_n (dt_at dtX11_person 28 rfl) rfl rfl ?_
  refine K_callV (M' := mX8_fond) (a := 66) (ci := 8) (As := [vi p]) (st := []) (dt_at dtX11_person 29 rfl) (sX8_fond (a := 66) (by decide) ⟨by omega, by omega⟩) (show TT 66 = (0, 8) from rfl) rfl wL_X11_196 vX8_fond rfl npX8_fond (by decide) (by decide) (Nat.le_of_ble_eq_true rfl) (by decide) (by decide) GK_E (fun v9 h9 hq => ?_) (fun E h9 hq => by cases hq.1)
  obtain ⟨e9, e8⟩ := hq
  cases e9
  rw [e8]
  show K mX11_person _ _ 2 12 102 [(0, vr 30), (1, vi p), (2, vi 3)] [vi (hA h (66 + 1) (15 + p))] h
  rw [show hA h (66 + 1) = f from c.2.2.2.2.1]
  exact K_iret (dt_at dtX11_person 30 rfl) rfl rfl (by decide) (by decide) ⟨rfl, FS_rf G⟩
set_option maxHeartbeats 4000000 in
set_option maxRecDepth 100000 in
theorem sX11_person_4 {h : HP} {t : Nat} {S : HS} {B : Int} {f : Int → Int} {p : Int} (c : CQ h t S B f) (hp : 0 ≤ p ∧ p < sNp S) : SpecK mX11_person [vr 30, vi p, vi 4] h (fun o h' => o = .inl (some (vi (f (22 + p)))) ∧ FS h h') := by
  refine Spec_of (by decide +kernel) (Nat.le_of_ble_eq_true rfl) ?_
  have ht := c.1
  have hH := TTt ht
  have hB := c.2.2.2.1
  have hNt := hB.1
  have hNp := hB.2.1
  have hT := c.2.2.2.2.2.1
  have hC := c.2.2.2.2.2.2.1
  have h99 := c.2.2.2.2.2.2.2.1
  have G := c.2.2.2.2.2.2.2.2
  have hf0 := hT.2.2.2.1
  refine K_aload_n (dt_at dtX11_person 0 rfl) rfl rfl ?_
  refine K_iload_n (dt_at dtX11_person 1 rfl) rfl rfl ?_
  refine K_callV (M' := mX11_needPerson) (a := 30) (ci := 11) (As := [vi p]) (st := []) (dt_at dtX11_person 2 rfl) (sX11_needPerson hH c.2.1 c.2.2.1.2.1.2 hNp (by first | assumption | exact ⟨by omega, by omega⟩) (by omega)) (by decide) rfl wL_X11_184 vX11_needPerson rfl npX11_needPerson (by decide) (by decide) (Nat.le_of_ble_eq_true rfl) (by decide) (by decide) GK_E (fun v9 h9 hq => ?_) (fun E h9 hq => by cases hq.1)
  obtain ⟨e9, e8⟩ := hq
  cases e9
  rw [e8]
  show K mX11_person _ _ 1 6 5 [(0, vr 30), (1, vi p), (2, vi 4)] [] h
  refine K_iload_n (dt_at dtX11_person 3 rfl) rfl rfl ?_
  refine K_bipush (dt_at dtX11_person 4 rfl) (by decide) ?_
  refine K_callS (M' := mX11_needWhat) (As := [vi 4, vi 9]) (st := []) (dt_at dtX11_person 5 rfl) (sX11_needWhat (by first | assumption | exact ⟨by omega, by omega⟩) ⟨by decide, by decide⟩ (by omega)) wL_X11_133 vX11_needWhat rfl npX11_needWhat (by decide) (by decide) (Nat.le_of_ble_eq_true rfl) (by decide) (by decide) GK_E (fun v9 h9 hq => ?_) (fun E h9 hq => by cases hq.1)
  obtain ⟨e9, e8⟩ := hq
  cases e9
  rw [e8]
  show K mX11_person _ _ 2 12 11 [(0, vr 30), (1, vi p), (2, vi 4)] [] h
  refine K_iload_n (dt_at dtX11_person 6 rfl) rfl rfl ?_
  refine K_tableIn (tgt := 103) (dt_at dtX11_person 7 rfl) ⟨by decide, by decide⟩ (by decide) (by decide) rfl (by decide) ?_
  refine K_aload_n (dt_at dtX11_person 31 rfl) rfl rfl ?_
  refine K_get (a := 30) (ci := 11) (k := 5) (v := vr 66) (dt_at dtX11_person 32 rfl) (by decide) rfl (by decide) wF_X11_39 rfl ?_
  refine K_iload_n (dt_at dtX11_person 33 rfl) rfl rfl ?_
  refine K_callV (M' := mX8_packerOf) (a := 66) (ci := 8) (As := [vi p]) (st := []) (dt_at dtX11_person 34 rfl) (sX8_packerOf (a := 66) (by decide) ⟨by omega, by omega⟩) (show TT 66 = (0, 8) from rfl) rfl wL_X11_199 vX8_packerOf rfl npX8_packerOf (by decide) (by decide) (Nat.le_of_ble_eq_true rfl) (by decide) (by decide) GK_E (fun v9 h9 hq => ?_) (fun E h9 hq => by cases hq.1)
  obtain ⟨e9, e8⟩ := hq
  cases e9
  rw [e8]
  show K mX11_person _ _ 2 12 111 [(0, vr 30), (1, vi p), (2, vi 4)] [vi (hA h (66 + 1) (22 + p))] h
  rw [show hA h (66 + 1) = f from c.2.2.2.2.1]
  exact K_iret (dt_at dtX11_person 35 rfl) rfl rfl (by decide) (by decide) ⟨rfl, FS_rf G⟩
set_option maxHeartbeats 4000000 in
set_option maxRecDepth 100000 in
theorem sX11_person_5 {h : HP} {t : Nat} {S : HS} {B : Int} {f : Int → Int} {p : Int} (c : CQ h t S B f) (hp : 0 ≤ p ∧ p < sNp S) : SpecK mX11_person [vr 30, vi p, vi 5] h (fun o h' => o = .inl (some (vi (f (8 + p)))) ∧ FS h h') := by
  refine Spec_of (by decide +kernel) (Nat.le_of_ble_eq_true rfl) ?_
  have ht := c.1
  have hH := TTt ht
  have hB := c.2.2.2.1
  have hNt := hB.1
  have hNp := hB.2.1
  have hT := c.2.2.2.2.2.1
  have hC := c.2.2.2.2.2.2.1
  have h99 := c.2.2.2.2.2.2.2.1
  have G := c.2.2.2.2.2.2.2.2
  have hf0 := hT.2.2.2.1
  refine K_aload_n (dt_at dtX11_person 0 rfl) rfl rfl ?_
  refine K_iload_n (dt_at dtX11_person 1 rfl) rfl rfl ?_
  refine K_callV (M' := mX11_needPerson) (a := 30) (ci := 11) (As := [vi p]) (st := []) (dt_at dtX11_person 2 rfl) (sX11_needPerson hH c.2.1 c.2.2.1.2.1.2 hNp (by first | assumption | exact ⟨by omega, by omega⟩) (by omega)) (by decide) rfl wL_X11_184 vX11_needPerson rfl npX11_needPerson (by decide) (by decide) (Nat.le_of_ble_eq_true rfl) (by decide) (by decide) GK_E (fun v9 h9 hq => ?_) (fun E h9 hq => by cases hq.1)
  obtain ⟨e9, e8⟩ := hq
  cases e9
  rw [e8]
  show K mX11_person _ _ 1 6 5 [(0, vr 30), (1, vi p), (2, vi 5)] [] h
  refine K_iload_n (dt_at dtX11_person 3 rfl) rfl rfl ?_
  refine K_bipush (dt_at dtX11_person 4 rfl) (by decide) ?_
  refine K_callS (M' := mX11_needWhat) (As := [vi 5, vi 9]) (st := []) (dt_at dtX11_person 5 rfl) (sX11_needWhat (by first | assumption | exact ⟨by omega, by omega⟩) ⟨by decide, by decide⟩ (by omega)) wL_X11_133 vX11_needWhat rfl npX11_needWhat (by decide) (by decide) (Nat.le_of_ble_eq_true rfl) (by decide) (by decide) GK_E (fun v9 h9 hq => ?_) (fun E h9 hq => by cases hq.1)
  obtain ⟨e9, e8⟩ := hq
  cases e9
  rw [e8]
  show K mX11_person _ _ 2 12 11 [(0, vr 30), (1, vi p), (2, vi 5)] [] h
  refine K_iload_n (dt_at dtX11_person 6 rfl) rfl rfl ?_
  refine K_tableIn (tgt := 112) (dt_at dtX11_person 7 rfl) ⟨by decide, by decide⟩ (by decide) (by decide) rfl (by decide) ?_
  refine K_aload_n (dt_at dtX11_person 36 rfl) rfl rfl ?_
  refine K_get (a := 30) (ci := 11) (k := 5) (v := vr 66) (dt_at dtX11_person 37 rfl) (by decide) rfl (by decide) wF_X11_39 rfl ?_
  refine K_iload_n (dt_at dtX11_person 38 rfl) rfl rfl ?_
  refine K_callV (M' := mX8_caseOf) (a := 66) (ci := 8) (As := [vi p]) (st := []) (dt_at dtX11_person 39 rfl) (sX8_caseOf (a := 66) (by decide) ⟨by omega, by omega⟩) (show TT 66 = (0, 8) from rfl) rfl wL_X11_202 vX8_caseOf rfl npX8_caseOf (by decide) (by decide) (Nat.le_of_ble_eq_true rfl) (by decide) (by decide) GK_E (fun v9 h9 hq => ?_) (fun E h9 hq => by cases hq.1)
  obtain ⟨e9, e8⟩ := hq
  cases e9
  rw [e8]
  show K mX11_person _ _ 2 12 120 [(0, vr 30), (1, vi p), (2, vi 5)] [vi (hA h (66 + 1) (8 + p))] h
  rw [show hA h (66 + 1) = f from c.2.2.2.2.1]
  exact K_iret (dt_at dtX11_person 40 rfl) rfl rfl (by decide) (by decide) ⟨rfl, FS_rf G⟩
set_option maxHeartbeats 4000000 in
set_option maxRecDepth 100000 in
theorem sX11_person_6 {h : HP} {t : Nat} {S : HS} {B : Int} {f : Int → Int} {p : Int} (c : CQ h t S B f) (hp : 0 ≤ p ∧ p < sNp S) : SpecK mX11_person [vr 30, vi p, vi 6] h (fun o h' => o = .inl (some (vi (f (1 + p)))) ∧ FS h h') := by
  refine Spec_of (by decide +kernel) (Nat.le_of_ble_eq_true rfl) ?_
  have ht := c.1
  have hH := TTt ht
  have hB := c.2.2.2.1
  have hNt := hB.1
  have hNp := hB.2.1
  have hT := c.2.2.2.2.2.1
  have hC := c.2.2.2.2.2.2.1
  have h99 := c.2.2.2.2.2.2.2.1
  have G := c.2.2.2.2.2.2.2.2
  have hf0 := hT.2.2.2.1
  refine K_aload_n (dt_at dtX11_person 0 rfl) rfl rfl ?_
  refine K_iload_n (dt_at dtX11_person 1 rfl) rfl rfl ?_
  refine K_callV (M' := mX11_needPerson) (a := 30) (ci := 11) (As := [vi p]) (st := []) (dt_at dtX11_person 2 rfl) (sX11_needPerson hH c.2.1 c.2.2.1.2.1.2 hNp (by first | assumption | exact ⟨by omega, by omega⟩) (by omega)) (by decide) rfl wL_X11_184 vX11_needPerson rfl npX11_needPerson (by decide) (by decide) (Nat.le_of_ble_eq_true rfl) (by decide) (by decide) GK_E (fun v9 h9 hq => ?_) (fun E h9 hq => by cases hq.1)
  obtain ⟨e9, e8⟩ := hq
  cases e9
  rw [e8]
  show K mX11_person _ _ 1 6 5 [(0, vr 30), (1, vi p), (2, vi 6)] [] h
  refine K_iload_n (dt_at dtX11_person 3 rfl) rfl rfl ?_
  refine K_bipush (dt_at dtX11_person 4 rfl) (by decide) ?_
  refine K_callS (M' := mX11_needWhat) (As := [vi 6, vi 9]) (st := []) (dt_at dtX11_person 5 rfl) (sX11_needWhat (by first | assumption | exact ⟨by omega, by omega⟩) ⟨by decide, by decide⟩ (by omega)) wL_X11_133 vX11_needWhat rfl npX11_needWhat (by decide) (by decide) (Nat.le_of_ble_eq_true rfl) (by decide) (by decide) GK_E (fun v9 h9 hq => ?_) (fun E h9 hq => by cases hq.1)
  obtain ⟨e9, e8⟩ := hq
  cases e9
  rw [e8]
  show K mX11_person _ _ 2 12 11 [(0, vr 30), (1, vi p), (2, vi 6)] [] h
  refine K_iload_n (dt_at dtX11_person 6 rfl) rfl rfl ?_
  refine K_tableIn (tgt := 121) (dt_at dtX11_person 7 rfl) ⟨by decide, by decide⟩ (by decide) (by decide) rfl (by decide) ?_
  refine K_aload_n (dt_at dtX11_person 41 rfl) rfl rfl ?_
  refine K_get (a := 30) (ci := 11) (k := 5) (v := vr 66) (dt_at dtX11_person 42 rfl) (by decide) rfl (by decide) wF_X11_39 rfl ?_
  refine K_iload_n (dt_at dtX11_person 43 rfl) rfl rfl ?_
  refine K_callV (M' := mX8_out) (a := 66) (ci := 8) (As := [vi p]) (st := []) (dt_at dtX11_person 44 rfl) (sX8_out (a := 66) (by decide) ⟨by omega, by omega⟩) (show TT 66 = (0, 8) from rfl) rfl wL_X11_205 vX8_out rfl npX8_out (by decide) (by decide) (Nat.le_of_ble_eq_true rfl) (by decide) (by decide) GK_E (fun v9 h9 hq => ?_) (fun E h9 hq => by cases hq.1)
  obtain ⟨e9, e8⟩ := hq
  cases e9
  rw [e8]
  show K mX11_person _ _ 2 12 129 [(0, vr 30), (1, vi p), (2, vi 6)] [vi (hA h (66 + 1) (1 + p))] h
  rw [show hA h (66 + 1) = f from c.2.2.2.2.1]
  exact K_iret (dt_at dtX11_person 45 rfl) rfl rfl (by decide) (by decide) ⟨rfl, FS_rf G⟩
set_option maxHeartbeats 4000000 in
set_option maxRecDepth 100000 in
theorem sX11_person_7 {h : HP} {t : Nat} {S : HS} {B : Int} {f : Int → Int} {p : Int} (c : CQ h t S B f) (hp : 0 ≤ p ∧ p < sNp S) : SpecK mX11_person [vr 30, vi p, vi 7] h (fun o h' => o = .inl (some (vi (bitN (fun j => decide ((f (22 + (j : Int))) = p)) (sNp S)))) ∧ FS h h') := by
  refine Spec_of (by decide +kernel) (Nat.le_of_ble_eq_true rfl) ?_
  have ht := c.1
  have hH := TTt ht
  have hB := c.2.2.2.1
  have hNt := hB.1
  have hNp := hB.2.1
  have hT := c.2.2.2.2.2.1
  have hC := c.2.2.2.2.2.2.1
  have h99 := c.2.2.2.2.2.2.2.1
  have G := c.2.2.2.2.2.2.2.2
  have hf0 := hT.2.2.2.1
  refine K_aload_n (dt_at dtX11_person 0 rfl) rfl rfl ?_
  refine K_iload_n (dt_at dtX11_person 1 rfl) rfl rfl ?_
  refine K_callV (M' := mX11_needPerson) (a := 30) (ci := 11) (As := [vi p]) (st := []) (dt_at dtX11_person 2 rfl) (sX11_needPerson hH c.2.1 c.2.2.1.2.1.2 hNp (by first | assumption | exact ⟨by omega, by omega⟩) (by omega)) (by decide) rfl wL_X11_184 vX11_needPerson rfl npX11_needPerson (by decide) (by decide) (Nat.le_of_ble_eq_true rfl) (by decide) (by decide) GK_E (fun v9 h9 hq => ?_) (fun E h9 hq => by cases hq.1)
  obtain ⟨e9, e8⟩ := hq
  cases e9
  rw [e8]
  show K mX11_person _ _ 1 6 5 [(0, vr 30), (1, vi p), (2, vi 7)] [] h
  refine K_iload_n (dt_at dtX11_person 3 rfl) rfl rfl ?_
  refine K_bipush (dt_at dtX11_person 4 rfl) (by decide) ?_
  refine K_callS (M' := mX11_needWhat) (As := [vi 7, vi 9]) (st := []) (dt_at dtX11_person 5 rfl) (sX11_needWhat (by first | assumption | exact ⟨by omega, by omega⟩) ⟨by decide, by decide⟩ (by omega)) wL_X11_133 vX11_needWhat rfl npX11_needWhat (by decide) (by decide) (Nat.le_of_ble_eq_true rfl) (by decide) (by decide) GK_E (fun v9 h9 hq => ?_) (fun E h9 hq => by cases hq.1)
  obtain ⟨e9, e8⟩ := hq
  cases e9
  rw [e8]
  show K mX11_person _ _ 2 12 11 [(0, vr 30), (1, vi p), (2, vi 7)] [] h
  refine K_iload_n (dt_at dtX11_person 6 rfl) rfl rfl ?_
  refine K_tableIn (tgt := 130) (dt_at dtX11_person 7 rfl) ⟨by decide, by decide⟩ (by decide) (by decide) rfl (by decide) ?_
  refine K_aload_n (dt_at dtX11_person 46 rfl) rfl rfl ?_
  refine K_get (a := 30) (ci := 11) (k := 5) (v := vr 66) (dt_at dtX11_person 47 rfl) (by decide) rfl (by decide) wF_X11_39 rfl ?_
  refine K_iload_n (dt_at dtX11_person 48 rfl) rfl rfl ?_
  refine K_aload_n (dt_at dtX11_person 49 rfl) rfl rfl ?_
  refine K_get (a := 30) (ci := 11) (k := 2) (v := vr t) (dt_at dtX11_person 50 rfl) (by decide) rfl (by decide) wF_X11_20 (by show vr (hR h 30 2) = vr t; rw [c.2.1]) ?_
  refine K_get (a := t) (ci := 3) (k := 11) (v := vi (sNp S : Int)) (dt_at dtX11_person 51 rfl) hH rfl (by decide) wF_X11_140 (by show vi (hI h t 11) = vi (sNp S : Int); rw [c.2.2.1.2.1.2]) ?_
  refine K_callV (M' := mX8_packsFor) (a := 66) (ci := 8) (As := [vi p, vi (sNp S : Int)]) (st := []) (dt_at dtX11_person 52 rfl) (sX8_packsFor (n := sNp S) (a := 66) (by decide) (by rw [show hA h (66 + 1) = f from c.2.2.2.2.1]; exact hT.1) hNp (by first | assumption | exact ⟨by omega, by omega⟩)) (show TT 66 = (0, 8) from rfl) rfl wL_X11_208 vX8_packsFor rfl npX8_packsFor (by decide) (by decide) (Nat.le_of_ble_eq_true rfl) (by decide) (by decide) GK_E (fun v9 h9 hq => ?_) (fun E h9 hq => by cases hq.1)
  obtain ⟨e9, e8⟩ := hq
  cases e9
  rw [e8]
  show K mX11_person _ _ 2 12 145 [(0, vr 30), (1, vi p), (2, vi 7)] [vi (bitN (fun j => decide ((hA h (66 + 1) (22 + (j : Int))) = p)) (sNp S))] h
  rw [show hA h (66 + 1) = f from c.2.2.2.2.1]
  exact K_iret (dt_at dtX11_person 53 rfl) rfl rfl (by decide) (by decide) ⟨rfl, FS_rf G⟩
set_option maxHeartbeats 4000000 in
set_option maxRecDepth 100000 in
theorem sX11_person_8 {h : HP} {t : Nat} {S : HS} {B : Int} {f : Int → Int} {p : Int} (c : CQ h t S B f) (hp : 0 ≤ p ∧ p < sNp S) : SpecK mX11_person [vr 30, vi p, vi 8] h (fun o h' => o = .inl (some (vi (ringF f p (sNp S) (f (22 + p)) 0))) ∧ FS h h') := by
  refine Spec_of (by decide +kernel) (Nat.le_of_ble_eq_true rfl) ?_
  have ht := c.1
  have hH := TTt ht
  have hB := c.2.2.2.1
  have hNt := hB.1
  have hNp := hB.2.1
  have hT := c.2.2.2.2.2.1
  have hC := c.2.2.2.2.2.2.1
  have h99 := c.2.2.2.2.2.2.2.1
  have G := c.2.2.2.2.2.2.2.2
  have hf0 := hT.2.2.2.1
  refine K_aload_n (dt_at dtX11_person 0 rfl) rfl rfl ?_
  refine K_iload_n (dt_at dtX11_person 1 rfl) rfl rfl ?_
  refine K_callV (M' := mX11_needPerson) (a := 30) (ci := 11) (As := [vi p]) (st := []) (dt_at dtX11_person 2 rfl) (sX11_needPerson hH c.2.1 c.2.2.1.2.1.2 hNp (by first | assumption | exact ⟨by omega, by omega⟩) (by omega)) (by decide) rfl wL_X11_184 vX11_needPerson rfl npX11_needPerson (by decide) (by decide) (Nat.le_of_ble_eq_true rfl) (by decide) (by decide) GK_E (fun v9 h9 hq => ?_) (fun E h9 hq => by cases hq.1)
  obtain ⟨e9, e8⟩ := hq
  cases e9
  rw [e8]
  show K mX11_person _ _ 1 6 5 [(0, vr 30), (1, vi p), (2, vi 8)] [] h
  refine K_iload_n (dt_at dtX11_person 3 rfl) rfl rfl ?_
  refine K_bipush (dt_at dtX11_person 4 rfl) (by decide) ?_
  refine K_callS (M' := mX11_needWhat) (As := [vi 8, vi 9]) (st := []) (dt_at dtX11_person 5 rfl) (sX11_needWhat (by first | assumption | exact ⟨by omega, by omega⟩) ⟨by decide, by decide⟩ (by omega)) wL_X11_133 vX11_needWhat rfl npX11_needWhat (by decide) (by decide) (Nat.le_of_ble_eq_true rfl) (by decide) (by decide) GK_E (fun v9 h9 hq => ?_) (fun E h9 hq => by cases hq.1)
  obtain ⟨e9, e8⟩ := hq
  cases e9
  rw [e8]
  show K mX11_person _ _ 2 12 11 [(0, vr 30), (1, vi p), (2, vi 8)] [] h
  refine K_iload_n (dt_at dtX11_person 6 rfl) rfl rfl ?_
  refine K_tableIn (tgt := 146) (dt_at dtX11_person 7 rfl) ⟨by decide, by decide⟩ (by decide) (by decide) rfl (by decide) ?_
  refine K_aload_n (dt_at dtX11_person 54 rfl) rfl rfl ?_
  refine K_get (a := 30) (ci := 11) (k := 5) (v := vr 66) (dt_at dtX11_person 55 rfl) (by decide) rfl (by decide) wF_X11_39 rfl ?_
  refine K_iload_n (dt_at dtX11_person 56 rfl) rfl rfl ?_
  refine K_aload_n (dt_at dtX11_person 57 rfl) rfl rfl ?_
  refine K_get (a := 30) (ci := 11) (k := 2) (v := vr t) (dt_at dtX11_person 58 rfl) (by decide) rfl (by decide) wF_X11_20 (by show vr (hR h 30 2) = vr t; rw [c.2.1]) ?_
  refine K_get (a := t) (ci := 3) (k := 11) (v := vi (sNp S : Int)) (dt_at dtX11_person 59 rfl) hH rfl (by decide) wF_X11_140 (by show vi (hI h t 11) = vi (sNp S : Int); rw [c.2.2.1.2.1.2]) ?_
  refine K_callV (M' := mX8_ring) (a := 66) (ci := 8) (As := [vi p, vi (sNp S : Int)]) (st := []) (dt_at dtX11_person 60 rfl) (sX8_ring (n := sNp S) (a := 66) (by decide) (by rw [show hA h (66 + 1) = f from c.2.2.2.2.1]; exact hT.1) hNp (by first | assumption | exact ⟨by omega, by omega⟩)) (show TT 66 = (0, 8) from rfl) rfl wL_X11_212 vX8_ring rfl npX8_ring (by decide) (by decide) (Nat.le_of_ble_eq_true rfl) (by decide) (by decide) GK_E (fun v9 h9 hq => ?_) (fun E h9 hq => by cases hq.1)
  obtain ⟨e9, e8⟩ := hq
  cases e9
  rw [e8]
  show K mX11_person _ _ 2 12 161 [(0, vr 30), (1, vi p), (2, vi 8)] [vi (ringF (hA h (66 + 1)) p (sNp S) (hA h (66 + 1) (22 + p)) 0)] h
  rw [show hA h (66 + 1) = f from c.2.2.2.2.1]
  exact K_iret (dt_at dtX11_person 61 rfl) rfl rfl (by decide) (by decide) ⟨rfl, FS_rf G⟩
set_option maxHeartbeats 4000000 in
set_option maxRecDepth 100000 in
theorem sX11_person_9 {h : HP} {t : Nat} {S : HS} {B : Int} {f : Int → Int} {p : Int} (c : CQ h t S B f) (hp : 0 ≤ p ∧ p < sNp S) : SpecK mX11_person [vr 30, vi p, vi 9] h (fun o h' => o = .inl (some (vi (chainF f (sNp S) (f (22 + p)) 0))) ∧ FS h h') := by
  refine Spec_of (by decide +kernel) (Nat.le_of_ble_eq_true rfl) ?_
  have ht := c.1
  have hH := TTt ht
  have hB := c.2.2.2.1
  have hNt := hB.1
  have hNp := hB.2.1
  have hT := c.2.2.2.2.2.1
  have hC := c.2.2.2.2.2.2.1
  have h99 := c.2.2.2.2.2.2.2.1
  have G := c.2.2.2.2.2.2.2.2
  have hf0 := hT.2.2.2.1
  refine K_aload_n (dt_at dtX11_person 0 rfl) rfl rfl ?_
  refine K_iload_n (dt_at dtX11_person 1 rfl) rfl rfl ?_
  refine K_callV (M' := mX11_needPerson) (a := 30) (ci := 11) (As := [vi p]) (st := []) (dt_at dtX11_person 2 rfl) (sX11_needPerson hH c.2.1 c.2.2.1.2.1.2 hNp (by first | assumption | exact ⟨by omega, by omega⟩) (by omega)) (by decide) rfl wL_X11_184 vX11_needPerson rfl npX11_needPerson (by decide) (by decide) (Nat.le_of_ble_eq_true rfl) (by decide) (by decide) GK_E (fun v9 h9 hq => ?_) (fun E h9 hq => by cases hq.1)
  obtain ⟨e9, e8⟩ := hq
  cases e9
  rw [e8]
  show K mX11_person _ _ 1 6 5 [(0, vr 30), (1, vi p), (2, vi 9)] [] h
  refine K_iload_n (dt_at dtX11_person 3 rfl) rfl rfl ?_
  refine K_bipush (dt_at dtX11_person 4 rfl) (by decide) ?_
  refine K_callS (M' := mX11_needWhat) (As := [vi 9, vi 9]) (st := []) (dt_at dtX11_person 5 rfl) (sX11_needWhat (by first | assumption | exact ⟨by omega, by omega⟩) ⟨by decide, by decide⟩ (by omega)) wL_X11_133 vX11_needWhat rfl npX11_needWhat (by decide) (by decide) (Nat.le_of_ble_eq_true rfl) (by decide) (by decide) GK_E (fun v9 h9 hq => ?_) (fun E h9 hq => by cases hq.1)
  obtain ⟨e9, e8⟩ := hq
  cases e9
  rw [e8]
  show K mX11_person _ _ 2 12 11 [(0, vr 30), (1, vi p), (2, vi 9)] [] h
  refine K_iload_n (dt_at dtX11_person 6 rfl) rfl rfl ?_
  refine K_tableOut (tgt := 162) (dt_at dtX11_person 7 rfl) ⟨by decide, by decide⟩ (by decide) (by decide) ?_
  refine K_aload_n (dt_at dtX11_person 62 rfl) rfl rfl ?_
  refine K_get (a := 30) (ci := 11) (k := 5) (v := vr 66) (dt_at dtX11_person 63 rfl) (by decide) rfl (by decide) wF_X11_39 rfl ?_
  refine K_iload_n (dt_at dtX11_person 64 rfl) rfl rfl ?_
  refine K_aload_n (dt_at dtX11_person 65 rfl) rfl rfl ?_
  refine K_get (a := 30) (ci := 11) (k := 2) (v := vr t) (dt_at dtX11_person 66 rfl) (by decide) rfl (by decide) wF_X11_20 (by show vr (hR h 30 2) = vr t; rw [c.2.1]) ?_
  refine K_get (a := t) (ci := 3) (k := 11) (v := vi (sNp S : Int)) (dt_at dtX11_person 67 rfl) hH rfl (by decide) wF_X11_140 (by show vi (hI h t 11) = vi (sNp S : Int); rw [c.2.2.1.2.1.2]) ?_
  refine K_callV (M' := mX8_chain) (a := 66) (ci := 8) (As := [vi p, vi (sNp S : Int)]) (st := []) (dt_at dtX11_person 68 rfl) (sX8_chain (n := sNp S) (a := 66) (by decide) (by rw [show hA h (66 + 1) = f from c.2.2.2.2.1]; exact hT.1) hNp (by first | assumption | exact ⟨by omega, by omega⟩)) (show TT 66 = (0, 8) from rfl) rfl wL_X11_215 vX8_chain rfl npX8_chain (by decide) (by decide) (Nat.le_of_ble_eq_true rfl) (by decide) (by decide) GK_E (fun v9 h9 hq => ?_) (fun E h9 hq => by cases hq.1)
  obtain ⟨e9, e8⟩ := hq
  cases e9
  rw [e8]
  show K mX11_person _ _ 2 12 177 [(0, vr 30), (1, vi p), (2, vi 9)] [vi (chainF (hA h (66 + 1)) (sNp S) (hA h (66 + 1) (22 + p)) 0)] h
  rw [show hA h (66 + 1) = f from c.2.2.2.2.1]
  exact K_iret (dt_at dtX11_person 69 rfl) rfl rfl (by decide) (by decide) ⟨rfl, FS_rf G⟩
def mX11_in : MI := (yX11_in, cX11_in, 3, (some .int), rmK 8 2)
def tX11_in : List (Nat × Instr × Nat) := [(0, .aload_n 0, 1), (1, .iload_n 1, 1), (2, .invokevirtual 184, 3), (5, .aload_n 0, 1), (6, .iload_n 2, 1), (7, .invokevirtual 172, 3), (10, .aload_n 0, 1), (11, .getfield 39, 3), (14, .iload_n 1, 1), (15, .iload_n 2, 1), (16, .invokevirtual 218, 3), (19, .ireturn, 1)]
theorem dtX11_in : tX11_in.all (fun q => decide (decode cX11_in q.1 = .ok (q.2.1, q.2.2))) = true := by decide +kernel
theorem npX11_in : (parseMethodDescriptor (mY mX11_in).desc).map (fun d => d.parameters.length) = some 2 := by decide +kernel
theorem vX11_in : mV mX11_in := ⟨wI_X11_in, wS_X11_in, wN_X11, wC_X11_in, by decide +kernel, by decide +kernel⟩
set_option maxHeartbeats 4000000 in
set_option maxRecDepth 100000 in
theorem sX11_in_x1 {h : HP} {t : Nat} {S : HS} {B : Int} {f : Int → Int} {p : Int} {q : Int} (c : CQ h t S B f) (hp : i32 p) (hq : i32 q) (kn : ¬ (0 ≤ p ∧ p < sNp S)) : SpecK mX11_in [vr 30, vi p, vi q] h (fun o h' => o = .inr eNS ∧ FS h h') := by
  refine Spec_of (by decide +kernel) (Nat.le_of_ble_eq_true rfl) ?_
  have ht := c.1
  have hH := TTt ht
  have hB := c.2.2.2.1
  have hNt := hB.1
  have hNp := hB.2.1
  have hT := c.2.2.2.2.2.1
  have hC := c.2.2.2.2.2.2.1
  have h99 := c.2.2.2.2.2.2.2.1
  have G := c.2.2.2.2.2.2.2.2
  have hf0 := hT.2.2.2.1
  refine K_aload_n (dt_at dtX11_in 0 rfl) rfl rfl ?_
  refine K_iload_n (dt_at dtX11_in 1 rfl) rfl rfl ?_
  exact K_callV (M' := mX11_needPerson) (a := 30) (ci := 11) (As := [vi p]) (st := []) (dt_at dtX11_in 2 rfl) (sX11_needPerson_no hH c.2.1 c.2.2.1.2.1.2 hNp (by assumption) (by omega)) (by decide) rfl wL_X11_184 vX11_needPerson rfl npX11_needPerson (by decide) (by decide) (Nat.le_of_ble_eq_true rfl) (by decide) (by decide) GK_E (fun v9 h9 hq => by cases hq.1) (fun E h9 hq => by obtain ⟨e9, e8⟩ := hq; cases e9; rw [e8]; exact KX_out (by decide) (by decide) ⟨rfl, FS_rf G⟩)
set_option maxHeartbeats 4000000 in
set_option maxRecDepth 100000 in
theorem sX11_in_x2 {h : HP} {t : Nat} {S : HS} {B : Int} {f : Int → Int} {p : Int} {q : Int} (c : CQ h t S B f) (hp : i32 p) (hq : i32 q) (k0 : 0 ≤ p ∧ p < sNp S) (kn : ¬ (0 ≤ q ∧ q < sNt S)) : SpecK mX11_in [vr 30, vi p, vi q] h (fun o h' => o = .inr eNS ∧ FS h h') := by
  refine Spec_of (by decide +kernel) (Nat.le_of_ble_eq_true rfl) ?_
  have ht := c.1
  have hH := TTt ht
  have hB := c.2.2.2.1
  have hNt := hB.1
  have hNp := hB.2.1
  have hT := c.2.2.2.2.2.1
  have hC := c.2.2.2.2.2.2.1
  have h99 := c.2.2.2.2.2.2.2.1
  have G := c.2.2.2.2.2.2.2.2
  have hf0 := hT.2.2.2.1
  refine K_aload_n (dt_at dtX11_in 0 rfl) rfl rfl ?_
  refine K_iload_n (dt_at dtX11_in 1 rfl) rfl rfl ?_
  refine K_callV (M' := mX11_needPerson) (a := 30) (ci := 11) (As := [vi p]) (st := []) (dt_at dtX11_in 2 rfl) (sX11_needPerson hH c.2.1 c.2.2.1.2.1.2 hNp (by first | assumption | exact ⟨by omega, by omega⟩) (by omega)) (by decide) rfl wL_X11_184 vX11_needPerson rfl npX11_needPerson (by decide) (by decide) (Nat.le_of_ble_eq_true rfl) (by decide) (by decide) GK_E (fun v9 h9 hq => ?_) (fun E h9 hq => by cases hq.1)
  obtain ⟨e9, e8⟩ := hq
  cases e9
  rw [e8]
  show K mX11_in _ _ 1 6 5 [(0, vr 30), (1, vi p), (2, vi q)] [] h
  refine K_aload_n (dt_at dtX11_in 3 rfl) rfl rfl ?_
  refine K_iload_n (dt_at dtX11_in 4 rfl) rfl rfl ?_
  exact K_callV (M' := mX11_needThing) (a := 30) (ci := 11) (As := [vi q]) (st := []) (dt_at dtX11_in 5 rfl) (sX11_needThing_no hH c.2.1 c.2.2.1.2.1.1 hNt (by assumption) (by omega)) (by decide) rfl wL_X11_172 vX11_needThing rfl npX11_needThing (by decide) (by decide) (Nat.le_of_ble_eq_true rfl) (by decide) (by decide) GK_E (fun v9 h9 hq => by cases hq.1) (fun E h9 hq => by obtain ⟨e9, e8⟩ := hq; cases e9; rw [e8]; exact KX_out (by decide) (by decide) ⟨rfl, FS_rf G⟩)
set_option maxHeartbeats 4000000 in
set_option maxRecDepth 100000 in
theorem sX11_in {h : HP} {t : Nat} {S : HS} {B : Int} {f : Int → Int} {p q : Int} (c : CQ h t S B f) (hp : 0 ≤ p ∧ p < sNp S) (hqt : 0 ≤ q ∧ q < sNt S) : SpecK mX11_in [vr 30, vi p, vi q] h (fun o h' => o = .inl (some (vi (f (35 + f (8 + p) * 6 + q)))) ∧ FS h h') := by
  refine Spec_of (by decide +kernel) (Nat.le_of_ble_eq_true rfl) ?_
  have ht := c.1
  have hH := TTt ht
  have hB := c.2.2.2.1
  have hNt := hB.1
  have hNp := hB.2.1
  have hT := c.2.2.2.2.2.1
  have hC := c.2.2.2.2.2.2.1
  have h99 := c.2.2.2.2.2.2.2.1
  have G := c.2.2.2.2.2.2.2.2
  have hf0 := hT.2.2.2.1
  refine K_aload_n (dt_at dtX11_in 0 rfl) rfl rfl ?_
  refine K_iload_n (dt_at dtX11_in 1 rfl) rfl rfl ?_
  refine K_callV (M' := mX11_needPerson) (a := 30) (ci := 11) (As := [vi p]) (st := []) (dt_at dtX11_in 2 rfl) (sX11_needPerson hH c.2.1 c.2.2.1.2.1.2 hNp (by first | assumption | exact ⟨by omega, by omega⟩) (by omega)) (by decide) rfl wL_X11_184 vX11_needPerson rfl npX11_needPerson (by decide) (by decide) (Nat.le_of_ble_eq_true rfl) (by decide) (by decide) GK_E (fun v9 h9 hq => ?_) (fun E h9 hq => by cases hq.1)
  obtain ⟨e9, e8⟩ := hq
  cases e9
  rw [e8]
  show K mX11_in _ _ 1 6 5 [(0, vr 30), (1, vi p), (2, vi q)] [] h
  refine K_aload_n (dt_at dtX11_in 3 rfl) rfl rfl ?_
  refine K_iload_n (dt_at dtX11_in 4 rfl) rfl rfl ?_
  refine K_callV (M' := mX11_needThing) (a := 30) (ci := 11) (As := [vi q]) (st := []) (dt_at dtX11_in 5 rfl) (sX11_needThing hH c.2.1 c.2.2.1.2.1.1 hNt (by first | assumption | exact ⟨by omega, by omega⟩) (by omega)) (by decide) rfl wL_X11_172 vX11_needThing rfl npX11_needThing (by decide) (by decide) (Nat.le_of_ble_eq_true rfl) (by decide) (by decide) GK_E (fun v9 h9 hq => ?_) (fun E h9 hq => by cases hq.1)
  obtain ⟨e9, e8⟩ := hq
  cases e9
  rw [e8]
  show K mX11_in _ _ 2 12 10 [(0, vr 30), (1, vi p), (2, vi q)] [] h
  refine K_aload_n (dt_at dtX11_in 6 rfl) rfl rfl ?_
  refine K_get (a := 30) (ci := 11) (k := 5) (v := vr 66) (dt_at dtX11_in 7 rfl) (by decide) rfl (by decide) wF_X11_39 rfl ?_
  refine K_iload_n (dt_at dtX11_in 8 rfl) rfl rfl ?_
  refine K_iload_n (dt_at dtX11_in 9 rfl) rfl rfl ?_
  refine K_callV (M' := mX8_pieces) (a := 66) (ci := 8) (As := [vi p, vi q]) (st := []) (dt_at dtX11_in 10 rfl) (sX8_pieces (a := 66) (by decide) ⟨by omega, by omega⟩ ⟨by omega, by omega⟩ (by rw [show hA h (66 + 1) = f from c.2.2.2.2.1]; exact (hT.1.2 p (by omega) (by omega)).2.1)) (show TT 66 = (0, 8) from rfl) rfl wL_X11_218 vX8_pieces rfl npX8_pieces (by decide) (by decide) (Nat.le_of_ble_eq_true rfl) (by decide) (by decide) GK_E (fun v9 h9 hq => ?_) (fun E h9 hq => by cases hq.1)
  obtain ⟨e9, e8⟩ := hq
  cases e9
  rw [e8]
  show K mX11_in _ _ 2 12 19 [(0, vr 30), (1, vi p), (2, vi q)] [vi (hA h (66 + 1) (35 + (hA h (66 + 1) (8 + p)) * 6 + q))] h
  rw [show hA h (66 + 1) = f from c.2.2.2.2.1]
  exact K_iret (dt_at dtX11_in 11 rfl) rfl rfl (by decide) (by decide) ⟨rfl, FS_rf G⟩
def mX11_near : MI := (yX11_near, cX11_near, 3, (some .int), rmK 8 2)
def tX11_near : List (Nat × Instr × Nat) := [(0, .aload_n 0, 1), (1, .iload_n 1, 1), (2, .invokevirtual 184, 3), (5, .iload_n 2, 1), (6, .iconst 1, 1), (7, .invokestatic 133, 3), (10, .iload_n 2, 1), (11, .ifCond .ne 21, 3), (14, .aload_n 0, 1), (15, .getfield 39, 3), (18, .iload_n 1, 1), (19, .aload_n 0, 1), (20, .getfield 20, 3), (23, .getfield 140, 3), (26, .invokevirtual 221, 3), (29, .goto 18, 3), (32, .aload_n 0, 1), (33, .getfield 39, 3), (36, .iload_n 1, 1), (37, .aload_n 0, 1), (38, .getfield 20, 3), (41, .getfield 140, 3), (44, .invokevirtual 224, 3), (47, .ireturn, 1)]
theorem dtX11_near : tX11_near.all (fun q => decide (decode cX11_near q.1 = .ok (q.2.1, q.2.2))) = true := by decide +kernel
theorem npX11_near : (parseMethodDescriptor (mY mX11_near).desc).map (fun d => d.parameters.length) = some 2 := by decide +kernel
theorem vX11_near : mV mX11_near := ⟨wI_X11_near, wS_X11_near, wN_X11, wC_X11_near, by decide +kernel, by decide +kernel⟩
set_option maxHeartbeats 4000000 in
set_option maxRecDepth 100000 in
theorem sX11_near_x1 {h : HP} {t : Nat} {S : HS} {B : Int} {f : Int → Int} {p : Int} {w : Int} (c : CQ h t S B f) (hp : i32 p) (hw : i32 w) (kn : ¬ (0 ≤ p ∧ p < sNp S)) : SpecK mX11_near [vr 30, vi p, vi w] h (fun o h' => o = .inr eNS ∧ FS h h') := by
  refine Spec_of (by decide +kernel) (Nat.le_of_ble_eq_true rfl) ?_
  have ht := c.1
  have hH := TTt ht
  have hB := c.2.2.2.1
  have hNt := hB.1
  have hNp := hB.2.1
  have hT := c.2.2.2.2.2.1
  have hC := c.2.2.2.2.2.2.1
  have h99 := c.2.2.2.2.2.2.2.1
  have G := c.2.2.2.2.2.2.2.2
  have hf0 := hT.2.2.2.1
  refine K_aload_n (dt_at dtX11_near 0 rfl) rfl rfl ?_
  refine K_iload_n (dt_at dtX11_near 1 rfl) rfl rfl ?_
  exact K_callV (M' := mX11_needPerson) (a := 30) (ci := 11) (As := [vi p]) (st := []) (dt_at dtX11_near 2 rfl) (sX11_needPerson_no hH c.2.1 c.2.2.1.2.1.2 hNp (by assumption) (by omega)) (by decide) rfl wL_X11_184 vX11_needPerson rfl npX11_needPerson (by decide) (by decide) (Nat.le_of_ble_eq_true rfl) (by decide) (by decide) GK_E (fun v9 h9 hq => by cases hq.1) (fun E h9 hq => by obtain ⟨e9, e8⟩ := hq; cases e9; rw [e8]; exact KX_out (by decide) (by decide) ⟨rfl, FS_rf G⟩)
set_option maxHeartbeats 4000000 in
set_option maxRecDepth 100000 in
theorem sX11_near_x2 {h : HP} {t : Nat} {S : HS} {B : Int} {f : Int → Int} {p : Int} {w : Int} (c : CQ h t S B f) (hp : i32 p) (hw : i32 w) (k0 : 0 ≤ p ∧ p < sNp S) (kn : ¬ (0 ≤ w ∧ w ≤ 1)) : SpecK mX11_near [vr 30, vi p, vi w] h (fun o h' => o = .inr eNS ∧ FS h h') := by
  refine Spec_of (by decide +kernel) (Nat.le_of_ble_eq_true rfl) ?_
  have ht := c.1
  have hH := TTt ht
  have hB := c.2.2.2.1
  have hNt := hB.1
  have hNp := hB.2.1
  have hT := c.2.2.2.2.2.1
  have hC := c.2.2.2.2.2.2.1
  have h99 := c.2.2.2.2.2.2.2.1
  have G := c.2.2.2.2.2.2.2.2
  have hf0 := hT.2.2.2.1
  refine K_aload_n (dt_at dtX11_near 0 rfl) rfl rfl ?_
  refine K_iload_n (dt_at dtX11_near 1 rfl) rfl rfl ?_
  refine K_callV (M' := mX11_needPerson) (a := 30) (ci := 11) (As := [vi p]) (st := []) (dt_at dtX11_near 2 rfl) (sX11_needPerson hH c.2.1 c.2.2.1.2.1.2 hNp (by first | assumption | exact ⟨by omega, by omega⟩) (by omega)) (by decide) rfl wL_X11_184 vX11_needPerson rfl npX11_needPerson (by decide) (by decide) (Nat.le_of_ble_eq_true rfl) (by decide) (by decide) GK_E (fun v9 h9 hq => ?_) (fun E h9 hq => by cases hq.1)
  obtain ⟨e9, e8⟩ := hq
  cases e9
  rw [e8]
  show K mX11_near _ _ 1 6 5 [(0, vr 30), (1, vi p), (2, vi w)] [] h
  refine K_iload_n (dt_at dtX11_near 3 rfl) rfl rfl ?_
  refine K_iconst (dt_at dtX11_near 4 rfl) ?_
  exact K_callS (M' := mX11_needWhat) (As := [vi w, vi 1]) (st := []) (dt_at dtX11_near 5 rfl) (sX11_needWhat_no (by assumption) ⟨by decide, by decide⟩ (by omega)) wL_X11_133 vX11_needWhat rfl npX11_needWhat (by decide) (by decide) (Nat.le_of_ble_eq_true rfl) (by decide) (by decide) GK_E (fun v9 h9 hq => by cases hq.1) (fun E h9 hq => by obtain ⟨e9, e8⟩ := hq; cases e9; rw [e8]; exact KX_out (by decide) (by decide) ⟨rfl, FS_rf G⟩)
set_option maxHeartbeats 4000000 in
set_option maxRecDepth 100000 in
theorem sX11_near_0 {h : HP} {t : Nat} {S : HS} {B : Int} {f : Int → Int} {p : Int} (c : CQ h t S B f) (hp : 0 ≤ p ∧ p < sNp S) : SpecK mX11_near [vr 30, vi p, vi 0] h (fun o h' => o = .inl (some (vi (selN (fun j v => decide ((f (22 + (j : Int))) = p) && (decide (v = -1) || decide ((f (15 + v)) < (f (15 + (j : Int)))))) (sNp S)))) ∧ FS h h') := by
  refine Spec_of (by decide +kernel) (Nat.le_of_ble_eq_true rfl) ?_
  have ht := c.1
  have hH := TTt ht
  have hB := c.2.2.2.1
  have hNt := hB.1
  have hNp := hB.2.1
  have hT := c.2.2.2.2.2.1
  have hC := c.2.2.2.2.2.2.1
  have h99 := c.2.2.2.2.2.2.2.1
  have G := c.2.2.2.2.2.2.2.2
  have hf0 := hT.2.2.2.1
  refine K_aload_n (dt_at dtX11_near 0 rfl) rfl rfl ?_
  refine K_iload_n (dt_at dtX11_near 1 rfl) rfl rfl ?_
  refine K_callV (M' := mX11_needPerson) (a := 30) (ci := 11) (As := [vi p]) (st := []) (dt_at dtX11_near 2 rfl) (sX11_needPerson hH c.2.1 c.2.2.1.2.1.2 hNp (by first | assumption | exact ⟨by omega, by omega⟩) (by omega)) (by decide) rfl wL_X11_184 vX11_needPerson rfl npX11_needPerson (by decide) (by decide) (Nat.le_of_ble_eq_true rfl) (by decide) (by decide) GK_E (fun v9 h9 hq => ?_) (fun E h9 hq => by cases hq.1)
  obtain ⟨e9, e8⟩ := hq
  cases e9
  rw [e8]
  show K mX11_near _ _ 1 6 5 [(0, vr 30), (1, vi p), (2, vi 0)] [] h
  refine K_iload_n (dt_at dtX11_near 3 rfl) rfl rfl ?_
  refine K_iconst (dt_at dtX11_near 4 rfl) ?_
  refine K_callS (M' := mX11_needWhat) (As := [vi 0, vi 1]) (st := []) (dt_at dtX11_near 5 rfl) (sX11_needWhat (by first | assumption | exact ⟨by omega, by omega⟩) ⟨by decide, by decide⟩ (by omega)) wL_X11_133 vX11_needWhat rfl npX11_needWhat (by decide) (by decide) (Nat.le_of_ble_eq_true rfl) (by decide) (by decide) GK_E (fun v9 h9 hq => ?_) (fun E h9 hq => by cases hq.1)
  obtain ⟨e9, e8⟩ := hq
  cases e9
  rw [e8]
  show K mX11_near _ _ 2 12 10 [(0, vr 30), (1, vi p), (2, vi 0)] [] h
  refine K_iload_n (dt_at dtX11_near 6 rfl) rfl rfl ?_
  refine K_if_ne (tgt := 32) (dt_at dtX11_near 7 rfl) (by decide) (by first | assumption | exact ⟨by omega, by omega⟩) (fun c1 => absurd c1 (by omega)) (fun c1 => ?_)
  refine K_aload_n (dt_at dtX11_near 8 rfl) rfl rfl ?_
  refine K_get (a := 30) (ci := 11) (k := 5) (v := vr 66) (dt_at dtX11_near 9 rfl) (by decide) rfl (by decide) wF_X11_39 rfl ?_
  refine K_iload_n (dt_at dtX11_near 10 rfl) rfl rfl ?_
  refine K_aload_n (dt_at dtX11_near 11 rfl) rfl rfl ?_
  refine K_get (a := 30) (ci := 11) (k := 2) (v := vr t) (dt_at dtX11_near 12 rfl) (by decide) rfl (by decide) wF_X11_20 (by show vr (hR h 30 2) = vr t; rw [c.2.1]) ?_
  refine K_get (a := t) (ci := 3) (k := 11) (v := vi (sNp S : Int)) (dt_at dtX11_near 13 rfl) hH rfl (by decide) wF_X11_140 (by show vi (hI h t 11) = vi (sNp S : Int); rw [c.2.2.1.2.1.2]) ?_
  refine K_callV (M' := mX8_fondest) (a := 66) (ci := 8) (As := [vi p, vi (sNp S : Int)]) (st := []) (dt_at dtX11_near 14 rfl) (sX8_fondest (n := sNp S) (a := 66) (by decide) (by rw [show hA h (66 + 1) = f from c.2.2.2.2.1]; exact hT.1) hNp (by first | assumption | exact ⟨by omega, by omega⟩)) (show TT 66 = (0, 8) from rfl) rfl wL_X11_221 vX8_fondest rfl npX8_fondest (by decide) (by decide) (Nat.le_of_ble_eq_true rfl) (by decide) (by decide) GK_E (fun v9 h9 hq => ?_) (fun E h9 hq => by cases hq.1)
  obtain ⟨e9, e8⟩ := hq
  cases e9
  rw [e8]
  show K mX11_near _ _ 2 12 29 [(0, vr 30), (1, vi p), (2, vi 0)] [vi (selN (fun j v => decide ((hA h (66 + 1) (22 + (j : Int))) = p) && (decide (v = -1) || decide ((hA h (66 + 1) (15 + v)) < (hA h (66 + 1) (15 + (j : Int)))))) (sNp S))] h
  rw [show hA h (66 + 1) = f from c.2.2.2.2.1]
  refine K_goto (tgt := 47) (dt_at dtX11_near 15 rfl) (by decide) ?_
  exact K_iret (dt_at dtX11_near 23 rfl) rfl rfl (by decide) (by decide) ⟨rfl, FS_rf G⟩
set_option maxHeartbeats 4000000 in
set_option maxRecDepth 100000 in
theorem sX11_near_1 {h : HP} {t : Nat} {S : HS} {B : Int} {f : Int → Int} {p : Int} (c : CQ h t S B f) (hp : 0 ≤ p ∧ p < sNp S) : SpecK mX11_near [vr 30, vi p, vi 1] h (fun o h' => o = .inl (some (vi (srN (fun j => if (f (8 + (j : Int))) = p then some (j : Int) else none) (-1) 0 (sNp S)))) ∧ FS h h') := by
  refine Spec_of (by decide +kernel) (Nat.le_of_ble_eq_true rfl) ?_
  have ht := c.1
  have hH := TTt ht
  have hB := c.2.2.2.1
  have hNt := hB.1
  have hNp := hB.2.1
  have hT := c.2.2.2.2.2.1
  have hC := c.2.2.2.2.2.2.1
  have h99 := c.2.2.2.2.2.2.2.1
  have G := c.2.2.2.2.2.2.2.2
  have hf0 := hT.2.2.2.1
  refine K_aload_n (dt_at dtX11_near 0 rfl) rfl rfl ?_
  refine K_iload_n (dt_at dtX11_near 1 rfl) rfl rfl ?_
  refine K_callV (M' := mX11_needPerson) (a := 30) (ci := 11) (As := [vi p]) (st := []) (dt_at dtX11_near 2 rfl) (sX11_needPerson hH c.2.1 c.2.2.1.2.1.2 hNp (by first | assumption | exact ⟨by omega, by omega⟩) (by omega)) (by decide) rfl wL_X11_184 vX11_needPerson rfl npX11_needPerson (by decide) (by decide) (Nat.le_of_ble_eq_true rfl) (by decide) (by decide) GK_E (fun v9 h9 hq => ?_) (fun E h9 hq => by cases hq.1)
  obtain ⟨e9, e8⟩ := hq
  cases e9
  rw [e8]
  show K mX11_near _ _ 1 6 5 [(0, vr 30), (1, vi p), (2, vi 1)] [] h
  refine K_iload_n (dt_at dtX11_near 3 rfl) rfl rfl ?_
  refine K_iconst (dt_at dtX11_near 4 rfl) ?_
  refine K_callS (M' := mX11_needWhat) (As := [vi 1, vi 1]) (st := []) (dt_at dtX11_near 5 rfl) (sX11_needWhat (by first | assumption | exact ⟨by omega, by omega⟩) ⟨by decide, by decide⟩ (by omega)) wL_X11_133 vX11_needWhat rfl npX11_needWhat (by decide) (by decide) (Nat.le_of_ble_eq_true rfl) (by decide) (by decide) GK_E (fun v9 h9 hq => ?_) (fun E h9 hq => by cases hq.1)
  obtain ⟨e9, e8⟩ := hq
  cases e9
  rw [e8]
  show K mX11_near _ _ 2 12 10 [(0, vr 30), (1, vi p), (2, vi 1)] [] h
  refine K_iload_n (dt_at dtX11_near 6 rfl) rfl rfl ?_
  refine K_if_ne (tgt := 32) (dt_at dtX11_near 7 rfl) (by decide) (by first | assumption | exact ⟨by omega, by omega⟩) (fun c1 => ?_) (fun c1 => absurd c1 (by omega))
  refine K_aload_n (dt_at dtX11_near 16 rfl) rfl rfl ?_
  refine K_get (a := 30) (ci := 11) (k := 5) (v := vr 66) (dt_at dtX11_near 17 rfl) (by decide) rfl (by decide) wF_X11_39 rfl ?_
  refine K_iload_n (dt_at dtX11_near 18 rfl) rfl rfl ?_
  refine K_aload_n (dt_at dtX11_near 19 rfl) rfl rfl ?_
  refine K_get (a := 30) (ci := 11) (k := 2) (v := vr t) (dt_at dtX11_near 20 rfl) (by decide) rfl (by decide) wF_X11_20 (by show vr (hR h 30 2) = vr t; rw [c.2.1]) ?_
  refine K_get (a := t) (ci := 3) (k := 11) (v := vi (sNp S : Int)) (dt_at dtX11_near 21 rfl) hH rfl (by decide) wF_X11_140 (by show vi (hI h t 11) = vi (sNp S : Int); rw [c.2.2.1.2.1.2]) ?_
  refine K_callV (M' := mX8_whoHas) (a := 66) (ci := 8) (As := [vi p, vi (sNp S : Int)]) (st := []) (dt_at dtX11_near 22 rfl) (sX8_whoHas (n := sNp S) (a := 66) (by decide) (by rw [show hA h (66 + 1) = f from c.2.2.2.2.1]; exact hT.1) hNp (by first | assumption | exact ⟨by omega, by omega⟩)) (show TT 66 = (0, 8) from rfl) rfl wL_X11_224 vX8_whoHas rfl npX8_whoHas (by decide) (by decide) (Nat.le_of_ble_eq_true rfl) (by decide) (by decide) GK_E (fun v9 h9 hq => ?_) (fun E h9 hq => by cases hq.1)
  obtain ⟨e9, e8⟩ := hq
  cases e9
  rw [e8]
  show K mX11_near _ _ 2 12 47 [(0, vr 30), (1, vi p), (2, vi 1)] [vi (srN (fun j => if (hA h (66 + 1) (8 + (j : Int))) = p then some (j : Int) else none) (-1) 0 (sNp S))] h
  rw [show hA h (66 + 1) = f from c.2.2.2.2.1]
  exact K_iret (dt_at dtX11_near 23 rfl) rfl rfl (by decide) (by decide) ⟨rfl, FS_rf G⟩
def mX11_toHold : MI := (yX11_toHold, cX11_toHold, 3, (some .int), rmK 2 0)
def tX11_toHold : List (Nat × Instr × Nat) := [(0, .iconst 0, 1), (1, .istore_n 1, 1), (2, .iconst 0, 1), (3, .istore_n 2, 1), (4, .iload_n 2, 1), (5, .aload_n 0, 1), (6, .getfield 20, 3), (9, .getfield 137, 3), (12, .if_icmp .ge 42, 3), (15, .aload_n 0, 1), (16, .getfield 20, 3), (19, .getfield 178, 3), (22, .iload_n 2, 1), (23, .iaload, 1), (24, .ifCond .eq 24, 3), (27, .iload_n 1, 1), (28, .aload_n 0, 1), (29, .getfield 20, 3), (32, .getfield 175, 3), (35, .iload_n 2, 1), (36, .iaload, 1), (37, .aload_n 0, 1), (38, .getfield 39, 3), (41, .iload_n 2, 1), (42, .invokevirtual 181, 3), (45, .imul, 1), (46, .iadd, 1), (47, .istore_n 1, 1), (48, .iinc 2 1, 3), (51, .goto (-47), 3), (54, .iload_n 1, 1), (55, .ireturn, 1)]
theorem dtX11_toHold : tX11_toHold.all (fun q => decide (decode cX11_toHold q.1 = .ok (q.2.1, q.2.2))) = true := by decide +kernel
theorem npX11_toHold : (parseMethodDescriptor (mY mX11_toHold).desc).map (fun d => d.parameters.length) = some 0 := by decide +kernel
theorem vX11_toHold : mV mX11_toHold := ⟨wI_X11_toHold, wS_X11_toHold, wN_X11, wC_X11_toHold, by decide +kernel, by decide +kernel⟩
theorem itN_t {c : Nat → Prop} [∀ k, Decidable (c k)] {g : Nat → Int → Int} {x : Int} {k : Nat} (h : c k) : itN (fun k v => if c k then v else g k v) x (k + 1) = itN (fun k v => if c k then v else g k v) x k := if_pos h
theorem itN_f {c : Nat → Prop} [∀ k, Decidable (c k)] {g : Nat → Int → Int} {x : Int} {k : Nat} (h : ¬ c k) : itN (fun k v => if c k then v else g k v) x (k + 1) = g k (itN (fun k v => if c k then v else g k v) x k) := if_neg h
set_option maxHeartbeats 4000000 in
set_option maxRecDepth 100000 in
theorem lp_X11_toHold {Z : CT → State → Prop} {h : HP} {t : Nat} {S : HS} {B : Int} {f : Int → Int} (c : CQ h t S B f) (kx : K mX11_toHold GK Z 0 0 54 [(2, vi (sNt S : Int)), (1, vi (itN (fun k v => if sU S (k : Int) = 0 then v else v + sW S (k : Int) * f (29 + (k : Int))) 0 (sNt S))), (0, vr 30)] [] h) : ∀ (d k : Nat), k + d = sNt S → K mX11_toHold GK Z 0 0 4 [(2, vi (k : Int)), (1, vi (itN (fun k v => if sU S (k : Int) = 0 then v else v + sW S (k : Int) * f (29 + (k : Int))) 0 k)), (0, vr 30)] [] h := by
  intro d
  induction d with
  | zero =>
    intro k hk
    have ht := c.1
    have hH := TTt ht
    have hB := c.2.2.2.1
    have hNt := hB.1
    have hNp := hB.2.1
    have hT := c.2.2.2.2.2.1
    have hC := c.2.2.2.2.2.2.1
    have h99 := c.2.2.2.2.2.2.2.1
    have G := c.2.2.2.2.2.2.2.2
    have hf0 := hT.2.2.2.1
    have ek : k = sNt S := by omega
    subst ek
    refine K_iload_n (dt_at dtX11_toHold 4 rfl) rfl rfl ?_
    refine K_aload_n (dt_at dtX11_toHold 5 rfl) rfl rfl ?_
    refine K_get (a := 30) (ci := 11) (k := 2) (v := vr t) (dt_at dtX11_toHold 6 rfl) (by decide) rfl (by decide) wF_X11_20 (by show vr (hR h 30 2) = vr t; rw [c.2.1]) ?_
    refine K_get (a := t) (ci := 3) (k := 10) (v := vi (sNt S : Int)) (dt_at dtX11_toHold 7 rfl) hH rfl (by decide) wF_X11_137 (by show vi (hI h t 10) = vi (sNt S : Int); rw [c.2.2.1.2.1.1]) ?_
    refine K_icmp_ge (tgt := 54) (dt_at dtX11_toHold 8 rfl) (by decide) (by first | assumption | exact ⟨by omega, by omega⟩) (by first | assumption | exact ⟨by omega, by omega⟩) (fun c1 => ?_) (fun c1 => absurd c1 (by omega))
    exact K_pk [0, 1, 2] rfl kx
  | succ d ih =>
    intro k hk
    have ht := c.1
    have hH := TTt ht
    have hB := c.2.2.2.1
    have hNt := hB.1
    have hNp := hB.2.1
    have hT := c.2.2.2.2.2.1
    have hC := c.2.2.2.2.2.2.1
    have h99 := c.2.2.2.2.2.2.2.1
    have G := c.2.2.2.2.2.2.2.2
    have hf0 := hT.2.2.2.1
    have w1 := hB.2.2.1 (k : Int) (by omega) (by omega)
    refine K_iload_n (dt_at dtX11_toHold 4 rfl) rfl rfl ?_
    refine K_aload_n (dt_at dtX11_toHold 5 rfl) rfl rfl ?_
    refine K_get (a := 30) (ci := 11) (k := 2) (v := vr t) (dt_at dtX11_toHold 6 rfl) (by decide) rfl (by decide) wF_X11_20 (by show vr (hR h 30 2) = vr t; rw [c.2.1]) ?_
    refine K_get (a := t) (ci := 3) (k := 10) (v := vi (sNt S : Int)) (dt_at dtX11_toHold 7 rfl) hH rfl (by decide) wF_X11_137 (by show vi (hI h t 10) = vi (sNt S : Int); rw [c.2.2.1.2.1.1]) ?_
    refine K_icmp_ge (tgt := 54) (dt_at dtX11_toHold 8 rfl) (by decide) (by first | assumption | exact ⟨by omega, by omega⟩) (by first | assumption | exact ⟨by omega, by omega⟩) (fun c1 => absurd c1 (by omega)) (fun c1 => ?_)
    refine K_aload_n (dt_at dtX11_toHold 9 rfl) rfl rfl ?_
    refine K_get (a := 30) (ci := 11) (k := 2) (v := vr t) (dt_at dtX11_toHold 10 rfl) (by decide) rfl (by decide) wF_X11_20 (by show vr (hR h 30 2) = vr t; rw [c.2.1]) ?_
    refine K_get (a := t) (ci := 3) (k := 1) (v := vr (t + 2)) (dt_at dtX11_toHold 11 rfl) hH rfl (by decide) wF_X11_178 rfl ?_
    refine K_iload_n (dt_at dtX11_toHold 12 rfl) rfl rfl ?_
    refine K_iald (dt_at dtX11_toHold 13 rfl) (lay_3_1 hH) (by omega) (by omega) ?_
    rw [c.2.2.1.1.2.1]
    refine K_if_eq (tgt := 48) (dt_at dtX11_toHold 14 rfl) (by decide) (by first | assumption | exact ⟨by omega, by omega⟩) (fun c2 => ?_) (fun c2 => ?_)
    · refine K_iinc (ls' := [(2, vi ((k : Int) + 1)), (1, vi (itN (fun k v => if sU S (k : Int) = 0 then v else v + sW S (k : Int) * f (29 + (k : Int))) 0 k)), (0, vr 30)]) (dt_at dtX11_toHold 28 rfl) rfl (by decide) rfl ?_
      refine K_goto (tgt := 4) (dt_at dtX11_toHold 29 rfl) (by decide) ?_
      refine K_pk [0, 1, 2] (ls' := [(2, vi ((k : Int) + 1)), (1, vi (itN (fun k v => if sU S (k : Int) = 0 then v else v + sW S (k : Int) * f (29 + (k : Int))) 0 k)), (0, vr 30)]) rfl ?_
      exact K_cg (ls' := [(2, vi ((k + 1 : Nat) : Int)), (1, vi (itN (fun k v => if sU S (k : Int) = 0 then v else v + sW S (k : Int) * f (29 + (k : Int))) 0 (k + 1))), (0, vr 30)]) (h' := h) (by rw [itN_t (c := fun k => sU S (k : Int) = 0) (by assumption)]; rfl) (by rfl) (ih (k + 1) (by omega))
    · refine K_iload_n (dt_at dtX11_toHold 15 rfl) rfl rfl ?_
      refine K_aload_n (dt_at dtX11_toHold 16 rfl) rfl rfl ?_
      refine K_get (a := 30) (ci := 11) (k := 2) (v := vr t) (dt_at dtX11_toHold 17 rfl) (by decide) rfl (by decide) wF_X11_20 (by show vr (hR h 30 2) = vr t; rw [c.2.1]) ?_
      refine K_get (a := t) (ci := 3) (k := 0) (v := vr (t + 1)) (dt_at dtX11_toHold 18 rfl) hH rfl (by decide) wF_X11_175 rfl ?_
      refine K_iload_n (dt_at dtX11_toHold 19 rfl) rfl rfl ?_
      refine K_iald (dt_at dtX11_toHold 20 rfl) (lay_3_0 hH) (by omega) (by omega) ?_
      rw [c.2.2.1.1.1]
      refine K_aload_n (dt_at dtX11_toHold 21 rfl) rfl rfl ?_
      refine K_get (a := 30) (ci := 11) (k := 5) (v := vr 66) (dt_at dtX11_toHold 22 rfl) (by decide) rfl (by decide) wF_X11_39 rfl ?_
      refine K_iload_n (dt_at dtX11_toHold 23 rfl) rfl rfl ?_
      refine K_callV (M' := mX8_stock) (a := 66) (ci := 8) (As := [vi (k : Int)]) (st := [vi ((sW S) (k : Int)), vi (itN (fun k v => if sU S (k : Int) = 0 then v else v + sW S (k : Int) * f (29 + (k : Int))) 0 k)]) (dt_at dtX11_toHold 24 rfl) (sX8_stock (a := 66) (by decide) ⟨by omega, by omega⟩) (show TT 66 = (0, 8) from rfl) rfl wL_X11_181 vX8_stock rfl npX8_stock (by decide) (by decide) (Nat.le_of_ble_eq_true rfl) (by decide) (by decide) GK_E (fun v9 h9 hq => ?_) (fun E h9 hq => by cases hq.1)
      obtain ⟨e9, e8⟩ := hq
      cases e9
      rw [e8]
      show K mX11_toHold _ _ 0 0 45 [(2, vi (k : Int)), (1, vi (itN (fun k v => if sU S (k : Int) = 0 then v else v + sW S (k : Int) * f (29 + (k : Int))) 0 k)), (0, vr 30)] [vi (hA h (66 + 1) (29 + (k : Int))), vi ((sW S) (k : Int)), vi (itN (fun k v => if sU S (k : Int) = 0 then v else v + sW S (k : Int) * f (29 + (k : Int))) 0 k)] h
      rw [show hA h (66 + 1) = f from c.2.2.2.2.1]
      refine K_imul (dt_at dtX11_toHold 25 rfl) ?_
      refine K_iadd (dt_at dtX11_toHold 26 rfl) ?_
      refine K_istore_n (ls' := [(1, vi ((itN (fun k v => if sU S (k : Int) = 0 then v else v + sW S (k : Int) * f (29 + (k : Int))) 0 k) + (((sW S) (k : Int)) * (f (29 + (k : Int)))))), (2, vi (k : Int)), (0, vr 30)]) (dt_at dtX11_toHold 27 rfl) rfl (by decide) rfl ?_
      refine K_iinc (ls' := [(2, vi ((k : Int) + 1)), (1, vi ((itN (fun k v => if sU S (k : Int) = 0 then v else v + sW S (k : Int) * f (29 + (k : Int))) 0 k) + (((sW S) (k : Int)) * (f (29 + (k : Int)))))), (0, vr 30)]) (dt_at dtX11_toHold 28 rfl) rfl (by decide) rfl ?_
      refine K_goto (tgt := 4) (dt_at dtX11_toHold 29 rfl) (by decide) ?_
      refine K_pk [0, 1, 2] (ls' := [(2, vi ((k : Int) + 1)), (1, vi ((itN (fun k v => if sU S (k : Int) = 0 then v else v + sW S (k : Int) * f (29 + (k : Int))) 0 k) + (((sW S) (k : Int)) * (f (29 + (k : Int)))))), (0, vr 30)]) rfl ?_
      exact K_cg (ls' := [(2, vi ((k + 1 : Nat) : Int)), (1, vi (itN (fun k v => if sU S (k : Int) = 0 then v else v + sW S (k : Int) * f (29 + (k : Int))) 0 (k + 1))), (0, vr 30)]) (h' := h) (by rw [itN_f (c := fun k => sU S (k : Int) = 0) (by assumption)]; rfl) (by rfl) (ih (k + 1) (by omega))
set_option maxHeartbeats 4000000 in
set_option maxRecDepth 100000 in
theorem sX11_toHold {h : HP} {t : Nat} {S : HS} {B : Int} {f : Int → Int} (c : CQ h t S B f) : SpecK mX11_toHold [vr 30] h (fun o h' => o = .inl (some (vi (itN (fun k v => if sU S (k : Int) = 0 then v else v + sW S (k : Int) * f (29 + (k : Int))) 0 (sNt S)))) ∧ FS h h') := by
  refine Spec_of (by decide +kernel) (Nat.le_of_ble_eq_true rfl) ?_
  have ht := c.1
  have hH := TTt ht
  have hB := c.2.2.2.1
  have hNt := hB.1
  have hNp := hB.2.1
  have hT := c.2.2.2.2.2.1
  have hC := c.2.2.2.2.2.2.1
  have h99 := c.2.2.2.2.2.2.2.1
  have G := c.2.2.2.2.2.2.2.2
  have hf0 := hT.2.2.2.1
  refine K_iconst (dt_at dtX11_toHold 0 rfl) ?_
  refine K_istore_n (ls' := [(1, vi 0), (0, vr 30)]) (dt_at dtX11_toHold 1 rfl) rfl (by decide) rfl ?_
  refine K_iconst (dt_at dtX11_toHold 2 rfl) ?_
  refine K_istore_n (ls' := [(2, vi 0), (1, vi 0), (0, vr 30)]) (dt_at dtX11_toHold 3 rfl) rfl (by decide) rfl ?_
  refine K_pk [0, 1, 2] rfl (lp_X11_toHold c ?_ (sNt S) 0 (by omega))
  refine K_iload_n (dt_at dtX11_toHold 30 rfl) rfl rfl ?_
  exact K_iret (dt_at dtX11_toHold 31 rfl) rfl rfl (by decide) (by decide) ⟨rfl, FS_rf G⟩
