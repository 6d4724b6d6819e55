/-! the reference's reader: where it is, or its FAULT -/
def MGd (h : HP) (tp : Int → Int) (n p : Nat) : Prop := MX h tp n ∧ MTk h tp (tk tp n p) ∧ p ≤ n ∧ hI h 0 13 = 0 ∧ hI h 0 14 = -1
def MEr (h : HP) (tp : Int → Int) (n : Nat) (e : Int × Nat) : Prop := MX h tp n ∧ (∃ t, MTk h tp t ∧ TkG tp n t) ∧ (1 ≤ e.1 ∧ e.1 ≤ 5) ∧ hI h 0 13 = e.1 ∧ hI h 0 14 = (e.2 : Int)
abbrev MRl : List (Nat × Nat) := [(0, 17), (0, 18), (0, 19), (0, 20), (0, 21), (0, 22), (0, 23), (0, 13), (0, 14)]
abbrev MQl : List (Nat × Nat) := [(0, 17), (0, 18), (0, 19), (0, 20), (0, 21), (0, 22), (0, 23), (0, 13), (0, 14), (0, 16)]
theorem MQl_n {li : List (Nat × Nat)} (h : MQl.all (fun x => !li.contains x) = true) {x : Nat × Nat} (hx : x ∈ MQl) : li.contains x = false := by
  have := List.all_eq_true.mp h x hx
  simpa using this
theorem MQl_L {li : List (Nat × Nat)} (h : MQl.all (fun x => !li.contains x) = true) : ML.all (fun x => !(li.contains x)) = true := by
  rw [List.all_eq_true] at h ⊢
  have e : ∀ x ∈ ML, x ∈ MQl := by decide
  exact fun x hx => h x (e x hx)
theorem MGd_up {h h' : HP} {tp : Int → Int} {n p : Nat} {la : List Nat} {li lr : List (Nat × Nat)} (A : MGd h tp n p) (F : FL la li lr h h') (h0 : la.contains 7 = false) (h1 : MQl.all (fun x => !li.contains x) = true) : MGd h' tp n p :=
  ⟨MX_FL A.1 F h0 (MQl_n h1 (by decide)), MTk_FL A.2.1 F (MQl_L h1), A.2.2.1, by rw [F.2.1 0 13 (MQl_n h1 (by decide))]; exact A.2.2.2.1, by rw [F.2.1 0 14 (MQl_n h1 (by decide))]; exact A.2.2.2.2⟩
theorem MEr_up {h h' : HP} {tp : Int → Int} {n : Nat} {e : Int × Nat} {la : List Nat} {li lr : List (Nat × Nat)} (A : MEr h tp n e) (F : FL la li lr h h') (h0 : la.contains 7 = false) (h1 : MQl.all (fun x => !li.contains x) = true) : MEr h' tp n e := by
  obtain ⟨a1, ⟨t, a2, a3⟩, a4, a5, a6⟩ := A
  exact ⟨MX_FL a1 F h0 (MQl_n h1 (by decide)), ⟨t, MTk_FL a2 F (MQl_L h1), a3⟩, a4, by rw [F.2.1 0 13 (MQl_n h1 (by decide))]; exact a5, by rw [F.2.1 0 14 (MQl_n h1 (by decide))]; exact a6⟩
theorem goes_g {h : HP} {tp : Int → Int} {n p : Nat} (A : MGd h tp n p) : SpecK mX12_goes [vr 0] h (fun o h' => o = .inl none ∧ MGd h' tp n (tk tp n p).2.2 ∧ FL [] ML [] h h') :=
  Spec_mono (fun o h' q => ⟨q.1, ⟨MX_FL A.1 q.2.2 rfl rfl, q.2.1, tk_e A.2.2.1, by rw [q.2.2.2.1 0 13 rfl]; exact A.2.2.2.1, by rw [q.2.2.2.1 0 14 rfl]; exact A.2.2.2.2⟩, q.2.2⟩) (sX12_goes A.1 A.2.1.1.2.2.1 (tk_e A.2.2.1))
theorem good_t {h : HP} (e : hI h 0 13 = 0) : SpecK mX12_isGood [vr 0] h (fun o h' => o = .inl (some (vi 1)) ∧ h' = h) := by
  have := sX12_isGood (h := h) (k := 0) e (by decide)
  rw [if_pos rfl] at this
  exact this
theorem good_f {h : HP} {k : Int} (e : hI h 0 13 = k) (hk9 : 1 ≤ k ∧ k ≤ 5) : SpecK mX12_isGood [vr 0] h (fun o h' => o = .inl (some (vi 0)) ∧ h' = h) := by
  have := sX12_isGood (h := h) (k := k) e (by omega)
  rw [if_neg (by omega)] at this
  exact this
theorem kw_g {h : HP} {tp : Int → Int} {n p : Nat} (A : MGd h tp n p) : SpecK mX12_knownWord [vr 0] h (fun o h' => o = .inl (some (vi (kwF tp (tk tp n p)))) ∧ h' = h) := sX12_knownWord A.2.1 (tk_G A.2.2.1) A.1.2.1
theorem sg_g {h : HP} {tp : Int → Int} {n p : Nat} {c : Int} (A : MGd h tp n p) (hc : i32 c) : SpecK mX12_isSign [vr 0, vi c] h (fun o h' => o = .inl (some (vi (if Sg tp (tk tp n p) c then 1 else 0))) ∧ h' = h) := by
  obtain ⟨⟨a1, -⟩, -, ⟨a2, a3⟩, -⟩ := A.2.1
  have gk := (tk_G (tp := tp) A.2.2.1).1
  have e : (if Sg tp (tk tp n p) c then (1 : Int) else 0) = if (tk tp n p).1 = 3 ∧ hI h 0 22 = c then 1 else 0 := by
    by_cases z : (tk tp n p).1 = 3
    · have z2 := a3 z
      by_cases w : tp ((tk tp n p).2.1 : Int) = c
      · rw [if_pos ⟨z, w⟩, if_pos ⟨z, by rw [z2]; exact w⟩]
      · rw [if_neg (fun y => w y.2), if_neg (fun y => w (by rw [← z2]; exact y.2))]
    · rw [if_neg (fun y => z y.1), if_neg (fun y => z y.1)]
  rw [e]
  exact sX12_isSign a1 rfl gk ⟨by omega, by omega⟩ hc
def MNP (h : HP) (tp : Int → Int) (n : Nat) (o : AO) : (Int × Nat) ⊕ (Int × Nat) → Prop
  | .inl e => MEr h tp n e
  | .inr (v, q) => o = .inl (some (vi v)) ∧ MGd h tp n q
def mX12_wrong : MI := (yX12_wrong, cX12_wrong, 2, none, rmK 1 0)
def tX12_wrong : List (Nat × Instr × Nat) := [(0, .aload_n 0, 1), (1, .getfield 161, 3), (4, .ifCond .eq 4, 3), (7, .return_, 1), (8, .aload_n 0, 1), (9, .iload_n 1, 1), (10, .putfield 161, 3), (13, .aload_n 0, 1), (14, .aload_n 0, 1), (15, .getfield 125, 3), (18, .putfield 38, 3), (21, .return_, 1)]
theorem dtX12_wrong : tX12_wrong.all (fun q => decide (decode cX12_wrong q.1 = .ok (q.2.1, q.2.2))) = true := by decide +kernel
theorem npX12_wrong : (parseMethodDescriptor (mY mX12_wrong).desc).map (fun d => d.parameters.length) = some 1 := by decide +kernel
theorem vX12_wrong : mV mX12_wrong := ⟨wI_X12_wrong, wS_X12_wrong, wN_X12, wC_X12_wrong, by decide +kernel, by decide +kernel⟩
set_option maxHeartbeats 4000000 in
set_option maxRecDepth 100000 in
theorem wrong_g {h : HP} {tp : Int → Int} {n p : Nat} {k : Int} (A : MGd h tp n p) (hk9 : 1 ≤ k ∧ k ≤ 5) : SpecK mX12_wrong [vr 0, vi k] h (fun o h' => o = .inl none ∧ MEr h' tp n (k, (tk tp n p).2.1) ∧ FL [] [(0, 13), (0, 14)] [] h h') := by
  refine Spec_of (by decide +kernel) (Nat.le_of_ble_eq_true rfl) ?_
  refine K_aload_n (dt_at dtX12_wrong 0 rfl) rfl rfl ?_
  refine K_get (a := 0) (ci := 12) (k := 13) (v := vi 0) (dt_at dtX12_wrong 1 rfl) (show TT 0 = (0, 12) from rfl) rfl (by decide) wF_X12_161 (by show vi (hI h 0 13) = vi 0; rw [A.2.2.2.1]) ?_
  refine K_if_eq (tgt := 8) (dt_at dtX12_wrong 2 rfl) (by decide) (by first | assumption | exact ⟨by omega, by omega⟩) (fun c1 => ?_) (fun c1 => absurd c1 (by omega))
  refine K_aload_n (dt_at dtX12_wrong 4 rfl) rfl rfl ?_
  refine K_iload_n (dt_at dtX12_wrong 5 rfl) rfl rfl ?_
  refine K_putI (a := 0) (ci := 12) (k := 13) (dt_at dtX12_wrong 6 rfl) (show TT 0 = (0, 12) from rfl) rfl (by decide) wF_X12_161 rfl (Or.inl rfl) rfl rfl ?_
  obtain ⟨hq1, eq1⟩ : ∃ z, z = sI h 0 13 k := ⟨_, rfl⟩
  rw [← eq1]
  obtain ⟨iq1, fq1, aq1, rq1⟩ := sI_fx eq1
  refine K_aload_n (dt_at dtX12_wrong 7 rfl) rfl rfl ?_
  refine K_aload_n (dt_at dtX12_wrong 8 rfl) rfl rfl ?_
  refine K_get (a := 0) (ci := 12) (k := 19) (v := vi ((tk tp n p).2.1 : Int)) (dt_at dtX12_wrong 9 rfl) (show TT 0 = (0, 12) from rfl) rfl (by decide) wF_X12_125 (by show vi (hI hq1 0 19) = vi ((tk tp n p).2.1 : Int); rw [(fq1 0 19 (by omega)), A.2.1.1.2.1]) ?_
  refine K_putI (a := 0) (ci := 12) (k := 14) (dt_at dtX12_wrong 10 rfl) (show TT 0 = (0, 12) from rfl) rfl (by decide) wF_X12_38 rfl (Or.inl rfl) rfl rfl ?_
  obtain ⟨hq2, eq2⟩ : ∃ z, z = sI hq1 0 14 ((tk tp n p).2.1 : Int) := ⟨_, rfl⟩
  rw [← eq2]
  obtain ⟨iq2, fq2, aq2, rq2⟩ := sI_fx eq2
  have FW : FL [] [(0, 13), (0, 14)] [] h hq2 := (FL_tr (FL_tr (FL_rf : FL [] [(0, 13), (0, 14)] [] h h) (FL_eI eq1 rfl)) (FL_eI eq2 rfl))
  exact K_vret (dt_at dtX12_wrong 11 rfl) rfl (by decide) (by decide) ⟨rfl, ⟨MX_FL A.1 FW rfl rfl, ⟨_, MTk_FL A.2.1 FW rfl, tk_G A.2.2.1⟩, hk9, by rw [(fq2 0 13 (by omega)), iq1], by rw [iq2]⟩, FW⟩
set_option maxHeartbeats 4000000 in
set_option maxRecDepth 100000 in
theorem wrong_e {h : HP} {tp : Int → Int} {n : Nat} {e : Int × Nat} {k : Int} (A : MEr h tp n e) : SpecK mX12_wrong [vr 0, vi k] h (fun o h' => o = .inl (none) ∧ h' = h) := by
  refine Spec_of (by decide +kernel) (Nat.le_of_ble_eq_true rfl) ?_
  have h1 := A.2.2.1
  refine K_aload_n (dt_at dtX12_wrong 0 rfl) rfl rfl ?_
  refine K_get (a := 0) (ci := 12) (k := 13) (v := vi (e.1)) (dt_at dtX12_wrong 1 rfl) (show TT 0 = (0, 12) from rfl) rfl (by decide) wF_X12_161 (by show vi (hI h 0 13) = vi (e.1); rw [A.2.2.2.1]) ?_
  refine K_if_eq (tgt := 8) (dt_at dtX12_wrong 2 rfl) (by decide) (by first | assumption | exact ⟨by omega, by omega⟩) (fun c1 => absurd c1 (by omega)) (fun c1 => ?_)
  exact K_vret (dt_at dtX12_wrong 3 rfl) rfl (by decide) (by decide) ⟨rfl, rfl⟩
def mX12_need : MI := (yX12_need, cX12_need, 2, none, rmK 3 0)
def tX12_need : List (Nat × Instr × Nat) := [(0, .aload_n 0, 1), (1, .invokevirtual 164, 3), (4, .ifCond .ne 4, 3), (7, .return_, 1), (8, .iload_n 1, 1), (9, .ifCond .eq 10, 3), (12, .aload_n 0, 1), (13, .invokevirtual 168, 3), (16, .goto 8, 3), (19, .aload_n 0, 1), (20, .iconst 1, 1), (21, .invokevirtual 171, 3), (24, .return_, 1)]
theorem dtX12_need : tX12_need.all (fun q => decide (decode cX12_need q.1 = .ok (q.2.1, q.2.2))) = true := by decide +kernel
theorem npX12_need : (parseMethodDescriptor (mY mX12_need).desc).map (fun d => d.parameters.length) = some 1 := by decide +kernel
theorem vX12_need : mV mX12_need := ⟨wI_X12_need, wS_X12_need, wN_X12, wC_X12_need, by decide +kernel, by decide +kernel⟩
set_option maxHeartbeats 4000000 in
set_option maxRecDepth 100000 in
theorem need_t {h : HP} {tp : Int → Int} {n p : Nat} (A : MGd h tp n p) : SpecK mX12_need [vr 0, vi 1] h (fun o h' => o = .inl none ∧ MGd h' tp n (tk tp n p).2.2 ∧ FL [] MRl [] h h') := by
  refine Spec_of (by decide +kernel) (Nat.le_of_ble_eq_true rfl) ?_
  refine K_aload_n (dt_at dtX12_need 0 rfl) rfl rfl ?_
  refine K_callV (M' := mX12_isGood) (a := 0) (ci := 12) (As := []) (st := []) (dt_at dtX12_need 1 rfl) (good_t A.2.2.2.1) (show TT 0 = (0, 12) from rfl) rfl wL_X12_164 vX12_isGood rfl npX12_isGood (by decide) (by decide) (Nat.le_of_ble_eq_true rfl) (by decide) (by decide) GK_E (fun v9 h9 hq => ?_) (fun E h9 hq => by cases hq.1)
  obtain ⟨e9, e8⟩ := hq
  cases e9
  rw [e8]
  show K mX12_need _ _ 0 0 4 [(0, vr 0), (1, vi 1)] [vi 1] h
  refine K_if_ne (tgt := 8) (dt_at dtX12_need 2 rfl) (by decide) (by first | assumption | exact ⟨by omega, by omega⟩) (fun c1 => ?_) (fun c1 => absurd c1 (by omega))
  refine K_iload_n (dt_at dtX12_need 4 rfl) rfl rfl ?_
  refine K_if_eq (tgt := 19) (dt_at dtX12_need 5 rfl) (by decide) (by first | assumption | exact ⟨by omega, by omega⟩) (fun c2 => absurd c2 (by omega)) (fun c2 => ?_)
  refine K_aload_n (dt_at dtX12_need 6 rfl) rfl rfl ?_
  refine K_callV (M' := mX12_goes) (a := 0) (ci := 12) (As := []) (st := []) (dt_at dtX12_need 7 rfl) (goes_g A) (show TT 0 = (0, 12) from rfl) rfl wL_X12_168 vX12_goes rfl npX12_goes (by decide) (by decide) (Nat.le_of_ble_eq_true rfl) (by decide) (by decide) GK_E (fun v9 hc1 hq => ?_) (fun E h9 hq => by cases hq.1)
  have hqq2 := hq
  obtain ⟨e9q2, Aq2, Gq2⟩ := hqq2
  cases e9q2
  show K mX12_need _ _ 0 0 16 [(0, vr 0), (1, vi 1)] [] hc1
  refine K_goto (tgt := 24) (dt_at dtX12_need 8 rfl) (by decide) ?_
  exact K_vret (dt_at dtX12_need 12 rfl) rfl (by decide) (by decide) ⟨rfl, Aq2, (FL_tr (FL_rf : FL [] MRl [] h h) (FL_up Gq2 rfl rfl rfl))⟩
set_option maxHeartbeats 4000000 in
set_option maxRecDepth 100000 in
theorem need_f {h : HP} {tp : Int → Int} {n p : Nat} (A : MGd h tp n p) : SpecK mX12_need [vr 0, vi 0] h (fun o h' => o = .inl none ∧ MEr h' tp n (1, (tk tp n p).2.1) ∧ FL [] MRl [] h h') := by
  refine Spec_of (by decide +kernel) (Nat.le_of_ble_eq_true rfl) ?_
  refine K_aload_n (dt_at dtX12_need 0 rfl) rfl rfl ?_
  refine K_callV (M' := mX12_isGood) (a := 0) (ci := 12) (As := []) (st := []) (dt_at dtX12_need 1 rfl) (good_t A.2.2.2.1) (show TT 0 = (0, 12) from rfl) rfl wL_X12_164 vX12_isGood rfl npX12_isGood (by decide) (by decide) (Nat.le_of_ble_eq_true rfl) (by decide) (by decide) GK_E (fun v9 h9 hq => ?_) (fun E h9 hq => by cases hq.1)
  obtain ⟨e9, e8⟩ := hq
  cases e9
  rw [e8]
  show K mX12_need _ _ 0 0 4 [(0, vr 0), (1, vi 0)] [vi 1] h
  refine K_if_ne (tgt := 8) (dt_at dtX12_need 2 rfl) (by decide) (by first | assumption | exact ⟨by omega, by omega⟩) (fun c1 => ?_) (fun c1 => absurd c1 (by omega))
  refine K_iload_n (dt_at dtX12_need 4 rfl) rfl rfl ?_
  refine K_if_eq (tgt := 19) (dt_at dtX12_need 5 rfl) (by decide) (by first | assumption | exact ⟨by omega, by omega⟩) (fun c2 => ?_) (fun c2 => absurd c2 (by omega))
  refine K_aload_n (dt_at dtX12_need 9 rfl) rfl rfl ?_
  refine K_iconst (dt_at dtX12_need 10 rfl) ?_
  refine K_callV (M' := mX12_wrong) (a := 0) (ci := 12) (As := [vi 1]) (st := []) (dt_at dtX12_need 11 rfl) (wrong_g A (by omega)) (show TT 0 = (0, 12) from rfl) rfl wL_X12_171 vX12_wrong rfl npX12_wrong (by decide) (by decide) (Nat.le_of_ble_eq_true rfl) (by decide) (by decide) GK_E (fun v9 hc1 hq => ?_) (fun E h9 hq => by cases hq.1)
  have hqq2 := hq
  obtain ⟨e9q2, Eq2, Gq2⟩ := hqq2
  cases e9q2
  show K mX12_need _ _ 0 0 24 [(0, vr 0), (1, vi 0)] [] hc1
  exact K_vret (dt_at dtX12_need 12 rfl) rfl (by decide) (by decide) ⟨rfl, Eq2, (FL_tr (FL_rf : FL [] MRl [] h h) (FL_up Gq2 rfl rfl rfl))⟩
set_option maxHeartbeats 4000000 in
set_option maxRecDepth 100000 in
theorem need_e {h : HP} {tp : Int → Int} {n : Nat} {e : Int × Nat} {x : Int} (A : MEr h tp n e) : SpecK mX12_need [vr 0, vi x] h (fun o h' => o = .inl (none) ∧ h' = h) := by
  refine Spec_of (by decide +kernel) (Nat.le_of_ble_eq_true rfl) ?_
  refine K_aload_n (dt_at dtX12_need 0 rfl) rfl rfl ?_
  refine K_callV (M' := mX12_isGood) (a := 0) (ci := 12) (As := []) (st := []) (dt_at dtX12_need 1 rfl) (good_f A.2.2.2.1 A.2.2.1) (show TT 0 = (0, 12) from rfl) rfl wL_X12_164 vX12_isGood rfl npX12_isGood (by decide) (by decide) (Nat.le_of_ble_eq_true rfl) (by decide) (by decide) GK_E (fun v9 h9 hq => ?_) (fun E h9 hq => by cases hq.1)
  obtain ⟨e9, e8⟩ := hq
  cases e9
  rw [e8]
  show K mX12_need _ _ 0 0 4 [(0, vr 0), (1, vi x)] [vi 0] h
  refine K_if_ne (tgt := 8) (dt_at dtX12_need 2 rfl) (by decide) (by first | assumption | exact ⟨by omega, by omega⟩) (fun c1 => absurd c1 (by omega)) (fun c1 => ?_)
  exact K_vret (dt_at dtX12_need 3 rfl) rfl (by decide) (by decide) ⟨rfl, rfl⟩
def mX12_begins : MI := (yX12_begins, cX12_begins, 3, (some .boolean), rmK 3 0)
def tX12_begins : List (Nat × Instr × Nat) := [(0, .iload_n 1, 1), (1, .ifCond .eq 8, 3), (4, .aload_n 0, 1), (5, .iconst 2, 1), (6, .invokevirtual 171, 3), (9, .iload_n 2, 1), (10, .ifCond .eq 8, 3), (13, .aload_n 0, 1), (14, .iconst 5, 1), (15, .invokevirtual 171, 3), (18, .aload_n 0, 1), (19, .invokevirtual 164, 3), (22, .ifCond .ne 5, 3), (25, .iconst 0, 1), (26, .ireturn, 1), (27, .aload_n 0, 1), (28, .invokevirtual 168, 3), (31, .iconst 1, 1), (32, .ireturn, 1)]
theorem dtX12_begins : tX12_begins.all (fun q => decide (decode cX12_begins q.1 = .ok (q.2.1, q.2.2))) = true := by decide +kernel
theorem npX12_begins : (parseMethodDescriptor (mY mX12_begins).desc).map (fun d => d.parameters.length) = some 2 := by decide +kernel
theorem vX12_begins : mV mX12_begins := ⟨wI_X12_begins, wS_X12_begins, wN_X12, wC_X12_begins, by decide +kernel, by decide +kernel⟩
set_option maxHeartbeats 4000000 in
set_option maxRecDepth 100000 in
theorem begins_t {h : HP} {tp : Int → Int} {n p : Nat} (A : MGd h tp n p) : SpecK mX12_begins [vr 0, vi 0, vi 0] h (fun o h' => o = .inl (some (vi 1)) ∧ MGd h' tp n (tk tp n p).2.2 ∧ FL [] MRl [] h h') := by
  refine Spec_of (by decide +kernel) (Nat.le_of_ble_eq_true rfl) ?_
  refine K_iload_n (dt_at dtX12_begins 0 rfl) rfl rfl ?_
  refine K_if_eq (tgt := 9) (dt_at dtX12_begins 1 rfl) (by decide) (by first | assumption | exact ⟨by omega, by omega⟩) (fun c1 => ?_) (fun c1 => absurd c1 (by omega))
  refine K_iload_n (dt_at dtX12_begins 5 rfl) rfl rfl ?_
  refine K_if_eq (tgt := 18) (dt_at dtX12_begins 6 rfl) (by decide) (by first | assumption | exact ⟨by omega, by omega⟩) (fun c2 => ?_) (fun c2 => absurd c2 (by omega))
  refine K_aload_n (dt_at dtX12_begins 10 rfl) rfl rfl ?_
  refine K_callV (M' := mX12_isGood) (a := 0) (ci := 12) (As := []) (st := []) (dt_at dtX12_begins 11 rfl) (good_t A.2.2.2.1) (show TT 0 = (0, 12) from rfl) rfl wL_X12_164 vX12_isGood rfl npX12_isGood (by decide) (by decide) (Nat.le_of_ble_eq_true rfl) (by decide) (by decide) GK_E (fun v9 h9 hq => ?_) (fun E h9 hq => by cases hq.1)
  obtain ⟨e9, e8⟩ := hq
  cases e9
  rw [e8]
  show K mX12_begins _ _ 0 0 22 [(0, vr 0), (1, vi 0), (2, vi 0)] [vi 1] h
  refine K_if_ne (tgt := 27) (dt_at dtX12_begins 12 rfl) (by decide) (by first | assumption | exact ⟨by omega, by omega⟩) (fun c3 => ?_) (fun c3 => absurd c3 (by omega))
  refine K_aload_n (dt_at dtX12_begins 15 rfl) rfl rfl ?_
  refine K_callV (M' := mX12_goes) (a := 0) (ci := 12) (As := []) (st := []) (dt_at dtX12_begins 16 rfl) (goes_g A) (show TT 0 = (0, 12) from rfl) rfl wL_X12_168 vX12_goes rfl npX12_goes (by decide) (by decide) (Nat.le_of_ble_eq_true rfl) (by decide) (by decide) GK_E (fun v9 hc1 hq => ?_) (fun E h9 hq => by cases hq.1)
  have hqq2 := hq
  obtain ⟨e9q2, Aq2, Gq2⟩ := hqq2
  cases e9q2
  show K mX12_begins _ _ 0 0 31 [(0, vr 0), (1, vi 0), (2, vi 0)] [] hc1
  refine K_iconst (dt_at dtX12_begins 17 rfl) ?_
  exact K_iret (dt_at dtX12_begins 18 rfl) rfl (by decide) (by decide) (by decide) ⟨rfl, Aq2, (FL_tr (FL_rf : FL [] MRl [] h h) (FL_up Gq2 rfl rfl rfl))⟩
set_option maxHeartbeats 4000000 in
set_option maxRecDepth 100000 in
theorem begins_m {h : HP} {tp : Int → Int} {n p : Nat} (A : MGd h tp n p) : SpecK mX12_begins [vr 0, vi 1, vi 0] h (fun o h' => o = .inl (some (vi 0)) ∧ MEr h' tp n (2, (tk tp n p).2.1) ∧ FL [] MRl [] h h') := by
  refine Spec_of (by decide +kernel) (Nat.le_of_ble_eq_true rfl) ?_
  refine K_iload_n (dt_at dtX12_begins 0 rfl) rfl rfl ?_
  refine K_if_eq (tgt := 9) (dt_at dtX12_begins 1 rfl) (by decide) (by first | assumption | exact ⟨by omega, by omega⟩) (fun c1 => absurd c1 (by omega)) (fun c1 => ?_)
  refine K_aload_n (dt_at dtX12_begins 2 rfl) rfl rfl ?_
  refine K_iconst (dt_at dtX12_begins 3 rfl) ?_
  refine K_callV (M' := mX12_wrong) (a := 0) (ci := 12) (As := [vi 2]) (st := []) (dt_at dtX12_begins 4 rfl) (wrong_g A (by omega)) (show TT 0 = (0, 12) from rfl) rfl wL_X12_171 vX12_wrong rfl npX12_wrong (by decide) (by decide) (Nat.le_of_ble_eq_true rfl) (by decide) (by decide) GK_E (fun v9 hc1 hq => ?_) (fun E h9 hq => by cases hq.1)
  have hqq2 := hq
  obtain ⟨e9q2, Eq2, Gq2⟩ := hqq2
  cases e9q2
  show K mX12_begins _ _ 0 0 9 [(0, vr 0), (1, vi 1), (2, vi 0)] [] hc1
  refine K_iload_n (dt_at dtX12_begins 5 rfl) rfl rfl ?_
  refine K_if_eq (tgt := 18) (dt_at dtX12_begins 6 rfl) (by decide) (by first | assumption | exact ⟨by omega, by omega⟩) (fun c2 => ?_) (fun c2 => absurd c2 (by omega))
  refine K_aload_n (dt_at dtX12_begins 10 rfl) rfl rfl ?_
  refine K_callV (M' := mX12_isGood) (a := 0) (ci := 12) (As := []) (st := []) (dt_at dtX12_begins 11 rfl) (good_f Eq2.2.2.2.1 Eq2.2.2.1) (show TT 0 = (0, 12) from rfl) rfl wL_X12_164 vX12_isGood rfl npX12_isGood (by decide) (by decide) (Nat.le_of_ble_eq_true rfl) (by decide) (by decide) GK_E (fun v9 h9 hq => ?_) (fun E h9 hq => by cases hq.1)
  obtain ⟨e9, e8⟩ := hq
  cases e9
  rw [e8]
  show K mX12_begins _ _ 0 0 22 [(0, vr 0), (1, vi 1), (2, vi 0)] [vi 0] hc1
  refine K_if_ne (tgt := 27) (dt_at dtX12_begins 12 rfl) (by decide) (by first | assumption | exact ⟨by omega, by omega⟩) (fun c3 => absurd c3 (by omega)) (fun c3 => ?_)
  refine K_iconst (dt_at dtX12_begins 13 rfl) ?_
  exact K_iret (dt_at dtX12_begins 14 rfl) rfl (by decide) (by decide) (by decide) ⟨rfl, Eq2, (FL_tr (FL_rf : FL [] MRl [] h h) (FL_up Gq2 rfl rfl rfl))⟩
set_option maxHeartbeats 4000000 in
set_option maxRecDepth 100000 in
theorem begins_a {h : HP} {tp : Int → Int} {n p : Nat} (A : MGd h tp n p) : SpecK mX12_begins [vr 0, vi 0, vi 1] h (fun o h' => o = .inl (some (vi 0)) ∧ MEr h' tp n (5, (tk tp n p).2.1) ∧ FL [] MRl [] h h') := by
  refine Spec_of (by decide +kernel) (Nat.le_of_ble_eq_true rfl) ?_
  refine K_iload_n (dt_at dtX12_begins 0 rfl) rfl rfl ?_
  refine K_if_eq (tgt := 9) (dt_at dtX12_begins 1 rfl) (by decide) (by first | assumption | exact ⟨by omega, by omega⟩) (fun c1 => ?_) (fun c1 => absurd c1 (by omega))
  refine K_iload_n (dt_at dtX12_begins 5 rfl) rfl rfl ?_
  refine K_if_eq (tgt := 18) (dt_at dtX12_begins 6 rfl) (by decide) (by first | assumption | exact ⟨by omega, by omega⟩) (fun c2 => absurd c2 (by omega)) (fun c2 => ?_)
  refine K_aload_n (dt_at dtX12_begins 7 rfl) rfl rfl ?_
  refine K_iconst (dt_at dtX12_begins 8 rfl) ?_
  refine K_callV (M' := mX12_wrong) (a := 0) (ci := 12) (As := [vi 5]) (st := []) (dt_at dtX12_begins 9 rfl) (wrong_g A (by omega)) (show TT 0 = (0, 12) from rfl) rfl wL_X12_171 vX12_wrong rfl npX12_wrong (by decide) (by decide) (Nat.le_of_ble_eq_true rfl) (by decide) (by decide) GK_E (fun v9 hc1 hq => ?_) (fun E h9 hq => by cases hq.1)
  have hqq2 := hq
  obtain ⟨e9q2, Eq2, Gq2⟩ := hqq2
  cases e9q2
  show K mX12_begins _ _ 0 0 18 [(0, vr 0), (1, vi 0), (2, vi 1)] [] hc1
  refine K_aload_n (dt_at dtX12_begins 10 rfl) rfl rfl ?_
  refine K_callV (M' := mX12_isGood) (a := 0) (ci := 12) (As := []) (st := []) (dt_at dtX12_begins 11 rfl) (good_f Eq2.2.2.2.1 Eq2.2.2.1) (show TT 0 = (0, 12) from rfl) rfl wL_X12_164 vX12_isGood rfl npX12_isGood (by decide) (by decide) (Nat.le_of_ble_eq_true rfl) (by decide) (by decide) GK_E (fun v9 h9 hq => ?_) (fun E h9 hq => by cases hq.1)
  obtain ⟨e9, e8⟩ := hq
  cases e9
  rw [e8]
  show K mX12_begins _ _ 0 0 22 [(0, vr 0), (1, vi 0), (2, vi 1)] [vi 0] hc1
  refine K_if_ne (tgt := 27) (dt_at dtX12_begins 12 rfl) (by decide) (by first | assumption | exact ⟨by omega, by omega⟩) (fun c3 => absurd c3 (by omega)) (fun c3 => ?_)
  refine K_iconst (dt_at dtX12_begins 13 rfl) ?_
  exact K_iret (dt_at dtX12_begins 14 rfl) rfl (by decide) (by decide) (by decide) ⟨rfl, Eq2, (FL_tr (FL_rf : FL [] MRl [] h h) (FL_up Gq2 rfl rfl rfl))⟩
def mX12_number : MI := (yX12_number, cX12_number, 4, (some .int), rmK 3 0)
def tX12_number : List (Nat × Instr × Nat) := [(0, .aload_n 0, 1), (1, .invokevirtual 164, 3), (4, .ifCond .ne 5, 3), (7, .iconst 0, 1), (8, .ireturn, 1), (9, .aload_n 0, 1), (10, .getfield 138, 3), (13, .iconst 2, 1), (14, .if_icmp .eq 11, 3), (17, .aload_n 0, 1), (18, .iconst 1, 1), (19, .invokevirtual 171, 3), (22, .goto 32, 3), (25, .aload_n 0, 1), (26, .getfield 148, 3), (29, .iconst 4, 1), (30, .if_icmp .gt 19, 3), (33, .aload_n 0, 1), (34, .getfield 132, 3), (37, .iload_n 1, 1), (38, .if_icmp .lt 11, 3), (41, .aload_n 0, 1), (42, .getfield 132, 3), (45, .iload_n 2, 1), (46, .if_icmp .le 8, 3), (49, .aload_n 0, 1), (50, .iconst 2, 1), (51, .invokevirtual 171, 3), (54, .aload_n 0, 1), (55, .getfield 132, 3), (58, .istore_n 3, 1), (59, .aload_n 0, 1), (60, .invokevirtual 164, 3), (63, .ifCond .eq 7, 3), (66, .aload_n 0, 1), (67, .invokevirtual 168, 3), (70, .iload_n 3, 1), (71, .ireturn, 1)]
theorem dtX12_number : tX12_number.all (fun q => decide (decode cX12_number q.1 = .ok (q.2.1, q.2.2))) = true := by decide +kernel
theorem npX12_number : (parseMethodDescriptor (mY mX12_number).desc).map (fun d => d.parameters.length) = some 2 := by decide +kernel
theorem vX12_number : mV mX12_number := ⟨wI_X12_number, wS_X12_number, wN_X12, wC_X12_number, by decide +kernel, by decide +kernel⟩
set_option maxHeartbeats 4000000 in
set_option maxRecDepth 100000 in
theorem number_t {h : HP} {tp : Int → Int} {n p : Nat} {lo up : Int} (A : MGd h tp n p) (hlo : i32 lo) (hup : i32 up) (h2 : (tk tp n p).1 = 2) (h3 : ¬ (tk tp n p).2.1 + 4 < (tk tp n p).2.2) (h4 : lo ≤ nmT tp (tk tp n p) ∧ nmT tp (tk tp n p) ≤ up) : SpecK mX12_number [vr 0, vi lo, vi up] h (fun o h' => o = .inl (some (vi (nmT tp (tk tp n p)))) ∧ MGd h' tp n (tk tp n p).2.2 ∧ FL [] MRl [] h h') := by
  refine Spec_of (by decide +kernel) (Nat.le_of_ble_eq_true rfl) ?_
  have hv21 := A.2.1.2.1
  have gk := tk_G (tp := tp) A.2.2.1
  obtain ⟨⟨g1, g2⟩, g3, g4, g5, g6⟩ := id gk
  have hn7 := A.1.2.1
  have hv2 := hv21.2 h2
  have hvb := hv21.1
  rw [hv2] at hvb
  refine K_aload_n (dt_at dtX12_number 0 rfl) rfl rfl ?_
  refine K_callV (M' := mX12_isGood) (a := 0) (ci := 12) (As := []) (st := []) (dt_at dtX12_number 1 rfl) (good_t A.2.2.2.1) (show TT 0 = (0, 12) from rfl) rfl wL_X12_164 vX12_isGood rfl npX12_isGood (by decide) (by decide) (Nat.le_of_ble_eq_true rfl) (by decide) (by decide) GK_E (fun v9 h9 hq => ?_) (fun E h9 hq => by cases hq.1)
  obtain ⟨e9, e8⟩ := hq
  cases e9
  rw [e8]
  show K mX12_number _ _ 0 0 4 [(0, vr 0), (1, vi lo), (2, vi up)] [vi 1] h
  refine K_if_ne (tgt := 9) (dt_at dtX12_number 2 rfl) (by decide) (by first | assumption | exact ⟨by omega, by omega⟩) (fun c1 => ?_) (fun c1 => absurd c1 (by omega))
  refine K_aload_n (dt_at dtX12_number 5 rfl) rfl rfl ?_
  refine K_get (a := 0) (ci := 12) (k := 18) (v := vi ((tk tp n p).1)) (dt_at dtX12_number 6 rfl) (show TT 0 = (0, 12) from rfl) rfl (by decide) wF_X12_138 (by show vi (hI h 0 18) = vi ((tk tp n p).1); rw [A.2.1.1.1]) ?_
  refine K_iconst (dt_at dtX12_number 7 rfl) ?_
  refine K_icmp_eq (tgt := 25) (dt_at dtX12_number 8 rfl) (by decide) (by first | assumption | exact ⟨by omega, by omega⟩) (by first | assumption | exact ⟨by omega, by omega⟩) (fun c2 => ?_) (fun c2 => absurd c2 (by omega))
  refine K_aload_n (dt_at dtX12_number 13 rfl) rfl rfl ?_
  refine K_get (a := 0) (ci := 12) (k := 20) (v := vi (((tk tp n p).2.2 : Int) - ((tk tp n p).2.1 : Int))) (dt_at dtX12_number 14 rfl) (show TT 0 = (0, 12) from rfl) rfl (by decide) wF_X12_148 (by show vi (hI h 0 20) = vi (((tk tp n p).2.2 : Int) - ((tk tp n p).2.1 : Int)); rw [A.2.1.1.2.2.2]) ?_
  refine K_iconst (dt_at dtX12_number 15 rfl) ?_
  refine K_icmp_gt (tgt := 49) (dt_at dtX12_number 16 rfl) (by decide) (by first | assumption | exact ⟨by omega, by omega⟩) (by first | assumption | exact ⟨by omega, by omega⟩) (fun c3 => absurd c3 (by omega)) (fun c3 => ?_)
  refine K_aload_n (dt_at dtX12_number 17 rfl) rfl rfl ?_
  refine K_get (a := 0) (ci := 12) (k := 21) (v := vi (nmT tp (tk tp n p))) (dt_at dtX12_number 18 rfl) (show TT 0 = (0, 12) from rfl) rfl (by decide) wF_X12_132 (by show vi (hI h 0 21) = vi (nmT tp (tk tp n p)); rw [hv2]) ?_
  refine K_iload_n (dt_at dtX12_number 19 rfl) rfl rfl ?_
  refine K_icmp_lt (tgt := 49) (dt_at dtX12_number 20 rfl) (by decide) ⟨by omega, by omega⟩ hlo (fun c4 => absurd c4 (by omega)) (fun c4 => ?_)
  refine K_aload_n (dt_at dtX12_number 21 rfl) rfl rfl ?_
  refine K_get (a := 0) (ci := 12) (k := 21) (v := vi (nmT tp (tk tp n p))) (dt_at dtX12_number 22 rfl) (show TT 0 = (0, 12) from rfl) rfl (by decide) wF_X12_132 (by show vi (hI h 0 21) = vi (nmT tp (tk tp n p)); rw [hv2]) ?_
  refine K_iload_n (dt_at dtX12_number 23 rfl) rfl rfl ?_
  refine K_icmp_le (tgt := 54) (dt_at dtX12_number 24 rfl) (by decide) ⟨by omega, by omega⟩ hup (fun c5 => ?_) (fun c5 => absurd c5 (by omega))
  refine K_aload_n (dt_at dtX12_number 28 rfl) rfl rfl ?_
  refine K_get (a := 0) (ci := 12) (k := 21) (v := vi (nmT tp (tk tp n p))) (dt_at dtX12_number 29 rfl) (show TT 0 = (0, 12) from rfl) rfl (by decide) wF_X12_132 (by show vi (hI h 0 21) = vi (nmT tp (tk tp n p)); rw [hv2]) ?_
  refine K_istore_n (ls' := [(3, vi (nmT tp (tk tp n p))), (0, vr 0), (1, vi lo), (2, vi up)]) (dt_at dtX12_number 30 rfl) rfl (by decide) rfl ?_
  refine K_aload_n (dt_at dtX12_number 31 rfl) rfl rfl ?_
  refine K_callV (M' := mX12_isGood) (a := 0) (ci := 12) (As := []) (st := []) (dt_at dtX12_number 32 rfl) (good_t A.2.2.2.1) (show TT 0 = (0, 12) from rfl) rfl wL_X12_164 vX12_isGood rfl npX12_isGood (by decide) (by decide) (Nat.le_of_ble_eq_true rfl) (by decide) (by decide) GK_E (fun v9 h9 hq => ?_) (fun E h9 hq => by cases hq.1)
  obtain ⟨e9, e8⟩ := hq
  cases e9
  rw [e8]
  show K mX12_number _ _ 0 0 63 [(3, vi (nmT tp (tk tp n p))), (0, vr 0), (1, vi lo), (2, vi up)] [vi 1] h
  refine K_if_eq (tgt := 70) (dt_at dtX12_number 33 rfl) (by decide) (by first | assumption | exact ⟨by omega, by omega⟩) (fun c6 => absurd c6 (by omega)) (fun c6 => ?_)
  refine K_aload_n (dt_at dtX12_number 34 rfl) rfl rfl ?_
  refine K_callV (M' := mX12_goes) (a := 0) (ci := 12) (As := []) (st := []) (dt_at dtX12_number 35 rfl) (goes_g A) (show TT 0 = (0, 12) from rfl) rfl wL_X12_168 vX12_goes rfl npX12_goes (by decide) (by decide) (Nat.le_of_ble_eq_true rfl) (by decide) (by decide) GK_E (fun v9 hc1 hq => ?_) (fun E h9 hq => by cases hq.1)
  have hqq2 := hq
  obtain ⟨e9q2, Aq2, Gq2⟩ := hqq2
  cases e9q2
  show K mX12_number _ _ 0 0 70 [(3, vi (nmT tp (tk tp n p))), (0, vr 0), (1, vi lo), (2, vi up)] [] hc1
  refine K_iload_n (dt_at dtX12_number 36 rfl) rfl rfl ?_
  exact K_iret (dt_at dtX12_number 37 rfl) rfl rfl (by decide) (by decide) ⟨rfl, Aq2, (FL_tr (FL_rf : FL [] MRl [] h h) (FL_up Gq2 rfl rfl rfl))⟩
set_option maxHeartbeats 4000000 in
set_option maxRecDepth 100000 in
theorem number_f {h : HP} {tp : Int → Int} {n p : Nat} {lo up : Int} (A : MGd h tp n p) (h2 : ¬ (tk tp n p).1 = 2) : SpecK mX12_number [vr 0, vi lo, vi up] h (fun o h' => (∃ x, o = .inl (some (vi x))) ∧ MEr h' tp n (1, (tk tp n p).2.1) ∧ FL [] MRl [] h h') := by
  refine Spec_of (by decide +kernel) (Nat.le_of_ble_eq_true rfl) ?_
  have hv21 := A.2.1.2.1
  have gk := tk_G (tp := tp) A.2.2.1
  obtain ⟨⟨g1, g2⟩, g3, g4, g5, g6⟩ := id gk
  have hn7 := A.1.2.1
  refine K_aload_n (dt_at dtX12_number 0 rfl) rfl rfl ?_
  refine K_callV (M' := mX12_isGood) (a := 0) (ci := 12) (As := []) (st := []) (dt_at dtX12_number 1 rfl) (good_t A.2.2.2.1) (show TT 0 = (0, 12) from rfl) rfl wL_X12_164 vX12_isGood rfl npX12_isGood (by decide) (by decide) (Nat.le_of_ble_eq_true rfl) (by decide) (by decide) GK_E (fun v9 h9 hq => ?_) (fun E h9 hq => by cases hq.1)
  obtain ⟨e9, e8⟩ := hq
  cases e9
  rw [e8]
  show K mX12_number _ _ 0 0 4 [(0, vr 0), (1, vi lo), (2, vi up)] [vi 1] h
  refine K_if_ne (tgt := 9) (dt_at dtX12_number 2 rfl) (by decide) (by first | assumption | exact ⟨by omega, by omega⟩) (fun c1 => ?_) (fun c1 => absurd c1 (by omega))
  refine K_aload_n (dt_at dtX12_number 5 rfl) rfl rfl ?_
  refine K_get (a := 0) (ci := 12) (k := 18) (v := vi ((tk tp n p).1)) (dt_at dtX12_number 6 rfl) (show TT 0 = (0, 12) from rfl) rfl (by decide) wF_X12_138 (by show vi (hI h 0 18) = vi ((tk tp n p).1); rw [A.2.1.1.1]) ?_
  refine K_iconst (dt_at dtX12_number 7 rfl) ?_
  refine K_icmp_eq (tgt := 25) (dt_at dtX12_number 8 rfl) (by decide) (by first | assumption | exact ⟨by omega, by omega⟩) (by first | assumption | exact ⟨by omega, by omega⟩) (fun c2 => absurd c2 (by omega)) (fun c2 => ?_)
  refine K_aload_n (dt_at dtX12_number 9 rfl) rfl rfl ?_
  refine K_iconst (dt_at dtX12_number 10 rfl) ?_
  refine K_callV (M' := mX12_wrong) (a := 0) (ci := 12) (As := [vi 1]) (st := []) (dt_at dtX12_number 11 rfl) (wrong_g A (by omega)) (show TT 0 = (0, 12) from rfl) rfl wL_X12_171 vX12_wrong rfl npX12_wrong (by decide) (by decide) (Nat.le_of_ble_eq_true rfl) (by decide) (by decide) GK_E (fun v9 hc1 hq => ?_) (fun E h9 hq => by cases hq.1)
  have hqq2 := hq
  obtain ⟨e9q2, Eq2, Gq2⟩ := hqq2
  cases e9q2
  show K mX12_number _ _ 0 0 22 [(0, vr 0), (1, vi lo), (2, vi up)] [] hc1
  refine K_goto (tgt := 54) (dt_at dtX12_number 12 rfl) (by decide) ?_
  refine K_aload_n (dt_at dtX12_number 28 rfl) rfl rfl ?_
  refine K_get (a := 0) (ci := 12) (k := 21) (v := vi (hI h 0 21)) (dt_at dtX12_number 29 rfl) (show TT 0 = (0, 12) from rfl) rfl (by decide) wF_X12_132 (by show vi (hI hc1 0 21) = vi (hI h 0 21); rw [(Gq2.2.1 0 21 rfl)]) ?_
  refine K_istore_n (ls' := [(3, vi (hI h 0 21)), (0, vr 0), (1, vi lo), (2, vi up)]) (dt_at dtX12_number 30 rfl) rfl (by decide) rfl ?_
  refine K_aload_n (dt_at dtX12_number 31 rfl) rfl rfl ?_
  refine K_callV (M' := mX12_isGood) (a := 0) (ci := 12) (As := []) (st := []) (dt_at dtX12_number 32 rfl) (good_f Eq2.2.2.2.1 Eq2.2.2.1) (show TT 0 = (0, 12) from rfl) rfl wL_X12_164 vX12_isGood rfl npX12_isGood (by decide) (by decide) (Nat.le_of_ble_eq_true rfl) (by decide) (by decide) GK_E (fun v9 h9 hq => ?_) (fun E h9 hq => by cases hq.1)
  obtain ⟨e9, e8⟩ := hq
  cases e9
  rw [e8]
  show K mX12_number _ _ 0 0 63 [(3, vi (hI h 0 21)), (0, vr 0), (1, vi lo), (2, vi up)] [vi 0] hc1
  refine K_if_eq (tgt := 70) (dt_at dtX12_number 33 rfl) (by decide) (by first | assumption | exact ⟨by omega, by omega⟩) (fun c3 => ?_) (fun c3 => absurd c3 (by omega))
  refine K_iload_n (dt_at dtX12_number 36 rfl) rfl rfl ?_
  exact K_iret (dt_at dtX12_number 37 rfl) rfl rfl (by decide) (by decide) ⟨⟨_, rfl⟩, Eq2, (FL_tr (FL_rf : FL [] MRl [] h h) (FL_up Gq2 rfl rfl rfl))⟩
set_option maxHeartbeats 4000000 in
set_option maxRecDepth 100000 in
theorem number_g {h : HP} {tp : Int → Int} {n p : Nat} {lo up : Int} (A : MGd h tp n p) (hlo : i32 lo) (hup : i32 up) (h2 : (tk tp n p).1 = 2) (h3 : (tk tp n p).2.1 + 4 < (tk tp n p).2.2 ∨ nmT tp (tk tp n p) < lo ∨ up < nmT tp (tk tp n p)) : SpecK mX12_number [vr 0, vi lo, vi up] h (fun o h' => (∃ x, o = .inl (some (vi x))) ∧ MEr h' tp n (2, (tk tp n p).2.1) ∧ FL [] MRl [] h h') := by
  refine Spec_of (by decide +kernel) (Nat.le_of_ble_eq_true rfl) ?_
  have hv21 := A.2.1.2.1
  have gk := tk_G (tp := tp) A.2.2.1
  obtain ⟨⟨g1, g2⟩, g3, g4, g5, g6⟩ := id gk
  have hn7 := A.1.2.1
  have hv2 := hv21.2 h2
  have hvb := hv21.1
  rw [hv2] at hvb
  refine K_aload_n (dt_at dtX12_number 0 rfl) rfl rfl ?_
  refine K_callV (M' := mX12_isGood) (a := 0) (ci := 12) (As := []) (st := []) (dt_at dtX12_number 1 rfl) (good_t A.2.2.2.1) (show TT 0 = (0, 12) from rfl) rfl wL_X12_164 vX12_isGood rfl npX12_isGood (by decide) (by decide) (Nat.le_of_ble_eq_true rfl) (by decide) (by decide) GK_E (fun v9 h9 hq => ?_) (fun E h9 hq => by cases hq.1)
  obtain ⟨e9, e8⟩ := hq
  cases e9
  rw [e8]
  show K mX12_number _ _ 0 0 4 [(0, vr 0), (1, vi lo), (2, vi up)] [vi 1] h
  refine K_if_ne (tgt := 9) (dt_at dtX12_number 2 rfl) (by decide) (by first | assumption | exact ⟨by omega, by omega⟩) (fun c1 => ?_) (fun c1 => absurd c1 (by omega))
  refine K_aload_n (dt_at dtX12_number 5 rfl) rfl rfl ?_
  refine K_get (a := 0) (ci := 12) (k := 18) (v := vi ((tk tp n p).1)) (dt_at dtX12_number 6 rfl) (show TT 0 = (0, 12) from rfl) rfl (by decide) wF_X12_138 (by show vi (hI h 0 18) = vi ((tk tp n p).1); rw [A.2.1.1.1]) ?_
  refine K_iconst (dt_at dtX12_number 7 rfl) ?_
  refine K_icmp_eq (tgt := 25) (dt_at dtX12_number 8 rfl) (by decide) (by first | assumption | exact ⟨by omega, by omega⟩) (by first | assumption | exact ⟨by omega, by omega⟩) (fun c2 => ?_) (fun c2 => absurd c2 (by omega))
  refine K_aload_n (dt_at dtX12_number 13 rfl) rfl rfl ?_
  refine K_get (a := 0) (ci := 12) (k := 20) (v := vi (((tk tp n p).2.2 : Int) - ((tk tp n p).2.1 : Int))) (dt_at dtX12_number 14 rfl) (show TT 0 = (0, 12) from rfl) rfl (by decide) wF_X12_148 (by show vi (hI h 0 20) = vi (((tk tp n p).2.2 : Int) - ((tk tp n p).2.1 : Int)); rw [A.2.1.1.2.2.2]) ?_
  refine K_iconst (dt_at dtX12_number 15 rfl) ?_
  refine K_icmp_gt (tgt := 49) (dt_at dtX12_number 16 rfl) (by decide) (by first | assumption | exact ⟨by omega, by omega⟩) (by first | assumption | exact ⟨by omega, by omega⟩) (fun c3 => ?_) (fun c3 => ?_)
  · refine K_aload_n (dt_at dtX12_number 25 rfl) rfl rfl ?_
    refine K_iconst (dt_at dtX12_number 26 rfl) ?_
    refine K_callV (M' := mX12_wrong) (a := 0) (ci := 12) (As := [vi 2]) (st := []) (dt_at dtX12_number 27 rfl) (wrong_g A (by omega)) (show TT 0 = (0, 12) from rfl) rfl wL_X12_171 vX12_wrong rfl npX12_wrong (by decide) (by decide) (Nat.le_of_ble_eq_true rfl) (by decide) (by decide) GK_E (fun v9 hc1 hq => ?_) (fun E h9 hq => by cases hq.1)
    have hqq2 := hq
    obtain ⟨e9q2, Eq2, Gq2⟩ := hqq2
    cases e9q2
    show K mX12_number _ _ 0 0 54 [(0, vr 0), (1, vi lo), (2, vi up)] [] hc1
    refine K_aload_n (dt_at dtX12_number 28 rfl) rfl rfl ?_
    refine K_get (a := 0) (ci := 12) (k := 21) (v := vi (nmT tp (tk tp n p))) (dt_at dtX12_number 29 rfl) (show TT 0 = (0, 12) from rfl) rfl (by decide) wF_X12_132 (by show vi (hI hc1 0 21) = vi (nmT tp (tk tp n p)); rw [(Gq2.2.1 0 21 rfl), hv2]) ?_
    refine K_istore_n (ls' := [(3, vi (nmT tp (tk tp n p))), (0, vr 0), (1, vi lo), (2, vi up)]) (dt_at dtX12_number 30 rfl) rfl (by decide) rfl ?_
    refine K_aload_n (dt_at dtX12_number 31 rfl) rfl rfl ?_
    refine K_callV (M' := mX12_isGood) (a := 0) (ci := 12) (As := []) (st := []) (dt_at dtX12_number 32 rfl) (good_f Eq2.2.2.2.1 Eq2.2.2.1) (show TT 0 = (0, 12) from rfl) rfl wL_X12_164 vX12_isGood rfl npX12_isGood (by decide) (by decide) (Nat.le_of_ble_eq_true rfl) (by decide) (by decide) GK_E (fun v9 h9 hq => ?_) (fun E h9 hq => by cases hq.1)
    obtain ⟨e9, e8⟩ := hq
    cases e9
    rw [e8]
    show K mX12_number _ _ 0 0 63 [(3, vi (nmT tp (tk tp n p))), (0, vr 0), (1, vi lo), (2, vi up)] [vi 0] hc1
    refine K_if_eq (tgt := 70) (dt_at dtX12_number 33 rfl) (by decide) (by first | assumption | exact ⟨by omega, by omega⟩) (fun c4 => ?_) (fun c4 => absurd c4 (by omega))
    refine K_iload_n (dt_at dtX12_number 36 rfl) rfl rfl ?_
    exact K_iret (dt_at dtX12_number 37 rfl) rfl rfl (by decide) (by decide) ⟨⟨_, rfl⟩, Eq2, (FL_tr (FL_rf : FL [] MRl [] h h) (FL_up Gq2 rfl rfl rfl))⟩
  · refine K_aload_n (dt_at dtX12_number 17 rfl) rfl rfl ?_
    refine K_get (a := 0) (ci := 12) (k := 21) (v := vi (nmT tp (tk tp n p))) (dt_at dtX12_number 18 rfl) (show TT 0 = (0, 12) from rfl) rfl (by decide) wF_X12_132 (by show vi (hI h 0 21) = vi (nmT tp (tk tp n p)); rw [hv2]) ?_
    refine K_iload_n (dt_at dtX12_number 19 rfl) rfl rfl ?_
    refine K_icmp_lt (tgt := 49) (dt_at dtX12_number 20 rfl) (by decide) ⟨by omega, by omega⟩ hlo (fun c5 => ?_) (fun c5 => ?_)
    · refine K_aload_n (dt_at dtX12_number 25 rfl) rfl rfl ?_
      refine K_iconst (dt_at dtX12_number 26 rfl) ?_
      refine K_callV (M' := mX12_wrong) (a := 0) (ci := 12) (As := [vi 2]) (st := []) (dt_at dtX12_number 27 rfl) (wrong_g A (by omega)) (show TT 0 = (0, 12) from rfl) rfl wL_X12_171 vX12_wrong rfl npX12_wrong (by decide) (by decide) (Nat.le_of_ble_eq_true rfl) (by decide) (by decide) GK_E (fun v9 hc3 hq => ?_) (fun E h9 hq => by cases hq.1)
      have hqq4 := hq
      obtain ⟨e9q4, Eq4, Gq4⟩ := hqq4
      cases e9q4
      show K mX12_number _ _ 0 0 54 [(0, vr 0), (1, vi lo), (2, vi up)] [] hc3
      refine K_aload_n (dt_at dtX12_number 28 rfl) rfl rfl ?_
      refine K_get (a := 0) (ci := 12) (k := 21) (v := vi (nmT tp (tk tp n p))) (dt_at dtX12_number 29 rfl) (show TT 0 = (0, 12) from rfl) rfl (by decide) wF_X12_132 (by show vi (hI hc3 0 21) = vi (nmT tp (tk tp n p)); rw [(Gq4.2.1 0 21 rfl), hv2]) ?_
      refine K_istore_n (ls' := [(3, vi (nmT tp (tk tp n p))), (0, vr 0), (1, vi lo), (2, vi up)]) (dt_at dtX12_number 30 rfl) rfl (by decide) rfl ?_
      refine K_aload_n (dt_at dtX12_number 31 rfl) rfl rfl ?_
      refine K_callV (M' := mX12_isGood) (a := 0) (ci := 12) (As := []) (st := []) (dt_at dtX12_number 32 rfl) (good_f Eq4.2.2.2.1 Eq4.2.2.1) (show TT 0 = (0, 12) from rfl) rfl wL_X12_164 vX12_isGood rfl npX12_isGood (by decide) (by decide) (Nat.le_of_ble_eq_true rfl) (by decide) (by decide) GK_E (fun v9 h9 hq => ?_) (fun E h9 hq => by cases hq.1)
      obtain ⟨e9, e8⟩ := hq
      cases e9
      rw [e8]
      show K mX12_number _ _ 0 0 63 [(3, vi (nmT tp (tk tp n p))), (0, vr 0), (1, vi lo), (2, vi up)] [vi 0] hc3
      refine K_if_eq (tgt := 70) (dt_at dtX12_number 33 rfl) (by decide) (by first | assumption | exact ⟨by omega, by omega⟩) (fun c6 => ?_) (fun c6 => absurd c6 (by omega))
      refine K_iload_n (dt_at dtX12_number 36 rfl) rfl rfl ?_
      exact K_iret (dt_at dtX12_number 37 rfl) rfl rfl (by decide) (by decide) ⟨⟨_, rfl⟩, Eq4, (FL_tr (FL_rf : FL [] MRl [] h h) (FL_up Gq4 rfl rfl rfl))⟩
    · refine K_aload_n (dt_at dtX12_number 21 rfl) rfl rfl ?_
      refine K_get (a := 0) (ci := 12) (k := 21) (v := vi (nmT tp (tk tp n p))) (dt_at dtX12_number 22 rfl) (show TT 0 = (0, 12) from rfl) rfl (by decide) wF_X12_132 (by show vi (hI h 0 21) = vi (nmT tp (tk tp n p)); rw [hv2]) ?_
      refine K_iload_n (dt_at dtX12_number 23 rfl) rfl rfl ?_
      refine K_icmp_le (tgt := 54) (dt_at dtX12_number 24 rfl) (by decide) ⟨by omega, by omega⟩ hup (fun c7 => ?_) (fun c7 => ?_)
      · exfalso
        omega
      · refine K_aload_n (dt_at dtX12_number 25 rfl) rfl rfl ?_
        refine K_iconst (dt_at dtX12_number 26 rfl) ?_
        refine K_callV (M' := mX12_wrong) (a := 0) (ci := 12) (As := [vi 2]) (st := []) (dt_at dtX12_number 27 rfl) (wrong_g A (by omega)) (show TT 0 = (0, 12) from rfl) rfl wL_X12_171 vX12_wrong rfl npX12_wrong (by decide) (by decide) (Nat.le_of_ble_eq_true rfl) (by decide) (by decide) GK_E (fun v9 hc5 hq => ?_) (fun E h9 hq => by cases hq.1)
        have hqq6 := hq
        obtain ⟨e9q6, Eq6, Gq6⟩ := hqq6
        cases e9q6
        show K mX12_number _ _ 0 0 54 [(0, vr 0), (1, vi lo), (2, vi up)] [] hc5
        refine K_aload_n (dt_at dtX12_number 28 rfl) rfl rfl ?_
        refine K_get (a := 0) (ci := 12) (k := 21) (v := vi (nmT tp (tk tp n p))) (dt_at dtX12_number 29 rfl) (show TT 0 = (0, 12) from rfl) rfl (by decide) wF_X12_132 (by show vi (hI hc5 0 21) = vi (nmT tp (tk tp n p)); rw [(Gq6.2.1 0 21 rfl), hv2]) ?_
        refine K_istore_n (ls' := [(3, vi (nmT tp (tk tp n p))), (0, vr 0), (1, vi lo), (2, vi up)]) (dt_at dtX12_number 30 rfl) rfl (by decide) rfl ?_
        refine K_aload_n (dt_at dtX12_number 31 rfl) rfl rfl ?_
        refine K_callV (M' := mX12_isGood) (a := 0) (ci := 12) (As := []) (st := []) (dt_at dtX12_number 32 rfl) (good_f Eq6.2.2.2.1 Eq6.2.2.1) (show TT 0 = (0, 12) from rfl) rfl wL_X12_164 vX12_isGood rfl npX12_isGood (by decide) (by decide) (Nat.le_of_ble_eq_true rfl) (by decide) (by decide) GK_E (fun v9 h9 hq => ?_) (fun E h9 hq => by cases hq.1)
        obtain ⟨e9, e8⟩ := hq
        cases e9
        rw [e8]
        show K mX12_number _ _ 0 0 63 [(3, vi (nmT tp (tk tp n p))), (0, vr 0), (1, vi lo), (2, vi up)] [vi 0] hc5
        refine K_if_eq (tgt := 70) (dt_at dtX12_number 33 rfl) (by decide) (by first | assumption | exact ⟨by omega, by omega⟩) (fun c8 => ?_) (fun c8 => absurd c8 (by omega))
        refine K_iload_n (dt_at dtX12_number 36 rfl) rfl rfl ?_
        exact K_iret (dt_at dtX12_number 37 rfl) rfl rfl (by decide) (by decide) ⟨⟨_, rfl⟩, Eq6, (FL_tr (FL_rf : FL [] MRl [] h h) (FL_up Gq6 rfl rfl rfl))⟩
set_option maxHeartbeats 4000000 in
set_option maxRecDepth 100000 in
theorem number_e {h : HP} {tp : Int → Int} {n : Nat} {e : Int × Nat} {lo up : Int} (A : MEr h tp n e) : SpecK mX12_number [vr 0, vi lo, vi up] h (fun o h' => o = .inl (some (vi 0)) ∧ h' = h) := by
  refine Spec_of (by decide +kernel) (Nat.le_of_ble_eq_true rfl) ?_
  refine K_aload_n (dt_at dtX12_number 0 rfl) rfl rfl ?_
  refine K_callV (M' := mX12_isGood) (a := 0) (ci := 12) (As := []) (st := []) (dt_at dtX12_number 1 rfl) (good_f A.2.2.2.1 A.2.2.1) (show TT 0 = (0, 12) from rfl) rfl wL_X12_164 vX12_isGood rfl npX12_isGood (by decide) (by decide) (Nat.le_of_ble_eq_true rfl) (by decide) (by decide) GK_E (fun v9 h9 hq => ?_) (fun E h9 hq => by cases hq.1)
  obtain ⟨e9, e8⟩ := hq
  cases e9
  rw [e8]
  show K mX12_number _ _ 0 0 4 [(0, vr 0), (1, vi lo), (2, vi up)] [vi 0] h
  refine K_if_ne (tgt := 9) (dt_at dtX12_number 2 rfl) (by decide) (by first | assumption | exact ⟨by omega, by omega⟩) (fun c1 => absurd c1 (by omega)) (fun c1 => ?_)
  refine K_iconst (dt_at dtX12_number 3 rfl) ?_
  exact K_iret (dt_at dtX12_number 4 rfl) rfl rfl (by decide) (by decide) ⟨rfl, rfl⟩
theorem number_P {h : HP} {tp : Int → Int} {n p : Nat} {lo up : Int} (A : MGd h tp n p) (hlo : i32 lo) (hup : i32 up) : SpecK mX12_number [vr 0, vi lo, vi up] h (fun o h' => (∃ x, o = .inl (some (vi x))) ∧ MNP h' tp n o (nuP tp n lo up p) ∧ FL [] MRl [] h h') := by
  unfold nuP
  by_cases c1 : (tk tp n p).1 = 2
  · rw [if_pos c1]
    by_cases c2 : (tk tp n p).2.1 + 4 < (tk tp n p).2.2 ∨ nmT tp (tk tp n p) < lo ∨ up < nmT tp (tk tp n p)
    · rw [if_pos c2]
      exact number_g A hlo hup c1 c2
    · rw [if_neg c2]
      exact Spec_mono (fun o h' q => ⟨⟨_, q.1⟩, ⟨q.1, q.2.1⟩, q.2.2⟩) (number_t A hlo hup c1 (by omega) ⟨by omega, by omega⟩)
  · rw [if_neg c1]
    exact number_f A c1
