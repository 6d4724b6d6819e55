def mX3_clear : MI := (yX3_clear, cX3_clear, 1, none, rmK 2 0)
def tX3_clear : List (Nat × Instr × Nat) := [(0, .aload_n 0, 1), (1, .iconst 0, 1), (2, .putfield 46, 3), (5, .aload_n 0, 1), (6, .iconst 0, 1), (7, .putfield 50, 3), (10, .aload_n 0, 1), (11, .getfield 39, 3), (14, .invokevirtual 53, 3), (17, .aload_n 0, 1), (18, .getfield 43, 3), (21, .invokevirtual 53, 3), (24, .return_, 1)]
theorem dtX3_clear : tX3_clear.all (fun q => decide (decode cX3_clear q.1 = .ok (q.2.1, q.2.2))) = true := by decide +kernel
theorem npX3_clear : (parseMethodDescriptor (mY mX3_clear).desc).map (fun d => d.parameters.length) = some 0 := by decide +kernel
theorem vX3_clear : mV mX3_clear := ⟨wI_X3_clear, wS_X3_clear, wN_X3, wC_X3_clear, by decide +kernel, by decide +kernel⟩
set_option maxHeartbeats 4000000 in
set_option maxRecDepth 100000 in
theorem sX3_clear_33 {h : HP}  : SpecK mX3_clear [vr 33] h (fun o h' => o = .inl (none) ∧ h' = (sI (sI (sI (sI (sI (sI h 33 10 0) 33 11 0) 42 2 0) 42 3 0) 45 2 0) 45 3 0)) := by
  refine Spec_of (by decide +kernel) (Nat.le_of_ble_eq_true rfl) ?_
  refine K_aload_n (dt_at dtX3_clear 0 rfl) rfl rfl ?_
  refine K_iconst (dt_at dtX3_clear 1 rfl) ?_
  refine K_putI (a := 33) (ci := 3) (k := 10) (dt_at dtX3_clear 2 rfl) (show TT 33 = (0, 3) from rfl) rfl (by decide) wF_X3_46 rfl (Or.inl rfl) rfl rfl ?_
  refine K_aload_n (dt_at dtX3_clear 3 rfl) rfl rfl ?_
  refine K_iconst (dt_at dtX3_clear 4 rfl) ?_
  refine K_putI (a := 33) (ci := 3) (k := 11) (dt_at dtX3_clear 5 rfl) (show TT 33 = (0, 3) from rfl) rfl (by decide) wF_X3_50 rfl (Or.inl rfl) rfl rfl ?_
  refine K_aload_n (dt_at dtX3_clear 6 rfl) rfl rfl ?_
  refine K_get (a := 33) (ci := 3) (k := 8) (v := vr 42) (dt_at dtX3_clear 7 rfl) (show TT 33 = (0, 3) from rfl) rfl (by decide) wF_X3_39 rfl ?_
  refine K_callV (M' := mX6_clear) (a := 42) (ci := 6) (As := []) (st := []) (dt_at dtX3_clear 8 rfl) (sX6_clear (show TT 42 = (0, 6) from rfl)) (show TT 42 = (0, 6) from rfl) rfl wL_X3_53 vX6_clear rfl npX6_clear (by decide) (by decide) (Nat.le_of_ble_eq_true rfl) (by decide) (by decide) GK_E (fun v9 h9 hq => ?_) (fun E h9 hq => by cases hq.1)
  obtain ⟨e9, e8⟩ := hq
  cases e9
  rw [e8]
  show K mX3_clear _ _ 0 0 17 [(0, vr 33)] [] (sI (sI (sI (sI h 33 10 0) 33 11 0) 42 2 0) 42 3 0)
  refine K_aload_n (dt_at dtX3_clear 9 rfl) rfl rfl ?_
  refine K_get (a := 33) (ci := 3) (k := 9) (v := vr 45) (dt_at dtX3_clear 10 rfl) (show TT 33 = (0, 3) from rfl) rfl (by decide) wF_X3_43 rfl ?_
  refine K_callV (M' := mX6_clear) (a := 45) (ci := 6) (As := []) (st := []) (dt_at dtX3_clear 11 rfl) (sX6_clear (show TT 45 = (0, 6) from rfl)) (show TT 45 = (0, 6) from rfl) rfl wL_X3_53 vX6_clear rfl npX6_clear (by decide) (by decide) (Nat.le_of_ble_eq_true rfl) (by decide) (by decide) GK_E (fun v9 h9 hq => ?_) (fun E h9 hq => by cases hq.1)
  obtain ⟨e9, e8⟩ := hq
  cases e9
  rw [e8]
  show K mX3_clear _ _ 0 0 24 [(0, vr 33)] [] (sI (sI (sI (sI (sI (sI h 33 10 0) 33 11 0) 42 2 0) 42 3 0) 45 2 0) 45 3 0)
  exact K_vret (dt_at dtX3_clear 12 rfl) rfl (by decide) (by decide) ⟨rfl, rfl⟩
set_option maxHeartbeats 4000000 in
set_option maxRecDepth 100000 in
theorem sX3_clear_48 {h : HP}  : SpecK mX3_clear [vr 48] h (fun o h' => o = .inl (none) ∧ h' = (sI (sI (sI (sI (sI (sI h 48 10 0) 48 11 0) 57 2 0) 57 3 0) 60 2 0) 60 3 0)) := by
  refine Spec_of (by decide +kernel) (Nat.le_of_ble_eq_true rfl) ?_
  refine K_aload_n (dt_at dtX3_clear 0 rfl) rfl rfl ?_
  refine K_iconst (dt_at dtX3_clear 1 rfl) ?_
  refine K_putI (a := 48) (ci := 3) (k := 10) (dt_at dtX3_clear 2 rfl) (show TT 48 = (0, 3) from rfl) rfl (by decide) wF_X3_46 rfl (Or.inl rfl) rfl rfl ?_
  refine K_aload_n (dt_at dtX3_clear 3 rfl) rfl rfl ?_
  refine K_iconst (dt_at dtX3_clear 4 rfl) ?_
  refine K_putI (a := 48) (ci := 3) (k := 11) (dt_at dtX3_clear 5 rfl) (show TT 48 = (0, 3) from rfl) rfl (by decide) wF_X3_50 rfl (Or.inl rfl) rfl rfl ?_
  refine K_aload_n (dt_at dtX3_clear 6 rfl) rfl rfl ?_
  refine K_get (a := 48) (ci := 3) (k := 8) (v := vr 57) (dt_at dtX3_clear 7 rfl) (show TT 48 = (0, 3) from rfl) rfl (by decide) wF_X3_39 rfl ?_
  refine K_callV (M' := mX6_clear) (a := 57) (ci := 6) (As := []) (st := []) (dt_at dtX3_clear 8 rfl) (sX6_clear (show TT 57 = (0, 6) from rfl)) (show TT 57 = (0, 6) from rfl) rfl wL_X3_53 vX6_clear rfl npX6_clear (by decide) (by decide) (Nat.le_of_ble_eq_true rfl) (by decide) (by decide) GK_E (fun v9 h9 hq => ?_) (fun E h9 hq => by cases hq.1)
  obtain ⟨e9, e8⟩ := hq
  cases e9
  rw [e8]
  show K mX3_clear _ _ 0 0 17 [(0, vr 48)] [] (sI (sI (sI (sI h 48 10 0) 48 11 0) 57 2 0) 57 3 0)
  refine K_aload_n (dt_at dtX3_clear 9 rfl) rfl rfl ?_
  refine K_get (a := 48) (ci := 3) (k := 9) (v := vr 60) (dt_at dtX3_clear 10 rfl) (show TT 48 = (0, 3) from rfl) rfl (by decide) wF_X3_43 rfl ?_
  refine K_callV (M' := mX6_clear) (a := 60) (ci := 6) (As := []) (st := []) (dt_at dtX3_clear 11 rfl) (sX6_clear (show TT 60 = (0, 6) from rfl)) (show TT 60 = (0, 6) from rfl) rfl wL_X3_53 vX6_clear rfl npX6_clear (by decide) (by decide) (Nat.le_of_ble_eq_true rfl) (by decide) (by decide) GK_E (fun v9 h9 hq => ?_) (fun E h9 hq => by cases hq.1)
  obtain ⟨e9, e8⟩ := hq
  cases e9
  rw [e8]
  show K mX3_clear _ _ 0 0 24 [(0, vr 48)] [] (sI (sI (sI (sI (sI (sI h 48 10 0) 48 11 0) 57 2 0) 57 3 0) 60 2 0) 60 3 0)
  exact K_vret (dt_at dtX3_clear 12 rfl) rfl (by decide) (by decide) ⟨rfl, rfl⟩
section LN
variable {tp : Int → Int} {n p : Nat} {D : DR}
theorem lnB_1 (h1 : isWb tp (tk tp n p) 0 = true) : lnB tp n D p = thB tp n D p := if_pos h1
theorem lnB_2 (h1 : ¬ isWb tp (tk tp n p) 0 = true) (h2 : isWb tp (tk tp n p) 1 = true) : lnB tp n D p = peB tp n D p := by unfold lnB; rw [if_neg h1, if_pos h2]
theorem lnB_3 (h1 : ¬ isWb tp (tk tp n p) 0 = true) (h2 : ¬ isWb tp (tk tp n p) 1 = true) (h3 : isWb tp (tk tp n p) 3 = true) : lnB tp n D p = puB tp n D p := by unfold lnB; rw [if_neg h1, if_neg h2, if_pos h3]
theorem lnB_4 (h1 : ¬ isWb tp (tk tp n p) 0 = true) (h2 : ¬ isWb tp (tk tp n p) 1 = true) (h3 : ¬ isWb tp (tk tp n p) 3 = true) (h4 : isWb tp (tk tp n p) 15 = true) : lnB tp n D p = feB tp n D p := by unfold lnB; rw [if_neg h1, if_neg h2, if_neg h3, if_pos h4]
theorem lnB_5 (h1 : ¬ isWb tp (tk tp n p) 0 = true) (h2 : ¬ isWb tp (tk tp n p) 1 = true) (h3 : ¬ isWb tp (tk tp n p) 3 = true) (h4 : ¬ isWb tp (tk tp n p) 15 = true) : lnB tp n D p = .inl (1, (tk tp n p).2.1) := by unfold lnB; rw [if_neg h1, if_neg h2, if_neg h3, if_neg h4]
end LN
def mX5_readLine : MI := (yX5_readLine, cX5_readLine, 1, none, rmK 65 0)
def tX5_readLine : List (Nat × Instr × Nat) := [(0, .aload_n 0, 1), (1, .getfield 12, 3), (4, .ldc 63, 2), (6, .invokevirtual 65, 3), (9, .ifCond .eq 10, 3), (12, .aload_n 0, 1), (13, .invokevirtual 69, 3), (16, .goto 81, 3), (19, .aload_n 0, 1), (20, .getfield 12, 3), (23, .ldc 72, 2), (25, .invokevirtual 65, 3), (28, .ifCond .eq 10, 3), (31, .aload_n 0, 1), (32, .invokevirtual 74, 3), (35, .goto 62, 3), (38, .aload_n 0, 1), (39, .getfield 12, 3), (42, .ldc 77, 2), (44, .invokevirtual 65, 3), (47, .ifCond .eq 18, 3), (50, .aload_n 0, 1), (51, .aload_n 0, 1), (52, .getfield 29, 3), (55, .getfield 33, 3), (58, .iconst 1, 1), (59, .invokevirtual 78, 3), (62, .goto 35, 3), (65, .aload_n 0, 1), (66, .getfield 12, 3), (69, .ldc 82, 2), (71, .invokevirtual 65, 3), (74, .ifCond .eq 18, 3), (77, .aload_n 0, 1), (78, .aload_n 0, 1), (79, .getfield 29, 3), (82, .getfield 84, 3), (85, .iconst 0, 1), (86, .invokevirtual 78, 3), (89, .goto 8, 3), (92, .aload_n 0, 1), (93, .iconst 1, 1), (94, .invokevirtual 86, 3), (97, .aload_n 0, 1), (98, .bipush 59, 2), (100, .invokevirtual 90, 3), (103, .return_, 1)]
theorem dtX5_readLine : tX5_readLine.all (fun q => decide (decode cX5_readLine q.1 = .ok (q.2.1, q.2.2))) = true := by decide +kernel
theorem npX5_readLine : (parseMethodDescriptor (mY mX5_readLine).desc).map (fun d => d.parameters.length) = some 0 := by decide +kernel
theorem vX5_readLine : mV mX5_readLine := ⟨wI_X5_readLine, wS_X5_readLine, wN_X5, wC_X5_readLine, by decide +kernel, by decide +kernel⟩
set_option maxHeartbeats 4000000 in
set_option maxRecDepth 100000 in
theorem sX5_readLine_33 {h : HP} {tp : Int → Int} {n p : Nat} {D : DR} (A : TG h tp n p) (i1 : hR h 63 1 = 33) (Dd : DRf h 33 D) : SpecK mX5_readLine [vr 63] h (fun o h' => o = .inl none ∧ LNr h' 33 tp n (lnP tp n D p) ∧ HK 33 h h') := by
  refine Spec_of (by decide +kernel) (Nat.le_of_ble_eq_true rfl) ?_
  refine K_aload_n (dt_at dtX5_readLine 0 rfl) rfl rfl ?_
  refine K_get (a := 63) (ci := 5) (k := 0) (v := vr 64) (dt_at dtX5_readLine 1 rfl) (show TT 63 = (0, 5) from rfl) rfl (by decide) wF_X5_12 rfl ?_
  refine K_ldcS (i := 0) (dt_at dtX5_readLine 2 rfl) rfl GK_E ?_
  refine K_callV (M' := mX9_isWord) (a := 64) (ci := 9) (As := [vs 1]) (st := []) (dt_at dtX5_readLine 3 rfl) (sX9_isWord (i := 0) A.1 A.2.1 (tk_G A.2.2.1) (by decide)) (show TT 64 = (0, 9) from rfl) rfl wL_X5_65 vX9_isWord rfl npX9_isWord (by decide) (by decide) (Nat.le_of_ble_eq_true rfl) (by decide) (by decide) GK_E (fun v9 h9 hq => ?_) (fun E h9 hq => by cases hq.1)
  obtain ⟨e9, e8⟩ := hq
  cases e9
  rw [e8]
  show K mX5_readLine _ _ 0 0 9 [(0, vr 63)] [vi (if isWb tp (tk tp n p) 0 = true then 1 else 0)] h
  by_cases z1 : isWb tp (tk tp n p) 0 = true
  · rw [if_pos z1]
    refine K_if_eq (tgt := 19) (dt_at dtX5_readLine 4 rfl) (by decide) (by first | assumption | exact ⟨by omega, by omega⟩) (fun c2 => absurd c2 (by omega)) (fun c2 => ?_)
    refine K_aload_n (dt_at dtX5_readLine 5 rfl) rfl rfl ?_
    refine K_callV (M' := mX5_readThing) (a := 63) (ci := 5) (As := []) (st := []) (dt_at dtX5_readLine 6 rfl) (thing_L_33 A i1 Dd) (show TT 63 = (0, 5) from rfl) rfl wL_X5_69 vX5_readThing rfl npX5_readThing (by decide) (by decide) (Nat.le_of_ble_eq_true rfl) (by decide) (by decide) GK_E (fun v9 hc1 hq => ?_) (fun E h9 hq => by cases hq.1)
    have hqq2 := hq
    obtain ⟨e9q2, Lq2, Fq2⟩ := hqq2
    cases e9q2
    show K mX5_readLine _ _ 0 0 16 [(0, vr 63)] [] hc1
    rcases uq2 : thB tp n D p with ekq2 | ⟨Dq2, pq2⟩
    · rw [uq2] at Lq2
      have Aq2 : TE hc1 tp n ekq2 := Lq2
      refine K_goto (tgt := 97) (dt_at dtX5_readLine 7 rfl) (by decide) ?_
      refine K_aload_n (dt_at dtX5_readLine 43 rfl) rfl rfl ?_
      refine K_bipush (dt_at dtX5_readLine 44 rfl) (by decide) ?_
      refine K_callV (M' := mX5_readSign) (a := 63) (ci := 5) (As := [vi 59]) (st := []) (dt_at dtX5_readLine 45 rfl) (sX5_readSign_e Aq2) (show TT 63 = (0, 5) from rfl) rfl wL_X5_90 vX5_readSign rfl npX5_readSign (by decide) (by decide) (Nat.le_of_ble_eq_true rfl) (by decide) (by decide) GK_E (fun v9 h9 hq => ?_) (fun E h9 hq => by cases hq.1)
      obtain ⟨e9, e8⟩ := hq
      cases e9
      rw [e8]
      show K mX5_readLine _ _ 0 0 103 [(0, vr 63)] [] hc1
      exact K_vret (dt_at dtX5_readLine 46 rfl) rfl (by decide) (by decide) ⟨rfl, by rw [lnP, lnB_1 (by assumption), uq2]; exact Aq2, Fq2⟩
    · rw [uq2] at Lq2
      obtain ⟨Aq2, jq2, dq2⟩ := Lq2
      refine K_goto (tgt := 97) (dt_at dtX5_readLine 7 rfl) (by decide) ?_
      refine K_aload_n (dt_at dtX5_readLine 43 rfl) rfl rfl ?_
      refine K_bipush (dt_at dtX5_readLine 44 rfl) (by decide) ?_
      by_cases z3 : Sg tp (tk tp n pq2) 59
      · refine K_callV (M' := mX5_readSign) (a := 63) (ci := 5) (As := [vi 59]) (st := []) (dt_at dtX5_readLine 45 rfl) (sX5_readSign_t Aq2 ⟨by omega, by omega⟩ z3) (show TT 63 = (0, 5) from rfl) rfl wL_X5_90 vX5_readSign rfl npX5_readSign (by decide) (by decide) (Nat.le_of_ble_eq_true rfl) (by decide) (by decide) GK_E (fun v9 hc3 hq => ?_) (fun E h9 hq => by cases hq.1)
        have hqq4 := hq
        obtain ⟨e9q4, Aq4, Gq4⟩ := hqq4
        cases e9q4
        show K mX5_readLine _ _ 0 0 103 [(0, vr 63)] [] hc3
        exact K_vret (dt_at dtX5_readLine 46 rfl) rfl (by decide) (by decide) ⟨rfl, by rw [lnP, lnB_1 (by assumption), uq2, siP_t z3]; exact ⟨Aq4, (Gq4.2.2 63 1 rfl).trans jq2, DRf_FL (by decide) dq2 Gq4⟩, (HK_tr Fq2 (HK_FL Gq4))⟩
      · refine K_callV (M' := mX5_readSign) (a := 63) (ci := 5) (As := [vi 59]) (st := []) (dt_at dtX5_readLine 45 rfl) (sX5_readSign_f Aq2 ⟨by omega, by omega⟩ z3) (show TT 63 = (0, 5) from rfl) rfl wL_X5_90 vX5_readSign rfl npX5_readSign (by decide) (by decide) (Nat.le_of_ble_eq_true rfl) (by decide) (by decide) GK_E (fun v9 hc5 hq => ?_) (fun E h9 hq => by cases hq.1)
        have hqq6 := hq
        obtain ⟨e9q6, Aq6, Gq6⟩ := hqq6
        cases e9q6
        show K mX5_readLine _ _ 0 0 103 [(0, vr 63)] [] hc5
        exact K_vret (dt_at dtX5_readLine 46 rfl) rfl (by decide) (by decide) ⟨rfl, by rw [lnP, lnB_1 (by assumption), uq2, siP_f z3]; exact Aq6, (HK_tr Fq2 (HK_FL Gq6))⟩
  · rw [if_neg z1]
    refine K_if_eq (tgt := 19) (dt_at dtX5_readLine 4 rfl) (by decide) (by first | assumption | exact ⟨by omega, by omega⟩) (fun c4 => ?_) (fun c4 => absurd c4 (by omega))
    refine K_aload_n (dt_at dtX5_readLine 8 rfl) rfl rfl ?_
    refine K_get (a := 63) (ci := 5) (k := 0) (v := vr 64) (dt_at dtX5_readLine 9 rfl) (show TT 63 = (0, 5) from rfl) rfl (by decide) wF_X5_12 rfl ?_
    refine K_ldcS (i := 1) (dt_at dtX5_readLine 10 rfl) rfl GK_E ?_
    refine K_callV (M' := mX9_isWord) (a := 64) (ci := 9) (As := [vs 2]) (st := []) (dt_at dtX5_readLine 11 rfl) (sX9_isWord (i := 1) A.1 A.2.1 (tk_G A.2.2.1) (by decide)) (show TT 64 = (0, 9) from rfl) rfl wL_X5_65 vX9_isWord rfl npX9_isWord (by decide) (by decide) (Nat.le_of_ble_eq_true rfl) (by decide) (by decide) GK_E (fun v9 h9 hq => ?_) (fun E h9 hq => by cases hq.1)
    obtain ⟨e9, e8⟩ := hq
    cases e9
    rw [e8]
    show K mX5_readLine _ _ 0 0 28 [(0, vr 63)] [vi (if isWb tp (tk tp n p) 1 = true then 1 else 0)] h
    by_cases z5 : isWb tp (tk tp n p) 1 = true
    · rw [if_pos z5]
      refine K_if_eq (tgt := 38) (dt_at dtX5_readLine 12 rfl) (by decide) (by first | assumption | exact ⟨by omega, by omega⟩) (fun c6 => absurd c6 (by omega)) (fun c6 => ?_)
      refine K_aload_n (dt_at dtX5_readLine 13 rfl) rfl rfl ?_
      refine K_callV (M' := mX5_readPerson) (a := 63) (ci := 5) (As := []) (st := []) (dt_at dtX5_readLine 14 rfl) (person_L_33 A i1 Dd) (show TT 63 = (0, 5) from rfl) rfl wL_X5_74 vX5_readPerson rfl npX5_readPerson (by decide) (by decide) (Nat.le_of_ble_eq_true rfl) (by decide) (by decide) GK_E (fun v9 hc7 hq => ?_) (fun E h9 hq => by cases hq.1)
      have hqq8 := hq
      obtain ⟨e9q8, Lq8, Fq8⟩ := hqq8
      cases e9q8
      show K mX5_readLine _ _ 0 0 35 [(0, vr 63)] [] hc7
      rcases uq8 : peB tp n D p with ekq8 | ⟨Dq8, pq8⟩
      · rw [uq8] at Lq8
        have Aq8 : TE hc7 tp n ekq8 := Lq8
        refine K_goto (tgt := 97) (dt_at dtX5_readLine 15 rfl) (by decide) ?_
        refine K_aload_n (dt_at dtX5_readLine 43 rfl) rfl rfl ?_
        refine K_bipush (dt_at dtX5_readLine 44 rfl) (by decide) ?_
        refine K_callV (M' := mX5_readSign) (a := 63) (ci := 5) (As := [vi 59]) (st := []) (dt_at dtX5_readLine 45 rfl) (sX5_readSign_e Aq8) (show TT 63 = (0, 5) from rfl) rfl wL_X5_90 vX5_readSign rfl npX5_readSign (by decide) (by decide) (Nat.le_of_ble_eq_true rfl) (by decide) (by decide) GK_E (fun v9 h9 hq => ?_) (fun E h9 hq => by cases hq.1)
        obtain ⟨e9, e8⟩ := hq
        cases e9
        rw [e8]
        show K mX5_readLine _ _ 0 0 103 [(0, vr 63)] [] hc7
        exact K_vret (dt_at dtX5_readLine 46 rfl) rfl (by decide) (by decide) ⟨rfl, by rw [lnP, lnB_2 (by assumption) (by assumption), uq8]; exact Aq8, Fq8⟩
      · rw [uq8] at Lq8
        obtain ⟨Aq8, jq8, dq8⟩ := Lq8
        refine K_goto (tgt := 97) (dt_at dtX5_readLine 15 rfl) (by decide) ?_
        refine K_aload_n (dt_at dtX5_readLine 43 rfl) rfl rfl ?_
        refine K_bipush (dt_at dtX5_readLine 44 rfl) (by decide) ?_
        by_cases z7 : Sg tp (tk tp n pq8) 59
        · refine K_callV (M' := mX5_readSign) (a := 63) (ci := 5) (As := [vi 59]) (st := []) (dt_at dtX5_readLine 45 rfl) (sX5_readSign_t Aq8 ⟨by omega, by omega⟩ z7) (show TT 63 = (0, 5) from rfl) rfl wL_X5_90 vX5_readSign rfl npX5_readSign (by decide) (by decide) (Nat.le_of_ble_eq_true rfl) (by decide) (by decide) GK_E (fun v9 hc9 hq => ?_) (fun E h9 hq => by cases hq.1)
          have hqq10 := hq
          obtain ⟨e9q10, Aq10, Gq10⟩ := hqq10
          cases e9q10
          show K mX5_readLine _ _ 0 0 103 [(0, vr 63)] [] hc9
          exact K_vret (dt_at dtX5_readLine 46 rfl) rfl (by decide) (by decide) ⟨rfl, by rw [lnP, lnB_2 (by assumption) (by assumption), uq8, siP_t z7]; exact ⟨Aq10, (Gq10.2.2 63 1 rfl).trans jq8, DRf_FL (by decide) dq8 Gq10⟩, (HK_tr Fq8 (HK_FL Gq10))⟩
        · refine K_callV (M' := mX5_readSign) (a := 63) (ci := 5) (As := [vi 59]) (st := []) (dt_at dtX5_readLine 45 rfl) (sX5_readSign_f Aq8 ⟨by omega, by omega⟩ z7) (show TT 63 = (0, 5) from rfl) rfl wL_X5_90 vX5_readSign rfl npX5_readSign (by decide) (by decide) (Nat.le_of_ble_eq_true rfl) (by decide) (by decide) GK_E (fun v9 hc11 hq => ?_) (fun E h9 hq => by cases hq.1)
          have hqq12 := hq
          obtain ⟨e9q12, Aq12, Gq12⟩ := hqq12
          cases e9q12
          show K mX5_readLine _ _ 0 0 103 [(0, vr 63)] [] hc11
          exact K_vret (dt_at dtX5_readLine 46 rfl) rfl (by decide) (by decide) ⟨rfl, by rw [lnP, lnB_2 (by assumption) (by assumption), uq8, siP_f z7]; exact Aq12, (HK_tr Fq8 (HK_FL Gq12))⟩
    · rw [if_neg z5]
      refine K_if_eq (tgt := 38) (dt_at dtX5_readLine 12 rfl) (by decide) (by first | assumption | exact ⟨by omega, by omega⟩) (fun c8 => ?_) (fun c8 => absurd c8 (by omega))
      refine K_aload_n (dt_at dtX5_readLine 16 rfl) rfl rfl ?_
      refine K_get (a := 63) (ci := 5) (k := 0) (v := vr 64) (dt_at dtX5_readLine 17 rfl) (show TT 63 = (0, 5) from rfl) rfl (by decide) wF_X5_12 rfl ?_
      refine K_ldcS (i := 3) (dt_at dtX5_readLine 18 rfl) rfl GK_E ?_
      refine K_callV (M' := mX9_isWord) (a := 64) (ci := 9) (As := [vs 4]) (st := []) (dt_at dtX5_readLine 19 rfl) (sX9_isWord (i := 3) A.1 A.2.1 (tk_G A.2.2.1) (by decide)) (show TT 64 = (0, 9) from rfl) rfl wL_X5_65 vX9_isWord rfl npX9_isWord (by decide) (by decide) (Nat.le_of_ble_eq_true rfl) (by decide) (by decide) GK_E (fun v9 h9 hq => ?_) (fun E h9 hq => by cases hq.1)
      obtain ⟨e9, e8⟩ := hq
      cases e9
      rw [e8]
      show K mX5_readLine _ _ 0 0 47 [(0, vr 63)] [vi (if isWb tp (tk tp n p) 3 = true then 1 else 0)] h
      by_cases z9 : isWb tp (tk tp n p) 3 = true
      · rw [if_pos z9]
        refine K_if_eq (tgt := 65) (dt_at dtX5_readLine 20 rfl) (by decide) (by first | assumption | exact ⟨by omega, by omega⟩) (fun c10 => absurd c10 (by omega)) (fun c10 => ?_)
        refine K_aload_n (dt_at dtX5_readLine 21 rfl) rfl rfl ?_
        refine K_aload_n (dt_at dtX5_readLine 22 rfl) rfl rfl ?_
        refine K_get (a := 63) (ci := 5) (k := 1) (v := vr 33) (dt_at dtX5_readLine 23 rfl) (show TT 63 = (0, 5) from rfl) rfl (by decide) wF_X5_29 (by show vr (hR h 63 1) = vr 33; rw [i1]) ?_
        refine K_get (a := 33) (ci := 3) (k := 8) (v := vr 42) (dt_at dtX5_readLine 24 rfl) (show TT 33 = (0, 3) from rfl) rfl (by decide) wF_X5_33 rfl ?_
        refine K_iconst (dt_at dtX5_readLine 25 rfl) ?_
        refine K_callV (M' := mX5_readRule) (a := 63) (ci := 5) (As := [vr 42, vi 1]) (st := []) (dt_at dtX5_readLine 26 rfl) (puts_L_33 A i1 Dd) (show TT 63 = (0, 5) from rfl) rfl wL_X5_78 vX5_readRule rfl npX5_readRule (by decide) (by decide) (Nat.le_of_ble_eq_true rfl) (by decide) (by decide) GK_E (fun v9 hc13 hq => ?_) (fun E h9 hq => by cases hq.1)
        have hqq14 := hq
        obtain ⟨e9q14, Lq14, Fq14⟩ := hqq14
        cases e9q14
        show K mX5_readLine _ _ 0 0 62 [(0, vr 63)] [] hc13
        rcases uq14 : puB tp n D p with ekq14 | ⟨Dq14, pq14⟩
        · rw [uq14] at Lq14
          have Aq14 : TE hc13 tp n ekq14 := Lq14
          refine K_goto (tgt := 97) (dt_at dtX5_readLine 27 rfl) (by decide) ?_
          refine K_aload_n (dt_at dtX5_readLine 43 rfl) rfl rfl ?_
          refine K_bipush (dt_at dtX5_readLine 44 rfl) (by decide) ?_
          refine K_callV (M' := mX5_readSign) (a := 63) (ci := 5) (As := [vi 59]) (st := []) (dt_at dtX5_readLine 45 rfl) (sX5_readSign_e Aq14) (show TT 63 = (0, 5) from rfl) rfl wL_X5_90 vX5_readSign rfl npX5_readSign (by decide) (by decide) (Nat.le_of_ble_eq_true rfl) (by decide) (by decide) GK_E (fun v9 h9 hq => ?_) (fun E h9 hq => by cases hq.1)
          obtain ⟨e9, e8⟩ := hq
          cases e9
          rw [e8]
          show K mX5_readLine _ _ 0 0 103 [(0, vr 63)] [] hc13
          exact K_vret (dt_at dtX5_readLine 46 rfl) rfl (by decide) (by decide) ⟨rfl, by rw [lnP, lnB_3 (by assumption) (by assumption) (by assumption), uq14]; exact Aq14, Fq14⟩
        · rw [uq14] at Lq14
          obtain ⟨Aq14, jq14, dq14⟩ := Lq14
          refine K_goto (tgt := 97) (dt_at dtX5_readLine 27 rfl) (by decide) ?_
          refine K_aload_n (dt_at dtX5_readLine 43 rfl) rfl rfl ?_
          refine K_bipush (dt_at dtX5_readLine 44 rfl) (by decide) ?_
          by_cases z11 : Sg tp (tk tp n pq14) 59
          · refine K_callV (M' := mX5_readSign) (a := 63) (ci := 5) (As := [vi 59]) (st := []) (dt_at dtX5_readLine 45 rfl) (sX5_readSign_t Aq14 ⟨by omega, by omega⟩ z11) (show TT 63 = (0, 5) from rfl) rfl wL_X5_90 vX5_readSign rfl npX5_readSign (by decide) (by decide) (Nat.le_of_ble_eq_true rfl) (by decide) (by decide) GK_E (fun v9 hc15 hq => ?_) (fun E h9 hq => by cases hq.1)
            have hqq16 := hq
            obtain ⟨e9q16, Aq16, Gq16⟩ := hqq16
            cases e9q16
            show K mX5_readLine _ _ 0 0 103 [(0, vr 63)] [] hc15
            exact K_vret (dt_at dtX5_readLine 46 rfl) rfl (by decide) (by decide) ⟨rfl, by rw [lnP, lnB_3 (by assumption) (by assumption) (by assumption), uq14, siP_t z11]; exact ⟨Aq16, (Gq16.2.2 63 1 rfl).trans jq14, DRf_FL (by decide) dq14 Gq16⟩, (HK_tr Fq14 (HK_FL Gq16))⟩
          · refine K_callV (M' := mX5_readSign) (a := 63) (ci := 5) (As := [vi 59]) (st := []) (dt_at dtX5_readLine 45 rfl) (sX5_readSign_f Aq14 ⟨by omega, by omega⟩ z11) (show TT 63 = (0, 5) from rfl) rfl wL_X5_90 vX5_readSign rfl npX5_readSign (by decide) (by decide) (Nat.le_of_ble_eq_true rfl) (by decide) (by decide) GK_E (fun v9 hc17 hq => ?_) (fun E h9 hq => by cases hq.1)
            have hqq18 := hq
            obtain ⟨e9q18, Aq18, Gq18⟩ := hqq18
            cases e9q18
            show K mX5_readLine _ _ 0 0 103 [(0, vr 63)] [] hc17
            exact K_vret (dt_at dtX5_readLine 46 rfl) rfl (by decide) (by decide) ⟨rfl, by rw [lnP, lnB_3 (by assumption) (by assumption) (by assumption), uq14, siP_f z11]; exact Aq18, (HK_tr Fq14 (HK_FL Gq18))⟩
      · rw [if_neg z9]
        refine K_if_eq (tgt := 65) (dt_at dtX5_readLine 20 rfl) (by decide) (by first | assumption | exact ⟨by omega, by omega⟩) (fun c12 => ?_) (fun c12 => absurd c12 (by omega))
        refine K_aload_n (dt_at dtX5_readLine 28 rfl) rfl rfl ?_
        refine K_get (a := 63) (ci := 5) (k := 0) (v := vr 64) (dt_at dtX5_readLine 29 rfl) (show TT 63 = (0, 5) from rfl) rfl (by decide) wF_X5_12 rfl ?_
        refine K_ldcS (i := 15) (dt_at dtX5_readLine 30 rfl) rfl GK_E ?_
        refine K_callV (M' := mX9_isWord) (a := 64) (ci := 9) (As := [vs 16]) (st := []) (dt_at dtX5_readLine 31 rfl) (sX9_isWord (i := 15) A.1 A.2.1 (tk_G A.2.2.1) (by decide)) (show TT 64 = (0, 9) from rfl) rfl wL_X5_65 vX9_isWord rfl npX9_isWord (by decide) (by decide) (Nat.le_of_ble_eq_true rfl) (by decide) (by decide) GK_E (fun v9 h9 hq => ?_) (fun E h9 hq => by cases hq.1)
        obtain ⟨e9, e8⟩ := hq
        cases e9
        rw [e8]
        show K mX5_readLine _ _ 0 0 74 [(0, vr 63)] [vi (if isWb tp (tk tp n p) 15 = true then 1 else 0)] h
        by_cases z13 : isWb tp (tk tp n p) 15 = true
        · rw [if_pos z13]
          refine K_if_eq (tgt := 92) (dt_at dtX5_readLine 32 rfl) (by decide) (by first | assumption | exact ⟨by omega, by omega⟩) (fun c14 => absurd c14 (by omega)) (fun c14 => ?_)
          refine K_aload_n (dt_at dtX5_readLine 33 rfl) rfl rfl ?_
          refine K_aload_n (dt_at dtX5_readLine 34 rfl) rfl rfl ?_
          refine K_get (a := 63) (ci := 5) (k := 1) (v := vr 33) (dt_at dtX5_readLine 35 rfl) (show TT 63 = (0, 5) from rfl) rfl (by decide) wF_X5_29 (by show vr (hR h 63 1) = vr 33; rw [i1]) ?_
          refine K_get (a := 33) (ci := 3) (k := 9) (v := vr 45) (dt_at dtX5_readLine 36 rfl) (show TT 33 = (0, 3) from rfl) rfl (by decide) wF_X5_84 rfl ?_
          refine K_iconst (dt_at dtX5_readLine 37 rfl) ?_
          refine K_callV (M' := mX5_readRule) (a := 63) (ci := 5) (As := [vr 45, vi 0]) (st := []) (dt_at dtX5_readLine 38 rfl) (feels_L_33 A i1 Dd) (show TT 63 = (0, 5) from rfl) rfl wL_X5_78 vX5_readRule rfl npX5_readRule (by decide) (by decide) (Nat.le_of_ble_eq_true rfl) (by decide) (by decide) GK_E (fun v9 hc19 hq => ?_) (fun E h9 hq => by cases hq.1)
          have hqq20 := hq
          obtain ⟨e9q20, Lq20, Fq20⟩ := hqq20
          cases e9q20
          show K mX5_readLine _ _ 0 0 89 [(0, vr 63)] [] hc19
          rcases uq20 : feB tp n D p with ekq20 | ⟨Dq20, pq20⟩
          · rw [uq20] at Lq20
            have Aq20 : TE hc19 tp n ekq20 := Lq20
            refine K_goto (tgt := 97) (dt_at dtX5_readLine 39 rfl) (by decide) ?_
            refine K_aload_n (dt_at dtX5_readLine 43 rfl) rfl rfl ?_
            refine K_bipush (dt_at dtX5_readLine 44 rfl) (by decide) ?_
            refine K_callV (M' := mX5_readSign) (a := 63) (ci := 5) (As := [vi 59]) (st := []) (dt_at dtX5_readLine 45 rfl) (sX5_readSign_e Aq20) (show TT 63 = (0, 5) from rfl) rfl wL_X5_90 vX5_readSign rfl npX5_readSign (by decide) (by decide) (Nat.le_of_ble_eq_true rfl) (by decide) (by decide) GK_E (fun v9 h9 hq => ?_) (fun E h9 hq => by cases hq.1)
            obtain ⟨e9, e8⟩ := hq
            cases e9
            rw [e8]
            show K mX5_readLine _ _ 0 0 103 [(0, vr 63)] [] hc19
            exact K_vret (dt_at dtX5_readLine 46 rfl) rfl (by decide) (by decide) ⟨rfl, by rw [lnP, lnB_4 (by assumption) (by assumption) (by assumption) (by assumption), uq20]; exact Aq20, Fq20⟩
          · rw [uq20] at Lq20
            obtain ⟨Aq20, jq20, dq20⟩ := Lq20
            refine K_goto (tgt := 97) (dt_at dtX5_readLine 39 rfl) (by decide) ?_
            refine K_aload_n (dt_at dtX5_readLine 43 rfl) rfl rfl ?_
            refine K_bipush (dt_at dtX5_readLine 44 rfl) (by decide) ?_
            by_cases z15 : Sg tp (tk tp n pq20) 59
            · refine K_callV (M' := mX5_readSign) (a := 63) (ci := 5) (As := [vi 59]) (st := []) (dt_at dtX5_readLine 45 rfl) (sX5_readSign_t Aq20 ⟨by omega, by omega⟩ z15) (show TT 63 = (0, 5) from rfl) rfl wL_X5_90 vX5_readSign rfl npX5_readSign (by decide) (by decide) (Nat.le_of_ble_eq_true rfl) (by decide) (by decide) GK_E (fun v9 hc21 hq => ?_) (fun E h9 hq => by cases hq.1)
              have hqq22 := hq
              obtain ⟨e9q22, Aq22, Gq22⟩ := hqq22
              cases e9q22
              show K mX5_readLine _ _ 0 0 103 [(0, vr 63)] [] hc21
              exact K_vret (dt_at dtX5_readLine 46 rfl) rfl (by decide) (by decide) ⟨rfl, by rw [lnP, lnB_4 (by assumption) (by assumption) (by assumption) (by assumption), uq20, siP_t z15]; exact ⟨Aq22, (Gq22.2.2 63 1 rfl).trans jq20, DRf_FL (by decide) dq20 Gq22⟩, (HK_tr Fq20 (HK_FL Gq22))⟩
            · refine K_callV (M' := mX5_readSign) (a := 63) (ci := 5) (As := [vi 59]) (st := []) (dt_at dtX5_readLine 45 rfl) (sX5_readSign_f Aq20 ⟨by omega, by omega⟩ z15) (show TT 63 = (0, 5) from rfl) rfl wL_X5_90 vX5_readSign rfl npX5_readSign (by decide) (by decide) (Nat.le_of_ble_eq_true rfl) (by decide) (by decide) GK_E (fun v9 hc23 hq => ?_) (fun E h9 hq => by cases hq.1)
              have hqq24 := hq
              obtain ⟨e9q24, Aq24, Gq24⟩ := hqq24
              cases e9q24
              show K mX5_readLine _ _ 0 0 103 [(0, vr 63)] [] hc23
              exact K_vret (dt_at dtX5_readLine 46 rfl) rfl (by decide) (by decide) ⟨rfl, by rw [lnP, lnB_4 (by assumption) (by assumption) (by assumption) (by assumption), uq20, siP_f z15]; exact Aq24, (HK_tr Fq20 (HK_FL Gq24))⟩
        · rw [if_neg z13]
          refine K_if_eq (tgt := 92) (dt_at dtX5_readLine 32 rfl) (by decide) (by first | assumption | exact ⟨by omega, by omega⟩) (fun c16 => ?_) (fun c16 => absurd c16 (by omega))
          refine K_aload_n (dt_at dtX5_readLine 40 rfl) rfl rfl ?_
          refine K_iconst (dt_at dtX5_readLine 41 rfl) ?_
          refine K_callV (M' := mX5_stop) (a := 63) (ci := 5) (As := [vi 1]) (st := []) (dt_at dtX5_readLine 42 rfl) (sX5_stop A ⟨by omega, by omega⟩) (show TT 63 = (0, 5) from rfl) rfl wL_X5_86 vX5_stop rfl npX5_stop (by decide) (by decide) (Nat.le_of_ble_eq_true rfl) (by decide) (by decide) GK_E (fun v9 hc25 hq => ?_) (fun E h9 hq => by cases hq.1)
          have hqq26 := hq
          obtain ⟨e9q26, Aq26, Gq26⟩ := hqq26
          have Fq26 : HK 33 h hc25 := HK_FL Gq26
          cases e9q26
          show K mX5_readLine _ _ 0 0 97 [(0, vr 63)] [] hc25
          refine K_aload_n (dt_at dtX5_readLine 43 rfl) rfl rfl ?_
          refine K_bipush (dt_at dtX5_readLine 44 rfl) (by decide) ?_
          refine K_callV (M' := mX5_readSign) (a := 63) (ci := 5) (As := [vi 59]) (st := []) (dt_at dtX5_readLine 45 rfl) (sX5_readSign_e Aq26) (show TT 63 = (0, 5) from rfl) rfl wL_X5_90 vX5_readSign rfl npX5_readSign (by decide) (by decide) (Nat.le_of_ble_eq_true rfl) (by decide) (by decide) GK_E (fun v9 h9 hq => ?_) (fun E h9 hq => by cases hq.1)
          obtain ⟨e9, e8⟩ := hq
          cases e9
          rw [e8]
          show K mX5_readLine _ _ 0 0 103 [(0, vr 63)] [] hc25
          exact K_vret (dt_at dtX5_readLine 46 rfl) rfl (by decide) (by decide) ⟨rfl, by rw [lnP, lnB_5 (by assumption) (by assumption) (by assumption) (by assumption)]; exact Aq26, Fq26⟩
set_option maxHeartbeats 4000000 in
set_option maxRecDepth 100000 in
theorem sX5_readLine_48 {h : HP} {tp : Int → Int} {n p : Nat} {D : DR} (A : TG h tp n p) (i1 : hR h 63 1 = 48) (Dd : DRf h 48 D) : SpecK mX5_readLine [vr 63] h (fun o h' => o = .inl none ∧ LNr h' 48 tp n (lnP tp n D p) ∧ HK 48 h h') := by
  refine Spec_of (by decide +kernel) (Nat.le_of_ble_eq_true rfl) ?_
  refine K_aload_n (dt_at dtX5_readLine 0 rfl) rfl rfl ?_
  refine K_get (a := 63) (ci := 5) (k := 0) (v := vr 64) (dt_at dtX5_readLine 1 rfl) (show TT 63 = (0, 5) from rfl) rfl (by decide) wF_X5_12 rfl ?_
  refine K_ldcS (i := 0) (dt_at dtX5_readLine 2 rfl) rfl GK_E ?_
  refine K_callV (M' := mX9_isWord) (a := 64) (ci := 9) (As := [vs 1]) (st := []) (dt_at dtX5_readLine 3 rfl) (sX9_isWord (i := 0) A.1 A.2.1 (tk_G A.2.2.1) (by decide)) (show TT 64 = (0, 9) from rfl) rfl wL_X5_65 vX9_isWord rfl npX9_isWord (by decide) (by decide) (Nat.le_of_ble_eq_true rfl) (by decide) (by decide) GK_E (fun v9 h9 hq => ?_) (fun E h9 hq => by cases hq.1)
  obtain ⟨e9, e8⟩ := hq
  cases e9
  rw [e8]
  show K mX5_readLine _ _ 0 0 9 [(0, vr 63)] [vi (if isWb tp (tk tp n p) 0 = true then 1 else 0)] h
  by_cases z1 : isWb tp (tk tp n p) 0 = true
  · rw [if_pos z1]
    refine K_if_eq (tgt := 19) (dt_at dtX5_readLine 4 rfl) (by decide) (by first | assumption | exact ⟨by omega, by omega⟩) (fun c2 => absurd c2 (by omega)) (fun c2 => ?_)
    refine K_aload_n (dt_at dtX5_readLine 5 rfl) rfl rfl ?_
    refine K_callV (M' := mX5_readThing) (a := 63) (ci := 5) (As := []) (st := []) (dt_at dtX5_readLine 6 rfl) (thing_L_48 A i1 Dd) (show TT 63 = (0, 5) from rfl) rfl wL_X5_69 vX5_readThing rfl npX5_readThing (by decide) (by decide) (Nat.le_of_ble_eq_true rfl) (by decide) (by decide) GK_E (fun v9 hc1 hq => ?_) (fun E h9 hq => by cases hq.1)
    have hqq2 := hq
    obtain ⟨e9q2, Lq2, Fq2⟩ := hqq2
    cases e9q2
    show K mX5_readLine _ _ 0 0 16 [(0, vr 63)] [] hc1
    rcases uq2 : thB tp n D p with ekq2 | ⟨Dq2, pq2⟩
    · rw [uq2] at Lq2
      have Aq2 : TE hc1 tp n ekq2 := Lq2
      refine K_goto (tgt := 97) (dt_at dtX5_readLine 7 rfl) (by decide) ?_
      refine K_aload_n (dt_at dtX5_readLine 43 rfl) rfl rfl ?_
      refine K_bipush (dt_at dtX5_readLine 44 rfl) (by decide) ?_
      refine K_callV (M' := mX5_readSign) (a := 63) (ci := 5) (As := [vi 59]) (st := []) (dt_at dtX5_readLine 45 rfl) (sX5_readSign_e Aq2) (show TT 63 = (0, 5) from rfl) rfl wL_X5_90 vX5_readSign rfl npX5_readSign (by decide) (by decide) (Nat.le_of_ble_eq_true rfl) (by decide) (by decide) GK_E (fun v9 h9 hq => ?_) (fun E h9 hq => by cases hq.1)
      obtain ⟨e9, e8⟩ := hq
      cases e9
      rw [e8]
      show K mX5_readLine _ _ 0 0 103 [(0, vr 63)] [] hc1
      exact K_vret (dt_at dtX5_readLine 46 rfl) rfl (by decide) (by decide) ⟨rfl, by rw [lnP, lnB_1 (by assumption), uq2]; exact Aq2, Fq2⟩
    · rw [uq2] at Lq2
      obtain ⟨Aq2, jq2, dq2⟩ := Lq2
      refine K_goto (tgt := 97) (dt_at dtX5_readLine 7 rfl) (by decide) ?_
      refine K_aload_n (dt_at dtX5_readLine 43 rfl) rfl rfl ?_
      refine K_bipush (dt_at dtX5_readLine 44 rfl) (by decide) ?_
      by_cases z3 : Sg tp (tk tp n pq2) 59
      · refine K_callV (M' := mX5_readSign) (a := 63) (ci := 5) (As := [vi 59]) (st := []) (dt_at dtX5_readLine 45 rfl) (sX5_readSign_t Aq2 ⟨by omega, by omega⟩ z3) (show TT 63 = (0, 5) from rfl) rfl wL_X5_90 vX5_readSign rfl npX5_readSign (by decide) (by decide) (Nat.le_of_ble_eq_true rfl) (by decide) (by decide) GK_E (fun v9 hc3 hq => ?_) (fun E h9 hq => by cases hq.1)
        have hqq4 := hq
        obtain ⟨e9q4, Aq4, Gq4⟩ := hqq4
        cases e9q4
        show K mX5_readLine _ _ 0 0 103 [(0, vr 63)] [] hc3
        exact K_vret (dt_at dtX5_readLine 46 rfl) rfl (by decide) (by decide) ⟨rfl, by rw [lnP, lnB_1 (by assumption), uq2, siP_t z3]; exact ⟨Aq4, (Gq4.2.2 63 1 rfl).trans jq2, DRf_FL (by decide) dq2 Gq4⟩, (HK_tr Fq2 (HK_FL Gq4))⟩
      · refine K_callV (M' := mX5_readSign) (a := 63) (ci := 5) (As := [vi 59]) (st := []) (dt_at dtX5_readLine 45 rfl) (sX5_readSign_f Aq2 ⟨by omega, by omega⟩ z3) (show TT 63 = (0, 5) from rfl) rfl wL_X5_90 vX5_readSign rfl npX5_readSign (by decide) (by decide) (Nat.le_of_ble_eq_true rfl) (by decide) (by decide) GK_E (fun v9 hc5 hq => ?_) (fun E h9 hq => by cases hq.1)
        have hqq6 := hq
        obtain ⟨e9q6, Aq6, Gq6⟩ := hqq6
        cases e9q6
        show K mX5_readLine _ _ 0 0 103 [(0, vr 63)] [] hc5
        exact K_vret (dt_at dtX5_readLine 46 rfl) rfl (by decide) (by decide) ⟨rfl, by rw [lnP, lnB_1 (by assumption), uq2, siP_f z3]; exact Aq6, (HK_tr Fq2 (HK_FL Gq6))⟩
  · rw [if_neg z1]
    refine K_if_eq (tgt := 19) (dt_at dtX5_readLine 4 rfl) (by decide) (by first | assumption | exact ⟨by omega, by omega⟩) (fun c4 => ?_) (fun c4 => absurd c4 (by omega))
    refine K_aload_n (dt_at dtX5_readLine 8 rfl) rfl rfl ?_
    refine K_get (a := 63) (ci := 5) (k := 0) (v := vr 64) (dt_at dtX5_readLine 9 rfl) (show TT 63 = (0, 5) from rfl) rfl (by decide) wF_X5_12 rfl ?_
    refine K_ldcS (i := 1) (dt_at dtX5_readLine 10 rfl) rfl GK_E ?_
    refine K_callV (M' := mX9_isWord) (a := 64) (ci := 9) (As := [vs 2]) (st := []) (dt_at dtX5_readLine 11 rfl) (sX9_isWord (i := 1) A.1 A.2.1 (tk_G A.2.2.1) (by decide)) (show TT 64 = (0, 9) from rfl) rfl wL_X5_65 vX9_isWord rfl npX9_isWord (by decide) (by decide) (Nat.le_of_ble_eq_true rfl) (by decide) (by decide) GK_E (fun v9 h9 hq => ?_) (fun E h9 hq => by cases hq.1)
    obtain ⟨e9, e8⟩ := hq
    cases e9
    rw [e8]
    show K mX5_readLine _ _ 0 0 28 [(0, vr 63)] [vi (if isWb tp (tk tp n p) 1 = true then 1 else 0)] h
    by_cases z5 : isWb tp (tk tp n p) 1 = true
    · rw [if_pos z5]
      refine K_if_eq (tgt := 38) (dt_at dtX5_readLine 12 rfl) (by decide) (by first | assumption | exact ⟨by omega, by omega⟩) (fun c6 => absurd c6 (by omega)) (fun c6 => ?_)
      refine K_aload_n (dt_at dtX5_readLine 13 rfl) rfl rfl ?_
      refine K_callV (M' := mX5_readPerson) (a := 63) (ci := 5) (As := []) (st := []) (dt_at dtX5_readLine 14 rfl) (person_L_48 A i1 Dd) (show TT 63 = (0, 5) from rfl) rfl wL_X5_74 vX5_readPerson rfl npX5_readPerson (by decide) (by decide) (Nat.le_of_ble_eq_true rfl) (by decide) (by decide) GK_E (fun v9 hc7 hq => ?_) (fun E h9 hq => by cases hq.1)
      have hqq8 := hq
      obtain ⟨e9q8, Lq8, Fq8⟩ := hqq8
      cases e9q8
      show K mX5_readLine _ _ 0 0 35 [(0, vr 63)] [] hc7
      rcases uq8 : peB tp n D p with ekq8 | ⟨Dq8, pq8⟩
      · rw [uq8] at Lq8
        have Aq8 : TE hc7 tp n ekq8 := Lq8
        refine K_goto (tgt := 97) (dt_at dtX5_readLine 15 rfl) (by decide) ?_
        refine K_aload_n (dt_at dtX5_readLine 43 rfl) rfl rfl ?_
        refine K_bipush (dt_at dtX5_readLine 44 rfl) (by decide) ?_
        refine K_callV (M' := mX5_readSign) (a := 63) (ci := 5) (As := [vi 59]) (st := []) (dt_at dtX5_readLine 45 rfl) (sX5_readSign_e Aq8) (show TT 63 = (0, 5) from rfl) rfl wL_X5_90 vX5_readSign rfl npX5_readSign (by decide) (by decide) (Nat.le_of_ble_eq_true rfl) (by decide) (by decide) GK_E (fun v9 h9 hq => ?_) (fun E h9 hq => by cases hq.1)
        obtain ⟨e9, e8⟩ := hq
        cases e9
        rw [e8]
        show K mX5_readLine _ _ 0 0 103 [(0, vr 63)] [] hc7
        exact K_vret (dt_at dtX5_readLine 46 rfl) rfl (by decide) (by decide) ⟨rfl, by rw [lnP, lnB_2 (by assumption) (by assumption), uq8]; exact Aq8, Fq8⟩
      · rw [uq8] at Lq8
        obtain ⟨Aq8, jq8, dq8⟩ := Lq8
        refine K_goto (tgt := 97) (dt_at dtX5_readLine 15 rfl) (by decide) ?_
        refine K_aload_n (dt_at dtX5_readLine 43 rfl) rfl rfl ?_
        refine K_bipush (dt_at dtX5_readLine 44 rfl) (by decide) ?_
        by_cases z7 : Sg tp (tk tp n pq8) 59
        · refine K_callV (M' := mX5_readSign) (a := 63) (ci := 5) (As := [vi 59]) (st := []) (dt_at dtX5_readLine 45 rfl) (sX5_readSign_t Aq8 ⟨by omega, by omega⟩ z7) (show TT 63 = (0, 5) from rfl) rfl wL_X5_90 vX5_readSign rfl npX5_readSign (by decide) (by decide) (Nat.le_of_ble_eq_true rfl) (by decide) (by decide) GK_E (fun v9 hc9 hq => ?_) (fun E h9 hq => by cases hq.1)
          have hqq10 := hq
          obtain ⟨e9q10, Aq10, Gq10⟩ := hqq10
          cases e9q10
          show K mX5_readLine _ _ 0 0 103 [(0, vr 63)] [] hc9
          exact K_vret (dt_at dtX5_readLine 46 rfl) rfl (by decide) (by decide) ⟨rfl, by rw [lnP, lnB_2 (by assumption) (by assumption), uq8, siP_t z7]; exact ⟨Aq10, (Gq10.2.2 63 1 rfl).trans jq8, DRf_FL (by decide) dq8 Gq10⟩, (HK_tr Fq8 (HK_FL Gq10))⟩
        · refine K_callV (M' := mX5_readSign) (a := 63) (ci := 5) (As := [vi 59]) (st := []) (dt_at dtX5_readLine 45 rfl) (sX5_readSign_f Aq8 ⟨by omega, by omega⟩ z7) (show TT 63 = (0, 5) from rfl) rfl wL_X5_90 vX5_readSign rfl npX5_readSign (by decide) (by decide) (Nat.le_of_ble_eq_true rfl) (by decide) (by decide) GK_E (fun v9 hc11 hq => ?_) (fun E h9 hq => by cases hq.1)
          have hqq12 := hq
          obtain ⟨e9q12, Aq12, Gq12⟩ := hqq12
          cases e9q12
          show K mX5_readLine _ _ 0 0 103 [(0, vr 63)] [] hc11
          exact K_vret (dt_at dtX5_readLine 46 rfl) rfl (by decide) (by decide) ⟨rfl, by rw [lnP, lnB_2 (by assumption) (by assumption), uq8, siP_f z7]; exact Aq12, (HK_tr Fq8 (HK_FL Gq12))⟩
    · rw [if_neg z5]
      refine K_if_eq (tgt := 38) (dt_at dtX5_readLine 12 rfl) (by decide) (by first | assumption | exact ⟨by omega, by omega⟩) (fun c8 => ?_) (fun c8 => absurd c8 (by omega))
      refine K_aload_n (dt_at dtX5_readLine 16 rfl) rfl rfl ?_
      refine K_get (a := 63) (ci := 5) (k := 0) (v := vr 64) (dt_at dtX5_readLine 17 rfl) (show TT 63 = (0, 5) from rfl) rfl (by decide) wF_X5_12 rfl ?_
      refine K_ldcS (i := 3) (dt_at dtX5_readLine 18 rfl) rfl GK_E ?_
      refine K_callV (M' := mX9_isWord) (a := 64) (ci := 9) (As := [vs 4]) (st := []) (dt_at dtX5_readLine 19 rfl) (sX9_isWord (i := 3) A.1 A.2.1 (tk_G A.2.2.1) (by decide)) (show TT 64 = (0, 9) from rfl) rfl wL_X5_65 vX9_isWord rfl npX9_isWord (by decide) (by decide) (Nat.le_of_ble_eq_true rfl) (by decide) (by decide) GK_E (fun v9 h9 hq => ?_) (fun E h9 hq => by cases hq.1)
      obtain ⟨e9, e8⟩ := hq
      cases e9
      rw [e8]
      show K mX5_readLine _ _ 0 0 47 [(0, vr 63)] [vi (if isWb tp (tk tp n p) 3 = true then 1 else 0)] h
      by_cases z9 : isWb tp (tk tp n p) 3 = true
      · rw [if_pos z9]
        refine K_if_eq (tgt := 65) (dt_at dtX5_readLine 20 rfl) (by decide) (by first | assumption | exact ⟨by omega, by omega⟩) (fun c10 => absurd c10 (by omega)) (fun c10 => ?_)
        refine K_aload_n (dt_at dtX5_readLine 21 rfl) rfl rfl ?_
        refine K_aload_n (dt_at dtX5_readLine 22 rfl) rfl rfl ?_
        refine K_get (a := 63) (ci := 5) (k := 1) (v := vr 48) (dt_at dtX5_readLine 23 rfl) (show TT 63 = (0, 5) from rfl) rfl (by decide) wF_X5_29 (by show vr (hR h 63 1) = vr 48; rw [i1]) ?_
        refine K_get (a := 48) (ci := 3) (k := 8) (v := vr 57) (dt_at dtX5_readLine 24 rfl) (show TT 48 = (0, 3) from rfl) rfl (by decide) wF_X5_33 rfl ?_
        refine K_iconst (dt_at dtX5_readLine 25 rfl) ?_
        refine K_callV (M' := mX5_readRule) (a := 63) (ci := 5) (As := [vr 57, vi 1]) (st := []) (dt_at dtX5_readLine 26 rfl) (puts_L_48 A i1 Dd) (show TT 63 = (0, 5) from rfl) rfl wL_X5_78 vX5_readRule rfl npX5_readRule (by decide) (by decide) (Nat.le_of_ble_eq_true rfl) (by decide) (by decide) GK_E (fun v9 hc13 hq => ?_) (fun E h9 hq => by cases hq.1)
        have hqq14 := hq
        obtain ⟨e9q14, Lq14, Fq14⟩ := hqq14
        cases e9q14
        show K mX5_readLine _ _ 0 0 62 [(0, vr 63)] [] hc13
        rcases uq14 : puB tp n D p with ekq14 | ⟨Dq14, pq14⟩
        · rw [uq14] at Lq14
          have Aq14 : TE hc13 tp n ekq14 := Lq14
          refine K_goto (tgt := 97) (dt_at dtX5_readLine 27 rfl) (by decide) ?_
          refine K_aload_n (dt_at dtX5_readLine 43 rfl) rfl rfl ?_
          refine K_bipush (dt_at dtX5_readLine 44 rfl) (by decide) ?_
          refine K_callV (M' := mX5_readSign) (a := 63) (ci := 5) (As := [vi 59]) (st := []) (dt_at dtX5_readLine 45 rfl) (sX5_readSign_e Aq14) (show TT 63 = (0, 5) from rfl) rfl wL_X5_90 vX5_readSign rfl npX5_readSign (by decide) (by decide) (Nat.le_of_ble_eq_true rfl) (by decide) (by decide) GK_E (fun v9 h9 hq => ?_) (fun E h9 hq => by cases hq.1)
          obtain ⟨e9, e8⟩ := hq
          cases e9
          rw [e8]
          show K mX5_readLine _ _ 0 0 103 [(0, vr 63)] [] hc13
          exact K_vret (dt_at dtX5_readLine 46 rfl) rfl (by decide) (by decide) ⟨rfl, by rw [lnP, lnB_3 (by assumption) (by assumption) (by assumption), uq14]; exact Aq14, Fq14⟩
        · rw [uq14] at Lq14
          obtain ⟨Aq14, jq14, dq14⟩ := Lq14
          refine K_goto (tgt := 97) (dt_at dtX5_readLine 27 rfl) (by decide) ?_
          refine K_aload_n (dt_at dtX5_readLine 43 rfl) rfl rfl ?_
          refine K_bipush (dt_at dtX5_readLine 44 rfl) (by decide) ?_
          by_cases z11 : Sg tp (tk tp n pq14) 59
          · refine K_callV (M' := mX5_readSign) (a := 63) (ci := 5) (As := [vi 59]) (st := []) (dt_at dtX5_readLine 45 rfl) (sX5_readSign_t Aq14 ⟨by omega, by omega⟩ z11) (show TT 63 = (0, 5) from rfl) rfl wL_X5_90 vX5_readSign rfl npX5_readSign (by decide) (by decide) (Nat.le_of_ble_eq_true rfl) (by decide) (by decide) GK_E (fun v9 hc15 hq => ?_) (fun E h9 hq => by cases hq.1)
            have hqq16 := hq
            obtain ⟨e9q16, Aq16, Gq16⟩ := hqq16
            cases e9q16
            show K mX5_readLine _ _ 0 0 103 [(0, vr 63)] [] hc15
            exact K_vret (dt_at dtX5_readLine 46 rfl) rfl (by decide) (by decide) ⟨rfl, by rw [lnP, lnB_3 (by assumption) (by assumption) (by assumption), uq14, siP_t z11]; exact ⟨Aq16, (Gq16.2.2 63 1 rfl).trans jq14, DRf_FL (by decide) dq14 Gq16⟩, (HK_tr Fq14 (HK_FL Gq16))⟩
          · refine K_callV (M' := mX5_readSign) (a := 63) (ci := 5) (As := [vi 59]) (st := []) (dt_at dtX5_readLine 45 rfl) (sX5_readSign_f Aq14 ⟨by omega, by omega⟩ z11) (show TT 63 = (0, 5) from rfl) rfl wL_X5_90 vX5_readSign rfl npX5_readSign (by decide) (by decide) (Nat.le_of_ble_eq_true rfl) (by decide) (by decide) GK_E (fun v9 hc17 hq => ?_) (fun E h9 hq => by cases hq.1)
            have hqq18 := hq
            obtain ⟨e9q18, Aq18, Gq18⟩ := hqq18
            cases e9q18
            show K mX5_readLine _ _ 0 0 103 [(0, vr 63)] [] hc17
            exact K_vret (dt_at dtX5_readLine 46 rfl) rfl (by decide) (by decide) ⟨rfl, by rw [lnP, lnB_3 (by assumption) (by assumption) (by assumption), uq14, siP_f z11]; exact Aq18, (HK_tr Fq14 (HK_FL Gq18))⟩
      · rw [if_neg z9]
        refine K_if_eq (tgt := 65) (dt_at dtX5_readLine 20 rfl) (by decide) (by first | assumption | exact ⟨by omega, by omega⟩) (fun c12 => ?_) (fun c12 => absurd c12 (by omega))
        refine K_aload_n (dt_at dtX5_readLine 28 rfl) rfl rfl ?_
        refine K_get (a := 63) (ci := 5) (k := 0) (v := vr 64) (dt_at dtX5_readLine 29 rfl) (show TT 63 = (0, 5) from rfl) rfl (by decide) wF_X5_12 rfl ?_
        refine K_ldcS (i := 15) (dt_at dtX5_readLine 30 rfl) rfl GK_E ?_
        refine K_callV (M' := mX9_isWord) (a := 64) (ci := 9) (As := [vs 16]) (st := []) (dt_at dtX5_readLine 31 rfl) (sX9_isWord (i := 15) A.1 A.2.1 (tk_G A.2.2.1) (by decide)) (show TT 64 = (0, 9) from rfl) rfl wL_X5_65 vX9_isWord rfl npX9_isWord (by decide) (by decide) (Nat.le_of_ble_eq_true rfl) (by decide) (by decide) GK_E (fun v9 h9 hq => ?_) (fun E h9 hq => by cases hq.1)
        obtain ⟨e9, e8⟩ := hq
        cases e9
        rw [e8]
        show K mX5_readLine _ _ 0 0 74 [(0, vr 63)] [vi (if isWb tp (tk tp n p) 15 = true then 1 else 0)] h
        by_cases z13 : isWb tp (tk tp n p) 15 = true
        · rw [if_pos z13]
          refine K_if_eq (tgt := 92) (dt_at dtX5_readLine 32 rfl) (by decide) (by first | assumption | exact ⟨by omega, by omega⟩) (fun c14 => absurd c14 (by omega)) (fun c14 => ?_)
          refine K_aload_n (dt_at dtX5_readLine 33 rfl) rfl rfl ?_
          refine K_aload_n (dt_at dtX5_readLine 34 rfl) rfl rfl ?_
          refine K_get (a := 63) (ci := 5) (k := 1) (v := vr 48) (dt_at dtX5_readLine 35 rfl) (show TT 63 = (0, 5) from rfl) rfl (by decide) wF_X5_29 (by show vr (hR h 63 1) = vr 48; rw [i1]) ?_
          refine K_get (a := 48) (ci := 3) (k := 9) (v := vr 60) (dt_at dtX5_readLine 36 rfl) (show TT 48 = (0, 3) from rfl) rfl (by decide) wF_X5_84 rfl ?_
          refine K_iconst (dt_at dtX5_readLine 37 rfl) ?_
          refine K_callV (M' := mX5_readRule) (a := 63) (ci := 5) (As := [vr 60, vi 0]) (st := []) (dt_at dtX5_readLine 38 rfl) (feels_L_48 A i1 Dd) (show TT 63 = (0, 5) from rfl) rfl wL_X5_78 vX5_readRule rfl npX5_readRule (by decide) (by decide) (Nat.le_of_ble_eq_true rfl) (by decide) (by decide) GK_E (fun v9 hc19 hq => ?_) (fun E h9 hq => by cases hq.1)
          have hqq20 := hq
          obtain ⟨e9q20, Lq20, Fq20⟩ := hqq20
          cases e9q20
          show K mX5_readLine _ _ 0 0 89 [(0, vr 63)] [] hc19
          rcases uq20 : feB tp n D p with ekq20 | ⟨Dq20, pq20⟩
          · rw [uq20] at Lq20
            have Aq20 : TE hc19 tp n ekq20 := Lq20
            refine K_goto (tgt := 97) (dt_at dtX5_readLine 39 rfl) (by decide) ?_
            refine K_aload_n (dt_at dtX5_readLine 43 rfl) rfl rfl ?_
            refine K_bipush (dt_at dtX5_readLine 44 rfl) (by decide) ?_
            refine K_callV (M' := mX5_readSign) (a := 63) (ci := 5) (As := [vi 59]) (st := []) (dt_at dtX5_readLine 45 rfl) (sX5_readSign_e Aq20) (show TT 63 = (0, 5) from rfl) rfl wL_X5_90 vX5_readSign rfl npX5_readSign (by decide) (by decide) (Nat.le_of_ble_eq_true rfl) (by decide) (by decide) GK_E (fun v9 h9 hq => ?_) (fun E h9 hq => by cases hq.1)
            obtain ⟨e9, e8⟩ := hq
            cases e9
            rw [e8]
            show K mX5_readLine _ _ 0 0 103 [(0, vr 63)] [] hc19
            exact K_vret (dt_at dtX5_readLine 46 rfl) rfl (by decide) (by decide) ⟨rfl, by rw [lnP, lnB_4 (by assumption) (by assumption) (by assumption) (by assumption), uq20]; exact Aq20, Fq20⟩
          · rw [uq20] at Lq20
            obtain ⟨Aq20, jq20, dq20⟩ := Lq20
            refine K_goto (tgt := 97) (dt_at dtX5_readLine 39 rfl) (by decide) ?_
            refine K_aload_n (dt_at dtX5_readLine 43 rfl) rfl rfl ?_
            refine K_bipush (dt_at dtX5_readLine 44 rfl) (by decide) ?_
            by_cases z15 : Sg tp (tk tp n pq20) 59
            · refine K_callV (M' := mX5_readSign) (a := 63) (ci := 5) (As := [vi 59]) (st := []) (dt_at dtX5_readLine 45 rfl) (sX5_readSign_t Aq20 ⟨by omega, by omega⟩ z15) (show TT 63 = (0, 5) from rfl) rfl wL_X5_90 vX5_readSign rfl npX5_readSign (by decide) (by decide) (Nat.le_of_ble_eq_true rfl) (by decide) (by decide) GK_E (fun v9 hc21 hq => ?_) (fun E h9 hq => by cases hq.1)
              have hqq22 := hq
              obtain ⟨e9q22, Aq22, Gq22⟩ := hqq22
              cases e9q22
              show K mX5_readLine _ _ 0 0 103 [(0, vr 63)] [] hc21
              exact K_vret (dt_at dtX5_readLine 46 rfl) rfl (by decide) (by decide) ⟨rfl, by rw [lnP, lnB_4 (by assumption) (by assumption) (by assumption) (by assumption), uq20, siP_t z15]; exact ⟨Aq22, (Gq22.2.2 63 1 rfl).trans jq20, DRf_FL (by decide) dq20 Gq22⟩, (HK_tr Fq20 (HK_FL Gq22))⟩
            · refine K_callV (M' := mX5_readSign) (a := 63) (ci := 5) (As := [vi 59]) (st := []) (dt_at dtX5_readLine 45 rfl) (sX5_readSign_f Aq20 ⟨by omega, by omega⟩ z15) (show TT 63 = (0, 5) from rfl) rfl wL_X5_90 vX5_readSign rfl npX5_readSign (by decide) (by decide) (Nat.le_of_ble_eq_true rfl) (by decide) (by decide) GK_E (fun v9 hc23 hq => ?_) (fun E h9 hq => by cases hq.1)
              have hqq24 := hq
              obtain ⟨e9q24, Aq24, Gq24⟩ := hqq24
              cases e9q24
              show K mX5_readLine _ _ 0 0 103 [(0, vr 63)] [] hc23
              exact K_vret (dt_at dtX5_readLine 46 rfl) rfl (by decide) (by decide) ⟨rfl, by rw [lnP, lnB_4 (by assumption) (by assumption) (by assumption) (by assumption), uq20, siP_f z15]; exact Aq24, (HK_tr Fq20 (HK_FL Gq24))⟩
        · rw [if_neg z13]
          refine K_if_eq (tgt := 92) (dt_at dtX5_readLine 32 rfl) (by decide) (by first | assumption | exact ⟨by omega, by omega⟩) (fun c16 => ?_) (fun c16 => absurd c16 (by omega))
          refine K_aload_n (dt_at dtX5_readLine 40 rfl) rfl rfl ?_
          refine K_iconst (dt_at dtX5_readLine 41 rfl) ?_
          refine K_callV (M' := mX5_stop) (a := 63) (ci := 5) (As := [vi 1]) (st := []) (dt_at dtX5_readLine 42 rfl) (sX5_stop A ⟨by omega, by omega⟩) (show TT 63 = (0, 5) from rfl) rfl wL_X5_86 vX5_stop rfl npX5_stop (by decide) (by decide) (Nat.le_of_ble_eq_true rfl) (by decide) (by decide) GK_E (fun v9 hc25 hq => ?_) (fun E h9 hq => by cases hq.1)
          have hqq26 := hq
          obtain ⟨e9q26, Aq26, Gq26⟩ := hqq26
          have Fq26 : HK 48 h hc25 := HK_FL Gq26
          cases e9q26
          show K mX5_readLine _ _ 0 0 97 [(0, vr 63)] [] hc25
          refine K_aload_n (dt_at dtX5_readLine 43 rfl) rfl rfl ?_
          refine K_bipush (dt_at dtX5_readLine 44 rfl) (by decide) ?_
          refine K_callV (M' := mX5_readSign) (a := 63) (ci := 5) (As := [vi 59]) (st := []) (dt_at dtX5_readLine 45 rfl) (sX5_readSign_e Aq26) (show TT 63 = (0, 5) from rfl) rfl wL_X5_90 vX5_readSign rfl npX5_readSign (by decide) (by decide) (Nat.le_of_ble_eq_true rfl) (by decide) (by decide) GK_E (fun v9 h9 hq => ?_) (fun E h9 hq => by cases hq.1)
          obtain ⟨e9, e8⟩ := hq
          cases e9
          rw [e8]
          show K mX5_readLine _ _ 0 0 103 [(0, vr 63)] [] hc25
          exact K_vret (dt_at dtX5_readLine 46 rfl) rfl (by decide) (by decide) ⟨rfl, by rw [lnP, lnB_5 (by assumption) (by assumption) (by assumption) (by assumption)]; exact Aq26, Fq26⟩
