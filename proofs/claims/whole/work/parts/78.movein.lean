def mX11_moveIn : MI := (yX11_moveIn, cX11_moveIn, 2, none, rmK 2 0)
def tX11_moveIn : List (Nat × Instr × Nat) := [(0, .aload_n 0, 1), (1, .getfield 20, 3), (4, .astore_n 1, 1), (5, .aload_n 0, 1), (6, .aload_n 0, 1), (7, .getfield 24, 3), (10, .putfield 20, 3), (13, .aload_n 0, 1), (14, .aload_n 1, 1), (15, .putfield 24, 3), (18, .aload_n 0, 1), (19, .getfield 39, 3), (22, .aload_n 0, 1), (23, .getfield 20, 3), (26, .invokevirtual 126, 3), (29, .aload_n 0, 1), (30, .getfield 46, 3), (33, .invokevirtual 129, 3), (36, .aload_n 0, 1), (37, .getfield 53, 3), (40, .invokevirtual 132, 3), (43, .aload_n 0, 1), (44, .iconst 0, 1), (45, .putfield 103, 3), (48, .return_, 1)]
theorem dtX11_moveIn : tX11_moveIn.all (fun q => decide (decode cX11_moveIn q.1 = .ok (q.2.1, q.2.2))) = true := by decide +kernel
theorem npX11_moveIn : (parseMethodDescriptor (mY mX11_moveIn).desc).map (fun d => d.parameters.length) = some 0 := by decide +kernel
theorem vX11_moveIn : mV mX11_moveIn := ⟨wI_X11_moveIn, wS_X11_moveIn, wN_X11, wC_X11_moveIn, by decide +kernel, by decide +kernel⟩
theorem FL_eF {h g : HP} {a : Nat} {f : Int → Int} {la : List Nat} {li lr : List (Nat × Nat)} (e : g = sF h a f) (ha : la.contains a = true) : FL la li lr h g := by rw [e]; exact FL_sF ha
set_option maxHeartbeats 4000000 in
set_option maxRecDepth 100000 in
theorem sX11_moveIn_33 {h : HP} {nt np : Nat} (t2 : hR h 30 2 = 48) (t3 : hR h 30 3 = 33) (d10 : hI h 33 10 = (nt : Int)) (d11 : hI h 33 11 = (np : Int)) (hnt : nt ≤ 6) (hnp : np ≤ 7) (hby : ∀ i : Int, 0 ≤ i → i < np → i32 (hA h 41 i)) : SpecK mX11_moveIn [vr 30] h (fun o h' => o = .inl none ∧ (hR h' 30 2 = 33 ∧ hR h' 30 3 = 48) ∧ hA h' 67 = (bg3 (bg2 (bg1 (hA h 67) 77) (hA h 36) nt) (hA h 40) (hA h 41) np np) ∧ (hI h' 68 1 = 0 ∧ hI h' 68 2 = 0 ∧ hI h' 70 4 = 0 ∧ hI h' 30 17 = 0) ∧ FL [67] [(68, 1), (68, 2), (70, 4), (30, 17)] [(30, 2), (30, 3)] h h') := by
  refine Spec_of (by decide +kernel) (Nat.le_of_ble_eq_true rfl) ?_
  refine K_aload_n (dt_at dtX11_moveIn 0 rfl) rfl rfl ?_
  refine K_get (a := 30) (ci := 11) (k := 2) (v := vr 48) (dt_at dtX11_moveIn 1 rfl) (show TT 30 = (0, 11) from rfl) rfl (by decide) wF_X11_20 (by show vr (hR h 30 2) = vr 48; rw [t2]) ?_
  refine K_astore_n (ls' := [(1, vr 48), (0, vr 30)]) (dt_at dtX11_moveIn 2 rfl) rfl (by decide) rfl ?_
  refine K_aload_n (dt_at dtX11_moveIn 3 rfl) rfl rfl ?_
  refine K_aload_n (dt_at dtX11_moveIn 4 rfl) rfl rfl ?_
  refine K_get (a := 30) (ci := 11) (k := 3) (v := vr 33) (dt_at dtX11_moveIn 5 rfl) (show TT 30 = (0, 11) from rfl) rfl (by decide) wF_X11_24 (by show vr (hR h 30 3) = vr 33; rw [t3]) ?_
  refine K_putR (a := 30) (ci := 11) (k := 2) (dt_at dtX11_moveIn 6 rfl) (show TT 30 = (0, 11) from rfl) rfl (by decide) wF_X11_20 rfl rfl (fun _ => rfl) (fun _ => rfl) ?_
  obtain ⟨hq1, eq1⟩ : ∃ z, z = sR h 30 2 33 := ⟨_, rfl⟩
  rw [← eq1]
  obtain ⟨rq1, fq1, aq1, iq1⟩ := sR_fx eq1
  refine K_aload_n (dt_at dtX11_moveIn 7 rfl) rfl rfl ?_
  refine K_aload_n (dt_at dtX11_moveIn 8 rfl) rfl rfl ?_
  refine K_putR (a := 30) (ci := 11) (k := 3) (dt_at dtX11_moveIn 9 rfl) (show TT 30 = (0, 11) from rfl) rfl (by decide) wF_X11_24 rfl rfl (fun _ => rfl) (fun _ => rfl) ?_
  obtain ⟨hq2, eq2⟩ : ∃ z, z = sR hq1 30 3 48 := ⟨_, rfl⟩
  rw [← eq2]
  obtain ⟨rq2, fq2, aq2, iq2⟩ := sR_fx eq2
  refine K_aload_n (dt_at dtX11_moveIn 10 rfl) rfl rfl ?_
  refine K_get (a := 30) (ci := 11) (k := 5) (v := vr 66) (dt_at dtX11_moveIn 11 rfl) (show TT 30 = (0, 11) from rfl) rfl (by decide) wF_X11_39 rfl ?_
  refine K_aload_n (dt_at dtX11_moveIn 12 rfl) rfl rfl ?_
  refine K_get (a := 30) (ci := 11) (k := 2) (v := vr 33) (dt_at dtX11_moveIn 13 rfl) (show TT 30 = (0, 11) from rfl) rfl (by decide) wF_X11_20 (by show vr (hR hq2 30 2) = vr 33; rw [(fq2 30 2 (by omega)), rq1]) ?_
  have ea : hA hq2 = hA h := by rw [aq2, aq1]
  have ei : hI hq2 = hI h := by rw [iq2, iq1]
  refine K_callV (M' := mX8_begin) (a := 66) (ci := 8) (As := [vr 33]) (st := []) (dt_at dtX11_moveIn 14 rfl) (sX8_begin_33 (nt := nt) (np := np) (by rw [ei]; exact d10) (by rw [ei]; exact d11) hnt hnp (by rw [ea]; exact hby)) (show TT 66 = (0, 8) from rfl) rfl wL_X11_126 vX8_begin rfl npX8_begin (by decide) (by decide) (Nat.le_of_ble_eq_true rfl) (by decide) (by decide) GK_E (fun v9 h9 hq => ?_) (fun E h9 hq => by cases hq.1)
  obtain ⟨e9, e8⟩ := hq
  cases e9
  rw [e8]
  show K mX11_moveIn _ _ 0 0 29 [(1, vr 48), (0, vr 30)] [] (sF hq2 67 (bg3 (bg2 (bg1 (hA hq2 67) 77) (hA hq2 36) nt) (hA hq2 40) (hA hq2 41) np np))
  obtain ⟨hq3, eq3⟩ : ∃ z, z = sF hq2 67 (bg3 (bg2 (bg1 (hA hq2 67) 77) (hA hq2 36) nt) (hA hq2 40) (hA hq2 41) np np) := ⟨_, rfl⟩
  rw [← eq3]
  obtain ⟨aq3, fq3, iq3, rq3⟩ := sF_fx eq3
  rw [ea] at aq3
  refine K_aload_n (dt_at dtX11_moveIn 15 rfl) rfl rfl ?_
  refine K_get (a := 30) (ci := 11) (k := 6) (v := vr 68) (dt_at dtX11_moveIn 16 rfl) (show TT 30 = (0, 11) from rfl) rfl (by decide) wF_X11_46 rfl ?_
  refine K_callV (M' := mX0_clear) (a := 68) (ci := 0) (As := []) (st := []) (dt_at dtX11_moveIn 17 rfl) sX0_clear (show TT 68 = (0, 0) from rfl) rfl wL_X11_129 vX0_clear rfl npX0_clear (by decide) (by decide) (Nat.le_of_ble_eq_true rfl) (by decide) (by decide) GK_E (fun v9 h9 hq => ?_) (fun E h9 hq => by cases hq.1)
  obtain ⟨e9, e8⟩ := hq
  cases e9
  rw [e8]
  show K mX11_moveIn _ _ 0 0 36 [(1, vr 48), (0, vr 30)] [] (sI (sI hq3 68 1 0) 68 2 0)
  obtain ⟨hq4, eq4⟩ : ∃ z, z = sI hq3 68 1 0 := ⟨_, rfl⟩
  rw [← eq4]
  obtain ⟨iq4, fq4, aq4, rq4⟩ := sI_fx eq4
  obtain ⟨hq5, eq5⟩ : ∃ z, z = sI hq4 68 2 0 := ⟨_, rfl⟩
  rw [← eq5]
  obtain ⟨iq5, fq5, aq5, rq5⟩ := sI_fx eq5
  refine K_aload_n (dt_at dtX11_moveIn 18 rfl) rfl rfl ?_
  refine K_get (a := 30) (ci := 11) (k := 7) (v := vr 70) (dt_at dtX11_moveIn 19 rfl) (show TT 30 = (0, 11) from rfl) rfl (by decide) wF_X11_53 rfl ?_
  refine K_callV (M' := mX7_clear) (a := 70) (ci := 7) (As := []) (st := []) (dt_at dtX11_moveIn 20 rfl) sX7_clear (show TT 70 = (0, 7) from rfl) rfl wL_X11_132 vX7_clear rfl npX7_clear (by decide) (by decide) (Nat.le_of_ble_eq_true rfl) (by decide) (by decide) GK_E (fun v9 h9 hq => ?_) (fun E h9 hq => by cases hq.1)
  obtain ⟨e9, e8⟩ := hq
  cases e9
  rw [e8]
  show K mX11_moveIn _ _ 0 0 43 [(1, vr 48), (0, vr 30)] [] (sI hq5 70 4 0)
  obtain ⟨hq6, eq6⟩ : ∃ z, z = sI hq5 70 4 0 := ⟨_, rfl⟩
  rw [← eq6]
  obtain ⟨iq6, fq6, aq6, rq6⟩ := sI_fx eq6
  refine K_aload_n (dt_at dtX11_moveIn 21 rfl) rfl rfl ?_
  refine K_iconst (dt_at dtX11_moveIn 22 rfl) ?_
  refine K_putI (a := 30) (ci := 11) (k := 17) (dt_at dtX11_moveIn 23 rfl) (show TT 30 = (0, 11) from rfl) rfl (by decide) wF_X11_103 rfl (Or.inr rfl) (by decide) (by decide) ?_
  obtain ⟨hq7, eq7⟩ : ∃ z, z = sI hq6 30 17 0 := ⟨_, rfl⟩
  rw [← eq7]
  obtain ⟨iq7, fq7, aq7, rq7⟩ := sI_fx eq7
  exact K_vret (dt_at dtX11_moveIn 24 rfl) rfl (by decide) (by decide) ⟨rfl, ⟨by rw [rq7, rq6, rq5, rq4, rq3, (fq2 30 2 (by omega)), rq1], by rw [rq7, rq6, rq5, rq4, rq3, rq2]⟩, by rw [aq7, aq6, aq5, aq4, aq3], ⟨by rw [(fq7 68 1 (by omega)), (fq6 68 1 (by omega)), (fq5 68 1 (by omega)), iq4], by rw [(fq7 68 2 (by omega)), (fq6 68 2 (by omega)), iq5], by rw [(fq7 70 4 (by omega)), iq6], by rw [iq7]⟩, (FL_tr (FL_tr (FL_tr (FL_tr (FL_tr (FL_tr (FL_tr (FL_rf : FL [67] [(68, 1), (68, 2), (70, 4), (30, 17)] [(30, 2), (30, 3)] h h) (FL_eR eq1 rfl)) (FL_eR eq2 rfl)) (FL_eF eq3 rfl)) (FL_eI eq4 rfl)) (FL_eI eq5 rfl)) (FL_eI eq6 rfl)) (FL_eI eq7 rfl))⟩
set_option maxHeartbeats 4000000 in
set_option maxRecDepth 100000 in
theorem sX11_moveIn_48 {h : HP} {nt np : Nat} (t2 : hR h 30 2 = 33) (t3 : hR h 30 3 = 48) (d10 : hI h 48 10 = (nt : Int)) (d11 : hI h 48 11 = (np : Int)) (hnt : nt ≤ 6) (hnp : np ≤ 7) (hby : ∀ i : Int, 0 ≤ i → i < np → i32 (hA h 56 i)) : SpecK mX11_moveIn [vr 30] h (fun o h' => o = .inl none ∧ (hR h' 30 2 = 48 ∧ hR h' 30 3 = 33) ∧ hA h' 67 = (bg3 (bg2 (bg1 (hA h 67) 77) (hA h 51) nt) (hA h 55) (hA h 56) np np) ∧ (hI h' 68 1 = 0 ∧ hI h' 68 2 = 0 ∧ hI h' 70 4 = 0 ∧ hI h' 30 17 = 0) ∧ FL [67] [(68, 1), (68, 2), (70, 4), (30, 17)] [(30, 2), (30, 3)] h h') := by
  refine Spec_of (by decide +kernel) (Nat.le_of_ble_eq_true rfl) ?_
  refine K_aload_n (dt_at dtX11_moveIn 0 rfl) rfl rfl ?_
  refine K_get (a := 30) (ci := 11) (k := 2) (v := vr 33) (dt_at dtX11_moveIn 1 rfl) (show TT 30 = (0, 11) from rfl) rfl (by decide) wF_X11_20 (by show vr (hR h 30 2) = vr 33; rw [t2]) ?_
  refine K_astore_n (ls' := [(1, vr 33), (0, vr 30)]) (dt_at dtX11_moveIn 2 rfl) rfl (by decide) rfl ?_
  refine K_aload_n (dt_at dtX11_moveIn 3 rfl) rfl rfl ?_
  refine K_aload_n (dt_at dtX11_moveIn 4 rfl) rfl rfl ?_
  refine K_get (a := 30) (ci := 11) (k := 3) (v := vr 48) (dt_at dtX11_moveIn 5 rfl) (show TT 30 = (0, 11) from rfl) rfl (by decide) wF_X11_24 (by show vr (hR h 30 3) = vr 48; rw [t3]) ?_
  refine K_putR (a := 30) (ci := 11) (k := 2) (dt_at dtX11_moveIn 6 rfl) (show TT 30 = (0, 11) from rfl) rfl (by decide) wF_X11_20 rfl rfl (fun _ => rfl) (fun _ => rfl) ?_
  obtain ⟨hq1, eq1⟩ : ∃ z, z = sR h 30 2 48 := ⟨_, rfl⟩
  rw [← eq1]
  obtain ⟨rq1, fq1, aq1, iq1⟩ := sR_fx eq1
  refine K_aload_n (dt_at dtX11_moveIn 7 rfl) rfl rfl ?_
  refine K_aload_n (dt_at dtX11_moveIn 8 rfl) rfl rfl ?_
  refine K_putR (a := 30) (ci := 11) (k := 3) (dt_at dtX11_moveIn 9 rfl) (show TT 30 = (0, 11) from rfl) rfl (by decide) wF_X11_24 rfl rfl (fun _ => rfl) (fun _ => rfl) ?_
  obtain ⟨hq2, eq2⟩ : ∃ z, z = sR hq1 30 3 33 := ⟨_, rfl⟩
  rw [← eq2]
  obtain ⟨rq2, fq2, aq2, iq2⟩ := sR_fx eq2
  refine K_aload_n (dt_at dtX11_moveIn 10 rfl) rfl rfl ?_
  refine K_get (a := 30) (ci := 11) (k := 5) (v := vr 66) (dt_at dtX11_moveIn 11 rfl) (show TT 30 = (0, 11) from rfl) rfl (by decide) wF_X11_39 rfl ?_
  refine K_aload_n (dt_at dtX11_moveIn 12 rfl) rfl rfl ?_
  refine K_get (a := 30) (ci := 11) (k := 2) (v := vr 48) (dt_at dtX11_moveIn 13 rfl) (show TT 30 = (0, 11) from rfl) rfl (by decide) wF_X11_20 (by show vr (hR hq2 30 2) = vr 48; rw [(fq2 30 2 (by omega)), rq1]) ?_
  have ea : hA hq2 = hA h := by rw [aq2, aq1]
  have ei : hI hq2 = hI h := by rw [iq2, iq1]
  refine K_callV (M' := mX8_begin) (a := 66) (ci := 8) (As := [vr 48]) (st := []) (dt_at dtX11_moveIn 14 rfl) (sX8_begin_48 (nt := nt) (np := np) (by rw [ei]; exact d10) (by rw [ei]; exact d11) hnt hnp (by rw [ea]; exact hby)) (show TT 66 = (0, 8) from rfl) rfl wL_X11_126 vX8_begin rfl npX8_begin (by decide) (by decide) (Nat.le_of_ble_eq_true rfl) (by decide) (by decide) GK_E (fun v9 h9 hq => ?_) (fun E h9 hq => by cases hq.1)
  obtain ⟨e9, e8⟩ := hq
  cases e9
  rw [e8]
  show K mX11_moveIn _ _ 0 0 29 [(1, vr 33), (0, vr 30)] [] (sF hq2 67 (bg3 (bg2 (bg1 (hA hq2 67) 77) (hA hq2 51) nt) (hA hq2 55) (hA hq2 56) np np))
  obtain ⟨hq3, eq3⟩ : ∃ z, z = sF hq2 67 (bg3 (bg2 (bg1 (hA hq2 67) 77) (hA hq2 51) nt) (hA hq2 55) (hA hq2 56) np np) := ⟨_, rfl⟩
  rw [← eq3]
  obtain ⟨aq3, fq3, iq3, rq3⟩ := sF_fx eq3
  rw [ea] at aq3
  refine K_aload_n (dt_at dtX11_moveIn 15 rfl) rfl rfl ?_
  refine K_get (a := 30) (ci := 11) (k := 6) (v := vr 68) (dt_at dtX11_moveIn 16 rfl) (show TT 30 = (0, 11) from rfl) rfl (by decide) wF_X11_46 rfl ?_
  refine K_callV (M' := mX0_clear) (a := 68) (ci := 0) (As := []) (st := []) (dt_at dtX11_moveIn 17 rfl) sX0_clear (show TT 68 = (0, 0) from rfl) rfl wL_X11_129 vX0_clear rfl npX0_clear (by decide) (by decide) (Nat.le_of_ble_eq_true rfl) (by decide) (by decide) GK_E (fun v9 h9 hq => ?_) (fun E h9 hq => by cases hq.1)
  obtain ⟨e9, e8⟩ := hq
  cases e9
  rw [e8]
  show K mX11_moveIn _ _ 0 0 36 [(1, vr 33), (0, vr 30)] [] (sI (sI hq3 68 1 0) 68 2 0)
  obtain ⟨hq4, eq4⟩ : ∃ z, z = sI hq3 68 1 0 := ⟨_, rfl⟩
  rw [← eq4]
  obtain ⟨iq4, fq4, aq4, rq4⟩ := sI_fx eq4
  obtain ⟨hq5, eq5⟩ : ∃ z, z = sI hq4 68 2 0 := ⟨_, rfl⟩
  rw [← eq5]
  obtain ⟨iq5, fq5, aq5, rq5⟩ := sI_fx eq5
  refine K_aload_n (dt_at dtX11_moveIn 18 rfl) rfl rfl ?_
  refine K_get (a := 30) (ci := 11) (k := 7) (v := vr 70) (dt_at dtX11_moveIn 19 rfl) (show TT 30 = (0, 11) from rfl) rfl (by decide) wF_X11_53 rfl ?_
  refine K_callV (M' := mX7_clear) (a := 70) (ci := 7) (As := []) (st := []) (dt_at dtX11_moveIn 20 rfl) sX7_clear (show TT 70 = (0, 7) from rfl) rfl wL_X11_132 vX7_clear rfl npX7_clear (by decide) (by decide) (Nat.le_of_ble_eq_true rfl) (by decide) (by decide) GK_E (fun v9 h9 hq => ?_) (fun E h9 hq => by cases hq.1)
  obtain ⟨e9, e8⟩ := hq
  cases e9
  rw [e8]
  show K mX11_moveIn _ _ 0 0 43 [(1, vr 33), (0, vr 30)] [] (sI hq5 70 4 0)
  obtain ⟨hq6, eq6⟩ : ∃ z, z = sI hq5 70 4 0 := ⟨_, rfl⟩
  rw [← eq6]
  obtain ⟨iq6, fq6, aq6, rq6⟩ := sI_fx eq6
  refine K_aload_n (dt_at dtX11_moveIn 21 rfl) rfl rfl ?_
  refine K_iconst (dt_at dtX11_moveIn 22 rfl) ?_
  refine K_putI (a := 30) (ci := 11) (k := 17) (dt_at dtX11_moveIn 23 rfl) (show TT 30 = (0, 11) from rfl) rfl (by decide) wF_X11_103 rfl (Or.inr rfl) (by decide) (by decide) ?_
  obtain ⟨hq7, eq7⟩ : ∃ z, z = sI hq6 30 17 0 := ⟨_, rfl⟩
  rw [← eq7]
  obtain ⟨iq7, fq7, aq7, rq7⟩ := sI_fx eq7
  exact K_vret (dt_at dtX11_moveIn 24 rfl) rfl (by decide) (by decide) ⟨rfl, ⟨by rw [rq7, rq6, rq5, rq4, rq3, (fq2 30 2 (by omega)), rq1], by rw [rq7, rq6, rq5, rq4, rq3, rq2]⟩, by rw [aq7, aq6, aq5, aq4, aq3], ⟨by rw [(fq7 68 1 (by omega)), (fq6 68 1 (by omega)), (fq5 68 1 (by omega)), iq4], by rw [(fq7 68 2 (by omega)), (fq6 68 2 (by omega)), iq5], by rw [(fq7 70 4 (by omega)), iq6], by rw [iq7]⟩, (FL_tr (FL_tr (FL_tr (FL_tr (FL_tr (FL_tr (FL_tr (FL_rf : FL [67] [(68, 1), (68, 2), (70, 4), (30, 17)] [(30, 2), (30, 3)] h h) (FL_eR eq1 rfl)) (FL_eR eq2 rfl)) (FL_eF eq3 rfl)) (FL_eI eq4 rfl)) (FL_eI eq5 rfl)) (FL_eI eq6 rfl)) (FL_eI eq7 rfl))⟩
