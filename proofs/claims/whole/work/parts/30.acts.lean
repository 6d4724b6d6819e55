theorem tmN (o n : Nat) : ((o : Int) + (n : Int)).tmod 40 = (((o + n) % 40 : Nat) : Int) := by
  rw [Int.tmod_eq_emod_of_nonneg (by omega)]
  omega
theorem acR_keepH {h h2 : HP} {f : Int → Int} {o : Nat} {c : AC} (ho : o < 40) (hc : c.1 ≤ 40) (k5 : ∀ i : Nat, i < c.1 → ∀ j : Int, 0 ≤ j → j < 77 → hA h (68 + 1) ((((o + i) % 40 : Nat) : Int) * 77 + j) = c.2 i j) (h69 : hA h2 69 = cpF f (hA h 69) 0 ((((o + c.1) % 40 : Nat) : Int) * 77) 77) (i1 : hI h2 68 1 = ((if c.1 < 40 then o else (o + 1) % 40 : Nat) : Int)) (i2 : hI h2 68 2 = ((if c.1 < 40 then c.1 + 1 else 40 : Nat) : Int)) : acR h2 68 (acP c f) := by
  obtain ⟨o', q1, q2, q3, q4, q5⟩ := acR_keep (f := f) ho hc k5 h69
  exact ⟨o', q1, by rw [i1, q2], by rw [i2, q4], q3, q5⟩
theorem acR_copyH {h h2 : HP} {a b : Nat} {c : AC} {g : Int → Int} (k : acR h b c) (h1 : hA h2 (a + 1) = cpF (hA h (b + 1)) g 0 0 3080) (i1 : hI h2 a 1 = hI h b 1) (i2 : hI h2 a 2 = hI h b 2) : acR h2 a c := by
  obtain ⟨o, k1, k2, k3, k4, k5⟩ := k
  refine ⟨o, k1, by rw [i1]; exact k2, by rw [i2]; exact k3, k4, fun i hi j j0 j1 => ?_⟩
  rw [h1]
  unfold cpF
  rw [if_pos (by omega), ← k5 i hi j j0 j1]
  congr 1
  omega
theorem CQ_FX {h h' : HP} {t : Nat} {S : HS} {B : Int} {f : Int → Int} (c : CQ h t S B f) (X : FX h h') (hf : hA h' 67 = f) : CQ h' t S B f := by
  obtain ⟨c1, c2, c3, c4, c5, c6, c7, c8, c9⟩ := c
  obtain ⟨x1, x2, x3, x4⟩ := X
  have hS : cHS h' t S := by
    obtain ⟨⟨k1, k2, k3, k4, k5⟩, ⟨k6, k7⟩, k8, k9⟩ := c3
    rcases c1 with rfl | rfl
    · exact ⟨⟨by rw [x1 _ rfl (by decide) (by decide)]; exact k1, by rw [x1 _ rfl (by decide) (by decide)]; exact k2, by rw [x1 _ rfl (by decide) (by decide)]; exact k3, by rw [x1 _ rfl (by decide) (by decide)]; exact k4, by rw [x1 _ rfl (by decide) (by decide)]; exact k5⟩, ⟨by rw [x2 _ _ rfl (by decide)]; exact k6, by rw [x2 _ _ rfl (by decide)]; exact k7⟩, rlR_FS k8 (x2 _ _ rfl (by decide)) (x2 _ _ rfl (by decide)) (x1 _ rfl (by decide) (by decide)), rlR_FS k9 (x2 _ _ rfl (by decide)) (x2 _ _ rfl (by decide)) (x1 _ rfl (by decide) (by decide))⟩
    · exact ⟨⟨by rw [x1 _ rfl (by decide) (by decide)]; exact k1, by rw [x1 _ rfl (by decide) (by decide)]; exact k2, by rw [x1 _ rfl (by decide) (by decide)]; exact k3, by rw [x1 _ rfl (by decide) (by decide)]; exact k4, by rw [x1 _ rfl (by decide) (by decide)]; exact k5⟩, ⟨by rw [x2 _ _ rfl (by decide)]; exact k6, by rw [x2 _ _ rfl (by decide)]; exact k7⟩, rlR_FS k8 (x2 _ _ rfl (by decide)) (x2 _ _ rfl (by decide)) (x1 _ rfl (by decide) (by decide)), rlR_FS k9 (x2 _ _ rfl (by decide)) (x2 _ _ rfl (by decide)) (x1 _ rfl (by decide) (by decide))⟩
  exact ⟨c1, by rw [x3 _ _ rfl]; exact c2, hS, c4, hf, c6, c7, c8, x4⟩
theorem seP_seR {h : HP} {e k : Nat} {s : SN} (q : seR h e (seP (k, s.2) (s.2.1 k) (s.2.2.1 k) (s.2.2.2.1 k) (s.2.2.2.2 k))) : seR h e (k + 1, s.2) := by
  have u : ∀ g : Nat → Int, (fun i => if i = k then g k else g i) = g := by
    intro g
    funext i
    by_cases z : i = k
    · rw [if_pos z, z]
    · rw [if_neg z]
  have e1 : seP (k, s.2) (s.2.1 k) (s.2.2.1 k) (s.2.2.2.1 k) (s.2.2.2.2 k) = (k + 1, s.2) := by
    unfold seP
    dsimp only
    rw [u, u, u, u]
  rw [e1] at q
  exact q
def mX0_keep : MI := (yX0_keep, cX0_keep, 2, none, rmK 4 0)
def tX0_keep : List (Nat × Instr × Nat) := [(0, .aload_n 1, 1), (1, .aload_n 0, 1), (2, .getfield 11, 3), (5, .aload_n 0, 1), (6, .getfield 17, 3), (9, .aload_n 0, 1), (10, .getfield 21, 3), (13, .iadd, 1), (14, .bipush 40, 2), (16, .irem, 1), (17, .invokevirtual 24, 3), (20, .aload_n 0, 1), (21, .getfield 21, 3), (24, .bipush 40, 2), (26, .if_icmp .ge 16, 3), (29, .aload_n 0, 1), (30, .dup, 1), (31, .getfield 21, 3), (34, .iconst 1, 1), (35, .iadd, 1), (36, .putfield 21, 3), (39, .goto 16, 3), (42, .aload_n 0, 1), (43, .aload_n 0, 1), (44, .getfield 17, 3), (47, .iconst 1, 1), (48, .iadd, 1), (49, .bipush 40, 2), (51, .irem, 1), (52, .putfield 17, 3), (55, .return_, 1)]
theorem dtX0_keep : tX0_keep.all (fun q => decide (decode cX0_keep q.1 = .ok (q.2.1, q.2.2))) = true := by decide +kernel
theorem npX0_keep : (parseMethodDescriptor (mY mX0_keep).desc).map (fun d => d.parameters.length) = some 1 := by decide +kernel
theorem vX0_keep : mV mX0_keep := ⟨wI_X0_keep, wS_X0_keep, wN_X0, wC_X0_keep, by decide +kernel, by decide +kernel⟩
set_option maxHeartbeats 4000000 in
set_option maxRecDepth 100000 in
theorem sX0_keep {h : HP} {C : AC} {f : Int → Int} (kk : acR h 68 C) (hf : hA h 67 = f) : SpecK mX0_keep [vr 68, vr 66] h (fun o h' => o = .inl none ∧ acR h' 68 (acP C f) ∧ FL [67, 69] [(68, 1), (68, 2)] [] h h' ∧ hA h' 67 = f) := by
  refine Spec_of (by decide +kernel) (Nat.le_of_ble_eq_true rfl) ?_
  obtain ⟨o, k1, k2, k3, k4, k5⟩ := id kk
  refine K_aload_n (dt_at dtX0_keep 0 rfl) rfl rfl ?_
  refine K_aload_n (dt_at dtX0_keep 1 rfl) rfl rfl ?_
  refine K_get (a := 68) (ci := 0) (k := 0) (v := vr 69) (dt_at dtX0_keep 2 rfl) (show TT 68 = (0, 0) from rfl) rfl (by decide) wF_X0_11 rfl ?_
  refine K_aload_n (dt_at dtX0_keep 3 rfl) rfl rfl ?_
  refine K_get (a := 68) (ci := 0) (k := 1) (v := vi (o : Int)) (dt_at dtX0_keep 4 rfl) (show TT 68 = (0, 0) from rfl) rfl (by decide) wF_X0_17 (by show vi (hI h 68 1) = vi (o : Int); rw [k2]) ?_
  refine K_aload_n (dt_at dtX0_keep 5 rfl) rfl rfl ?_
  refine K_get (a := 68) (ci := 0) (k := 2) (v := vi (C.1 : Int)) (dt_at dtX0_keep 6 rfl) (show TT 68 = (0, 0) from rfl) rfl (by decide) wF_X0_21 (by show vi (hI h 68 2) = vi (C.1 : Int); rw [k3]) ?_
  refine K_iadd (dt_at dtX0_keep 7 rfl) ?_
  refine K_bipush (dt_at dtX0_keep 8 rfl) (by decide) ?_
  refine K_irem (dt_at dtX0_keep 9 rfl) (by first | assumption | exact ⟨by omega, by omega⟩) (by first | assumption | exact ⟨by omega, by omega⟩) (by omega) ?_
  refine K_callV (M' := mX8_keepIn) (a := 66) (ci := 8) (As := [vr 69, vi (((o : Int) + (C.1 : Int)).tmod 40)]) (st := []) (dt_at dtX0_keep 10 rfl) (sX8_keepIn (a := 66) (c := 69) rfl rfl (by rw [tmN]; omega)) (show TT 66 = (0, 8) from rfl) rfl wL_X0_24 vX8_keepIn rfl npX8_keepIn (by decide) (by decide) (Nat.le_of_ble_eq_true rfl) (by decide) (by decide) GK_E (fun v9 hc1 hq => ?_) (fun E h9 hq => by cases hq.1)
  have hqq2 := hq
  obtain ⟨e9q2, e8q2⟩ := hqq2
  obtain ⟨a1, f1, j1, r1⟩ := sF_fx e8q2
  rw [tmN] at a1
  cases e9q2
  show K mX0_keep _ _ 0 0 20 [(0, vr 68), (1, vr 66)] [] hc1
  refine K_aload_n (dt_at dtX0_keep 11 rfl) rfl rfl ?_
  refine K_get (a := 68) (ci := 0) (k := 2) (v := vi (C.1 : Int)) (dt_at dtX0_keep 12 rfl) (show TT 68 = (0, 0) from rfl) rfl (by decide) wF_X0_21 (by show vi (hI hc1 68 2) = vi (C.1 : Int); rw [j1, k3]) ?_
  refine K_bipush (dt_at dtX0_keep 13 rfl) (by decide) ?_
  refine K_icmp_ge (tgt := 42) (dt_at dtX0_keep 14 rfl) (by decide) (by first | assumption | exact ⟨by omega, by omega⟩) (by first | assumption | exact ⟨by omega, by omega⟩) (fun c1 => ?_) (fun c1 => ?_)
  · refine K_aload_n (dt_at dtX0_keep 22 rfl) rfl rfl ?_
    refine K_aload_n (dt_at dtX0_keep 23 rfl) rfl rfl ?_
    refine K_get (a := 68) (ci := 0) (k := 1) (v := vi (o : Int)) (dt_at dtX0_keep 24 rfl) (show TT 68 = (0, 0) from rfl) rfl (by decide) wF_X0_17 (by show vi (hI hc1 68 1) = vi (o : Int); rw [j1, k2]) ?_
    refine K_iconst (dt_at dtX0_keep 25 rfl) ?_
    refine K_iadd (dt_at dtX0_keep 26 rfl) ?_
    refine K_bipush (dt_at dtX0_keep 27 rfl) (by decide) ?_
    refine K_irem (dt_at dtX0_keep 28 rfl) (by first | assumption | exact ⟨by omega, by omega⟩) (by first | assumption | exact ⟨by omega, by omega⟩) (by omega) ?_
    refine K_putI (a := 68) (ci := 0) (k := 1) (dt_at dtX0_keep 29 rfl) (show TT 68 = (0, 0) from rfl) rfl (by decide) wF_X0_17 rfl (Or.inl rfl) rfl rfl ?_
    obtain ⟨hq3, eq3⟩ : ∃ z, z = sI hc1 68 1 (((o : Int) + 1).tmod 40) := ⟨_, rfl⟩
    rw [← eq3]
    obtain ⟨iq3, fq3, aq3, rq3⟩ := sI_fx eq3
    refine K_vret (dt_at dtX0_keep 30 rfl) rfl (by decide) (by decide) ⟨rfl, acR_keepH (h := h) k1 k4 k5 (by rw [aq3, a1, hf]) (by rw [iq3]; rw [if_neg (by omega), show ((o : Int) + 1) = (o : Int) + ((1 : Nat) : Int) from rfl, tmN]) (by rw [(fq3 68 2 (by omega)), j1, k3]; rw [if_neg (by omega)]; omega), ?_, by rw [aq3, f1 67 (by decide)]; exact hf⟩
    exact ⟨fun a ha => by rw [aq3, f1 a (fun z => by rw [z] at ha; cases ha)], fun a k ha => by rw [(fq3 a k (by by_cases z : a = 68; exact Or.inr (fun z2 => by rw [z, z2] at ha; cases ha); exact Or.inl z)), j1], fun a k ha => by rw [rq3, r1]⟩
  · refine K_aload_n (dt_at dtX0_keep 15 rfl) rfl rfl ?_
    refine K_dup (dt_at dtX0_keep 16 rfl) rfl ?_
    refine K_get (a := 68) (ci := 0) (k := 2) (v := vi (C.1 : Int)) (dt_at dtX0_keep 17 rfl) (show TT 68 = (0, 0) from rfl) rfl (by decide) wF_X0_21 (by show vi (hI hc1 68 2) = vi (C.1 : Int); rw [j1, k3]) ?_
    refine K_iconst (dt_at dtX0_keep 18 rfl) ?_
    refine K_iadd (dt_at dtX0_keep 19 rfl) ?_
    refine K_putI (a := 68) (ci := 0) (k := 2) (dt_at dtX0_keep 20 rfl) (show TT 68 = (0, 0) from rfl) rfl (by decide) wF_X0_21 rfl (Or.inl rfl) rfl rfl ?_
    obtain ⟨hq4, eq4⟩ : ∃ z, z = sI hc1 68 2 ((C.1 : Int) + 1) := ⟨_, rfl⟩
    rw [← eq4]
    obtain ⟨iq4, fq4, aq4, rq4⟩ := sI_fx eq4
    refine K_goto (tgt := 55) (dt_at dtX0_keep 21 rfl) (by decide) ?_
    refine K_vret (dt_at dtX0_keep 30 rfl) rfl (by decide) (by decide) ⟨rfl, acR_keepH (h := h) k1 k4 k5 (by rw [aq4, a1, hf]) (by rw [(fq4 68 1 (by omega)), j1, k2]; rw [if_pos (by omega)]) (by rw [iq4]; rw [if_pos (by omega)]; rfl), ?_, by rw [aq4, f1 67 (by decide)]; exact hf⟩
    exact ⟨fun a ha => by rw [aq4, f1 a (fun z => by rw [z] at ha; cases ha)], fun a k ha => by rw [(fq4 a k (by by_cases z : a = 68; exact Or.inr (fun z2 => by rw [z, z2] at ha; cases ha); exact Or.inl z)), j1], fun a k ha => by rw [rq4, r1]⟩
def mX0_takeBack : MI := (yX0_takeBack, cX0_takeBack, 2, (some .boolean), rmK 4 0)
def tX0_takeBack : List (Nat × Instr × Nat) := [(0, .aload_n 0, 1), (1, .getfield 21, 3), (4, .ifCond .ne 5, 3), (7, .iconst 0, 1), (8, .ireturn, 1), (9, .aload_n 0, 1), (10, .dup, 1), (11, .getfield 21, 3), (14, .iconst 1, 1), (15, .isub, 1), (16, .putfield 21, 3), (19, .aload_n 1, 1), (20, .aload_n 0, 1), (21, .getfield 11, 3), (24, .aload_n 0, 1), (25, .getfield 17, 3), (28, .aload_n 0, 1), (29, .getfield 21, 3), (32, .iadd, 1), (33, .bipush 40, 2), (35, .irem, 1), (36, .invokevirtual 28, 3), (39, .iconst 1, 1), (40, .ireturn, 1)]
theorem dtX0_takeBack : tX0_takeBack.all (fun q => decide (decode cX0_takeBack q.1 = .ok (q.2.1, q.2.2))) = true := by decide +kernel
theorem npX0_takeBack : (parseMethodDescriptor (mY mX0_takeBack).desc).map (fun d => d.parameters.length) = some 1 := by decide +kernel
theorem vX0_takeBack : mV mX0_takeBack := ⟨wI_X0_takeBack, wS_X0_takeBack, wN_X0, wC_X0_takeBack, by decide +kernel, by decide +kernel⟩
set_option maxHeartbeats 4000000 in
set_option maxRecDepth 100000 in
theorem sX0_takeBack_0 {h : HP} {C : AC} (kk : acR h 68 C) (h0 : C.1 = 0) : SpecK mX0_takeBack [vr 68, vr 66] h (fun o h' => o = .inl (some (vi 0)) ∧ h' = h) := by
  refine Spec_of (by decide +kernel) (Nat.le_of_ble_eq_true rfl) ?_
  obtain ⟨o, k1, k2, k3, k4, k5⟩ := id kk
  refine K_aload_n (dt_at dtX0_takeBack 0 rfl) rfl rfl ?_
  refine K_get (a := 68) (ci := 0) (k := 2) (v := vi (C.1 : Int)) (dt_at dtX0_takeBack 1 rfl) (show TT 68 = (0, 0) from rfl) rfl (by decide) wF_X0_21 (by show vi (hI h 68 2) = vi (C.1 : Int); rw [k3]) ?_
  refine K_if_ne (tgt := 9) (dt_at dtX0_takeBack 2 rfl) (by decide) (by first | assumption | exact ⟨by omega, by omega⟩) (fun c1 => absurd c1 (by omega)) (fun c1 => ?_)
  refine K_iconst (dt_at dtX0_takeBack 3 rfl) ?_
  exact K_iret (dt_at dtX0_takeBack 4 rfl) rfl (by decide) (by decide) (by decide) ⟨rfl, rfl⟩
set_option maxHeartbeats 4000000 in
set_option maxRecDepth 100000 in
theorem sX0_takeBack_1 {h : HP} {C : AC} (kk : acR h 68 C) (h0 : 0 < C.1) : SpecK mX0_takeBack [vr 68, vr 66] h (fun o h' => o = .inl (some (vi 1)) ∧ acR h' 68 (C.1 - 1, C.2) ∧ hA h' 67 = C.2 (C.1 - 1) ∧ FL [67, 69] [(68, 1), (68, 2)] [] h h') := by
  refine Spec_of (by decide +kernel) (Nat.le_of_ble_eq_true rfl) ?_
  obtain ⟨o, k1, k2, k3, k4, k5⟩ := id kk
  refine K_aload_n (dt_at dtX0_takeBack 0 rfl) rfl rfl ?_
  refine K_get (a := 68) (ci := 0) (k := 2) (v := vi (C.1 : Int)) (dt_at dtX0_takeBack 1 rfl) (show TT 68 = (0, 0) from rfl) rfl (by decide) wF_X0_21 (by show vi (hI h 68 2) = vi (C.1 : Int); rw [k3]) ?_
  refine K_if_ne (tgt := 9) (dt_at dtX0_takeBack 2 rfl) (by decide) (by first | assumption | exact ⟨by omega, by omega⟩) (fun c1 => ?_) (fun c1 => absurd c1 (by omega))
  refine K_aload_n (dt_at dtX0_takeBack 5 rfl) rfl rfl ?_
  refine K_dup (dt_at dtX0_takeBack 6 rfl) rfl ?_
  refine K_get (a := 68) (ci := 0) (k := 2) (v := vi (C.1 : Int)) (dt_at dtX0_takeBack 7 rfl) (show TT 68 = (0, 0) from rfl) rfl (by decide) wF_X0_21 (by show vi (hI h 68 2) = vi (C.1 : Int); rw [k3]) ?_
  refine K_iconst (dt_at dtX0_takeBack 8 rfl) ?_
  refine K_isub (dt_at dtX0_takeBack 9 rfl) ?_
  refine K_putI (a := 68) (ci := 0) (k := 2) (dt_at dtX0_takeBack 10 rfl) (show TT 68 = (0, 0) from rfl) rfl (by decide) wF_X0_21 rfl (Or.inl rfl) rfl rfl ?_
  obtain ⟨hq1, eq1⟩ : ∃ z, z = sI h 68 2 ((C.1 : Int) - 1) := ⟨_, rfl⟩
  rw [← eq1]
  obtain ⟨iq1, fq1, aq1, rq1⟩ := sI_fx eq1
  refine K_aload_n (dt_at dtX0_takeBack 11 rfl) rfl rfl ?_
  refine K_aload_n (dt_at dtX0_takeBack 12 rfl) rfl rfl ?_
  refine K_get (a := 68) (ci := 0) (k := 0) (v := vr 69) (dt_at dtX0_takeBack 13 rfl) (show TT 68 = (0, 0) from rfl) rfl (by decide) wF_X0_11 rfl ?_
  refine K_aload_n (dt_at dtX0_takeBack 14 rfl) rfl rfl ?_
  refine K_get (a := 68) (ci := 0) (k := 1) (v := vi (o : Int)) (dt_at dtX0_takeBack 15 rfl) (show TT 68 = (0, 0) from rfl) rfl (by decide) wF_X0_17 (by show vi (hI hq1 68 1) = vi (o : Int); rw [(fq1 68 1 (by omega)), k2]) ?_
  refine K_aload_n (dt_at dtX0_takeBack 16 rfl) rfl rfl ?_
  refine K_get (a := 68) (ci := 0) (k := 2) (v := vi ((C.1 : Int) - 1)) (dt_at dtX0_takeBack 17 rfl) (show TT 68 = (0, 0) from rfl) rfl (by decide) wF_X0_21 (by show vi (hI hq1 68 2) = vi ((C.1 : Int) - 1); rw [iq1]) ?_
  refine K_iadd (dt_at dtX0_takeBack 18 rfl) ?_
  refine K_bipush (dt_at dtX0_takeBack 19 rfl) (by decide) ?_
  refine K_irem (dt_at dtX0_takeBack 20 rfl) (by first | assumption | exact ⟨by omega, by omega⟩) (by first | assumption | exact ⟨by omega, by omega⟩) (by omega) ?_
  refine K_callV (M' := mX8_takeFrom) (a := 66) (ci := 8) (As := [vr 69, vi (((o : Int) + ((C.1 : Int) - 1)).tmod 40)]) (st := []) (dt_at dtX0_takeBack 21 rfl) (sX8_takeFromX (a := 66) (c := 69) rfl rfl (by rw [show (o : Int) + ((C.1 : Int) - 1) = (o : Int) + ((C.1 - 1 : Nat) : Int) by omega, tmN]; omega)) (show TT 66 = (0, 8) from rfl) rfl wL_X0_28 vX8_takeFrom rfl npX8_takeFrom (by decide) (by decide) (Nat.le_of_ble_eq_true rfl) (by decide) (by decide) GK_E (fun v9 hc2 hq => ?_) (fun E h9 hq => by cases hq.1)
  have hqq3 := hq
  obtain ⟨e9q3, e8q3⟩ := hqq3
  rw [e8q3]
  refine K_rngF (t := 1) (n := 77) (g := C.2 (C.1 - 1)) rfl (fun i i0 i1 => ?_) ?_
  · rw [aq1, show (o : Int) + ((C.1 : Int) - 1) = (o : Int) + ((C.1 - 1 : Nat) : Int) by omega, tmN]; exact k5 (C.1 - 1) (by omega) i i0 i1
  obtain ⟨hz, ez⟩ : ∃ z, z = sF hq1 (66 + 1) (C.2 (C.1 - 1)) := ⟨_, rfl⟩
  rw [← ez]
  obtain ⟨a1, f1, j1, r1⟩ := sF_fx ez
  cases e9q3
  show K mX0_takeBack _ _ 0 0 39 [(0, vr 68), (1, vr 66)] [] hz
  refine K_iconst (dt_at dtX0_takeBack 22 rfl) ?_
  refine K_iret (dt_at dtX0_takeBack 23 rfl) rfl (by decide) (by decide) (by decide) ⟨rfl, ⟨o, k1, by rw [j1, (fq1 68 1 (by omega)), k2], by rw [j1, iq1]; show (C.1 : Int) - 1 = ((C.1 - 1 : Nat) : Int); omega, Nat.le_trans (Nat.sub_le _ _) k4, fun i hi j j0 j1 => ?_⟩, a1, ?_⟩
  · have hi : i < C.1 - 1 := hi
    rw [show hA hz (68 + 1) = hA h (68 + 1) by rw [f1 69 (by decide), aq1]]
    exact k5 i (by omega) j j0 j1
  · exact ⟨fun a ha => by rw [f1 a (fun z => by rw [z] at ha; cases ha), aq1], fun a k ha => by rw [j1]; exact fq1 a k (by by_cases z : a = 68; exact Or.inr (fun z2 => by rw [z, z2] at ha; cases ha); exact Or.inl z), fun a k ha => by rw [r1, rq1]⟩
def mX0_clear : MI := (yX0_clear, cX0_clear, 1, none, rmK 1 0)
def tX0_clear : List (Nat × Instr × Nat) := [(0, .aload_n 0, 1), (1, .iconst 0, 1), (2, .putfield 17, 3), (5, .aload_n 0, 1), (6, .iconst 0, 1), (7, .putfield 21, 3), (10, .return_, 1)]
theorem dtX0_clear : tX0_clear.all (fun q => decide (decode cX0_clear q.1 = .ok (q.2.1, q.2.2))) = true := by decide +kernel
theorem npX0_clear : (parseMethodDescriptor (mY mX0_clear).desc).map (fun d => d.parameters.length) = some 0 := by decide +kernel
theorem vX0_clear : mV mX0_clear := ⟨wI_X0_clear, wS_X0_clear, wN_X0, wC_X0_clear, by decide +kernel, by decide +kernel⟩
set_option maxHeartbeats 4000000 in
set_option maxRecDepth 100000 in
theorem sX0_clear {h : HP}  : SpecK mX0_clear [vr 68] h (fun o h' => o = .inl (none) ∧ h' = sI (sI h 68 1 0) 68 2 0) := by
  refine Spec_of (by decide +kernel) (Nat.le_of_ble_eq_true rfl) ?_
  refine K_aload_n (dt_at dtX0_clear 0 rfl) rfl rfl ?_
  refine K_iconst (dt_at dtX0_clear 1 rfl) ?_
  refine K_putI (a := 68) (ci := 0) (k := 1) (dt_at dtX0_clear 2 rfl) (show TT 68 = (0, 0) from rfl) rfl (by decide) wF_X0_17 rfl (Or.inl rfl) rfl rfl ?_
  refine K_aload_n (dt_at dtX0_clear 3 rfl) rfl rfl ?_
  refine K_iconst (dt_at dtX0_clear 4 rfl) ?_
  refine K_putI (a := 68) (ci := 0) (k := 2) (dt_at dtX0_clear 5 rfl) (show TT 68 = (0, 0) from rfl) rfl (by decide) wF_X0_21 rfl (Or.inl rfl) rfl rfl ?_
  exact K_vret (dt_at dtX0_clear 6 rfl) rfl (by decide) (by decide) ⟨rfl, rfl⟩
def mX0_copyFrom : MI := (yX0_copyFrom, cX0_copyFrom, 2, none, rmK 3 0)
def tX0_copyFrom : List (Nat × Instr × Nat) := [(0, .aload_n 1, 1), (1, .getfield 11, 3), (4, .iconst 0, 1), (5, .aload_n 0, 1), (6, .getfield 11, 3), (9, .iconst 0, 1), (10, .aload_n 0, 1), (11, .getfield 11, 3), (14, .arraylength, 1), (15, .invokestatic 31, 3), (18, .aload_n 0, 1), (19, .aload_n 1, 1), (20, .getfield 17, 3), (23, .putfield 17, 3), (26, .aload_n 0, 1), (27, .aload_n 1, 1), (28, .getfield 21, 3), (31, .putfield 21, 3), (34, .return_, 1)]
theorem dtX0_copyFrom : tX0_copyFrom.all (fun q => decide (decode cX0_copyFrom q.1 = .ok (q.2.1, q.2.2))) = true := by decide +kernel
theorem npX0_copyFrom : (parseMethodDescriptor (mY mX0_copyFrom).desc).map (fun d => d.parameters.length) = some 1 := by decide +kernel
theorem vX0_copyFrom : mV mX0_copyFrom := ⟨wI_X0_copyFrom, wS_X0_copyFrom, wN_X0, wC_X0_copyFrom, by decide +kernel, by decide +kernel⟩
set_option maxHeartbeats 4000000 in
set_option maxRecDepth 100000 in
theorem sX0_copyFrom_77 {h : HP} {C : AC} (kk : acR h 68 C) : SpecK mX0_copyFrom [vr 77, vr 68] h (fun o h' => o = .inl none ∧ acR h' 77 C ∧ FL [78] [(77, 1), (77, 2)] [] h h') := by
  refine Spec_of (by decide +kernel) (Nat.le_of_ble_eq_true rfl) ?_
  obtain ⟨o, k1, k2, k3, k4, k5⟩ := id kk
  refine K_aload_n (dt_at dtX0_copyFrom 0 rfl) rfl rfl ?_
  refine K_get (a := 68) (ci := 0) (k := 0) (v := vr 69) (dt_at dtX0_copyFrom 1 rfl) (show TT 68 = (0, 0) from rfl) rfl (by decide) wF_X0_11 rfl ?_
  refine K_iconst (dt_at dtX0_copyFrom 2 rfl) ?_
  refine K_aload_n (dt_at dtX0_copyFrom 3 rfl) rfl rfl ?_
  refine K_get (a := 77) (ci := 0) (k := 0) (v := vr 78) (dt_at dtX0_copyFrom 4 rfl) (show TT 77 = (0, 0) from rfl) rfl (by decide) wF_X0_11 rfl ?_
  refine K_iconst (dt_at dtX0_copyFrom 5 rfl) ?_
  refine K_aload_n (dt_at dtX0_copyFrom 6 rfl) rfl rfl ?_
  refine K_get (a := 77) (ci := 0) (k := 0) (v := vr 78) (dt_at dtX0_copyFrom 7 rfl) (show TT 77 = (0, 0) from rfl) rfl (by decide) wF_X0_11 rfl ?_
  refine K_alen (dt_at dtX0_copyFrom 8 rfl) (show TT 78 = (1, 3080) from rfl) ?_
  show K mX0_copyFrom _ _ 0 0 15 [(0, vr 77), (1, vr 68)] [vi 3080, vi 0, vr 78, vi 0, vr 69] h
  refine K_copy (dt_at dtX0_copyFrom 9 rfl) wA_X0_31 (show TT 69 = (1, 3080) from rfl) (show TT 78 = (1, 3080) from rfl) (by omega) (by omega) (by omega) (by omega) (by omega) (by decide) (Nat.le_of_ble_eq_true rfl) ?_
  obtain ⟨hq1, eq1⟩ : ∃ z, z = sF h 78 (cpF (hA h 69) (hA h 78) 0 0 3080) := ⟨_, rfl⟩
  rw [← eq1]
  obtain ⟨aq1, fq1, iq1, rq1⟩ := sF_fx eq1
  refine K_aload_n (dt_at dtX0_copyFrom 10 rfl) rfl rfl ?_
  refine K_aload_n (dt_at dtX0_copyFrom 11 rfl) rfl rfl ?_
  refine K_get (a := 68) (ci := 0) (k := 1) (v := vi (o : Int)) (dt_at dtX0_copyFrom 12 rfl) (show TT 68 = (0, 0) from rfl) rfl (by decide) wF_X0_17 (by show vi (hI hq1 68 1) = vi (o : Int); rw [iq1, k2]) ?_
  refine K_putI (a := 77) (ci := 0) (k := 1) (dt_at dtX0_copyFrom 13 rfl) (show TT 77 = (0, 0) from rfl) rfl (by decide) wF_X0_17 rfl (Or.inl rfl) rfl rfl ?_
  obtain ⟨hq2, eq2⟩ : ∃ z, z = sI hq1 77 1 (o : Int) := ⟨_, rfl⟩
  rw [← eq2]
  obtain ⟨iq2, fq2, aq2, rq2⟩ := sI_fx eq2
  refine K_aload_n (dt_at dtX0_copyFrom 14 rfl) rfl rfl ?_
  refine K_aload_n (dt_at dtX0_copyFrom 15 rfl) rfl rfl ?_
  refine K_get (a := 68) (ci := 0) (k := 2) (v := vi (C.1 : Int)) (dt_at dtX0_copyFrom 16 rfl) (show TT 68 = (0, 0) from rfl) rfl (by decide) wF_X0_21 (by show vi (hI hq2 68 2) = vi (C.1 : Int); rw [(fq2 68 2 (by omega)), iq1, k3]) ?_
  refine K_putI (a := 77) (ci := 0) (k := 2) (dt_at dtX0_copyFrom 17 rfl) (show TT 77 = (0, 0) from rfl) rfl (by decide) wF_X0_21 rfl (Or.inl rfl) rfl rfl ?_
  obtain ⟨hq3, eq3⟩ : ∃ z, z = sI hq2 77 2 (C.1 : Int) := ⟨_, rfl⟩
  rw [← eq3]
  obtain ⟨iq3, fq3, aq3, rq3⟩ := sI_fx eq3
  refine K_vret (dt_at dtX0_copyFrom 18 rfl) rfl (by decide) (by decide) ⟨rfl, acR_copyH (h := h) (b := 68) (g := hA h 78) kk (by show hA hq3 78 = _; rw [aq3, aq2, aq1]) (by rw [(fq3 77 1 (by omega)), iq2]; exact k2.symm) (by rw [iq3]; exact k3.symm), ?_⟩
  exact ⟨fun a_ ha => by rw [aq3, aq2, fq1 a_ (fun z => by rw [z] at ha; cases ha)], fun a_ k ha => by rw [fq3 a_ k (by by_cases z : a_ = 77; exact Or.inr (fun z2 => by rw [z, z2] at ha; cases ha); exact Or.inl z), fq2 a_ k (by by_cases z : a_ = 77; exact Or.inr (fun z2 => by rw [z, z2] at ha; cases ha); exact Or.inl z), iq1], fun a_ k ha => by rw [rq3, rq2, rq1]⟩
set_option maxHeartbeats 4000000 in
set_option maxRecDepth 100000 in
theorem sX0_copyFrom_68 {h : HP} {C : AC} (kk : acR h 77 C) : SpecK mX0_copyFrom [vr 68, vr 77] h (fun o h' => o = .inl none ∧ acR h' 68 C ∧ FL [69] [(68, 1), (68, 2)] [] h h') := by
  refine Spec_of (by decide +kernel) (Nat.le_of_ble_eq_true rfl) ?_
  obtain ⟨o, k1, k2, k3, k4, k5⟩ := id kk
  refine K_aload_n (dt_at dtX0_copyFrom 0 rfl) rfl rfl ?_
  refine K_get (a := 77) (ci := 0) (k := 0) (v := vr 78) (dt_at dtX0_copyFrom 1 rfl) (show TT 77 = (0, 0) from rfl) rfl (by decide) wF_X0_11 rfl ?_
  refine K_iconst (dt_at dtX0_copyFrom 2 rfl) ?_
  refine K_aload_n (dt_at dtX0_copyFrom 3 rfl) rfl rfl ?_
  refine K_get (a := 68) (ci := 0) (k := 0) (v := vr 69) (dt_at dtX0_copyFrom 4 rfl) (show TT 68 = (0, 0) from rfl) rfl (by decide) wF_X0_11 rfl ?_
  refine K_iconst (dt_at dtX0_copyFrom 5 rfl) ?_
  refine K_aload_n (dt_at dtX0_copyFrom 6 rfl) rfl rfl ?_
  refine K_get (a := 68) (ci := 0) (k := 0) (v := vr 69) (dt_at dtX0_copyFrom 7 rfl) (show TT 68 = (0, 0) from rfl) rfl (by decide) wF_X0_11 rfl ?_
  refine K_alen (dt_at dtX0_copyFrom 8 rfl) (show TT 69 = (1, 3080) from rfl) ?_
  show K mX0_copyFrom _ _ 0 0 15 [(0, vr 68), (1, vr 77)] [vi 3080, vi 0, vr 69, vi 0, vr 78] h
  refine K_copy (dt_at dtX0_copyFrom 9 rfl) wA_X0_31 (show TT 78 = (1, 3080) from rfl) (show TT 69 = (1, 3080) from rfl) (by omega) (by omega) (by omega) (by omega) (by omega) (by decide) (Nat.le_of_ble_eq_true rfl) ?_
  obtain ⟨hq1, eq1⟩ : ∃ z, z = sF h 69 (cpF (hA h 78) (hA h 69) 0 0 3080) := ⟨_, rfl⟩
  rw [← eq1]
  obtain ⟨aq1, fq1, iq1, rq1⟩ := sF_fx eq1
  refine K_aload_n (dt_at dtX0_copyFrom 10 rfl) rfl rfl ?_
  refine K_aload_n (dt_at dtX0_copyFrom 11 rfl) rfl rfl ?_
  refine K_get (a := 77) (ci := 0) (k := 1) (v := vi (o : Int)) (dt_at dtX0_copyFrom 12 rfl) (show TT 77 = (0, 0) from rfl) rfl (by decide) wF_X0_17 (by show vi (hI hq1 77 1) = vi (o : Int); rw [iq1, k2]) ?_
  refine K_putI (a := 68) (ci := 0) (k := 1) (dt_at dtX0_copyFrom 13 rfl) (show TT 68 = (0, 0) from rfl) rfl (by decide) wF_X0_17 rfl (Or.inl rfl) rfl rfl ?_
  obtain ⟨hq2, eq2⟩ : ∃ z, z = sI hq1 68 1 (o : Int) := ⟨_, rfl⟩
  rw [← eq2]
  obtain ⟨iq2, fq2, aq2, rq2⟩ := sI_fx eq2
  refine K_aload_n (dt_at dtX0_copyFrom 14 rfl) rfl rfl ?_
  refine K_aload_n (dt_at dtX0_copyFrom 15 rfl) rfl rfl ?_
  refine K_get (a := 77) (ci := 0) (k := 2) (v := vi (C.1 : Int)) (dt_at dtX0_copyFrom 16 rfl) (show TT 77 = (0, 0) from rfl) rfl (by decide) wF_X0_21 (by show vi (hI hq2 77 2) = vi (C.1 : Int); rw [(fq2 77 2 (by omega)), iq1, k3]) ?_
  refine K_putI (a := 68) (ci := 0) (k := 2) (dt_at dtX0_copyFrom 17 rfl) (show TT 68 = (0, 0) from rfl) rfl (by decide) wF_X0_21 rfl (Or.inl rfl) rfl rfl ?_
  obtain ⟨hq3, eq3⟩ : ∃ z, z = sI hq2 68 2 (C.1 : Int) := ⟨_, rfl⟩
  rw [← eq3]
  obtain ⟨iq3, fq3, aq3, rq3⟩ := sI_fx eq3
  refine K_vret (dt_at dtX0_copyFrom 18 rfl) rfl (by decide) (by decide) ⟨rfl, acR_copyH (h := h) (b := 77) (g := hA h 69) kk (by show hA hq3 69 = _; rw [aq3, aq2, aq1]) (by rw [(fq3 68 1 (by omega)), iq2]; exact k2.symm) (by rw [iq3]; exact k3.symm), ?_⟩
  exact ⟨fun a_ ha => by rw [aq3, aq2, fq1 a_ (fun z => by rw [z] at ha; cases ha)], fun a_ k ha => by rw [fq3 a_ k (by by_cases z : a_ = 68; exact Or.inr (fun z2 => by rw [z, z2] at ha; cases ha); exact Or.inl z), fq2 a_ k (by by_cases z : a_ = 68; exact Or.inr (fun z2 => by rw [z, z2] at ha; cases ha); exact Or.inl z), iq1], fun a_ k ha => by rw [rq3, rq2, rq1]⟩
def mX7_clear : MI := (yX7_clear, cX7_clear, 1, none, rmK 1 0)
def tX7_clear : List (Nat × Instr × Nat) := [(0, .aload_n 0, 1), (1, .iconst 0, 1), (2, .putfield 24, 3), (5, .return_, 1)]
theorem dtX7_clear : tX7_clear.all (fun q => decide (decode cX7_clear q.1 = .ok (q.2.1, q.2.2))) = true := by decide +kernel
theorem npX7_clear : (parseMethodDescriptor (mY mX7_clear).desc).map (fun d => d.parameters.length) = some 0 := by decide +kernel
theorem vX7_clear : mV mX7_clear := ⟨wI_X7_clear, wS_X7_clear, wN_X7, wC_X7_clear, by decide +kernel, by decide +kernel⟩
def mX7_add : MI := (yX7_add, cX7_add, 5, (some .boolean), rmK 1 0)
def tX7_add : List (Nat × Instr × Nat) := [(0, .aload_n 0, 1), (1, .getfield 24, 3), (4, .bipush 8, 2), (6, .if_icmp .lt 5, 3), (9, .iconst 0, 1), (10, .ireturn, 1), (11, .aload_n 0, 1), (12, .getfield 9, 3), (15, .aload_n 0, 1), (16, .getfield 24, 3), (19, .iload_n 1, 1), (20, .iastore, 1), (21, .aload_n 0, 1), (22, .getfield 15, 3), (25, .aload_n 0, 1), (26, .getfield 24, 3), (29, .iload_n 2, 1), (30, .iastore, 1), (31, .aload_n 0, 1), (32, .getfield 18, 3), (35, .aload_n 0, 1), (36, .getfield 24, 3), (39, .iload_n 3, 1), (40, .iastore, 1), (41, .aload_n 0, 1), (42, .getfield 21, 3), (45, .aload_n 0, 1), (46, .getfield 24, 3), (49, .iload 4, 2), (51, .iastore, 1), (52, .aload_n 0, 1), (53, .dup, 1), (54, .getfield 24, 3), (57, .iconst 1, 1), (58, .iadd, 1), (59, .putfield 24, 3), (62, .iconst 1, 1), (63, .ireturn, 1)]
theorem dtX7_add : tX7_add.all (fun q => decide (decode cX7_add q.1 = .ok (q.2.1, q.2.2))) = true := by decide +kernel
theorem npX7_add : (parseMethodDescriptor (mY mX7_add).desc).map (fun d => d.parameters.length) = some 4 := by decide +kernel
theorem vX7_add : mV mX7_add := ⟨wI_X7_add, wS_X7_add, wN_X7, wC_X7_add, by decide +kernel, by decide +kernel⟩
def mX7_copyFrom : MI := (yX7_copyFrom, cX7_copyFrom, 3, none, rmK 2 0)
def tX7_copyFrom : List (Nat × Instr × Nat) := [(0, .aload_n 0, 1), (1, .iconst 0, 1), (2, .putfield 24, 3), (5, .iconst 0, 1), (6, .istore_n 2, 1), (7, .iload_n 2, 1), (8, .aload_n 1, 1), (9, .getfield 24, 3), (12, .if_icmp .ge 38, 3), (15, .aload_n 0, 1), (16, .aload_n 1, 1), (17, .getfield 9, 3), (20, .iload_n 2, 1), (21, .iaload, 1), (22, .aload_n 1, 1), (23, .getfield 15, 3), (26, .iload_n 2, 1), (27, .iaload, 1), (28, .aload_n 1, 1), (29, .getfield 18, 3), (32, .iload_n 2, 1), (33, .iaload, 1), (34, .aload_n 1, 1), (35, .getfield 21, 3), (38, .iload_n 2, 1), (39, .iaload, 1), (40, .invokevirtual 28, 3), (43, .pop, 1), (44, .iinc 2 1, 3), (47, .goto (-40), 3), (50, .return_, 1)]
theorem dtX7_copyFrom : tX7_copyFrom.all (fun q => decide (decode cX7_copyFrom q.1 = .ok (q.2.1, q.2.2))) = true := by decide +kernel
theorem npX7_copyFrom : (parseMethodDescriptor (mY mX7_copyFrom).desc).map (fun d => d.parameters.length) = some 1 := by decide +kernel
theorem vX7_copyFrom : mV mX7_copyFrom := ⟨wI_X7_copyFrom, wS_X7_copyFrom, wN_X7, wC_X7_copyFrom, by decide +kernel, by decide +kernel⟩
set_option maxHeartbeats 4000000 in
set_option maxRecDepth 100000 in
theorem sX7_clear {h : HP}  : SpecK mX7_clear [vr 70] h (fun o h' => o = .inl (none) ∧ h' = sI h 70 4 0) := by
  refine Spec_of (by decide +kernel) (Nat.le_of_ble_eq_true rfl) ?_
  refine K_aload_n (dt_at dtX7_clear 0 rfl) rfl rfl ?_
  refine K_iconst (dt_at dtX7_clear 1 rfl) ?_
  refine K_putI (a := 70) (ci := 7) (k := 4) (dt_at dtX7_clear 2 rfl) (show TT 70 = (0, 7) from rfl) rfl (by decide) wF_X7_24 rfl (Or.inl rfl) rfl rfl ?_
  exact K_vret (dt_at dtX7_clear 3 rfl) rfl (by decide) (by decide) ⟨rfl, rfl⟩
set_option maxHeartbeats 4000000 in
set_option maxRecDepth 100000 in
theorem sX7_add_70_0 {h : HP} {N : SN} {p q d n : Int} (kk : seR h 70 N) (h8 : ¬ N.1 < 8) : SpecK mX7_add [vr 70, vi p, vi q, vi d, vi n] h (fun o h' => o = .inl (some (vi 0)) ∧ h' = h) := by
  refine Spec_of (by decide +kernel) (Nat.le_of_ble_eq_true rfl) ?_
  obtain ⟨k1, k2, k3⟩ := id kk
  refine K_aload_n (dt_at dtX7_add 0 rfl) rfl rfl ?_
  refine K_get (a := 70) (ci := 7) (k := 4) (v := vi (N.1 : Int)) (dt_at dtX7_add 1 rfl) (show TT 70 = (0, 7) from rfl) rfl (by decide) wF_X7_24 (by show vi (hI h 70 4) = vi (N.1 : Int); rw [k2]) ?_
  refine K_bipush (dt_at dtX7_add 2 rfl) (by decide) ?_
  refine K_icmp_lt (tgt := 11) (dt_at dtX7_add 3 rfl) (by decide) (by first | assumption | exact ⟨by omega, by omega⟩) (by first | assumption | exact ⟨by omega, by omega⟩) (fun c1 => absurd c1 (by omega)) (fun c1 => ?_)
  refine K_iconst (dt_at dtX7_add 4 rfl) ?_
  exact K_iret (dt_at dtX7_add 5 rfl) rfl (by decide) (by decide) (by decide) ⟨rfl, rfl⟩
set_option maxHeartbeats 4000000 in
set_option maxRecDepth 100000 in
theorem sX7_add_70_1 {h : HP} {N : SN} {p q d n : Int} (kk : seR h 70 N) (h8 : N.1 < 8) : SpecK mX7_add [vr 70, vi p, vi q, vi d, vi n] h (fun o h' => o = .inl (some (vi 1)) ∧ seR h' 70 (seP N p q d n) ∧ FL [71, 72, 73, 74] [(70, 4)] [] h h') := by
  refine Spec_of (by decide +kernel) (Nat.le_of_ble_eq_true rfl) ?_
  obtain ⟨k1, k2, k3⟩ := id kk
  refine K_aload_n (dt_at dtX7_add 0 rfl) rfl rfl ?_
  refine K_get (a := 70) (ci := 7) (k := 4) (v := vi (N.1 : Int)) (dt_at dtX7_add 1 rfl) (show TT 70 = (0, 7) from rfl) rfl (by decide) wF_X7_24 (by show vi (hI h 70 4) = vi (N.1 : Int); rw [k2]) ?_
  refine K_bipush (dt_at dtX7_add 2 rfl) (by decide) ?_
  refine K_icmp_lt (tgt := 11) (dt_at dtX7_add 3 rfl) (by decide) (by first | assumption | exact ⟨by omega, by omega⟩) (by first | assumption | exact ⟨by omega, by omega⟩) (fun c1 => ?_) (fun c1 => absurd c1 (by omega))
  refine K_aload_n (dt_at dtX7_add 6 rfl) rfl rfl ?_
  refine K_get (a := 70) (ci := 7) (k := 0) (v := vr 71) (dt_at dtX7_add 7 rfl) (show TT 70 = (0, 7) from rfl) rfl (by decide) wF_X7_9 rfl ?_
  refine K_aload_n (dt_at dtX7_add 8 rfl) rfl rfl ?_
  refine K_get (a := 70) (ci := 7) (k := 4) (v := vi (N.1 : Int)) (dt_at dtX7_add 9 rfl) (show TT 70 = (0, 7) from rfl) rfl (by decide) wF_X7_24 (by show vi (hI h 70 4) = vi (N.1 : Int); rw [k2]) ?_
  refine K_iload_n (dt_at dtX7_add 10 rfl) rfl rfl ?_
  refine K_iast (dt_at dtX7_add 11 rfl) (show TT 71 = (1, 8) from rfl) (by omega) (by omega) ?_
  obtain ⟨hq1, eq1⟩ : ∃ z, z = sA h 71 (N.1 : Int) p := ⟨_, rfl⟩
  rw [← eq1]
  obtain ⟨aq1, fq1, iq1, rq1⟩ := sA_fx eq1
  refine K_aload_n (dt_at dtX7_add 12 rfl) rfl rfl ?_
  refine K_get (a := 70) (ci := 7) (k := 1) (v := vr 72) (dt_at dtX7_add 13 rfl) (show TT 70 = (0, 7) from rfl) rfl (by decide) wF_X7_15 rfl ?_
  refine K_aload_n (dt_at dtX7_add 14 rfl) rfl rfl ?_
  refine K_get (a := 70) (ci := 7) (k := 4) (v := vi (N.1 : Int)) (dt_at dtX7_add 15 rfl) (show TT 70 = (0, 7) from rfl) rfl (by decide) wF_X7_24 (by show vi (hI hq1 70 4) = vi (N.1 : Int); rw [iq1, k2]) ?_
  refine K_iload_n (dt_at dtX7_add 16 rfl) rfl rfl ?_
  refine K_iast (dt_at dtX7_add 17 rfl) (show TT 72 = (1, 8) from rfl) (by omega) (by omega) ?_
  obtain ⟨hq2, eq2⟩ : ∃ z, z = sA hq1 72 (N.1 : Int) q := ⟨_, rfl⟩
  rw [← eq2]
  obtain ⟨aq2, fq2, iq2, rq2⟩ := sA_fx eq2
  rw [(fq1 72 (by omega))] at aq2
  refine K_aload_n (dt_at dtX7_add 18 rfl) rfl rfl ?_
  refine K_get (a := 70) (ci := 7) (k := 2) (v := vr 73) (dt_at dtX7_add 19 rfl) (show TT 70 = (0, 7) from rfl) rfl (by decide) wF_X7_18 rfl ?_
  refine K_aload_n (dt_at dtX7_add 20 rfl) rfl rfl ?_
  refine K_get (a := 70) (ci := 7) (k := 4) (v := vi (N.1 : Int)) (dt_at dtX7_add 21 rfl) (show TT 70 = (0, 7) from rfl) rfl (by decide) wF_X7_24 (by show vi (hI hq2 70 4) = vi (N.1 : Int); rw [iq2, iq1, k2]) ?_
  refine K_iload_n (dt_at dtX7_add 22 rfl) rfl rfl ?_
  refine K_iast (dt_at dtX7_add 23 rfl) (show TT 73 = (1, 8) from rfl) (by omega) (by omega) ?_
  obtain ⟨hq3, eq3⟩ : ∃ z, z = sA hq2 73 (N.1 : Int) d := ⟨_, rfl⟩
  rw [← eq3]
  obtain ⟨aq3, fq3, iq3, rq3⟩ := sA_fx eq3
  rw [(fq2 73 (by omega)), (fq1 73 (by omega))] at aq3
  refine K_aload_n (dt_at dtX7_add 24 rfl) rfl rfl ?_
  refine K_get (a := 70) (ci := 7) (k := 3) (v := vr 74) (dt_at dtX7_add 25 rfl) (show TT 70 = (0, 7) from rfl) rfl (by decide) wF_X7_21 rfl ?_
  refine K_aload_n (dt_at dtX7_add 26 rfl) rfl rfl ?_
  refine K_get (a := 70) (ci := 7) (k := 4) (v := vi (N.1 : Int)) (dt_at dtX7_add 27 rfl) (show TT 70 = (0, 7) from rfl) rfl (by decide) wF_X7_24 (by show vi (hI hq3 70 4) = vi (N.1 : Int); rw [iq3, iq2, iq1, k2]) ?_
  refine K_iload (dt_at dtX7_add 28 rfl) rfl ?_
  refine K_iast (dt_at dtX7_add 29 rfl) (show TT 74 = (1, 8) from rfl) (by omega) (by omega) ?_
  obtain ⟨hq4, eq4⟩ : ∃ z, z = sA hq3 74 (N.1 : Int) n := ⟨_, rfl⟩
  rw [← eq4]
  obtain ⟨aq4, fq4, iq4, rq4⟩ := sA_fx eq4
  rw [(fq3 74 (by omega)), (fq2 74 (by omega)), (fq1 74 (by omega))] at aq4
  refine K_aload_n (dt_at dtX7_add 30 rfl) rfl rfl ?_
  refine K_dup (dt_at dtX7_add 31 rfl) rfl ?_
  refine K_get (a := 70) (ci := 7) (k := 4) (v := vi (N.1 : Int)) (dt_at dtX7_add 32 rfl) (show TT 70 = (0, 7) from rfl) rfl (by decide) wF_X7_24 (by show vi (hI hq4 70 4) = vi (N.1 : Int); rw [iq4, iq3, iq2, iq1, k2]) ?_
  refine K_iconst (dt_at dtX7_add 33 rfl) ?_
  refine K_iadd (dt_at dtX7_add 34 rfl) ?_
  refine K_putI (a := 70) (ci := 7) (k := 4) (dt_at dtX7_add 35 rfl) (show TT 70 = (0, 7) from rfl) rfl (by decide) wF_X7_24 rfl (Or.inl rfl) rfl rfl ?_
  obtain ⟨hq5, eq5⟩ : ∃ z, z = sI hq4 70 4 ((N.1 : Int) + 1) := ⟨_, rfl⟩
  rw [← eq5]
  obtain ⟨iq5, fq5, aq5, rq5⟩ := sI_fx eq5
  refine K_iconst (dt_at dtX7_add 36 rfl) ?_
  refine K_iret (dt_at dtX7_add 37 rfl) rfl (by decide) (by decide) (by decide) ⟨rfl, ⟨by show N.1 + 1 ≤ 8; omega, by rw [iq5]; rfl, fun i hi => ?_⟩, ?_⟩
  · have hi : i < N.1 + 1 := hi
    rw [show hA hq5 (70 + 1) = upI (hA h 71) (N.1 : Int) p by rw [aq5, (fq4 71 (by omega)), (fq3 71 (by omega)), (fq2 71 (by omega)), aq1], show hA hq5 (70 + 2) = upI (hA h 72) (N.1 : Int) q by rw [aq5, (fq4 72 (by omega)), (fq3 72 (by omega)), aq2], show hA hq5 (70 + 3) = upI (hA h 73) (N.1 : Int) d by rw [aq5, (fq4 73 (by omega)), aq3], show hA hq5 (70 + 4) = upI (hA h 74) (N.1 : Int) n by rw [aq5, aq4]]
    by_cases z : i = N.1
    · subst z; unfold seP; dsimp only; rw [upI_s, upI_s, upI_s, upI_s, if_pos rfl, if_pos rfl, if_pos rfl, if_pos rfl]; exact ⟨rfl, rfl, rfl, rfl⟩
    · unfold seP; dsimp only; rw [upI_n (by omega), upI_n (by omega), upI_n (by omega), upI_n (by omega), if_neg z, if_neg z, if_neg z, if_neg z]; exact k3 i (by omega)
  · exact ⟨fun a_ ha => by rw [aq5, fq4 a_ (fun z => by rw [z] at ha; cases ha), fq3 a_ (fun z => by rw [z] at ha; cases ha), fq2 a_ (fun z => by rw [z] at ha; cases ha), fq1 a_ (fun z => by rw [z] at ha; cases ha)], fun a_ k ha => by rw [fq5 a_ k (by by_cases z : a_ = 70; exact Or.inr (fun z2 => by rw [z, z2] at ha; cases ha); exact Or.inl z), iq4, iq3, iq2, iq1], fun a_ k ha => by rw [rq5, rq4, rq3, rq2, rq1]⟩
set_option maxHeartbeats 4000000 in
set_option maxRecDepth 100000 in
theorem sX7_add_79_0 {h : HP} {N : SN} {p q d n : Int} (kk : seR h 79 N) (h8 : ¬ N.1 < 8) : SpecK mX7_add [vr 79, vi p, vi q, vi d, vi n] h (fun o h' => o = .inl (some (vi 0)) ∧ h' = h) := by
  refine Spec_of (by decide +kernel) (Nat.le_of_ble_eq_true rfl) ?_
  obtain ⟨k1, k2, k3⟩ := id kk
  refine K_aload_n (dt_at dtX7_add 0 rfl) rfl rfl ?_
  refine K_get (a := 79) (ci := 7) (k := 4) (v := vi (N.1 : Int)) (dt_at dtX7_add 1 rfl) (show TT 79 = (0, 7) from rfl) rfl (by decide) wF_X7_24 (by show vi (hI h 79 4) = vi (N.1 : Int); rw [k2]) ?_
  refine K_bipush (dt_at dtX7_add 2 rfl) (by decide) ?_
  refine K_icmp_lt (tgt := 11) (dt_at dtX7_add 3 rfl) (by decide) (by first | assumption | exact ⟨by omega, by omega⟩) (by first | assumption | exact ⟨by omega, by omega⟩) (fun c1 => absurd c1 (by omega)) (fun c1 => ?_)
  refine K_iconst (dt_at dtX7_add 4 rfl) ?_
  exact K_iret (dt_at dtX7_add 5 rfl) rfl (by decide) (by decide) (by decide) ⟨rfl, rfl⟩
set_option maxHeartbeats 4000000 in
set_option maxRecDepth 100000 in
theorem sX7_add_79_1 {h : HP} {N : SN} {p q d n : Int} (kk : seR h 79 N) (h8 : N.1 < 8) : SpecK mX7_add [vr 79, vi p, vi q, vi d, vi n] h (fun o h' => o = .inl (some (vi 1)) ∧ seR h' 79 (seP N p q d n) ∧ FL [80, 81, 82, 83] [(79, 4)] [] h h') := by
  refine Spec_of (by decide +kernel) (Nat.le_of_ble_eq_true rfl) ?_
  obtain ⟨k1, k2, k3⟩ := id kk
  refine K_aload_n (dt_at dtX7_add 0 rfl) rfl rfl ?_
  refine K_get (a := 79) (ci := 7) (k := 4) (v := vi (N.1 : Int)) (dt_at dtX7_add 1 rfl) (show TT 79 = (0, 7) from rfl) rfl (by decide) wF_X7_24 (by show vi (hI h 79 4) = vi (N.1 : Int); rw [k2]) ?_
  refine K_bipush (dt_at dtX7_add 2 rfl) (by decide) ?_
  refine K_icmp_lt (tgt := 11) (dt_at dtX7_add 3 rfl) (by decide) (by first | assumption | exact ⟨by omega, by omega⟩) (by first | assumption | exact ⟨by omega, by omega⟩) (fun c1 => ?_) (fun c1 => absurd c1 (by omega))
  refine K_aload_n (dt_at dtX7_add 6 rfl) rfl rfl ?_
  refine K_get (a := 79) (ci := 7) (k := 0) (v := vr 80) (dt_at dtX7_add 7 rfl) (show TT 79 = (0, 7) from rfl) rfl (by decide) wF_X7_9 rfl ?_
  refine K_aload_n (dt_at dtX7_add 8 rfl) rfl rfl ?_
  refine K_get (a := 79) (ci := 7) (k := 4) (v := vi (N.1 : Int)) (dt_at dtX7_add 9 rfl) (show TT 79 = (0, 7) from rfl) rfl (by decide) wF_X7_24 (by show vi (hI h 79 4) = vi (N.1 : Int); rw [k2]) ?_
  refine K_iload_n (dt_at dtX7_add 10 rfl) rfl rfl ?_
  refine K_iast (dt_at dtX7_add 11 rfl) (show TT 80 = (1, 8) from rfl) (by omega) (by omega) ?_
  obtain ⟨hq1, eq1⟩ : ∃ z, z = sA h 80 (N.1 : Int) p := ⟨_, rfl⟩
  rw [← eq1]
  obtain ⟨aq1, fq1, iq1, rq1⟩ := sA_fx eq1
  refine K_aload_n (dt_at dtX7_add 12 rfl) rfl rfl ?_
  refine K_get (a := 79) (ci := 7) (k := 1) (v := vr 81) (dt_at dtX7_add 13 rfl) (show TT 79 = (0, 7) from rfl) rfl (by decide) wF_X7_15 rfl ?_
  refine K_aload_n (dt_at dtX7_add 14 rfl) rfl rfl ?_
  refine K_get (a := 79) (ci := 7) (k := 4) (v := vi (N.1 : Int)) (dt_at dtX7_add 15 rfl) (show TT 79 = (0, 7) from rfl) rfl (by decide) wF_X7_24 (by show vi (hI hq1 79 4) = vi (N.1 : Int); rw [iq1, k2]) ?_
  refine K_iload_n (dt_at dtX7_add 16 rfl) rfl rfl ?_
  refine K_iast (dt_at dtX7_add 17 rfl) (show TT 81 = (1, 8) from rfl) (by omega) (by omega) ?_
  obtain ⟨hq2, eq2⟩ : ∃ z, z = sA hq1 81 (N.1 : Int) q := ⟨_, rfl⟩
  rw [← eq2]
  obtain ⟨aq2, fq2, iq2, rq2⟩ := sA_fx eq2
  rw [(fq1 81 (by omega))] at aq2
  refine K_aload_n (dt_at dtX7_add 18 rfl) rfl rfl ?_
  refine K_get (a := 79) (ci := 7) (k := 2) (v := vr 82) (dt_at dtX7_add 19 rfl) (show TT 79 = (0, 7) from rfl) rfl (by decide) wF_X7_18 rfl ?_
  refine K_aload_n (dt_at dtX7_add 20 rfl) rfl rfl ?_
  refine K_get (a := 79) (ci := 7) (k := 4) (v := vi (N.1 : Int)) (dt_at dtX7_add 21 rfl) (show TT 79 = (0, 7) from rfl) rfl (by decide) wF_X7_24 (by show vi (hI hq2 79 4) = vi (N.1 : Int); rw [iq2, iq1, k2]) ?_
  refine K_iload_n (dt_at dtX7_add 22 rfl) rfl rfl ?_
  refine K_iast (dt_at dtX7_add 23 rfl) (show TT 82 = (1, 8) from rfl) (by omega) (by omega) ?_
  obtain ⟨hq3, eq3⟩ : ∃ z, z = sA hq2 82 (N.1 : Int) d := ⟨_, rfl⟩
  rw [← eq3]
  obtain ⟨aq3, fq3, iq3, rq3⟩ := sA_fx eq3
  rw [(fq2 82 (by omega)), (fq1 82 (by omega))] at aq3
  refine K_aload_n (dt_at dtX7_add 24 rfl) rfl rfl ?_
  refine K_get (a := 79) (ci := 7) (k := 3) (v := vr 83) (dt_at dtX7_add 25 rfl) (show TT 79 = (0, 7) from rfl) rfl (by decide) wF_X7_21 rfl ?_
  refine K_aload_n (dt_at dtX7_add 26 rfl) rfl rfl ?_
  refine K_get (a := 79) (ci := 7) (k := 4) (v := vi (N.1 : Int)) (dt_at dtX7_add 27 rfl) (show TT 79 = (0, 7) from rfl) rfl (by decide) wF_X7_24 (by show vi (hI hq3 79 4) = vi (N.1 : Int); rw [iq3, iq2, iq1, k2]) ?_
  refine K_iload (dt_at dtX7_add 28 rfl) rfl ?_
  refine K_iast (dt_at dtX7_add 29 rfl) (show TT 83 = (1, 8) from rfl) (by omega) (by omega) ?_
  obtain ⟨hq4, eq4⟩ : ∃ z, z = sA hq3 83 (N.1 : Int) n := ⟨_, rfl⟩
  rw [← eq4]
  obtain ⟨aq4, fq4, iq4, rq4⟩ := sA_fx eq4
  rw [(fq3 83 (by omega)), (fq2 83 (by omega)), (fq1 83 (by omega))] at aq4
  refine K_aload_n (dt_at dtX7_add 30 rfl) rfl rfl ?_
  refine K_dup (dt_at dtX7_add 31 rfl) rfl ?_
  refine K_get (a := 79) (ci := 7) (k := 4) (v := vi (N.1 : Int)) (dt_at dtX7_add 32 rfl) (show TT 79 = (0, 7) from rfl) rfl (by decide) wF_X7_24 (by show vi (hI hq4 79 4) = vi (N.1 : Int); rw [iq4, iq3, iq2, iq1, k2]) ?_
  refine K_iconst (dt_at dtX7_add 33 rfl) ?_
  refine K_iadd (dt_at dtX7_add 34 rfl) ?_
  refine K_putI (a := 79) (ci := 7) (k := 4) (dt_at dtX7_add 35 rfl) (show TT 79 = (0, 7) from rfl) rfl (by decide) wF_X7_24 rfl (Or.inl rfl) rfl rfl ?_
  obtain ⟨hq5, eq5⟩ : ∃ z, z = sI hq4 79 4 ((N.1 : Int) + 1) := ⟨_, rfl⟩
  rw [← eq5]
  obtain ⟨iq5, fq5, aq5, rq5⟩ := sI_fx eq5
  refine K_iconst (dt_at dtX7_add 36 rfl) ?_
  refine K_iret (dt_at dtX7_add 37 rfl) rfl (by decide) (by decide) (by decide) ⟨rfl, ⟨by show N.1 + 1 ≤ 8; omega, by rw [iq5]; rfl, fun i hi => ?_⟩, ?_⟩
  · have hi : i < N.1 + 1 := hi
    rw [show hA hq5 (79 + 1) = upI (hA h 80) (N.1 : Int) p by rw [aq5, (fq4 80 (by omega)), (fq3 80 (by omega)), (fq2 80 (by omega)), aq1], show hA hq5 (79 + 2) = upI (hA h 81) (N.1 : Int) q by rw [aq5, (fq4 81 (by omega)), (fq3 81 (by omega)), aq2], show hA hq5 (79 + 3) = upI (hA h 82) (N.1 : Int) d by rw [aq5, (fq4 82 (by omega)), aq3], show hA hq5 (79 + 4) = upI (hA h 83) (N.1 : Int) n by rw [aq5, aq4]]
    by_cases z : i = N.1
    · subst z; unfold seP; dsimp only; rw [upI_s, upI_s, upI_s, upI_s, if_pos rfl, if_pos rfl, if_pos rfl, if_pos rfl]; exact ⟨rfl, rfl, rfl, rfl⟩
    · unfold seP; dsimp only; rw [upI_n (by omega), upI_n (by omega), upI_n (by omega), upI_n (by omega), if_neg z, if_neg z, if_neg z, if_neg z]; exact k3 i (by omega)
  · exact ⟨fun a_ ha => by rw [aq5, fq4 a_ (fun z => by rw [z] at ha; cases ha), fq3 a_ (fun z => by rw [z] at ha; cases ha), fq2 a_ (fun z => by rw [z] at ha; cases ha), fq1 a_ (fun z => by rw [z] at ha; cases ha)], fun a_ k ha => by rw [fq5 a_ k (by by_cases z : a_ = 79; exact Or.inr (fun z2 => by rw [z, z2] at ha; cases ha); exact Or.inl z), iq4, iq3, iq2, iq1], fun a_ k ha => by rw [rq5, rq4, rq3, rq2, rq1]⟩
set_option maxHeartbeats 4000000 in
set_option maxRecDepth 100000 in
theorem lp_X7_copyFrom_79 {Q : AO → HP → Prop} {h : HP} {N : SN} (kk : seR h 70 N) (hQ : ∀ h2, seR h2 79 N → FL [80, 81, 82, 83] [(79, 4)] [] h h2 → Q (.inl none) h2) : ∀ (d k : Nat) (hh : HP), k + d = N.1 → seR hh 79 (k, N.2) → FL [80, 81, 82, 83] [(79, 4)] [] h hh → K mX7_copyFrom GK (ZK Q 0 0) 0 0 7 [(2, vi (k : Int)), (0, vr 79), (1, vr 70)] [] hh := by
  intro d
  induction d with
  | zero =>
    intro k hh hk Sh Fh
    obtain ⟨k1, j2, k3⟩ := id kk
    have k2 : hI hh 70 4 = (N.1 : Int) := by rw [Fh.2.1 70 4 rfl]; exact j2
    have ek : k = N.1 := by omega
    refine K_iload_n (dt_at dtX7_copyFrom 5 rfl) rfl rfl ?_
    refine K_aload_n (dt_at dtX7_copyFrom 6 rfl) rfl rfl ?_
    refine K_get (a := 70) (ci := 7) (k := 4) (v := vi (N.1 : Int)) (dt_at dtX7_copyFrom 7 rfl) (show TT 70 = (0, 7) from rfl) rfl (by decide) wF_X7_24 (by show vi (hI hh 70 4) = vi (N.1 : Int); rw [k2]) ?_
    refine K_icmp_ge (tgt := 50) (dt_at dtX7_copyFrom 8 rfl) (by decide) (by first | assumption | exact ⟨by omega, by omega⟩) (by first | assumption | exact ⟨by omega, by omega⟩) (fun c1 => ?_) (fun c1 => absurd c1 (by omega))
    exact K_vret (dt_at dtX7_copyFrom 30 rfl) rfl (by decide) (by decide) (hQ _ (by rw [ek] at Sh; exact Sh) Fh)
  | succ d ih =>
    intro k hh hk Sh Fh
    obtain ⟨k1, j2, k3⟩ := id kk
    have k2 : hI hh 70 4 = (N.1 : Int) := by rw [Fh.2.1 70 4 rfl]; exact j2
    refine K_iload_n (dt_at dtX7_copyFrom 5 rfl) rfl rfl ?_
    refine K_aload_n (dt_at dtX7_copyFrom 6 rfl) rfl rfl ?_
    refine K_get (a := 70) (ci := 7) (k := 4) (v := vi (N.1 : Int)) (dt_at dtX7_copyFrom 7 rfl) (show TT 70 = (0, 7) from rfl) rfl (by decide) wF_X7_24 (by show vi (hI hh 70 4) = vi (N.1 : Int); rw [k2]) ?_
    refine K_icmp_ge (tgt := 50) (dt_at dtX7_copyFrom 8 rfl) (by decide) (by first | assumption | exact ⟨by omega, by omega⟩) (by first | assumption | exact ⟨by omega, by omega⟩) (fun c1 => absurd c1 (by omega)) (fun c1 => ?_)
    refine K_aload_n (dt_at dtX7_copyFrom 9 rfl) rfl rfl ?_
    refine K_aload_n (dt_at dtX7_copyFrom 10 rfl) rfl rfl ?_
    refine K_get (a := 70) (ci := 7) (k := 0) (v := vr 71) (dt_at dtX7_copyFrom 11 rfl) (show TT 70 = (0, 7) from rfl) rfl (by decide) wF_X7_9 rfl ?_
    refine K_iload_n (dt_at dtX7_copyFrom 12 rfl) rfl rfl ?_
    refine K_iald (dt_at dtX7_copyFrom 13 rfl) (show TT 71 = (1, 8) from rfl) (by omega) (by omega) ?_
    rw [(Fh.1 71 rfl)]
    refine K_aload_n (dt_at dtX7_copyFrom 14 rfl) rfl rfl ?_
    refine K_get (a := 70) (ci := 7) (k := 1) (v := vr 72) (dt_at dtX7_copyFrom 15 rfl) (show TT 70 = (0, 7) from rfl) rfl (by decide) wF_X7_15 rfl ?_
    refine K_iload_n (dt_at dtX7_copyFrom 16 rfl) rfl rfl ?_
    refine K_iald (dt_at dtX7_copyFrom 17 rfl) (show TT 72 = (1, 8) from rfl) (by omega) (by omega) ?_
    rw [(Fh.1 72 rfl)]
    refine K_aload_n (dt_at dtX7_copyFrom 18 rfl) rfl rfl ?_
    refine K_get (a := 70) (ci := 7) (k := 2) (v := vr 73) (dt_at dtX7_copyFrom 19 rfl) (show TT 70 = (0, 7) from rfl) rfl (by decide) wF_X7_18 rfl ?_
    refine K_iload_n (dt_at dtX7_copyFrom 20 rfl) rfl rfl ?_
    refine K_iald (dt_at dtX7_copyFrom 21 rfl) (show TT 73 = (1, 8) from rfl) (by omega) (by omega) ?_
    rw [(Fh.1 73 rfl)]
    refine K_aload_n (dt_at dtX7_copyFrom 22 rfl) rfl rfl ?_
    refine K_get (a := 70) (ci := 7) (k := 3) (v := vr 74) (dt_at dtX7_copyFrom 23 rfl) (show TT 70 = (0, 7) from rfl) rfl (by decide) wF_X7_21 rfl ?_
    refine K_iload_n (dt_at dtX7_copyFrom 24 rfl) rfl rfl ?_
    refine K_iald (dt_at dtX7_copyFrom 25 rfl) (show TT 74 = (1, 8) from rfl) (by omega) (by omega) ?_
    rw [(Fh.1 74 rfl)]
    refine K_callV (M' := mX7_add) (a := 79) (ci := 7) (As := [vi (hA h 71 (k : Int)), vi (hA h 72 (k : Int)), vi (hA h 73 (k : Int)), vi (hA h 74 (k : Int))]) (st := []) (dt_at dtX7_copyFrom 26 rfl) (sX7_add_79_1 (N := (k, N.2)) Sh (by show k < 8; omega)) (show TT 79 = (0, 7) from rfl) rfl wL_X7_28 vX7_add rfl npX7_add (by decide) (by decide) (Nat.le_of_ble_eq_true rfl) (by decide) (by decide) GK_E (fun v9 hc1 hq => ?_) (fun E h9 hq => by cases hq.1)
    have hqq2 := hq
    obtain ⟨e9q2, Sq2, Fq2⟩ := hqq2
    cases e9q2
    show K mX7_copyFrom _ _ 0 0 43 [(2, vi (k : Int)), (0, vr 79), (1, vr 70)] [vi 1] hc1
    refine K_pop (dt_at dtX7_copyFrom 27 rfl) rfl ?_
    refine K_iinc (ls' := [(2, vi ((k : Int) + 1)), (0, vr 79), (1, vr 70)]) (dt_at dtX7_copyFrom 28 rfl) rfl (by decide) rfl ?_
    refine K_goto (tgt := 7) (dt_at dtX7_copyFrom 29 rfl) (by decide) ?_
    obtain ⟨n1, n2, n3, n4⟩ := k3 k (by omega)
    rw [show hA h 71 (k : Int) = N.2.1 k from n1, show hA h 72 (k : Int) = N.2.2.1 k from n2, show hA h 73 (k : Int) = N.2.2.2.1 k from n3, show hA h 74 (k : Int) = N.2.2.2.2 k from n4] at Sq2
    exact K_pk [0, 1, 2] rfl (ih (k + 1) hc1 (by omega) (seP_seR Sq2) (FL_tr Fh Fq2))
set_option maxHeartbeats 4000000 in
set_option maxRecDepth 100000 in
theorem sX7_copyFrom_79 {h : HP} {N : SN} (kk : seR h 70 N) : SpecK mX7_copyFrom [vr 79, vr 70] h (fun o h' => o = .inl none ∧ seR h' 79 N ∧ FL [80, 81, 82, 83] [(79, 4)] [] h h') := by
  refine Spec_of (by decide +kernel) (Nat.le_of_ble_eq_true rfl) ?_
  refine K_aload_n (dt_at dtX7_copyFrom 0 rfl) rfl rfl ?_
  refine K_iconst (dt_at dtX7_copyFrom 1 rfl) ?_
  refine K_putI (a := 79) (ci := 7) (k := 4) (dt_at dtX7_copyFrom 2 rfl) (show TT 79 = (0, 7) from rfl) rfl (by decide) wF_X7_24 rfl (Or.inl rfl) rfl rfl ?_
  refine K_iconst (dt_at dtX7_copyFrom 3 rfl) ?_
  refine K_istore_n (ls' := [(2, vi 0), (0, vr 79), (1, vr 70)]) (dt_at dtX7_copyFrom 4 rfl) rfl (by decide) rfl ?_
  exact K_pk [0, 1, 2] rfl (lp_X7_copyFrom_79 kk (fun h2 q1 q2 => ⟨rfl, q1, q2⟩) N.1 0 _ (by omega) ⟨by show 0 ≤ 8; omega, hI_I _ _ _ _, fun i hi => absurd hi (Nat.not_lt_zero i)⟩ (FL_sI rfl))
set_option maxHeartbeats 4000000 in
set_option maxRecDepth 100000 in
theorem lp_X7_copyFrom_70 {Q : AO → HP → Prop} {h : HP} {N : SN} (kk : seR h 79 N) (hQ : ∀ h2, seR h2 70 N → FL [71, 72, 73, 74] [(70, 4)] [] h h2 → Q (.inl none) h2) : ∀ (d k : Nat) (hh : HP), k + d = N.1 → seR hh 70 (k, N.2) → FL [71, 72, 73, 74] [(70, 4)] [] h hh → K mX7_copyFrom GK (ZK Q 0 0) 0 0 7 [(2, vi (k : Int)), (0, vr 70), (1, vr 79)] [] hh := by
  intro d
  induction d with
  | zero =>
    intro k hh hk Sh Fh
    obtain ⟨k1, j2, k3⟩ := id kk
    have k2 : hI hh 79 4 = (N.1 : Int) := by rw [Fh.2.1 79 4 rfl]; exact j2
    have ek : k = N.1 := by omega
    refine K_iload_n (dt_at dtX7_copyFrom 5 rfl) rfl rfl ?_
    refine K_aload_n (dt_at dtX7_copyFrom 6 rfl) rfl rfl ?_
    refine K_get (a := 79) (ci := 7) (k := 4) (v := vi (N.1 : Int)) (dt_at dtX7_copyFrom 7 rfl) (show TT 79 = (0, 7) from rfl) rfl (by decide) wF_X7_24 (by show vi (hI hh 79 4) = vi (N.1 : Int); rw [k2]) ?_
    refine K_icmp_ge (tgt := 50) (dt_at dtX7_copyFrom 8 rfl) (by decide) (by first | assumption | exact ⟨by omega, by omega⟩) (by first | assumption | exact ⟨by omega, by omega⟩) (fun c1 => ?_) (fun c1 => absurd c1 (by omega))
    exact K_vret (dt_at dtX7_copyFrom 30 rfl) rfl (by decide) (by decide) (hQ _ (by rw [ek] at Sh; exact Sh) Fh)
  | succ d ih =>
    intro k hh hk Sh Fh
    obtain ⟨k1, j2, k3⟩ := id kk
    have k2 : hI hh 79 4 = (N.1 : Int) := by rw [Fh.2.1 79 4 rfl]; exact j2
    refine K_iload_n (dt_at dtX7_copyFrom 5 rfl) rfl rfl ?_
    refine K_aload_n (dt_at dtX7_copyFrom 6 rfl) rfl rfl ?_
    refine K_get (a := 79) (ci := 7) (k := 4) (v := vi (N.1 : Int)) (dt_at dtX7_copyFrom 7 rfl) (show TT 79 = (0, 7) from rfl) rfl (by decide) wF_X7_24 (by show vi (hI hh 79 4) = vi (N.1 : Int); rw [k2]) ?_
    refine K_icmp_ge (tgt := 50) (dt_at dtX7_copyFrom 8 rfl) (by decide) (by first | assumption | exact ⟨by omega, by omega⟩) (by first | assumption | exact ⟨by omega, by omega⟩) (fun c1 => absurd c1 (by omega)) (fun c1 => ?_)
    refine K_aload_n (dt_at dtX7_copyFrom 9 rfl) rfl rfl ?_
    refine K_aload_n (dt_at dtX7_copyFrom 10 rfl) rfl rfl ?_
    refine K_get (a := 79) (ci := 7) (k := 0) (v := vr 80) (dt_at dtX7_copyFrom 11 rfl) (show TT 79 = (0, 7) from rfl) rfl (by decide) wF_X7_9 rfl ?_
    refine K_iload_n (dt_at dtX7_copyFrom 12 rfl) rfl rfl ?_
    refine K_iald (dt_at dtX7_copyFrom 13 rfl) (show TT 80 = (1, 8) from rfl) (by omega) (by omega) ?_
    rw [(Fh.1 80 rfl)]
    refine K_aload_n (dt_at dtX7_copyFrom 14 rfl) rfl rfl ?_
    refine K_get (a := 79) (ci := 7) (k := 1) (v := vr 81) (dt_at dtX7_copyFrom 15 rfl) (show TT 79 = (0, 7) from rfl) rfl (by decide) wF_X7_15 rfl ?_
    refine K_iload_n (dt_at dtX7_copyFrom 16 rfl) rfl rfl ?_
    refine K_iald (dt_at dtX7_copyFrom 17 rfl) (show TT 81 = (1, 8) from rfl) (by omega) (by omega) ?_
    rw [(Fh.1 81 rfl)]
    refine K_aload_n (dt_at dtX7_copyFrom 18 rfl) rfl rfl ?_
    refine K_get (a := 79) (ci := 7) (k := 2) (v := vr 82) (dt_at dtX7_copyFrom 19 rfl) (show TT 79 = (0, 7) from rfl) rfl (by decide) wF_X7_18 rfl ?_
    refine K_iload_n (dt_at dtX7_copyFrom 20 rfl) rfl rfl ?_
    refine K_iald (dt_at dtX7_copyFrom 21 rfl) (show TT 82 = (1, 8) from rfl) (by omega) (by omega) ?_
    rw [(Fh.1 82 rfl)]
    refine K_aload_n (dt_at dtX7_copyFrom 22 rfl) rfl rfl ?_
    refine K_get (a := 79) (ci := 7) (k := 3) (v := vr 83) (dt_at dtX7_copyFrom 23 rfl) (show TT 79 = (0, 7) from rfl) rfl (by decide) wF_X7_21 rfl ?_
    refine K_iload_n (dt_at dtX7_copyFrom 24 rfl) rfl rfl ?_
    refine K_iald (dt_at dtX7_copyFrom 25 rfl) (show TT 83 = (1, 8) from rfl) (by omega) (by omega) ?_
    rw [(Fh.1 83 rfl)]
    refine K_callV (M' := mX7_add) (a := 70) (ci := 7) (As := [vi (hA h 80 (k : Int)), vi (hA h 81 (k : Int)), vi (hA h 82 (k : Int)), vi (hA h 83 (k : Int))]) (st := []) (dt_at dtX7_copyFrom 26 rfl) (sX7_add_70_1 (N := (k, N.2)) Sh (by show k < 8; omega)) (show TT 70 = (0, 7) from rfl) rfl wL_X7_28 vX7_add rfl npX7_add (by decide) (by decide) (Nat.le_of_ble_eq_true rfl) (by decide) (by decide) GK_E (fun v9 hc1 hq => ?_) (fun E h9 hq => by cases hq.1)
    have hqq2 := hq
    obtain ⟨e9q2, Sq2, Fq2⟩ := hqq2
    cases e9q2
    show K mX7_copyFrom _ _ 0 0 43 [(2, vi (k : Int)), (0, vr 70), (1, vr 79)] [vi 1] hc1
    refine K_pop (dt_at dtX7_copyFrom 27 rfl) rfl ?_
    refine K_iinc (ls' := [(2, vi ((k : Int) + 1)), (0, vr 70), (1, vr 79)]) (dt_at dtX7_copyFrom 28 rfl) rfl (by decide) rfl ?_
    refine K_goto (tgt := 7) (dt_at dtX7_copyFrom 29 rfl) (by decide) ?_
    obtain ⟨n1, n2, n3, n4⟩ := k3 k (by omega)
    rw [show hA h 80 (k : Int) = N.2.1 k from n1, show hA h 81 (k : Int) = N.2.2.1 k from n2, show hA h 82 (k : Int) = N.2.2.2.1 k from n3, show hA h 83 (k : Int) = N.2.2.2.2 k from n4] at Sq2
    exact K_pk [0, 1, 2] rfl (ih (k + 1) hc1 (by omega) (seP_seR Sq2) (FL_tr Fh Fq2))
set_option maxHeartbeats 4000000 in
set_option maxRecDepth 100000 in
theorem sX7_copyFrom_70 {h : HP} {N : SN} (kk : seR h 79 N) : SpecK mX7_copyFrom [vr 70, vr 79] h (fun o h' => o = .inl none ∧ seR h' 70 N ∧ FL [71, 72, 73, 74] [(70, 4)] [] h h') := by
  refine Spec_of (by decide +kernel) (Nat.le_of_ble_eq_true rfl) ?_
  refine K_aload_n (dt_at dtX7_copyFrom 0 rfl) rfl rfl ?_
  refine K_iconst (dt_at dtX7_copyFrom 1 rfl) ?_
  refine K_putI (a := 70) (ci := 7) (k := 4) (dt_at dtX7_copyFrom 2 rfl) (show TT 70 = (0, 7) from rfl) rfl (by decide) wF_X7_24 rfl (Or.inl rfl) rfl rfl ?_
  refine K_iconst (dt_at dtX7_copyFrom 3 rfl) ?_
  refine K_istore_n (ls' := [(2, vi 0), (0, vr 70), (1, vr 79)]) (dt_at dtX7_copyFrom 4 rfl) rfl (by decide) rfl ?_
  exact K_pk [0, 1, 2] rfl (lp_X7_copyFrom_70 kk (fun h2 q1 q2 => ⟨rfl, q1, q2⟩) N.1 0 _ (by omega) ⟨by show 0 ≤ 8; omega, hI_I _ _ _ _, fun i hi => absurd hi (Nat.not_lt_zero i)⟩ (FL_sI rfl))
def mX11_refuse : MI := (yX11_refuse, cX11_refuse, 2, (some .int), rmK 1 0)
def tX11_refuse : List (Nat × Instr × Nat) := [(0, .aload_n 0, 1), (1, .getfield 13, 3), (4, .iload_n 1, 1), (5, .dup2, 1), (6, .iaload, 1), (7, .iconst 1, 1), (8, .iadd, 1), (9, .iastore, 1), (10, .iconst (-1), 1), (11, .ireturn, 1)]
theorem dtX11_refuse : tX11_refuse.all (fun q => decide (decode cX11_refuse q.1 = .ok (q.2.1, q.2.2))) = true := by decide +kernel
theorem npX11_refuse : (parseMethodDescriptor (mY mX11_refuse).desc).map (fun d => d.parameters.length) = some 1 := by decide +kernel
theorem vX11_refuse : mV mX11_refuse := ⟨wI_X11_refuse, wS_X11_refuse, wN_X11, wC_X11_refuse, by decide +kernel, by decide +kernel⟩
set_option maxHeartbeats 4000000 in
set_option maxRecDepth 100000 in
theorem sX11_refuse {h : HP} {x : Int} (hx : 0 ≤ x ∧ x < 3) : SpecK mX11_refuse [vr 30, vi x] h (fun o h' => o = .inl (some (vi (-1))) ∧ h' = sA h 32 x (hA h 32 x + 1)) := by
  refine Spec_of (by decide +kernel) (Nat.le_of_ble_eq_true rfl) ?_
  refine K_aload_n (dt_at dtX11_refuse 0 rfl) rfl rfl ?_
  refine K_get (a := 30) (ci := 11) (k := 1) (v := vr 32) (dt_at dtX11_refuse 1 rfl) (show TT 30 = (0, 11) from rfl) rfl (by decide) wF_X11_13 rfl ?_
  refine K_iload_n (dt_at dtX11_refuse 2 rfl) rfl rfl ?_
  refine K_dup2 (dt_at dtX11_refuse 3 rfl) rfl rfl ?_
  refine K_iald (dt_at dtX11_refuse 4 rfl) (show TT 32 = (1, 3) from rfl) (by omega) (by omega) ?_
  refine K_iconst (dt_at dtX11_refuse 5 rfl) ?_
  refine K_iadd (dt_at dtX11_refuse 6 rfl) ?_
  refine K_iast (dt_at dtX11_refuse 7 rfl) (show TT 32 = (1, 3) from rfl) (by omega) (by omega) ?_
  refine K_iconst (dt_at dtX11_refuse 8 rfl) ?_
  exact K_iret (dt_at dtX11_refuse 9 rfl) rfl rfl (by decide) (by decide) ⟨rfl, rfl⟩
