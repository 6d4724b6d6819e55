def ASd (D : DR) (f tp : Int → Int) (rf : Int × Int × Int) : AS := (HSd D, (f, (0, fun _ _ => 0), (0, fun _ => 0, fun _ => 0, fun _ => 0, fun _ => 0)), none, tp, 0, rf, -1)
def HOm (h' : HP) (o : AO) (S : HS) (v : SV) (im : Option SV) (tp : Int → Int) (rf : Int × Int × Int) : (Int × Nat) ⊕ (DR × Nat) → Prop
  | .inl e => o = .inl (some (vi e.1)) ∧ MV h' (S, v, im, tp, 0, cn32 rf 0, (e.2 : Int))
  | .inr (D, _) => o = .inl (some (vi 0)) ∧ ∀ f, (∀ j : Int, 0 ≤ j → j < 77 → f j = rwD D j) → MV h' (ASd D f tp rf)
theorem MV_rd {h h' : HP} {S : HS} {v : SV} {im : Option SV} {tp : Int → Int} {nt : Nat} {rf rf' : Int × Int × Int} {fl fl' : Int} (m : MV h (S, v, im, tp, nt, rf, fl)) (fa : ∀ a, (a < 7 ∨ 17 < a) → hA h' a = hA h a) (fi : ∀ k, (1 ≤ k ∧ k ≤ 4) ∨ 32 < k → hI h' 0 k = hI h 0 k) (e12 : hI h' 0 12 = 0) (e14 : hI h' 0 14 = fl') (r : hA h' 8 0 = rf'.1 ∧ hA h' 8 1 = rf'.2.1 ∧ hA h' 8 2 = rf'.2.2) : MV h' (S, v, im, tp, 0, rf', fl') := by
  obtain ⟨m1, m2, m3, ⟨m4, m5, m6⟩, m7, m8⟩ := m
  exact ⟨MS_fr m1 (fi 1 (by omega)) (fi 2 (by omega)) (fi 3 (by omega)) (fi 4 (by omega)) (fa 1 (by omega)) (fa 2 (by omega)) (fa 3 (by omega)) (fa 4 (by omega)) (fa 5 (by omega)) (fa 6 (by omega)), by rw [fa 20 (by omega)]; exact m2, by rw [fi 49 (by omega)]; exact m3, ⟨RV0_fr m4 (fun i _ => by rw [fa 18 (by omega)]), mAc_fr m5 (fi 44 (by omega)) (fa 19 (by omega)), mSe_fr m6 (fi 51 (by omega)) (fa 23 (by omega))⟩, mIm_fr m7 (fi 56 (by omega)) (fi 57 (by omega)) (fi 58 (by omega)) (fa 26 (by omega)) (fa 27 (by omega)) (fa 28 (by omega)), e12, fun i i0 i1 => absurd (show i < ((0 : Nat) : Int) from i1) (by omega), r, e14⟩
theorem cd6 {c c' : Int → Int} {L : List Int} {a : Nat} (h : cdR c (a : Int) L) (hb : (a : Int) + (clN L : Int) < 1400) (e : ∀ i : Int, 0 ≤ i → i < 1400 → c' i = c i) : cdR c' (a : Int) L := cdR_cg L _ (fun i h0 h1 => e i (by omega) (by omega)) h
/-- the new house, as the reference has it -/
theorem MV_new {h h' : HP} {S : HS} {v : SV} {im : Option SV} {tp : Int → Int} {nt q : Nat} {rf : Int × Int × Int} {fl : Int} {D : DR} {h1 : HP} (m : MV h (S, v, im, tp, nt, rf, fl)) (hD : DOK D) (dd : DRm h1 q D) (hq : q ≤ 700)
    (i1 : hI h' 0 1 = hI h1 0 24) (i2 : hI h' 0 2 = hI h1 0 25) (i3 : hI h' 0 3 = hI h1 0 26) (i4 : hI h' 0 4 = hI h1 0 27) (z44 : hI h' 0 44 = 0) (z51 : hI h' 0 51 = 0) (z56 : hI h' 0 56 = 0) (i49 : hI h' 0 49 = hI h 0 49)
    (a1 : ∀ i : Int, 0 ≤ i → i < 6 → hA h' 1 i = hA h1 9 i) (a2 : ∀ i : Int, 0 ≤ i → i < 6 → hA h' 2 i = hA h1 10 i) (a3 : ∀ i : Int, 0 ≤ i → i < 7 → hA h' 3 i = hA h1 11 i) (a4 : ∀ i : Int, 0 ≤ i → i < 7 → hA h' 4 i = hA h1 12 i) (a5 : ∀ i : Int, 0 ≤ i → i < 7 → hA h' 5 i = hA h1 13 i) (a6 : ∀ i : Int, 0 ≤ i → i < 1400 → hA h' 6 i = hA h1 15 i)
    (ar : ∀ i : Int, 0 ≤ i → i < 77 → hA h' 18 i = if 70 ≤ i ∧ i < 70 + (D.1.2 : Int) ∧ (D.1.2 : Int) ≤ hA h1 14 i then -1 else hA h1 14 i) (a20 : hA h' 20 = hA h 20) (a8 : hA h' 8 = hA h 8) (e12 : hI h' 0 12 = 0) (e14 : hI h' 0 14 = -1)
    (f : Int → Int) (hf : ∀ j : Int, 0 ≤ j → j < 77 → f j = rwD D j) : MV h' (ASd D f tp rf) := by
  obtain ⟨⟨⟨d1, d2⟩, d3, d4⟩, d5, d6, d7, ⟨d8, d9⟩, da, db⟩ := dd
  obtain ⟨m1, m2, m3, -, -, -, -, m9, -⟩ := m
  have rl : ∀ (k : Nat) (o : Option (List Int)) (mk : (Int → Int) → Int → Int) (P : Int → Prop) (k1 : Nat), hI h' 0 k = hI h1 0 k1 → mRd h1 k1 o → (∀ L, o = some L → wfL 0 L ∧ vaL P L) → (∀ L, wfL 0 L → vaL P L → ∀ v, (∀ i, i32 (v i)) → rF L (mk v) = ruF L v) → mRl h' k mk P (o.map rF) := by
    intro k o mk P k1 ek hm hw hr
    cases o with
    | none => show hI h' 0 k = -1; rw [ek]; exact hm
    | some L =>
      obtain ⟨a, x1, x2, x3⟩ := hm
      obtain ⟨y1, y2⟩ := hw L rfl
      exact ⟨(a : Int), L, by omega, by rw [ek]; exact x1, cd6 x2 (by omega) a6, y1, y2, fun v hv => hr L y1 y2 v hv⟩
  obtain ⟨⟨h6, h7⟩, -, -, hp5, hp6⟩ := id hD
  refine ⟨⟨HSd_W hD, ⟨by rw [i1]; exact d1, by rw [i2]; exact d3⟩, fun t t0 t1 => ?_, fun p p0 p1 => ?_, rl 3 _ mkP inPu 26 i3 d8 hp5 (fun L y1 y2 v hv => rF_P y1 y2 hv), rl 4 _ mkF inFe 27 i4 d9 hp6 (fun L y1 y2 v hv => rF_F y1 y2 hv)⟩, by rw [a20]; exact m2, by rw [i49]; exact m3, ⟨fun j j0 j1 => ?_, ⟨z44, Nat.zero_le _, fun i hi => absurd hi (Nat.not_lt_zero i)⟩, ⟨z51, Nat.zero_le _, fun i hi => absurd hi (Nat.not_lt_zero i)⟩⟩, z56, e12, fun i i0 i1 => absurd (show i < ((0 : Nat) : Int) from i1) (by omega), by rw [a8]; exact m9, e14⟩
  · have t1 : t < (D.1.1 : Int) := t1
    rw [a1 t t0 (by omega), a2 t t0 (by omega)]; exact d5 t t0 t1
  · have p1 : p < (D.1.2 : Int) := p1
    rw [a3 p p0 (by omega), a4 p p0 (by omega), a5 p p0 (by omega)]; exact d6 p p0 p1
  · have pb := pm_b j0 j1
    show hA h' 18 (0 + pm j) = f j
    rw [hf j j0 j1, Int.zero_add, ar (pm j) pb.1 pb.2, d7 j j0 j1]
    by_cases c : 22 ≤ j ∧ j < 22 + (D.1.2 : Int)
    · have e : pm j = 70 + (j - 22) := by have := pm_k (p := j - 22) (by omega); rw [show 22 + (j - 22) = j by omega] at this; exact this
      have er : drR D.1.1 D.1.2 D.2.1.2.2 D.2.2.1.2.2.2.1 D.2.2.1.2.2.2.2 j = D.2.2.1.2.2.2.2 (j - 22) := by
        have := drR_k (nt := D.1.1) (np := D.1.2) (st := D.2.1.2.2) (fo := D.2.2.1.2.2.2.1) (bw := D.2.2.1.2.2.2.2) (p := j - 22) (by omega)
        rw [show 22 + (j - 22) = j by omega, if_pos (by omega)] at this
        exact this
      unfold rwD
      rw [if_pos c, er]
      by_cases d : D.2.2.1.2.2.2.2 (j - 22) < (D.1.2 : Int)
      · rw [if_pos d, if_neg (by omega)]
      · rw [if_neg d, if_pos ⟨by omega, by omega, by omega⟩]
    · have hne : ¬ (70 ≤ pm j ∧ pm j < 70 + (D.1.2 : Int) ∧ (D.1.2 : Int) ≤ drR D.1.1 D.1.2 D.2.1.2.2 D.2.2.1.2.2.2.1 D.2.2.1.2.2.2.2 j) := fun z => by
        have e := pm_k (p := pm j - 70) (by omega)
        rw [show (70 : Int) + (pm j - 70) = pm j by omega] at e
        have := pm_inj (by omega) (by omega) j0 j1 e
        omega
      rw [if_neg hne]
      unfold rwD
      rw [if_neg c]
abbrev LH : List (Nat × Nat) := [(0, 0), (0, 12), (0, 16), (0, 17), (0, 18), (0, 19), (0, 20), (0, 21), (0, 22), (0, 23), (0, 13), (0, 14), (0, 28), (0, 29), (0, 30), (0, 31), (0, 32), (0, 24), (0, 25), (0, 26), (0, 27)]
abbrev LHf (h h' : HP) : Prop := FL [9, 10, 11, 12, 13, 14, 15, 16, 17] LH [] h h'
theorem FC_H {h h' : HP} {la : List Nat} {li : List (Nat × Nat)} (F : FL la li [] h h') (h1 : la.all (fun x => decide (x < 29)) = true) (h2 : li.all (fun x => decide (x.1 = 0)) = true) : FC h h' := by
  refine ⟨fun a ha => F.1 a ?_, fun a k ha => F.2.1 a k ?_, ?_⟩
  · cases e : la.contains a
    · rfl
    · have := of_decide_eq_true (List.all_eq_true.mp h1 a (List.contains_iff_mem.mp e)); omega
  · cases e : li.contains (a, k)
    · rfl
    · exact absurd (of_decide_eq_true (List.all_eq_true.mp h2 (a, k) (List.contains_iff_mem.mp e))) ha
  · funext a k
    exact F.2.2 a k rfl
def mX12_house : MI := (yX12_house, cX12_house, 3, (some .int), rmK 8 0)
def tX12_house : List (Nat × Instr × Nat) := [(0, .aload_n 0, 1), (1, .iconst 0, 1), (2, .putfield 105, 3), (5, .aload_n 0, 1), (6, .iload_n 1, 1), (7, .ifCond .lt 15, 3), (10, .iload_n 1, 1), (11, .aload_n 0, 1), (12, .getfield 108, 3), (15, .if_icmp .gt 7, 3), (18, .iconst 1, 1), (19, .goto 4, 3), (22, .iconst 0, 1), (23, .iconst 1, 1), (24, .invokevirtual 260, 3), (27, .ifCond .ne 5, 3), (30, .iconst 0, 1), (31, .ireturn, 1), (32, .aload_n 0, 1), (33, .iconst 0, 1), (34, .putfield 108, 3), (37, .aload_n 0, 1), (38, .iconst (-1), 1), (39, .putfield 38, 3), (42, .aload_n 0, 1), (43, .iconst 0, 1), (44, .putfield 161, 3), (47, .aload_n 0, 1), (48, .iload_n 1, 1), (49, .putfield 115, 3), (52, .aload_n 0, 1), (53, .iconst 0, 1), (54, .putfield 118, 3), (57, .aload_n 0, 1), (58, .iconst 0, 1), (59, .putfield 227, 3), (62, .aload_n 0, 1), (63, .iconst 0, 1), (64, .putfield 234, 3), (67, .aload_n 0, 1), (68, .iconst (-1), 1), (69, .putfield 247, 3), (72, .aload_n 0, 1), (73, .iconst (-1), 1), (74, .putfield 254, 3), (77, .iconst 0, 1), (78, .istore_n 2, 1), (79, .iload_n 2, 1), (80, .bipush 77, 2), (82, .if_icmp .ge 16, 3), (85, .aload_n 0, 1), (86, .getfield 59, 3), (89, .iload_n 2, 1), (90, .iconst 0, 1), (91, .iastore, 1), (92, .iinc 2 1, 3), (95, .goto (-16), 3), (98, .aload_n 0, 1), (99, .iconst 0, 1), (100, .putfield 174, 3), (103, .aload_n 0, 1), (104, .invokevirtual 168, 3), (107, .aload_n 0, 1), (108, .invokevirtual 164, 3), (111, .ifCond .eq 17, 3), (114, .aload_n 0, 1), (115, .getfield 138, 3), (118, .ifCond .eq 10, 3), (121, .aload_n 0, 1), (122, .invokevirtual 264, 3), (125, .goto (-18), 3), (128, .aload_n 0, 1), (129, .invokevirtual 164, 3), (132, .ifCond .ne 18, 3), (135, .aload_n 0, 1), (136, .getfield 41, 3), (139, .iconst 0, 1), (140, .dup2, 1), (141, .iaload, 1), (142, .iconst 1, 1), (143, .iadd, 1), (144, .iastore, 1), (145, .aload_n 0, 1), (146, .getfield 161, 3), (149, .ireturn, 1), (150, .aload_n 0, 1), (151, .aload_n 0, 1), (152, .getfield 227, 3), (155, .putfield 267, 3), (158, .aload_n 0, 1), (159, .aload_n 0, 1), (160, .getfield 234, 3), (163, .putfield 270, 3), (166, .aload_n 0, 1), (167, .aload_n 0, 1), (168, .getfield 247, 3), (171, .putfield 9, 3), (174, .aload_n 0, 1), (175, .aload_n 0, 1), (176, .getfield 254, 3), (179, .putfield 13, 3), (182, .aload_n 0, 1), (183, .aload_n 0, 1), (184, .getfield 44, 3), (187, .aload_n 0, 1), (188, .getfield 16, 3), (191, .invokevirtual 273, 3), (194, .aload_n 0, 1), (195, .aload_n 0, 1), (196, .getfield 47, 3), (199, .aload_n 0, 1), (200, .getfield 20, 3), (203, .invokevirtual 273, 3), (206, .aload_n 0, 1), (207, .aload_n 0, 1), (208, .getfield 50, 3), (211, .aload_n 0, 1), (212, .getfield 23, 3), (215, .invokevirtual 273, 3), (218, .aload_n 0, 1), (219, .aload_n 0, 1), (220, .getfield 53, 3), (223, .aload_n 0, 1), (224, .getfield 26, 3), (227, .invokevirtual 273, 3), (230, .aload_n 0, 1), (231, .aload_n 0, 1), (232, .getfield 56, 3), (235, .aload_n 0, 1), (236, .getfield 29, 3), (239, .invokevirtual 273, 3), (242, .aload_n 0, 1), (243, .aload_n 0, 1), (244, .getfield 62, 3), (247, .aload_n 0, 1), (248, .getfield 32, 3), (251, .invokevirtual 273, 3), (254, .iconst 0, 1), (255, .istore_n 2, 1), (256, .iload_n 2, 1), (257, .bipush 77, 2), (259, .if_icmp .ge 21, 3), (262, .aload_n 0, 1), (263, .getfield 72, 3), (266, .iload_n 2, 1), (267, .aload_n 0, 1), (268, .getfield 59, 3), (271, .iload_n 2, 1), (272, .iaload, 1), (273, .iastore, 1), (274, .iinc 2 1, 3), (277, .goto (-21), 3), (280, .iconst 0, 1), (281, .istore_n 2, 1), (282, .iload_n 2, 1), (283, .aload_n 0, 1), (284, .getfield 270, 3), (287, .if_icmp .ge 35, 3), (290, .aload_n 0, 1), (291, .getfield 72, 3), (294, .bipush 70, 2), (296, .iload_n 2, 1), (297, .iadd, 1), (298, .iaload, 1), (299, .aload_n 0, 1), (300, .getfield 270, 3), (303, .if_icmp .lt 13, 3), (306, .aload_n 0, 1), (307, .getfield 72, 3), (310, .bipush 70, 2), (312, .iload_n 2, 1), (313, .iadd, 1), (314, .iconst (-1), 1), (315, .iastore, 1), (316, .iinc 2 1, 3), (319, .goto (-37), 3), (322, .aload_n 0, 1), (323, .iconst 0, 1), (324, .putfield 277, 3), (327, .aload_n 0, 1), (328, .iconst 0, 1), (329, .putfield 280, 3), (332, .aload_n 0, 1), (333, .iconst 0, 1), (334, .putfield 283, 3), (337, .iconst 0, 1), (338, .ireturn, 1)]
theorem dtX12_house : tX12_house.all (fun q => decide (decode cX12_house q.1 = .ok (q.2.1, q.2.2))) = true := by decide +kernel
theorem npX12_house : (parseMethodDescriptor (mY mX12_house).desc).map (fun d => d.parameters.length) = some 1 := by decide +kernel
theorem vX12_house : mV mX12_house := ⟨wI_X12_house, wS_X12_house, wN_X12, wC_X12_house, by decide +kernel, by decide +kernel⟩
set_option maxHeartbeats 4000000 in
set_option maxRecDepth 100000 in
theorem house_x {h : HP} {S : HS} {v : SV} {im : Option SV} {tp : Int → Int} {nt : Nat} {rf : Int × Int × Int} {fl : Int} {x : Int} (V : MV h (S, v, im, tp, nt, rf, fl)) (h7 : nt ≤ 700) (hx : i32 x) (kn : ¬ (0 ≤ x ∧ x ≤ nt)) : SpecK mX12_house [vr 0, vi x] h (fun o h' => o = .inl (some (vi 0)) ∧ MV h' (S, v, im, tp, nt, rf, fl) ∧ FC h h' ∧ hI h' 0 0 = 1) := by
  refine Spec_of (by decide +kernel) (Nat.le_of_ble_eq_true rfl) ?_
  have e12 := V.2.2.2.2.2.1
  refine K_aload_n (dt_at dtX12_house 0 rfl) rfl rfl ?_
  refine K_iconst (dt_at dtX12_house 1 rfl) ?_
  refine K_putI (a := 0) (ci := 12) (k := 0) (dt_at dtX12_house 2 rfl) (show TT 0 = (0, 12) from rfl) rfl (by decide) wF_X12_105 rfl (Or.inl rfl) rfl rfl ?_
  obtain ⟨hq1, eq1⟩ : ∃ z, z = sI h 0 0 0 := ⟨_, rfl⟩
  rw [← eq1]
  obtain ⟨iq1, fq1, aq1, rq1⟩ := sI_fx eq1
  refine K_aload_n (dt_at dtX12_house 3 rfl) rfl rfl ?_
  refine K_iload_n (dt_at dtX12_house 4 rfl) rfl rfl ?_
  refine K_if_lt (tgt := 22) (dt_at dtX12_house 5 rfl) (by decide) hx (fun c1 => ?_) (fun c1 => ?_)
  · refine K_iconst (dt_at dtX12_house 12 rfl) ?_
    refine K_iconst (dt_at dtX12_house 13 rfl) ?_
    refine K_callV (M' := mX12_right) (a := 0) (ci := 12) (As := [vi 0, vi 1]) (st := []) (dt_at dtX12_house 14 rfl) (sX12_right_f (by rw [iq1]) (by omega)) (show TT 0 = (0, 12) from rfl) rfl wL_X12_260 vX12_right rfl npX12_right (by decide) (by decide) (Nat.le_of_ble_eq_true rfl) (by decide) (by decide) GK_E (fun v9 h9 hq => ?_) (fun E h9 hq => by cases hq.1)
    obtain ⟨e9, e8⟩ := hq
    cases e9
    rw [e8]
    show K mX12_house _ _ 0 0 27 [(0, vr 0), (1, vi x)] [vi 0] (sI hq1 0 0 1)
    obtain ⟨hq2, eq2⟩ : ∃ z, z = sI hq1 0 0 1 := ⟨_, rfl⟩
    rw [← eq2]
    obtain ⟨iq2, fq2, aq2, rq2⟩ := sI_fx eq2
    refine K_if_ne (tgt := 32) (dt_at dtX12_house 15 rfl) (by decide) (by first | assumption | exact ⟨by omega, by omega⟩) (fun c2 => absurd c2 (by omega)) (fun c2 => ?_)
    refine K_iconst (dt_at dtX12_house 16 rfl) ?_
    have FX : FL [] [(0, 0)] [] h hq2 := (FL_tr (FL_tr (FL_rf : FL [] [(0, 0)] [] h h) (FL_eI eq1 rfl)) (FL_eI eq2 rfl))
    exact K_iret (dt_at dtX12_house 17 rfl) rfl rfl (by decide) (by decide) ⟨rfl, MV_tape V (fun a _ => FX.1 a rfl) (fun a k hk => FX.2.1 a k (by simp; omega)) (by rw [FX.2.1 0 12 rfl]; exact V.2.2.2.2.2.1) (by rw [FX.1 7 rfl]; exact V.2.2.2.2.2.2.1), FC_H FX rfl rfl, by rw [iq2]⟩
  · refine K_iload_n (dt_at dtX12_house 6 rfl) rfl rfl ?_
    refine K_aload_n (dt_at dtX12_house 7 rfl) rfl rfl ?_
    refine K_get (a := 0) (ci := 12) (k := 12) (v := vi (nt : Int)) (dt_at dtX12_house 8 rfl) (show TT 0 = (0, 12) from rfl) rfl (by decide) wF_X12_108 (by show vi (hI hq1 0 12) = vi (nt : Int); rw [(fq1 0 12 (by omega)), e12]) ?_
    refine K_icmp_gt (tgt := 22) (dt_at dtX12_house 9 rfl) (by decide) hx (by first | assumption | exact ⟨by omega, by omega⟩) (fun c3 => ?_) (fun c3 => ?_)
    · refine K_iconst (dt_at dtX12_house 12 rfl) ?_
      refine K_iconst (dt_at dtX12_house 13 rfl) ?_
      refine K_callV (M' := mX12_right) (a := 0) (ci := 12) (As := [vi 0, vi 1]) (st := []) (dt_at dtX12_house 14 rfl) (sX12_right_f (by rw [iq1]) (by omega)) (show TT 0 = (0, 12) from rfl) rfl wL_X12_260 vX12_right rfl npX12_right (by decide) (by decide) (Nat.le_of_ble_eq_true rfl) (by decide) (by decide) GK_E (fun v9 h9 hq => ?_) (fun E h9 hq => by cases hq.1)
      obtain ⟨e9, e8⟩ := hq
      cases e9
      rw [e8]
      show K mX12_house _ _ 0 0 27 [(0, vr 0), (1, vi x)] [vi 0] (sI hq1 0 0 1)
      obtain ⟨hq3, eq3⟩ : ∃ z, z = sI hq1 0 0 1 := ⟨_, rfl⟩
      rw [← eq3]
      obtain ⟨iq3, fq3, aq3, rq3⟩ := sI_fx eq3
      refine K_if_ne (tgt := 32) (dt_at dtX12_house 15 rfl) (by decide) (by first | assumption | exact ⟨by omega, by omega⟩) (fun c4 => absurd c4 (by omega)) (fun c4 => ?_)
      refine K_iconst (dt_at dtX12_house 16 rfl) ?_
      have FX : FL [] [(0, 0)] [] h hq3 := (FL_tr (FL_tr (FL_rf : FL [] [(0, 0)] [] h h) (FL_eI eq1 rfl)) (FL_eI eq3 rfl))
      exact K_iret (dt_at dtX12_house 17 rfl) rfl rfl (by decide) (by decide) ⟨rfl, MV_tape V (fun a _ => FX.1 a rfl) (fun a k hk => FX.2.1 a k (by simp; omega)) (by rw [FX.2.1 0 12 rfl]; exact V.2.2.2.2.2.1) (by rw [FX.1 7 rfl]; exact V.2.2.2.2.2.2.1), FC_H FX rfl rfl, by rw [iq3]⟩
    · refine K_iconst (dt_at dtX12_house 10 rfl) ?_
      refine K_goto (tgt := 23) (dt_at dtX12_house 11 rfl) (by decide) ?_
      exfalso
      omega
set_option maxHeartbeats 4000000 in
set_option maxRecDepth 100000 in
theorem lp_house0 {Z : CT → State → Prop} {h : HP} {n : Nat}  : ∀ (d k : Nat) (hh : HP), k + d = 77 → (∀ i : Int, 0 ≤ i → i < (k : Int) → hA hh 14 i = 0) → FL [14] [] [] h hh → (∀ h2, (∀ i : Int, 0 ≤ i → i < 77 → hA h2 14 i = 0) → FL [14] [] [] h h2 → K mX12_house GK Z 0 0 98 [(2, vi 77), (0, vr 0), (1, vi (n : Int))] [] h2) → K mX12_house GK Z 0 0 79 [(2, vi (k : Int)), (0, vr 0), (1, vi (n : Int))] [] hh := by
  intro d
  induction d with
  | zero =>
    intro k hh hk hz F kx
    obtain rfl : k = 77 := by omega
    refine K_iload_n (dt_at dtX12_house 47 rfl) rfl rfl ?_
    refine K_bipush (dt_at dtX12_house 48 rfl) (by decide) ?_
    refine K_icmp_ge (tgt := 98) (dt_at dtX12_house 49 rfl) (by decide) (by first | assumption | exact ⟨by omega, by omega⟩) (by first | assumption | exact ⟨by omega, by omega⟩) (fun c1 => ?_) (fun c1 => absurd c1 (by omega))
    exact K_pk [0, 1, 2] rfl (kx hh (fun i i0 i1 => hz i i0 (by omega)) F)
  | succ d ih =>
    intro k hh hk hz F kx
    refine K_iload_n (dt_at dtX12_house 47 rfl) rfl rfl ?_
    refine K_bipush (dt_at dtX12_house 48 rfl) (by decide) ?_
    refine K_icmp_ge (tgt := 98) (dt_at dtX12_house 49 rfl) (by decide) (by first | assumption | exact ⟨by omega, by omega⟩) (by first | assumption | exact ⟨by omega, by omega⟩) (fun c1 => absurd c1 (by omega)) (fun c1 => ?_)
    refine K_aload_n (dt_at dtX12_house 50 rfl) rfl rfl ?_
    refine K_get (a := 0) (ci := 12) (k := 38) (v := vr 14) (dt_at dtX12_house 51 rfl) (show TT 0 = (0, 12) from rfl) rfl (by decide) wF_X12_59 rfl ?_
    refine K_iload_n (dt_at dtX12_house 52 rfl) rfl rfl ?_
    refine K_iconst (dt_at dtX12_house 53 rfl) ?_
    refine K_iast (dt_at dtX12_house 54 rfl) (show TT 14 = (1, 77) from rfl) (by omega) (by omega) ?_
    obtain ⟨hq1, eq1⟩ : ∃ z, z = sA hh 14 (k : Int) 0 := ⟨_, rfl⟩
    rw [← eq1]
    obtain ⟨aq1, fq1, iq1, rq1⟩ := sA_fx eq1
    refine K_iinc (ls' := [(2, vi ((k : Int) + 1)), (0, vr 0), (1, vi (n : Int))]) (dt_at dtX12_house 55 rfl) rfl (by decide) rfl ?_
    refine K_goto (tgt := 79) (dt_at dtX12_house 56 rfl) (by decide) ?_
    exact K_pk [0, 1, 2] (ls' := [(2, vi ((k + 1 : Nat) : Int)), (0, vr 0), (1, vi (n : Int))]) rfl (ih (k + 1) hq1 (by omega) (fun i i0 i1 => by rw [aq1]; unfold upI; by_cases z : i = (k : Int); rw [if_pos z]; rw [if_neg z]; exact hz i i0 (by omega)) (FL_tr F (FL_eA eq1 rfl)) kx)
set_option maxHeartbeats 4000000 in
set_option maxRecDepth 100000 in
theorem lp_house1 {Z : CT → State → Prop} {h : HP} {tp : Int → Int} {n : Nat} {x2 : Int} {X : (Int × Nat) ⊕ (DR × Nat)} (ke : ∀ e h', X = .inl e → MEr h' tp n e → LRf h h' → K mX12_house GK Z 0 0 128 [(2, vi x2), (0, vr 0), (1, vi (n : Int))] [] h') (kg : ∀ D q h', X = .inr (D, q) → DOK D → MGd h' tp n q → DRm h' q D → LRf h h' → K mX12_house GK Z 0 0 128 [(2, vi x2), (0, vr 0), (1, vi (n : Int))] [] h') : ∀ (f : Nat) (hh : HP) (D : DR) (p : Nat), n - p < f → DOK D → MGd hh tp n p → DRm hh p D → LRf h hh → hsP tp n f D p = X → K mX12_house GK Z 0 0 107 [(2, vi x2), (0, vr 0), (1, vi (n : Int))] [] hh := by
  intro f
  induction f with
  | zero =>
    intro hh D p hf
    omega
  | succ f ih =>
    intro hh D p hf hD A dd F hX
    have gk := (tk_G (tp := tp) A.2.2.1).1
    refine K_aload_n (dt_at dtX12_house 62 rfl) rfl rfl ?_
    refine K_callV (M' := mX12_isGood) (a := 0) (ci := 12) (As := []) (st := []) (dt_at dtX12_house 63 rfl) (good_t A.2.2.2.1) (show TT 0 = (0, 12) from rfl) rfl wL_X12_164 vX12_isGood rfl npX12_isGood (by decide) (by decide) (Nat.le_of_ble_eq_true rfl) (by decide) (by decide) GK_E (fun v9 h9 hq => ?_) (fun E h9 hq => by cases hq.1)
    obtain ⟨e9, e8⟩ := hq
    cases e9
    rw [e8]
    show K mX12_house _ _ 0 0 111 [(2, vi x2), (0, vr 0), (1, vi (n : Int))] [vi 1] hh
    refine K_if_eq (tgt := 128) (dt_at dtX12_house 64 rfl) (by decide) (by first | assumption | exact ⟨by omega, by omega⟩) (fun c1 => absurd c1 (by omega)) (fun c1 => ?_)
    refine K_aload_n (dt_at dtX12_house 65 rfl) rfl rfl ?_
    refine K_get (a := 0) (ci := 12) (k := 18) (v := vi ((tk tp n p).1)) (dt_at dtX12_house 66 rfl) (show TT 0 = (0, 12) from rfl) rfl (by decide) wF_X12_138 (by show vi (hI hh 0 18) = vi ((tk tp n p).1); rw [A.2.1.1.1]) ?_
    refine K_if_eq (tgt := 128) (dt_at dtX12_house 67 rfl) (by decide) (by first | assumption | exact ⟨by omega, by omega⟩) (fun c2 => ?_) (fun c2 => ?_)
    · rw [hsP_0 (by omega)] at hX
      exact K_pk [0, 1, 2] (ls' := [(2, vi x2), (0, vr 0), (1, vi (n : Int))]) rfl (kg D p hh hX.symm hD A dd F)
    · refine K_aload_n (dt_at dtX12_house 68 rfl) rfl rfl ?_
      refine K_callV (M' := mX12_line) (a := 0) (ci := 12) (As := []) (st := []) (dt_at dtX12_house 69 rfl) (line_K A dd) (show TT 0 = (0, 12) from rfl) rfl wL_X12_264 vX12_line rfl npX12_line (by decide) (by decide) (Nat.le_of_ble_eq_true rfl) (by decide) (by decide) GK_E (fun v9 hc1 hq => ?_) (fun E h9 hq => by cases hq.1)
      have hqq2 := hq
      obtain ⟨e9q2, Nq2, Gq2⟩ := hqq2
      cases e9q2
      show K mX12_house _ _ 0 0 125 [(2, vi x2), (0, vr 0), (1, vi (n : Int))] [] hc1
      refine K_goto (tgt := 107) (dt_at dtX12_house 70 rfl) (by decide) ?_
      have hnz : ¬ (tk tp n p).1 = 0 := by omega
      have F9 : LRf h hc1 := FL_tr F (FL_up Gq2 rfl rfl rfl)
      rcases u : lnP tp n D p with e | ⟨D1, q1⟩
      · rw [u] at Nq2
        have B : MEr hc1 tp n e := Nq2
        rw [hsP_e hnz u] at hX
        refine K_aload_n (dt_at dtX12_house 62 rfl) rfl rfl ?_
        refine K_callV (M' := mX12_isGood) (a := 0) (ci := 12) (As := []) (st := []) (dt_at dtX12_house 63 rfl) (good_f B.2.2.2.1 B.2.2.1) (show TT 0 = (0, 12) from rfl) rfl wL_X12_164 vX12_isGood rfl npX12_isGood (by decide) (by decide) (Nat.le_of_ble_eq_true rfl) (by decide) (by decide) GK_E (fun v9 h9 hq => ?_) (fun E h9 hq => by cases hq.1)
        obtain ⟨e9, e8⟩ := hq
        cases e9
        rw [e8]
        show K mX12_house _ _ 0 0 111 [(2, vi x2), (0, vr 0), (1, vi (n : Int))] [vi 0] hc1
        refine K_if_eq (tgt := 128) (dt_at dtX12_house 64 rfl) (by decide) (by first | assumption | exact ⟨by omega, by omega⟩) (fun c1 => ?_) (fun c1 => absurd c1 (by omega))
        exact K_pk [0, 1, 2] (ls' := [(2, vi x2), (0, vr 0), (1, vi (n : Int))]) rfl (ke e _ hX.symm B F9)
      · rw [u] at Nq2
        rw [hsP_g hnz u] at hX
        have hk9 := DOK_ln hD A.2.2.1 u
        exact K_pk [0, 1, 2] (ls' := [(2, vi x2), (0, vr 0), (1, vi (n : Int))]) rfl (ih _ D1 q1 (by omega) hk9.1 Nq2.1 Nq2.2 F9 hX)
set_option maxHeartbeats 4000000 in
set_option maxRecDepth 100000 in
theorem lp_house2 {Z : CT → State → Prop} {h : HP} {n : Nat}  : ∀ (d k : Nat) (hh : HP), k + d = 77 → (∀ i : Int, 0 ≤ i → i < (k : Int) → hA hh 18 i = hA h 14 i) → FL [18] [] [] h hh → (∀ h2, (∀ i : Int, 0 ≤ i → i < 77 → hA h2 18 i = hA h 14 i) → FL [18] [] [] h h2 → K mX12_house GK Z 0 0 280 [(2, vi 77), (0, vr 0), (1, vi (n : Int))] [] h2) → K mX12_house GK Z 0 0 256 [(2, vi (k : Int)), (0, vr 0), (1, vi (n : Int))] [] hh := by
  intro d
  induction d with
  | zero =>
    intro k hh hk hz F kx
    obtain rfl : k = 77 := by omega
    refine K_iload_n (dt_at dtX12_house 139 rfl) rfl rfl ?_
    refine K_bipush (dt_at dtX12_house 140 rfl) (by decide) ?_
    refine K_icmp_ge (tgt := 280) (dt_at dtX12_house 141 rfl) (by decide) (by first | assumption | exact ⟨by omega, by omega⟩) (by first | assumption | exact ⟨by omega, by omega⟩) (fun c1 => ?_) (fun c1 => absurd c1 (by omega))
    exact K_pk [0, 1, 2] rfl (kx hh (fun i i0 i1 => hz i i0 (by omega)) F)
  | succ d ih =>
    intro k hh hk hz F kx
    refine K_iload_n (dt_at dtX12_house 139 rfl) rfl rfl ?_
    refine K_bipush (dt_at dtX12_house 140 rfl) (by decide) ?_
    refine K_icmp_ge (tgt := 280) (dt_at dtX12_house 141 rfl) (by decide) (by first | assumption | exact ⟨by omega, by omega⟩) (by first | assumption | exact ⟨by omega, by omega⟩) (fun c1 => absurd c1 (by omega)) (fun c1 => ?_)
    refine K_aload_n (dt_at dtX12_house 142 rfl) rfl rfl ?_
    refine K_get (a := 0) (ci := 12) (k := 42) (v := vr 18) (dt_at dtX12_house 143 rfl) (show TT 0 = (0, 12) from rfl) rfl (by decide) wF_X12_72 rfl ?_
    refine K_iload_n (dt_at dtX12_house 144 rfl) rfl rfl ?_
    refine K_aload_n (dt_at dtX12_house 145 rfl) rfl rfl ?_
    refine K_get (a := 0) (ci := 12) (k := 38) (v := vr 14) (dt_at dtX12_house 146 rfl) (show TT 0 = (0, 12) from rfl) rfl (by decide) wF_X12_59 rfl ?_
    refine K_iload_n (dt_at dtX12_house 147 rfl) rfl rfl ?_
    refine K_iald (dt_at dtX12_house 148 rfl) (show TT 14 = (1, 77) from rfl) (by omega) (by omega) ?_
    refine K_iast (dt_at dtX12_house 149 rfl) (show TT 18 = (1, 154) from rfl) (by omega) (by omega) ?_
    obtain ⟨hq1, eq1⟩ : ∃ z, z = sA hh 18 (k : Int) (hA hh 14 (k : Int)) := ⟨_, rfl⟩
    rw [← eq1]
    obtain ⟨aq1, fq1, iq1, rq1⟩ := sA_fx eq1
    refine K_iinc (ls' := [(2, vi ((k : Int) + 1)), (0, vr 0), (1, vi (n : Int))]) (dt_at dtX12_house 150 rfl) rfl (by decide) rfl ?_
    refine K_goto (tgt := 256) (dt_at dtX12_house 151 rfl) (by decide) ?_
    exact K_pk [0, 1, 2] (ls' := [(2, vi ((k + 1 : Nat) : Int)), (0, vr 0), (1, vi (n : Int))]) rfl (ih (k + 1) hq1 (by omega) (fun i i0 i1 => by rw [aq1]; unfold upI; by_cases z : i = (k : Int); rw [if_pos z, z, F.1 14 rfl]; rw [if_neg z]; exact hz i i0 (by omega)) (FL_tr F (FL_eA eq1 rfl)) kx)
set_option maxHeartbeats 4000000 in
set_option maxRecDepth 100000 in
theorem lp_house3 {Z : CT → State → Prop} {h : HP} {n np : Nat} (e2 : hI h 0 2 = (np : Int)) (h7 : np ≤ 7) (hb : ∀ p : Int, 0 ≤ p → p < np → i32 (hA h 18 (70 + p)))  : ∀ (d k : Nat) (hh : HP), k + d = np → (∀ i : Int, hA hh 18 i = (if 70 ≤ i ∧ i < 70 + (k : Int) ∧ (np : Int) ≤ hA h 18 i then -1 else hA h 18 i)) → FL [18] [] [] h hh → (∀ h2, (∀ i : Int, hA h2 18 i = (if 70 ≤ i ∧ i < 70 + (np : Int) ∧ (np : Int) ≤ hA h 18 i then -1 else hA h 18 i)) → FL [18] [] [] h h2 → K mX12_house GK Z 0 0 322 [(2, vi (np : Int)), (0, vr 0), (1, vi (n : Int))] [] h2) → K mX12_house GK Z 0 0 282 [(2, vi (k : Int)), (0, vr 0), (1, vi (n : Int))] [] hh := by
  intro d
  induction d with
  | zero =>
    intro k hh hk hz F kx
    obtain rfl : np = k := by omega
    refine K_iload_n (dt_at dtX12_house 154 rfl) rfl rfl ?_
    refine K_aload_n (dt_at dtX12_house 155 rfl) rfl rfl ?_
    refine K_get (a := 0) (ci := 12) (k := 2) (v := vi (np : Int)) (dt_at dtX12_house 156 rfl) (show TT 0 = (0, 12) from rfl) rfl (by decide) wF_X12_270 (by show vi (hI hh 0 2) = vi (np : Int); rw [(show hI hh 0 2 = (np : Int) from (F.2.1 0 2 rfl).trans e2)]) ?_
    refine K_icmp_ge (tgt := 322) (dt_at dtX12_house 157 rfl) (by decide) (by first | assumption | exact ⟨by omega, by omega⟩) (by first | assumption | exact ⟨by omega, by omega⟩) (fun c1 => ?_) (fun c1 => absurd c1 (by omega))
    exact K_pk [0, 1, 2] rfl (kx hh hz F)
  | succ d ih =>
    intro k hh hk hz F kx
    have ev : hA hh 18 (70 + (k : Int)) = hA h 18 (70 + (k : Int)) := by rw [hz, if_neg (by omega)]
    have hbk := hb (k : Int) (by omega) (by omega)
    refine K_iload_n (dt_at dtX12_house 154 rfl) rfl rfl ?_
    refine K_aload_n (dt_at dtX12_house 155 rfl) rfl rfl ?_
    refine K_get (a := 0) (ci := 12) (k := 2) (v := vi (np : Int)) (dt_at dtX12_house 156 rfl) (show TT 0 = (0, 12) from rfl) rfl (by decide) wF_X12_270 (by show vi (hI hh 0 2) = vi (np : Int); rw [(show hI hh 0 2 = (np : Int) from (F.2.1 0 2 rfl).trans e2)]) ?_
    refine K_icmp_ge (tgt := 322) (dt_at dtX12_house 157 rfl) (by decide) (by first | assumption | exact ⟨by omega, by omega⟩) (by first | assumption | exact ⟨by omega, by omega⟩) (fun c1 => absurd c1 (by omega)) (fun c1 => ?_)
    refine K_aload_n (dt_at dtX12_house 158 rfl) rfl rfl ?_
    refine K_get (a := 0) (ci := 12) (k := 42) (v := vr 18) (dt_at dtX12_house 159 rfl) (show TT 0 = (0, 12) from rfl) rfl (by decide) wF_X12_72 rfl ?_
    refine K_bipush (dt_at dtX12_house 160 rfl) (by decide) ?_
    refine K_iload_n (dt_at dtX12_house 161 rfl) rfl rfl ?_
    refine K_iadd (dt_at dtX12_house 162 rfl) ?_
    refine K_iald (dt_at dtX12_house 163 rfl) (show TT 18 = (1, 154) from rfl) (by omega) (by omega) ?_
    rw [ev]
    refine K_aload_n (dt_at dtX12_house 164 rfl) rfl rfl ?_
    refine K_get (a := 0) (ci := 12) (k := 2) (v := vi (np : Int)) (dt_at dtX12_house 165 rfl) (show TT 0 = (0, 12) from rfl) rfl (by decide) wF_X12_270 (by show vi (hI hh 0 2) = vi (np : Int); rw [(show hI hh 0 2 = (np : Int) from (F.2.1 0 2 rfl).trans e2)]) ?_
    refine K_icmp_lt (tgt := 316) (dt_at dtX12_house 166 rfl) (by decide) hbk (by first | assumption | exact ⟨by omega, by omega⟩) (fun c2 => ?_) (fun c2 => ?_)
    · refine K_iinc (ls' := [(2, vi ((k : Int) + 1)), (0, vr 0), (1, vi (n : Int))]) (dt_at dtX12_house 174 rfl) rfl (by decide) rfl ?_
      refine K_goto (tgt := 282) (dt_at dtX12_house 175 rfl) (by decide) ?_
      exact K_pk [0, 1, 2] (ls' := [(2, vi ((k + 1 : Nat) : Int)), (0, vr 0), (1, vi (n : Int))]) rfl (ih (k + 1) hh (by omega) (fun i => by rw [hz i]; by_cases z : i = 70 + (k : Int); rw [if_neg (by omega), if_neg (fun y => by rw [z] at y; omega)]; by_cases w : 70 ≤ i ∧ i < 70 + (k : Int) ∧ (np : Int) ≤ hA h 18 i; rw [if_pos w, if_pos ⟨by omega, by omega, by omega⟩]; rw [if_neg w, if_neg (fun y => w ⟨by omega, by omega, y.2.2⟩)]) F kx)
    · refine K_aload_n (dt_at dtX12_house 167 rfl) rfl rfl ?_
      refine K_get (a := 0) (ci := 12) (k := 42) (v := vr 18) (dt_at dtX12_house 168 rfl) (show TT 0 = (0, 12) from rfl) rfl (by decide) wF_X12_72 rfl ?_
      refine K_bipush (dt_at dtX12_house 169 rfl) (by decide) ?_
      refine K_iload_n (dt_at dtX12_house 170 rfl) rfl rfl ?_
      refine K_iadd (dt_at dtX12_house 171 rfl) ?_
      refine K_iconst (dt_at dtX12_house 172 rfl) ?_
      refine K_iast (dt_at dtX12_house 173 rfl) (show TT 18 = (1, 154) from rfl) (by omega) (by omega) ?_
      obtain ⟨hq1, eq1⟩ : ∃ z, z = sA hh 18 (70 + (k : Int)) (-1) := ⟨_, rfl⟩
      rw [← eq1]
      obtain ⟨aq1, fq1, iq1, rq1⟩ := sA_fx eq1
      refine K_iinc (ls' := [(2, vi ((k : Int) + 1)), (0, vr 0), (1, vi (n : Int))]) (dt_at dtX12_house 174 rfl) rfl (by decide) rfl ?_
      refine K_goto (tgt := 282) (dt_at dtX12_house 175 rfl) (by decide) ?_
      exact K_pk [0, 1, 2] (ls' := [(2, vi ((k + 1 : Nat) : Int)), (0, vr 0), (1, vi (n : Int))]) rfl (ih (k + 1) hq1 (by omega) (fun i => by rw [aq1]; unfold upI; by_cases z : i = 70 + (k : Int); rw [if_pos z, if_pos ⟨by omega, by omega, by rw [z]; omega⟩]; rw [if_neg z, hz i]; by_cases w : 70 ≤ i ∧ i < 70 + (k : Int) ∧ (np : Int) ≤ hA h 18 i; rw [if_pos w, if_pos ⟨by omega, by omega, by omega⟩]; rw [if_neg w, if_neg (fun y => w ⟨by omega, by omega, y.2.2⟩)]) (FL_tr F (FL_eA eq1 rfl)) kx)
set_option maxHeartbeats 4000000 in
set_option maxRecDepth 100000 in
theorem house_K {h : HP} {S : HS} {v : SV} {im : Option SV} {tp : Int → Int} {nt : Nat} {rf : Int × Int × Int} {fl : Int} {n : Nat} {w0 u0 s0 a0 b0 c0 f0 y0 : Int → Int} {X : (Int × Nat) ⊕ (DR × Nat)} (V : MV h (S, v, im, tp, nt, rf, fl)) (hn : n ≤ nt) (h7 : nt ≤ 700) (hb : ∀ i : Int, 0 ≤ i → i < nt → 0 ≤ tp i ∧ tp i < 256) (hX : hsP tp n 701 (D0 w0 u0 s0 a0 b0 c0 f0 y0) 0 = X) : SpecK mX12_house [vr 0, vi (n : Int)] h (fun o h' => HOm h' o S v im tp rf X ∧ FC h h' ∧ hI h' 0 0 = 0) := by
  refine Spec_of (by decide +kernel) (Nat.le_of_ble_eq_true rfl) ?_
  have e12 := V.2.2.2.2.2.1
  refine K_aload_n (dt_at dtX12_house 0 rfl) rfl rfl ?_
  refine K_iconst (dt_at dtX12_house 1 rfl) ?_
  refine K_putI (a := 0) (ci := 12) (k := 0) (dt_at dtX12_house 2 rfl) (show TT 0 = (0, 12) from rfl) rfl (by decide) wF_X12_105 rfl (Or.inl rfl) rfl rfl ?_
  obtain ⟨hq1, eq1⟩ : ∃ z, z = sI h 0 0 0 := ⟨_, rfl⟩
  rw [← eq1]
  obtain ⟨iq1, fq1, aq1, rq1⟩ := sI_fx eq1
  refine K_aload_n (dt_at dtX12_house 3 rfl) rfl rfl ?_
  refine K_iload_n (dt_at dtX12_house 4 rfl) rfl rfl ?_
  refine K_if_lt (tgt := 22) (dt_at dtX12_house 5 rfl) (by decide) (by first | assumption | exact ⟨by omega, by omega⟩) (fun c1 => absurd c1 (by omega)) (fun c1 => ?_)
  refine K_iload_n (dt_at dtX12_house 6 rfl) rfl rfl ?_
  refine K_aload_n (dt_at dtX12_house 7 rfl) rfl rfl ?_
  refine K_get (a := 0) (ci := 12) (k := 12) (v := vi (nt : Int)) (dt_at dtX12_house 8 rfl) (show TT 0 = (0, 12) from rfl) rfl (by decide) wF_X12_108 (by show vi (hI hq1 0 12) = vi (nt : Int); rw [(fq1 0 12 (by omega)), e12]) ?_
  refine K_icmp_gt (tgt := 22) (dt_at dtX12_house 9 rfl) (by decide) (by first | assumption | exact ⟨by omega, by omega⟩) (by first | assumption | exact ⟨by omega, by omega⟩) (fun c2 => absurd c2 (by omega)) (fun c2 => ?_)
  refine K_iconst (dt_at dtX12_house 10 rfl) ?_
  refine K_goto (tgt := 23) (dt_at dtX12_house 11 rfl) (by decide) ?_
  refine K_iconst (dt_at dtX12_house 13 rfl) ?_
  refine K_callV (M' := mX12_right) (a := 0) (ci := 12) (As := [vi 1, vi 1]) (st := []) (dt_at dtX12_house 14 rfl) (sX12_right_t (by rw [iq1])) (show TT 0 = (0, 12) from rfl) rfl wL_X12_260 vX12_right rfl npX12_right (by decide) (by decide) (Nat.le_of_ble_eq_true rfl) (by decide) (by decide) GK_E (fun v9 h9 hq => ?_) (fun E h9 hq => by cases hq.1)
  obtain ⟨e9, e8⟩ := hq
  cases e9
  rw [e8]
  show K mX12_house _ _ 0 0 27 [(0, vr 0), (1, vi (n : Int))] [vi 1] hq1
  refine K_if_ne (tgt := 32) (dt_at dtX12_house 15 rfl) (by decide) (by first | assumption | exact ⟨by omega, by omega⟩) (fun c3 => ?_) (fun c3 => absurd c3 (by omega))
  refine K_aload_n (dt_at dtX12_house 18 rfl) rfl rfl ?_
  refine K_iconst (dt_at dtX12_house 19 rfl) ?_
  refine K_putI (a := 0) (ci := 12) (k := 12) (dt_at dtX12_house 20 rfl) (show TT 0 = (0, 12) from rfl) rfl (by decide) wF_X12_108 rfl (Or.inl rfl) rfl rfl ?_
  obtain ⟨hq2, eq2⟩ : ∃ z, z = sI hq1 0 12 0 := ⟨_, rfl⟩
  rw [← eq2]
  obtain ⟨iq2, fq2, aq2, rq2⟩ := sI_fx eq2
  refine K_aload_n (dt_at dtX12_house 21 rfl) rfl rfl ?_
  refine K_iconst (dt_at dtX12_house 22 rfl) ?_
  refine K_putI (a := 0) (ci := 12) (k := 14) (dt_at dtX12_house 23 rfl) (show TT 0 = (0, 12) from rfl) rfl (by decide) wF_X12_38 rfl (Or.inl rfl) rfl rfl ?_
  obtain ⟨hq3, eq3⟩ : ∃ z, z = sI hq2 0 14 (-1) := ⟨_, rfl⟩
  rw [← eq3]
  obtain ⟨iq3, fq3, aq3, rq3⟩ := sI_fx eq3
  refine K_aload_n (dt_at dtX12_house 24 rfl) rfl rfl ?_
  refine K_iconst (dt_at dtX12_house 25 rfl) ?_
  refine K_putI (a := 0) (ci := 12) (k := 13) (dt_at dtX12_house 26 rfl) (show TT 0 = (0, 12) from rfl) rfl (by decide) wF_X12_161 rfl (Or.inl rfl) rfl rfl ?_
  obtain ⟨hq4, eq4⟩ : ∃ z, z = sI hq3 0 13 0 := ⟨_, rfl⟩
  rw [← eq4]
  obtain ⟨iq4, fq4, aq4, rq4⟩ := sI_fx eq4
  refine K_aload_n (dt_at dtX12_house 27 rfl) rfl rfl ?_
  refine K_iload_n (dt_at dtX12_house 28 rfl) rfl rfl ?_
  refine K_putI (a := 0) (ci := 12) (k := 16) (dt_at dtX12_house 29 rfl) (show TT 0 = (0, 12) from rfl) rfl (by decide) wF_X12_115 rfl (Or.inl rfl) rfl rfl ?_
  obtain ⟨hq5, eq5⟩ : ∃ z, z = sI hq4 0 16 (n : Int) := ⟨_, rfl⟩
  rw [← eq5]
  obtain ⟨iq5, fq5, aq5, rq5⟩ := sI_fx eq5
  refine K_aload_n (dt_at dtX12_house 30 rfl) rfl rfl ?_
  refine K_iconst (dt_at dtX12_house 31 rfl) ?_
  refine K_putI (a := 0) (ci := 12) (k := 17) (dt_at dtX12_house 32 rfl) (show TT 0 = (0, 12) from rfl) rfl (by decide) wF_X12_118 rfl (Or.inl rfl) rfl rfl ?_
  obtain ⟨hq6, eq6⟩ : ∃ z, z = sI hq5 0 17 0 := ⟨_, rfl⟩
  rw [← eq6]
  obtain ⟨iq6, fq6, aq6, rq6⟩ := sI_fx eq6
  refine K_aload_n (dt_at dtX12_house 33 rfl) rfl rfl ?_
  refine K_iconst (dt_at dtX12_house 34 rfl) ?_
  refine K_putI (a := 0) (ci := 12) (k := 24) (dt_at dtX12_house 35 rfl) (show TT 0 = (0, 12) from rfl) rfl (by decide) wF_X12_227 rfl (Or.inl rfl) rfl rfl ?_
  obtain ⟨hq7, eq7⟩ : ∃ z, z = sI hq6 0 24 0 := ⟨_, rfl⟩
  rw [← eq7]
  obtain ⟨iq7, fq7, aq7, rq7⟩ := sI_fx eq7
  refine K_aload_n (dt_at dtX12_house 36 rfl) rfl rfl ?_
  refine K_iconst (dt_at dtX12_house 37 rfl) ?_
  refine K_putI (a := 0) (ci := 12) (k := 25) (dt_at dtX12_house 38 rfl) (show TT 0 = (0, 12) from rfl) rfl (by decide) wF_X12_234 rfl (Or.inl rfl) rfl rfl ?_
  obtain ⟨hq8, eq8⟩ : ∃ z, z = sI hq7 0 25 0 := ⟨_, rfl⟩
  rw [← eq8]
  obtain ⟨iq8, fq8, aq8, rq8⟩ := sI_fx eq8
  refine K_aload_n (dt_at dtX12_house 39 rfl) rfl rfl ?_
  refine K_iconst (dt_at dtX12_house 40 rfl) ?_
  refine K_putI (a := 0) (ci := 12) (k := 26) (dt_at dtX12_house 41 rfl) (show TT 0 = (0, 12) from rfl) rfl (by decide) wF_X12_247 rfl (Or.inl rfl) rfl rfl ?_
  obtain ⟨hq9, eq9⟩ : ∃ z, z = sI hq8 0 26 (-1) := ⟨_, rfl⟩
  rw [← eq9]
  obtain ⟨iq9, fq9, aq9, rq9⟩ := sI_fx eq9
  refine K_aload_n (dt_at dtX12_house 42 rfl) rfl rfl ?_
  refine K_iconst (dt_at dtX12_house 43 rfl) ?_
  refine K_putI (a := 0) (ci := 12) (k := 27) (dt_at dtX12_house 44 rfl) (show TT 0 = (0, 12) from rfl) rfl (by decide) wF_X12_254 rfl (Or.inl rfl) rfl rfl ?_
  obtain ⟨hq10, eq10⟩ : ∃ z, z = sI hq9 0 27 (-1) := ⟨_, rfl⟩
  rw [← eq10]
  obtain ⟨iq10, fq10, aq10, rq10⟩ := sI_fx eq10
  refine K_iconst (dt_at dtX12_house 45 rfl) ?_
  refine K_istore_n (ls' := [(2, vi 0), (0, vr 0), (1, vi (n : Int))]) (dt_at dtX12_house 46 rfl) rfl (by decide) rfl ?_
  have F1 : LHf h hq10 := (FL_tr (FL_tr (FL_tr (FL_tr (FL_tr (FL_tr (FL_tr (FL_tr (FL_tr (FL_tr (FL_rf : FL [9, 10, 11, 12, 13, 14, 15, 16, 17] LH [] h h) (FL_eI eq1 rfl)) (FL_eI eq2 rfl)) (FL_eI eq3 rfl)) (FL_eI eq4 rfl)) (FL_eI eq5 rfl)) (FL_eI eq6 rfl)) (FL_eI eq7 rfl)) (FL_eI eq8 rfl)) (FL_eI eq9 rfl)) (FL_eI eq10 rfl))
  have g0 : hI hq10 0 0 = 0 := by rw [(fq10 0 0 (by omega)), (fq9 0 0 (by omega)), (fq8 0 0 (by omega)), (fq7 0 0 (by omega)), (fq6 0 0 (by omega)), (fq5 0 0 (by omega)), (fq4 0 0 (by omega)), (fq3 0 0 (by omega)), (fq2 0 0 (by omega)), iq1]
  have g12 : hI hq10 0 12 = 0 := by rw [(fq10 0 12 (by omega)), (fq9 0 12 (by omega)), (fq8 0 12 (by omega)), (fq7 0 12 (by omega)), (fq6 0 12 (by omega)), (fq5 0 12 (by omega)), (fq4 0 12 (by omega)), (fq3 0 12 (by omega)), iq2]
  have g14 : hI hq10 0 14 = (-1) := by rw [(fq10 0 14 (by omega)), (fq9 0 14 (by omega)), (fq8 0 14 (by omega)), (fq7 0 14 (by omega)), (fq6 0 14 (by omega)), (fq5 0 14 (by omega)), (fq4 0 14 (by omega)), iq3]
  have g13 : hI hq10 0 13 = 0 := by rw [(fq10 0 13 (by omega)), (fq9 0 13 (by omega)), (fq8 0 13 (by omega)), (fq7 0 13 (by omega)), (fq6 0 13 (by omega)), (fq5 0 13 (by omega)), iq4]
  have g16 : hI hq10 0 16 = (n : Int) := by rw [(fq10 0 16 (by omega)), (fq9 0 16 (by omega)), (fq8 0 16 (by omega)), (fq7 0 16 (by omega)), (fq6 0 16 (by omega)), iq5]
  have g17 : hI hq10 0 17 = 0 := by rw [(fq10 0 17 (by omega)), (fq9 0 17 (by omega)), (fq8 0 17 (by omega)), (fq7 0 17 (by omega)), iq6]
  have g24 : hI hq10 0 24 = 0 := by rw [(fq10 0 24 (by omega)), (fq9 0 24 (by omega)), (fq8 0 24 (by omega)), iq7]
  have g25 : hI hq10 0 25 = 0 := by rw [(fq10 0 25 (by omega)), (fq9 0 25 (by omega)), iq8]
  have g26 : hI hq10 0 26 = (-1) := by rw [(fq10 0 26 (by omega)), iq9]
  have g27 : hI hq10 0 27 = (-1) := by rw [iq10]
  refine K_pk [0, 1, 2] (ls' := [(2, vi ((0 : Nat) : Int)), (0, vr 0), (1, vi (n : Int))]) rfl (lp_house0 (h := hq10) 77 0 hq10 (by omega) (fun i i0 i1 => absurd i1 (by omega)) FL_rf (fun h2 hz F2 => ?_))
  refine K_aload_n (dt_at dtX12_house 57 rfl) rfl rfl ?_
  refine K_iconst (dt_at dtX12_house 58 rfl) ?_
  refine K_putI (a := 0) (ci := 12) (k := 28) (dt_at dtX12_house 59 rfl) (show TT 0 = (0, 12) from rfl) rfl (by decide) wF_X12_174 rfl (Or.inl rfl) rfl rfl ?_
  obtain ⟨hq11, eq11⟩ : ∃ z, z = sI h2 0 28 0 := ⟨_, rfl⟩
  rw [← eq11]
  obtain ⟨iq11, fq11, aq11, rq11⟩ := sI_fx eq11
  refine K_aload_n (dt_at dtX12_house 60 rfl) rfl rfl ?_
  have F3 : LHf h hq11 := FL_tr F1 (FL_tr (FL_up F2 rfl rfl rfl) (FL_eI eq11 rfl))
  have T3 : MX hq11 tp n := ⟨by rw [(fq11 0 16 (by omega)), (show hI h2 0 16 = (n : Int) from (F2.2.1 0 16 rfl).trans g16)], by omega, fun i i0 i1 => ⟨hb i i0 (by omega), by rw [F3.1 7 rfl]; exact V.2.2.2.2.2.2.1 i i0 (show i < (nt : Int) by omega)⟩⟩
  have j0 : hI hq11 0 0 = 0 := by rw [(fq11 0 0 (by omega)), (show hI h2 0 0 = 0 from (F2.2.1 0 0 rfl).trans g0)]
  have j12 : hI hq11 0 12 = 0 := by rw [(fq11 0 12 (by omega)), (show hI h2 0 12 = 0 from (F2.2.1 0 12 rfl).trans g12)]
  have j14 : hI hq11 0 14 = -1 := by rw [(fq11 0 14 (by omega)), (show hI h2 0 14 = (-1) from (F2.2.1 0 14 rfl).trans g14)]
  have j13 : hI hq11 0 13 = 0 := by rw [(fq11 0 13 (by omega)), (show hI h2 0 13 = 0 from (F2.2.1 0 13 rfl).trans g13)]
  have j24 : hI hq11 0 24 = 0 := by rw [(fq11 0 24 (by omega)), (show hI h2 0 24 = 0 from (F2.2.1 0 24 rfl).trans g24)]
  have j25 : hI hq11 0 25 = 0 := by rw [(fq11 0 25 (by omega)), (show hI h2 0 25 = 0 from (F2.2.1 0 25 rfl).trans g25)]
  have j26 : hI hq11 0 26 = -1 := by rw [(fq11 0 26 (by omega)), (show hI h2 0 26 = (-1) from (F2.2.1 0 26 rfl).trans g26)]
  have j27 : hI hq11 0 27 = -1 := by rw [(fq11 0 27 (by omega)), (show hI h2 0 27 = (-1) from (F2.2.1 0 27 rfl).trans g27)]
  have j28 : hI hq11 0 28 = 0 := by rw [iq11]
  have z3 : ∀ i : Int, 0 ≤ i → i < 77 → hA hq11 14 i = 0 := by rw [aq11]; exact hz
  refine K_callV (M' := mX12_goes) (a := 0) (ci := 12) (As := []) (st := []) (dt_at dtX12_house 61 rfl) (sX12_goes (p := 0) T3 (by rw [(fq11 0 17 (by omega)), (show hI h2 0 17 = 0 from (F2.2.1 0 17 rfl).trans g17)]; rfl) (by omega)) (show TT 0 = (0, 12) from rfl) rfl wL_X12_168 vX12_goes rfl npX12_goes (by decide) (by decide) (Nat.le_of_ble_eq_true rfl) (by decide) (by decide) GK_E (fun v9 hc12 hq => ?_) (fun E h9 hq => by cases hq.1)
  have hqq13 := hq
  obtain ⟨e9q13, K9, G9⟩ := hqq13
  have A9 : MGd hc12 tp n 0 := ⟨MX_FL T3 G9 rfl rfl, K9, Nat.zero_le _, by rw [G9.2.1 0 13 rfl]; exact j13, by rw [G9.2.1 0 14 rfl]; exact j14⟩
  have d9 : DRm hc12 0 (D0 w0 u0 s0 a0 b0 c0 f0 y0) := ⟨⟨⟨by rw [G9.2.1 0 24 rfl]; exact j24, Nat.zero_le _⟩, by rw [G9.2.1 0 25 rfl]; exact j25, Nat.zero_le _⟩, fun i i0 i1 => absurd (show i < ((0 : Nat) : Int) from i1) (by omega), fun i i0 i1 => absurd (show i < ((0 : Nat) : Int) from i1) (by omega), fun j j0 j1 => by have pb := pm_b j0 j1; rw [G9.1 14 rfl, z3 (pm j) pb.1 pb.2]; exact (drR_00 j).symm, ⟨by show hI hc12 0 26 = -1; rw [G9.2.1 0 26 rfl]; exact j26, by show hI hc12 0 27 = -1; rw [G9.2.1 0 27 rfl]; exact j27⟩, by rw [G9.2.1 0 28 rfl, j28]; decide, by rw [G9.2.1 0 28 rfl, j28]; decide⟩
  have F4 : LHf h hc12 := FL_tr F3 (FL_up G9 rfl rfl rfl)
  cases e9q13
  show K mX12_house _ _ 0 0 107 [(2, vi 77), (0, vr 0), (1, vi (n : Int))] [] hc12
  have t0 : hI hc12 0 0 = 0 := by rw [G9.2.1 0 0 rfl]; exact j0
  have t12 : hI hc12 0 12 = 0 := by rw [G9.2.1 0 12 rfl]; exact j12
  refine K_pk [0, 1, 2] (ls' := [(2, vi 77), (0, vr 0), (1, vi (n : Int))]) rfl (lp_house1 (h := hc12) (X := X) (fun e h' hx E F => ?_) (fun D q h' hx hD A dd F => ?_) 701 hc12 _ 0 (by omega) DOK_0 A9 d9 FL_rf hX)
  · refine K_aload_n (dt_at dtX12_house 71 rfl) rfl rfl ?_
    refine K_callV (M' := mX12_isGood) (a := 0) (ci := 12) (As := []) (st := []) (dt_at dtX12_house 72 rfl) (good_f E.2.2.2.1 E.2.2.1) (show TT 0 = (0, 12) from rfl) rfl wL_X12_164 vX12_isGood rfl npX12_isGood (by decide) (by decide) (Nat.le_of_ble_eq_true rfl) (by decide) (by decide) GK_E (fun v9 h9 hq => ?_) (fun E h9 hq => by cases hq.1)
    obtain ⟨e9, e8⟩ := hq
    cases e9
    rw [e8]
    show K mX12_house _ _ 0 0 132 [(2, vi 77), (0, vr 0), (1, vi (n : Int))] [vi 0] h'
    refine K_if_ne (tgt := 150) (dt_at dtX12_house 73 rfl) (by decide) (by first | assumption | exact ⟨by omega, by omega⟩) (fun c1 => absurd c1 (by omega)) (fun c1 => ?_)
    refine K_aload_n (dt_at dtX12_house 74 rfl) rfl rfl ?_
    refine K_get (a := 0) (ci := 12) (k := 15) (v := vr 8) (dt_at dtX12_house 75 rfl) (show TT 0 = (0, 12) from rfl) rfl (by decide) wF_X12_41 rfl ?_
    refine K_iconst (dt_at dtX12_house 76 rfl) ?_
    refine K_dup2 (dt_at dtX12_house 77 rfl) rfl rfl ?_
    refine K_iald (dt_at dtX12_house 78 rfl) (show TT 8 = (1, 3) from rfl) (by omega) (by omega) ?_
    refine K_iconst (dt_at dtX12_house 79 rfl) ?_
    refine K_iadd (dt_at dtX12_house 80 rfl) ?_
    refine K_iast (dt_at dtX12_house 81 rfl) (show TT 8 = (1, 3) from rfl) (by omega) (by omega) ?_
    obtain ⟨hq1, eq1⟩ : ∃ z, z = sA h' 8 0 ((hA h' 8 0) + 1) := ⟨_, rfl⟩
    rw [← eq1]
    obtain ⟨aq1, fq1, iq1, rq1⟩ := sA_fx eq1
    refine K_aload_n (dt_at dtX12_house 82 rfl) rfl rfl ?_
    refine K_get (a := 0) (ci := 12) (k := 13) (v := vi (e.1)) (dt_at dtX12_house 83 rfl) (show TT 0 = (0, 12) from rfl) rfl (by decide) wF_X12_161 (by show vi (hI hq1 0 13) = vi (e.1); rw [iq1, E.2.2.2.1]) ?_
    have F6 : LHf h h' := FL_tr F4 (FL_up F rfl rfl rfl)
    rw [hx]
    exact K_iret (dt_at dtX12_house 84 rfl) rfl rfl (by decide) (by decide) ⟨⟨rfl, MV_rd V (fun a ha => by rw [fq1 a (by omega)]; exact F6.1 a (by simp; omega)) (fun k hk => by rw [iq1]; exact F6.2.1 0 k (by simp; omega)) (by rw [iq1, F.2.1 0 12 rfl]; exact t12) (by rw [iq1]; exact E.2.2.2.2) ⟨by rw [aq1, upI_s, F6.1 8 rfl]; exact congrArg (· + 1) V.2.2.2.2.2.2.2.1.1, by rw [aq1, upI_n (by decide), F6.1 8 rfl]; exact V.2.2.2.2.2.2.2.1.2.1, by rw [aq1, upI_n (by decide), F6.1 8 rfl]; exact V.2.2.2.2.2.2.2.1.2.2⟩⟩, FC_tr (FC_H F6 rfl rfl) (FC_A eq1 (by decide)), by rw [iq1, F.2.1 0 0 rfl]; exact t0⟩
  · have F6 : LHf h h' := FL_tr F4 (FL_up F rfl rfl rfl)
    have dn : D.1.1 ≤ 6 ∧ D.1.2 ≤ 7 := hD.1
    refine K_aload_n (dt_at dtX12_house 71 rfl) rfl rfl ?_
    refine K_callV (M' := mX12_isGood) (a := 0) (ci := 12) (As := []) (st := []) (dt_at dtX12_house 72 rfl) (good_t A.2.2.2.1) (show TT 0 = (0, 12) from rfl) rfl wL_X12_164 vX12_isGood rfl npX12_isGood (by decide) (by decide) (Nat.le_of_ble_eq_true rfl) (by decide) (by decide) GK_E (fun v9 h9 hq => ?_) (fun E h9 hq => by cases hq.1)
    obtain ⟨e9, e8⟩ := hq
    cases e9
    rw [e8]
    show K mX12_house _ _ 0 0 132 [(2, vi 77), (0, vr 0), (1, vi (n : Int))] [vi 1] h'
    refine K_if_ne (tgt := 150) (dt_at dtX12_house 73 rfl) (by decide) (by first | assumption | exact ⟨by omega, by omega⟩) (fun c1 => ?_) (fun c1 => absurd c1 (by omega))
    refine K_aload_n (dt_at dtX12_house 85 rfl) rfl rfl ?_
    refine K_aload_n (dt_at dtX12_house 86 rfl) rfl rfl ?_
    refine K_get (a := 0) (ci := 12) (k := 24) (v := vi (D.1.1 : Int)) (dt_at dtX12_house 87 rfl) (show TT 0 = (0, 12) from rfl) rfl (by decide) wF_X12_227 (by show vi (hI h' 0 24) = vi (D.1.1 : Int); rw [dd.1.1.1]) ?_
    refine K_putI (a := 0) (ci := 12) (k := 1) (dt_at dtX12_house 88 rfl) (show TT 0 = (0, 12) from rfl) rfl (by decide) wF_X12_267 rfl (Or.inl rfl) rfl rfl ?_
    obtain ⟨hq1, eq1⟩ : ∃ z, z = sI h' 0 1 (D.1.1 : Int) := ⟨_, rfl⟩
    rw [← eq1]
    obtain ⟨iq1, fq1, aq1, rq1⟩ := sI_fx eq1
    refine K_aload_n (dt_at dtX12_house 89 rfl) rfl rfl ?_
    refine K_aload_n (dt_at dtX12_house 90 rfl) rfl rfl ?_
    refine K_get (a := 0) (ci := 12) (k := 25) (v := vi (D.1.2 : Int)) (dt_at dtX12_house 91 rfl) (show TT 0 = (0, 12) from rfl) rfl (by decide) wF_X12_234 (by show vi (hI hq1 0 25) = vi (D.1.2 : Int); rw [(fq1 0 25 (by omega)), dd.1.2.1]) ?_
    refine K_putI (a := 0) (ci := 12) (k := 2) (dt_at dtX12_house 92 rfl) (show TT 0 = (0, 12) from rfl) rfl (by decide) wF_X12_270 rfl (Or.inl rfl) rfl rfl ?_
    obtain ⟨hq2, eq2⟩ : ∃ z, z = sI hq1 0 2 (D.1.2 : Int) := ⟨_, rfl⟩
    rw [← eq2]
    obtain ⟨iq2, fq2, aq2, rq2⟩ := sI_fx eq2
    refine K_aload_n (dt_at dtX12_house 93 rfl) rfl rfl ?_
    refine K_aload_n (dt_at dtX12_house 94 rfl) rfl rfl ?_
    refine K_get (a := 0) (ci := 12) (k := 26) (v := vi (hI h' 0 26)) (dt_at dtX12_house 95 rfl) (show TT 0 = (0, 12) from rfl) rfl (by decide) wF_X12_247 (by show vi (hI hq2 0 26) = vi (hI h' 0 26); rw [(fq2 0 26 (by omega)), (fq1 0 26 (by omega))]) ?_
    refine K_putI (a := 0) (ci := 12) (k := 3) (dt_at dtX12_house 96 rfl) (show TT 0 = (0, 12) from rfl) rfl (by decide) wF_X12_9 rfl (Or.inl rfl) rfl rfl ?_
    obtain ⟨hq3, eq3⟩ : ∃ z, z = sI hq2 0 3 (hI h' 0 26) := ⟨_, rfl⟩
    rw [← eq3]
    obtain ⟨iq3, fq3, aq3, rq3⟩ := sI_fx eq3
    refine K_aload_n (dt_at dtX12_house 97 rfl) rfl rfl ?_
    refine K_aload_n (dt_at dtX12_house 98 rfl) rfl rfl ?_
    refine K_get (a := 0) (ci := 12) (k := 27) (v := vi (hI h' 0 27)) (dt_at dtX12_house 99 rfl) (show TT 0 = (0, 12) from rfl) rfl (by decide) wF_X12_254 (by show vi (hI hq3 0 27) = vi (hI h' 0 27); rw [(fq3 0 27 (by omega)), (fq2 0 27 (by omega)), (fq1 0 27 (by omega))]) ?_
    refine K_putI (a := 0) (ci := 12) (k := 4) (dt_at dtX12_house 100 rfl) (show TT 0 = (0, 12) from rfl) rfl (by decide) wF_X12_13 rfl (Or.inl rfl) rfl rfl ?_
    obtain ⟨hq4, eq4⟩ : ∃ z, z = sI hq3 0 4 (hI h' 0 27) := ⟨_, rfl⟩
    rw [← eq4]
    obtain ⟨iq4, fq4, aq4, rq4⟩ := sI_fx eq4
    refine K_aload_n (dt_at dtX12_house 101 rfl) rfl rfl ?_
    refine K_aload_n (dt_at dtX12_house 102 rfl) rfl rfl ?_
    refine K_get (a := 0) (ci := 12) (k := 33) (v := vr 9) (dt_at dtX12_house 103 rfl) (show TT 0 = (0, 12) from rfl) rfl (by decide) wF_X12_44 rfl ?_
    refine K_aload_n (dt_at dtX12_house 104 rfl) rfl rfl ?_
    refine K_get (a := 0) (ci := 12) (k := 5) (v := vr 1) (dt_at dtX12_house 105 rfl) (show TT 0 = (0, 12) from rfl) rfl (by decide) wF_X12_16 rfl ?_
    refine K_callV (M' := mX12_copies) (a := 0) (ci := 12) (As := [vr 9, vr 1]) (st := []) (dt_at dtX12_house 106 rfl) sX12_copies_9 (show TT 0 = (0, 12) from rfl) rfl wL_X12_273 vX12_copies rfl npX12_copies (by decide) (by decide) (Nat.le_of_ble_eq_true rfl) (by decide) (by decide) GK_E (fun v9 hc5 hq => ?_) (fun E h9 hq => by cases hq.1)
    have hqq6 := hq
    obtain ⟨e9q6, aq6, fq6, iq6, rq6⟩ := hqq6
    have cp1 : ∀ i : Int, 0 ≤ i → i < 6 → hA hc5 1 i = hA h' 9 i := fun i i0 i1 => by rw [aq6, pwF_in i0 i1, aq4, aq3, aq2, aq1]
    cases e9q6
    show K mX12_house _ _ 0 0 194 [(2, vi 77), (0, vr 0), (1, vi (n : Int))] [] hc5
    refine K_aload_n (dt_at dtX12_house 107 rfl) rfl rfl ?_
    refine K_aload_n (dt_at dtX12_house 108 rfl) rfl rfl ?_
    refine K_get (a := 0) (ci := 12) (k := 34) (v := vr 10) (dt_at dtX12_house 109 rfl) (show TT 0 = (0, 12) from rfl) rfl (by decide) wF_X12_47 rfl ?_
    refine K_aload_n (dt_at dtX12_house 110 rfl) rfl rfl ?_
    refine K_get (a := 0) (ci := 12) (k := 6) (v := vr 2) (dt_at dtX12_house 111 rfl) (show TT 0 = (0, 12) from rfl) rfl (by decide) wF_X12_20 rfl ?_
    refine K_callV (M' := mX12_copies) (a := 0) (ci := 12) (As := [vr 10, vr 2]) (st := []) (dt_at dtX12_house 112 rfl) sX12_copies_10 (show TT 0 = (0, 12) from rfl) rfl wL_X12_273 vX12_copies rfl npX12_copies (by decide) (by decide) (Nat.le_of_ble_eq_true rfl) (by decide) (by decide) GK_E (fun v9 hc7 hq => ?_) (fun E h9 hq => by cases hq.1)
    have hqq8 := hq
    obtain ⟨e9q8, aq8, fq8, iq8, rq8⟩ := hqq8
    have cp2 : ∀ i : Int, 0 ≤ i → i < 6 → hA hc7 2 i = hA h' 10 i := fun i i0 i1 => by rw [aq8, pwF_in i0 i1, (fq6 10 (by omega)), aq4, aq3, aq2, aq1]
    cases e9q8
    show K mX12_house _ _ 0 0 206 [(2, vi 77), (0, vr 0), (1, vi (n : Int))] [] hc7
    refine K_aload_n (dt_at dtX12_house 113 rfl) rfl rfl ?_
    refine K_aload_n (dt_at dtX12_house 114 rfl) rfl rfl ?_
    refine K_get (a := 0) (ci := 12) (k := 35) (v := vr 11) (dt_at dtX12_house 115 rfl) (show TT 0 = (0, 12) from rfl) rfl (by decide) wF_X12_50 rfl ?_
    refine K_aload_n (dt_at dtX12_house 116 rfl) rfl rfl ?_
    refine K_get (a := 0) (ci := 12) (k := 7) (v := vr 3) (dt_at dtX12_house 117 rfl) (show TT 0 = (0, 12) from rfl) rfl (by decide) wF_X12_23 rfl ?_
    refine K_callV (M' := mX12_copies) (a := 0) (ci := 12) (As := [vr 11, vr 3]) (st := []) (dt_at dtX12_house 118 rfl) sX12_copies_11 (show TT 0 = (0, 12) from rfl) rfl wL_X12_273 vX12_copies rfl npX12_copies (by decide) (by decide) (Nat.le_of_ble_eq_true rfl) (by decide) (by decide) GK_E (fun v9 hc9 hq => ?_) (fun E h9 hq => by cases hq.1)
    have hqq10 := hq
    obtain ⟨e9q10, aq10, fq10, iq10, rq10⟩ := hqq10
    have cp3 : ∀ i : Int, 0 ≤ i → i < 7 → hA hc9 3 i = hA h' 11 i := fun i i0 i1 => by rw [aq10, pwF_in i0 i1, (fq8 11 (by omega)), (fq6 11 (by omega)), aq4, aq3, aq2, aq1]
    cases e9q10
    show K mX12_house _ _ 0 0 218 [(2, vi 77), (0, vr 0), (1, vi (n : Int))] [] hc9
    refine K_aload_n (dt_at dtX12_house 119 rfl) rfl rfl ?_
    refine K_aload_n (dt_at dtX12_house 120 rfl) rfl rfl ?_
    refine K_get (a := 0) (ci := 12) (k := 36) (v := vr 12) (dt_at dtX12_house 121 rfl) (show TT 0 = (0, 12) from rfl) rfl (by decide) wF_X12_53 rfl ?_
    refine K_aload_n (dt_at dtX12_house 122 rfl) rfl rfl ?_
    refine K_get (a := 0) (ci := 12) (k := 8) (v := vr 4) (dt_at dtX12_house 123 rfl) (show TT 0 = (0, 12) from rfl) rfl (by decide) wF_X12_26 rfl ?_
    refine K_callV (M' := mX12_copies) (a := 0) (ci := 12) (As := [vr 12, vr 4]) (st := []) (dt_at dtX12_house 124 rfl) sX12_copies_12 (show TT 0 = (0, 12) from rfl) rfl wL_X12_273 vX12_copies rfl npX12_copies (by decide) (by decide) (Nat.le_of_ble_eq_true rfl) (by decide) (by decide) GK_E (fun v9 hc11 hq => ?_) (fun E h9 hq => by cases hq.1)
    have hqq12 := hq
    obtain ⟨e9q12, aq12, fq12, iq12, rq12⟩ := hqq12
    have cp4 : ∀ i : Int, 0 ≤ i → i < 7 → hA hc11 4 i = hA h' 12 i := fun i i0 i1 => by rw [aq12, pwF_in i0 i1, (fq10 12 (by omega)), (fq8 12 (by omega)), (fq6 12 (by omega)), aq4, aq3, aq2, aq1]
    cases e9q12
    show K mX12_house _ _ 0 0 230 [(2, vi 77), (0, vr 0), (1, vi (n : Int))] [] hc11
    refine K_aload_n (dt_at dtX12_house 125 rfl) rfl rfl ?_
    refine K_aload_n (dt_at dtX12_house 126 rfl) rfl rfl ?_
    refine K_get (a := 0) (ci := 12) (k := 37) (v := vr 13) (dt_at dtX12_house 127 rfl) (show TT 0 = (0, 12) from rfl) rfl (by decide) wF_X12_56 rfl ?_
    refine K_aload_n (dt_at dtX12_house 128 rfl) rfl rfl ?_
    refine K_get (a := 0) (ci := 12) (k := 9) (v := vr 5) (dt_at dtX12_house 129 rfl) (show TT 0 = (0, 12) from rfl) rfl (by decide) wF_X12_29 rfl ?_
    refine K_callV (M' := mX12_copies) (a := 0) (ci := 12) (As := [vr 13, vr 5]) (st := []) (dt_at dtX12_house 130 rfl) sX12_copies_13 (show TT 0 = (0, 12) from rfl) rfl wL_X12_273 vX12_copies rfl npX12_copies (by decide) (by decide) (Nat.le_of_ble_eq_true rfl) (by decide) (by decide) GK_E (fun v9 hc13 hq => ?_) (fun E h9 hq => by cases hq.1)
    have hqq14 := hq
    obtain ⟨e9q14, aq14, fq14, iq14, rq14⟩ := hqq14
    have cp5 : ∀ i : Int, 0 ≤ i → i < 7 → hA hc13 5 i = hA h' 13 i := fun i i0 i1 => by rw [aq14, pwF_in i0 i1, (fq12 13 (by omega)), (fq10 13 (by omega)), (fq8 13 (by omega)), (fq6 13 (by omega)), aq4, aq3, aq2, aq1]
    cases e9q14
    show K mX12_house _ _ 0 0 242 [(2, vi 77), (0, vr 0), (1, vi (n : Int))] [] hc13
    refine K_aload_n (dt_at dtX12_house 131 rfl) rfl rfl ?_
    refine K_aload_n (dt_at dtX12_house 132 rfl) rfl rfl ?_
    refine K_get (a := 0) (ci := 12) (k := 39) (v := vr 15) (dt_at dtX12_house 133 rfl) (show TT 0 = (0, 12) from rfl) rfl (by decide) wF_X12_62 rfl ?_
    refine K_aload_n (dt_at dtX12_house 134 rfl) rfl rfl ?_
    refine K_get (a := 0) (ci := 12) (k := 10) (v := vr 6) (dt_at dtX12_house 135 rfl) (show TT 0 = (0, 12) from rfl) rfl (by decide) wF_X12_32 rfl ?_
    refine K_callV (M' := mX12_copies) (a := 0) (ci := 12) (As := [vr 15, vr 6]) (st := []) (dt_at dtX12_house 136 rfl) sX12_copies_15 (show TT 0 = (0, 12) from rfl) rfl wL_X12_273 vX12_copies rfl npX12_copies (by decide) (by decide) (Nat.le_of_ble_eq_true rfl) (by decide) (by decide) GK_E (fun v9 hc15 hq => ?_) (fun E h9 hq => by cases hq.1)
    have hqq16 := hq
    obtain ⟨e9q16, aq16, fq16, iq16, rq16⟩ := hqq16
    have cp6 : ∀ i : Int, 0 ≤ i → i < 1400 → hA hc15 6 i = hA h' 15 i := fun i i0 i1 => by rw [aq16, pwF_in i0 i1, (fq14 15 (by omega)), (fq12 15 (by omega)), (fq10 15 (by omega)), (fq8 15 (by omega)), (fq6 15 (by omega)), aq4, aq3, aq2, aq1]
    cases e9q16
    show K mX12_house _ _ 0 0 254 [(2, vi 77), (0, vr 0), (1, vi (n : Int))] [] hc15
    refine K_iconst (dt_at dtX12_house 137 rfl) ?_
    refine K_istore_n (ls' := [(2, vi 0), (0, vr 0), (1, vi (n : Int))]) (dt_at dtX12_house 138 rfl) rfl (by decide) rfl ?_
    have F7 : FL [1, 2, 3, 4, 5, 6] [(0, 1), (0, 2), (0, 3), (0, 4)] [] h' hc15 := (FL_tr (FL_tr (FL_tr (FL_tr (FL_tr (FL_tr (FL_tr (FL_tr (FL_tr (FL_tr (FL_rf : FL [1, 2, 3, 4, 5, 6] [(0, 1), (0, 2), (0, 3), (0, 4)] [] h' h') (FL_eI eq1 rfl)) (FL_eI eq2 rfl)) (FL_eI eq3 rfl)) (FL_eI eq4 rfl)) ⟨fun a ha => fq6 a (fun z => by rw [z] at ha; exact absurd ha (by decide)), fun a k _ => by rw [iq6], fun a k _ => by rw [rq6]⟩) ⟨fun a ha => fq8 a (fun z => by rw [z] at ha; exact absurd ha (by decide)), fun a k _ => by rw [iq8], fun a k _ => by rw [rq8]⟩) ⟨fun a ha => fq10 a (fun z => by rw [z] at ha; exact absurd ha (by decide)), fun a k _ => by rw [iq10], fun a k _ => by rw [rq10]⟩) ⟨fun a ha => fq12 a (fun z => by rw [z] at ha; exact absurd ha (by decide)), fun a k _ => by rw [iq12], fun a k _ => by rw [rq12]⟩) ⟨fun a ha => fq14 a (fun z => by rw [z] at ha; exact absurd ha (by decide)), fun a k _ => by rw [iq14], fun a k _ => by rw [rq14]⟩) ⟨fun a ha => fq16 a (fun z => by rw [z] at ha; exact absurd ha (by decide)), fun a k _ => by rw [iq16], fun a k _ => by rw [rq16]⟩)
    have p1 : hI hc15 0 1 = (D.1.1 : Int) := by rw [iq16, iq14, iq12, iq10, iq8, iq6, (fq4 0 1 (by omega)), (fq3 0 1 (by omega)), (fq2 0 1 (by omega)), iq1]
    have p2 : hI hc15 0 2 = (D.1.2 : Int) := by rw [iq16, iq14, iq12, iq10, iq8, iq6, (fq4 0 2 (by omega)), (fq3 0 2 (by omega)), iq2]
    have p3 : hI hc15 0 3 = (hI h' 0 26) := by rw [iq16, iq14, iq12, iq10, iq8, iq6, (fq4 0 3 (by omega)), iq3]
    have p4 : hI hc15 0 4 = (hI h' 0 27) := by rw [iq16, iq14, iq12, iq10, iq8, iq6, iq4]
    have cq1 : hA hc15 1 = hA hc5 1 := by rw [(fq16 1 (by omega)), (fq14 1 (by omega)), (fq12 1 (by omega)), (fq10 1 (by omega)), (fq8 1 (by omega))]
    have cq2 : hA hc15 2 = hA hc7 2 := by rw [(fq16 2 (by omega)), (fq14 2 (by omega)), (fq12 2 (by omega)), (fq10 2 (by omega))]
    have cq3 : hA hc15 3 = hA hc9 3 := by rw [(fq16 3 (by omega)), (fq14 3 (by omega)), (fq12 3 (by omega))]
    have cq4 : hA hc15 4 = hA hc11 4 := by rw [(fq16 4 (by omega)), (fq14 4 (by omega))]
    have cq5 : hA hc15 5 = hA hc13 5 := by rw [(fq16 5 (by omega))]
    have cq6 : hA hc15 6 = hA hc15 6 := rfl
    refine K_pk [0, 1, 2] (ls' := [(2, vi ((0 : Nat) : Int)), (0, vr 0), (1, vi (n : Int))]) rfl (lp_house2 (h := hc15) 77 0 hc15 (by omega) (fun i i0 i1 => absurd i1 (by omega)) FL_rf (fun h8 hr F8 => ?_))
    refine K_iconst (dt_at dtX12_house 152 rfl) ?_
    refine K_istore_n (ls' := [(2, vi 0), (0, vr 0), (1, vi (n : Int))]) (dt_at dtX12_house 153 rfl) rfl (by decide) rfl ?_
    have q2 : hI h8 0 2 = (D.1.2 : Int) := by rw [F8.2.1 0 2 rfl]; exact p2
    have r14 : hA hc15 14 = hA h' 14 := F7.1 14 rfl
    have hbk : ∀ p : Int, 0 ≤ p → p < (D.1.2 : Int) → i32 (hA h8 18 (70 + p)) := fun p p0 p1 => by
      have ed := dd.2.2.2.1 (22 + p) (by omega) (by omega)
      rw [pm_k (by omega), drR_k (by omega), if_pos p1] at ed
      rw [hr (70 + p) (by omega) (by omega), r14, ed]
      have hy := (hD.2.2.1 p p0 p1).2.2.2.2.1
      exact ⟨by omega, by omega⟩
    refine K_pk [0, 1, 2] (ls' := [(2, vi ((0 : Nat) : Int)), (0, vr 0), (1, vi (n : Int))]) rfl (lp_house3 (h := h8) q2 dn.2 hbk D.1.2 0 h8 (by omega) (fun i => by rw [if_neg (by omega)]) FL_rf (fun h9 hs F9 => ?_))
    refine K_aload_n (dt_at dtX12_house 176 rfl) rfl rfl ?_
    refine K_iconst (dt_at dtX12_house 177 rfl) ?_
    refine K_putI (a := 0) (ci := 12) (k := 44) (dt_at dtX12_house 178 rfl) (show TT 0 = (0, 12) from rfl) rfl (by decide) wF_X12_277 rfl (Or.inl rfl) rfl rfl ?_
    obtain ⟨hq17, eq17⟩ : ∃ z, z = sI h9 0 44 0 := ⟨_, rfl⟩
    rw [← eq17]
    obtain ⟨iq17, fq17, aq17, rq17⟩ := sI_fx eq17
    refine K_aload_n (dt_at dtX12_house 179 rfl) rfl rfl ?_
    refine K_iconst (dt_at dtX12_house 180 rfl) ?_
    refine K_putI (a := 0) (ci := 12) (k := 51) (dt_at dtX12_house 181 rfl) (show TT 0 = (0, 12) from rfl) rfl (by decide) wF_X12_280 rfl (Or.inl rfl) rfl rfl ?_
    obtain ⟨hq18, eq18⟩ : ∃ z, z = sI hq17 0 51 0 := ⟨_, rfl⟩
    rw [← eq18]
    obtain ⟨iq18, fq18, aq18, rq18⟩ := sI_fx eq18
    refine K_aload_n (dt_at dtX12_house 182 rfl) rfl rfl ?_
    refine K_iconst (dt_at dtX12_house 183 rfl) ?_
    refine K_putI (a := 0) (ci := 12) (k := 56) (dt_at dtX12_house 184 rfl) (show TT 0 = (0, 12) from rfl) rfl (by decide) wF_X12_283 rfl (Or.inr rfl) (by decide) (by decide) ?_
    obtain ⟨hq19, eq19⟩ : ∃ z, z = sI hq18 0 56 0 := ⟨_, rfl⟩
    rw [← eq19]
    obtain ⟨iq19, fq19, aq19, rq19⟩ := sI_fx eq19
    refine K_iconst (dt_at dtX12_house 185 rfl) ?_
    have FA : FL [] [(0, 44), (0, 51), (0, 56)] [] h9 hq19 := (FL_tr (FL_tr (FL_tr (FL_rf : FL [] [(0, 44), (0, 51), (0, 56)] [] h9 h9) (FL_eI eq17 rfl)) (FL_eI eq18 rfl)) (FL_eI eq19 rfl))
    have FB : FL [18] [(0, 44), (0, 51), (0, 56)] [] hc15 hq19 := FL_tr (FL_up F8 rfl rfl rfl) (FL_tr (FL_up F9 rfl rfl rfl) (FL_up FA rfl rfl rfl))
    have FD : FL [1, 2, 3, 4, 5, 6, 18] [(0, 44), (0, 51), (0, 56), (0, 1), (0, 2), (0, 3), (0, 4)] [] h' hq19 := FL_tr (FL_up F7 rfl rfl rfl) (FL_up FB rfl rfl rfl)
    rw [hx]
    refine K_iret (dt_at dtX12_house 186 rfl) rfl rfl (by decide) (by decide) ⟨⟨rfl, fun f hf => ?_⟩, FC_tr (FC_H F6 rfl rfl) (FC_H FD rfl rfl), by rw [FD.2.1 0 0 rfl, F.2.1 0 0 rfl]; exact t0⟩
    exact MV_new V hD dd (by have := A.2.2.1; omega) (by rw [FB.2.1 0 1 rfl, p1, dd.1.1.1]) (by rw [FB.2.1 0 2 rfl, p2, dd.1.2.1]) (by rw [FB.2.1 0 3 rfl, p3]) (by rw [FB.2.1 0 4 rfl, p4]) (by rw [(fq19 0 44 (by omega)), (fq18 0 44 (by omega)), iq17]) (by rw [(fq19 0 51 (by omega)), iq18]) (by rw [iq19]) (by rw [FD.2.1 0 49 rfl, F6.2.1 0 49 rfl]) (fun i i0 i1 => by rw [FB.1 1 rfl, cq1]; exact cp1 i i0 i1) (fun i i0 i1 => by rw [FB.1 2 rfl, cq2]; exact cp2 i i0 i1) (fun i i0 i1 => by rw [FB.1 3 rfl, cq3]; exact cp3 i i0 i1) (fun i i0 i1 => by rw [FB.1 4 rfl, cq4]; exact cp4 i i0 i1) (fun i i0 i1 => by rw [FB.1 5 rfl, cq5]; exact cp5 i i0 i1) (fun i i0 i1 => by rw [FB.1 6 rfl, cq6]; exact cp6 i i0 i1) (fun i i0 i1 => by rw [FA.1 18 rfl, hs i, hr i i0 i1, r14]) (by rw [FD.1 20 rfl, F6.1 20 rfl]) (by rw [FD.1 8 rfl, F6.1 8 rfl]) (by rw [FD.2.1 0 12 rfl, F.2.1 0 12 rfl]; exact t12) (by rw [FD.2.1 0 14 rfl]; exact A.2.2.2.2) f hf
