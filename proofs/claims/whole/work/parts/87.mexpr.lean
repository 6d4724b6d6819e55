def mX12_expression : MI := (yX12_expression, cX12_expression, 5, none, rmK 6 0)
def tX12_expression : List (Nat × Instr × Nat) := [(0, .aload_n 0, 1), (1, .invokevirtual 164, 3), (4, .ifCond .ne 4, 3), (7, .return_, 1), (8, .aload_n 0, 1), (9, .iload_n 1, 1), (10, .putfield 193, 3), (13, .aload_n 0, 1), (14, .iload_n 2, 1), (15, .putfield 196, 3), (18, .aload_n 0, 1), (19, .iconst 0, 1), (20, .putfield 177, 3), (23, .aload_n 0, 1), (24, .iconst 0, 1), (25, .putfield 199, 3), (28, .aload_n 0, 1), (29, .invokevirtual 208, 3), (32, .aload_n 0, 1), (33, .iconst 1, 1), (34, .invokevirtual 217, 3), (37, .iconst 1, 1), (38, .istore_n 3, 1), (39, .iload_n 3, 1), (40, .ifCond .eq 300, 3), (43, .aload_n 0, 1), (44, .invokevirtual 164, 3), (47, .ifCond .eq 293, 3), (50, .aload_n 0, 1), (51, .invokevirtual 189, 3), (54, .istore 4, 2), (56, .iload 4, 2), (58, .bipush 13, 2), (60, .if_icmp .eq 10, 3), (63, .iload 4, 2), (65, .bipush 14, 2), (67, .if_icmp .ne 57, 3), (70, .aload_n 0, 1), (71, .iload 4, 2), (73, .bipush 13, 2), (75, .if_icmp .ne 7, 3), (78, .iconst 2, 1), (79, .goto 4, 3), (82, .iconst 1, 1), (83, .invokevirtual 214, 3), (86, .aload_n 0, 1), (87, .iload 4, 2), (89, .bipush 13, 2), (91, .if_icmp .ne 7, 3), (94, .iconst 4, 1), (95, .goto 4, 3), (98, .iconst 5, 1), (99, .invokevirtual 205, 3), (102, .aload_n 0, 1), (103, .getfield 68, 3), (106, .aload_n 0, 1), (107, .getfield 199, 3), (110, .iconst 0, 1), (111, .bastore, 1), (112, .aload_n 0, 1), (113, .invokevirtual 168, 3), (116, .aload_n 0, 1), (117, .iconst 1, 1), (118, .invokevirtual 217, 3), (121, .goto 216, 3), (124, .aload_n 0, 1), (125, .bipush 60, 2), (127, .invokevirtual 202, 3), (130, .ifCond .ne 12, 3), (133, .aload_n 0, 1), (134, .bipush 61, 2), (136, .invokevirtual 202, 3), (139, .ifCond .eq 62, 3), (142, .aload_n 0, 1), (143, .getfield 68, 3), (146, .aload_n 0, 1), (147, .getfield 199, 3), (150, .baload, 1), (151, .ifCond .ne 50, 3), (154, .aload_n 0, 1), (155, .iconst 4, 1), (156, .invokevirtual 214, 3), (159, .aload_n 0, 1), (160, .aload_n 0, 1), (161, .bipush 60, 2), (163, .invokevirtual 202, 3), (166, .ifCond .eq 8, 3), (169, .bipush 6, 2), (171, .goto 5, 3), (174, .bipush 7, 2), (176, .invokevirtual 205, 3), (179, .aload_n 0, 1), (180, .getfield 68, 3), (183, .aload_n 0, 1), (184, .getfield 199, 3), (187, .iconst 1, 1), (188, .bastore, 1), (189, .aload_n 0, 1), (190, .invokevirtual 168, 3), (193, .aload_n 0, 1), (194, .iconst 0, 1), (195, .invokevirtual 217, 3), (198, .goto 139, 3), (201, .aload_n 0, 1), (202, .bipush 43, 2), (204, .invokevirtual 202, 3), (207, .ifCond .ne 12, 3), (210, .aload_n 0, 1), (211, .bipush 45, 2), (213, .invokevirtual 202, 3), (216, .ifCond .eq 40, 3), (219, .aload_n 0, 1), (220, .iconst 5, 1), (221, .invokevirtual 214, 3), (224, .aload_n 0, 1), (225, .aload_n 0, 1), (226, .bipush 43, 2), (228, .invokevirtual 202, 3), (231, .ifCond .eq 8, 3), (234, .bipush 8, 2), (236, .goto 5, 3), (239, .bipush 9, 2), (241, .invokevirtual 205, 3), (244, .aload_n 0, 1), (245, .invokevirtual 168, 3), (248, .aload_n 0, 1), (249, .iconst 0, 1), (250, .invokevirtual 217, 3), (253, .goto 84, 3), (256, .aload_n 0, 1), (257, .bipush 42, 2), (259, .invokevirtual 202, 3), (262, .ifCond .ne 12, 3), (265, .aload_n 0, 1), (266, .bipush 47, 2), (268, .invokevirtual 202, 3), (271, .ifCond .eq 41, 3), (274, .aload_n 0, 1), (275, .bipush 6, 2), (277, .invokevirtual 214, 3), (280, .aload_n 0, 1), (281, .aload_n 0, 1), (282, .bipush 42, 2), (284, .invokevirtual 202, 3), (287, .ifCond .eq 8, 3), (290, .bipush 10, 2), (292, .goto 5, 3), (295, .bipush 11, 2), (297, .invokevirtual 205, 3), (300, .aload_n 0, 1), (301, .invokevirtual 168, 3), (304, .aload_n 0, 1), (305, .iconst 0, 1), (306, .invokevirtual 217, 3), (309, .goto 28, 3), (312, .aload_n 0, 1), (313, .bipush 41, 2), (315, .invokevirtual 202, 3), (318, .ifCond .eq 17, 3), (321, .aload_n 0, 1), (322, .invokevirtual 221, 3), (325, .ifCond .eq 10, 3), (328, .aload_n 0, 1), (329, .invokevirtual 224, 3), (332, .goto 5, 3), (335, .iconst 0, 1), (336, .istore_n 3, 1), (337, .goto (-298), 3), (340, .aload_n 0, 1), (341, .invokevirtual 164, 3), (344, .ifCond .eq 16, 3), (347, .aload_n 0, 1), (348, .getfield 199, 3), (351, .iconst 1, 1), (352, .if_icmp .le 8, 3), (355, .aload_n 0, 1), (356, .iconst 1, 1), (357, .invokevirtual 171, 3), (360, .aload_n 0, 1), (361, .iconst 0, 1), (362, .invokevirtual 214, 3), (365, .aload_n 0, 1), (366, .iconst 0, 1), (367, .invokevirtual 186, 3), (370, .return_, 1)]
theorem dtX12_expression : tX12_expression.all (fun q => decide (decode cX12_expression q.1 = .ok (q.2.1, q.2.2))) = true := by decide +kernel
theorem npX12_expression : (parseMethodDescriptor (mY mX12_expression).desc).map (fun d => d.parameters.length) = some 2 := by decide +kernel
theorem vX12_expression : mV mX12_expression := ⟨wI_X12_expression, wS_X12_expression, wN_X12, wC_X12_expression, by decide +kernel, by decide +kernel⟩
def KLx (h0 : HP) (tp : Int → Int) (n : Nat) (pu : Int) (a : Nat) (Q : AO → HP → Prop) (p : Nat) (L W : List Int) (T : List Bool) : Prop := ∀ hh, SR 0 h0 hh tp n pu a p L W T → K mX12_expression GK (ZK Q 0 0) 0 0 39 [(3, vi 1), (0, vr 0), (1, vi (fvP pu)), (2, vi (laV pu))] [] hh
def KEx (h0 : HP) (tp : Int → Int) (n a : Nat) (Q : AO → HP → Prop) (e : Int × Nat) : Prop := ∀ h', MEr h' tp n e → ((a : Int) ≤ hI h' 0 28 ∧ hI h' 0 28 ≤ 1400) → YF a h0 h' → Q (.inl none) h'
theorem prdS_0 {tp : Int → Int} {t : TK} (h : prdS tp t = 0) : ¬ Sg tp t 42 ∧ ¬ Sg tp t 47 := by
  unfold prdS at h
  refine ⟨fun z => ?_, fun z => ?_⟩
  · rw [if_pos z] at h; exact absurd h (by decide)
  · by_cases w : Sg tp t 42
    · rw [if_pos w] at h; exact absurd h (by decide)
    · rw [if_neg w, if_pos z] at h; exact absurd h (by decide)
theorem sumS_0 {tp : Int → Int} {t : TK} (h : sumS tp t = 0) : ¬ Sg tp t 43 ∧ ¬ Sg tp t 45 := by
  unfold sumS at h
  refine ⟨fun z => ?_, fun z => ?_⟩
  · rw [if_pos z] at h; exact absurd h (by decide)
  · by_cases w : Sg tp t 43
    · rw [if_pos w] at h; exact absurd h (by decide)
    · rw [if_neg w, if_pos z] at h; exact absurd h (by decide)
theorem tstS_0 {tp : Int → Int} {t : TK} (h : tstS tp t = 0) : ¬ Sg tp t 60 ∧ ¬ Sg tp t 61 := by
  unfold tstS at h
  refine ⟨fun z => ?_, fun z => ?_⟩
  · rw [if_pos z] at h; exact absurd h (by decide)
  · by_cases w : Sg tp t 60
    · rw [if_pos w] at h; exact absurd h (by decide)
    · rw [if_neg w, if_pos z] at h; exact absurd h (by decide)
theorem andS_0 {tp : Int → Int} {t : TK} (h : andS tp t = 0) : kwF tp t ≠ 13 := fun z => by
  rw [andS_t (kwI_13 z)] at h; exact absurd h (by decide)
theorem orS_0 {tp : Int → Int} {t : TK} (h : orS tp t = 0) : kwF tp t ≠ 14 := fun z => by
  rw [orS_t (kwI_14 z)] at h; exact absurd h (by decide)
set_option maxHeartbeats 4000000 in
set_option maxRecDepth 100000 in
theorem end_360 {h0 : HP} {tp : Int → Int} {n : Nat} {pu : Int} {a : Nat} {Q : AO → HP → Prop} {e : Int × Nat} {hh : HP} {x3 : Int} (X : SEr h0 hh tp n a e) (kE : KEx h0 tp n a Q e) : K mX12_expression GK (ZK Q 0 0) 0 0 360 [(3, vi x3), (0, vr 0), (1, vi (fvP pu)), (2, vi (laV pu))] [] hh := by
  obtain ⟨X1, ⟨W, w1, w2, w3, w4⟩, X3, X4⟩ := X
  obtain ⟨V, U, rfl, v1, v2, v3⟩ := spl W w2
  have hlV : (V ++ U).length = V.length + U.length := List.length_append
  refine K_aload_n (dt_at dtX12_expression 178 rfl) rfl rfl ?_
  refine K_iconst (dt_at dtX12_expression 179 rfl) ?_
  refine K_callV (M' := mX12_drops) (a := 0) (ci := 12) (As := [vi 0]) (st := []) (dt_at dtX12_expression 180 rfl) (drops_K (s := 0) (V := V) ⟨by decide, by decide⟩ v2 v3 v1 w1 (by omega) (by omega) (by omega)) (show TT 0 = (0, 12) from rfl) rfl wL_X12_214 vX12_drops rfl npX12_drops (by decide) (by decide) (Nat.le_of_ble_eq_true rfl) (by decide) (by decide) GK_E (fun v9 hc1 hq => ?_) (fun E h9 hq => by cases hq.1)
  have hqq2 := hq
  obtain ⟨e9q2, Dq2⟩ := hqq2
  have Mq2 := MEr_up X1 Dq2.2.2.2.2 rfl rfl
  have Yq2 := YF_tr X4 Dq2.2.2.2.2 rfl rfl (fun i hi => Dq2.2.2.1 i (by omega))
  cases e9q2
  show K mX12_expression _ _ 0 0 365 [(3, vi x3), (0, vr 0), (1, vi (fvP pu)), (2, vi (laV pu))] [] hc1
  refine K_aload_n (dt_at dtX12_expression 181 rfl) rfl rfl ?_
  refine K_iconst (dt_at dtX12_expression 182 rfl) ?_
  refine K_callV (M' := mX12_puts) (a := 0) (ci := 12) (As := [vi 0]) (st := []) (dt_at dtX12_expression 183 rfl) (sX12_puts (v := 0) ⟨by rw [Dq2.2.1]; omega, by rw [Dq2.2.1]; omega⟩) (show TT 0 = (0, 12) from rfl) rfl wL_X12_186 vX12_puts rfl npX12_puts (by decide) (by decide) (Nat.le_of_ble_eq_true rfl) (by decide) (by decide) GK_E (fun v9 h9 hq => ?_) (fun E h9 hq => by cases hq.1)
  obtain ⟨e9, e8⟩ := hq
  cases e9
  rw [e8]
  show K mX12_expression _ _ 0 0 370 [(3, vi x3), (0, vr 0), (1, vi (fvP pu)), (2, vi (laV pu))] [] (sI (sA hc1 15 (hI hc1 0 28) 0) 0 28 (hI hc1 0 28 + 1))
  obtain ⟨hq3, eq3⟩ : ∃ z, z = sA hc1 15 (hI hc1 0 28) 0 := ⟨_, rfl⟩
  rw [← eq3]
  obtain ⟨aq3, fq3, iq3, rq3⟩ := sA_fx eq3
  rw [Dq2.2.1] at aq3
  obtain ⟨hq4, eq4⟩ : ∃ z, z = sI hq3 0 28 (hI hc1 0 28 + 1) := ⟨_, rfl⟩
  rw [← eq4]
  obtain ⟨iq4, fq4, aq4, rq4⟩ := sI_fx eq4
  rw [Dq2.2.1] at iq4
  have R5 := MEr_up Mq2 (FL_tr (FL_eA eq3 rfl : FL [15] [(0, 28)] [] hc1 hq3) (FL_eI eq4 rfl)) rfl rfl
  exact K_vret (dt_at dtX12_expression 184 rfl) rfl (by decide) (by decide) (kE _ R5 (by rw [iq4]; omega) (YF_tr Yq2 (FL_tr (FL_eA eq3 rfl : FL [15] [(0, 28)] [] hc1 hq3) (FL_eI eq4 rfl)) rfl rfl (fun i hi => by rw [aq4, aq3, upI_n (by omega)])))
set_option maxHeartbeats 4000000 in
set_option maxRecDepth 100000 in
theorem end_39 {h0 : HP} {tp : Int → Int} {n : Nat} {pu : Int} {a : Nat} {Q : AO → HP → Prop} {e : Int × Nat} {hh : HP} (X : SEr h0 hh tp n a e) (kE : KEx h0 tp n a Q e) : K mX12_expression GK (ZK Q 0 0) 0 0 39 [(3, vi 1), (0, vr 0), (1, vi (fvP pu)), (2, vi (laV pu))] [] hh := by
  refine K_iload_n (dt_at dtX12_expression 23 rfl) rfl rfl ?_
  refine K_if_eq (tgt := 340) (dt_at dtX12_expression 24 rfl) (by decide) (by first | assumption | exact ⟨by omega, by omega⟩) (fun c1 => absurd c1 (by omega)) (fun c1 => ?_)
  refine K_aload_n (dt_at dtX12_expression 25 rfl) rfl rfl ?_
  refine K_callV (M' := mX12_isGood) (a := 0) (ci := 12) (As := []) (st := []) (dt_at dtX12_expression 26 rfl) (good_f X.1.2.2.2.1 X.1.2.2.1) (show TT 0 = (0, 12) from rfl) rfl wL_X12_164 vX12_isGood rfl npX12_isGood (by decide) (by decide) (Nat.le_of_ble_eq_true rfl) (by decide) (by decide) GK_E (fun v9 h9 hq => ?_) (fun E h9 hq => by cases hq.1)
  obtain ⟨e9, e8⟩ := hq
  cases e9
  rw [e8]
  show K mX12_expression _ _ 0 0 47 [(3, vi 1), (0, vr 0), (1, vi (fvP pu)), (2, vi (laV pu))] [vi 0] hh
  refine K_if_eq (tgt := 340) (dt_at dtX12_expression 27 rfl) (by decide) (by first | assumption | exact ⟨by omega, by omega⟩) (fun c2 => ?_) (fun c2 => absurd c2 (by omega))
  refine K_aload_n (dt_at dtX12_expression 168 rfl) rfl rfl ?_
  refine K_callV (M' := mX12_isGood) (a := 0) (ci := 12) (As := []) (st := []) (dt_at dtX12_expression 169 rfl) (good_f X.1.2.2.2.1 X.1.2.2.1) (show TT 0 = (0, 12) from rfl) rfl wL_X12_164 vX12_isGood rfl npX12_isGood (by decide) (by decide) (Nat.le_of_ble_eq_true rfl) (by decide) (by decide) GK_E (fun v9 h9 hq => ?_) (fun E h9 hq => by cases hq.1)
  obtain ⟨e9, e8⟩ := hq
  cases e9
  rw [e8]
  show K mX12_expression _ _ 0 0 344 [(3, vi 1), (0, vr 0), (1, vi (fvP pu)), (2, vi (laV pu))] [vi 0] hh
  refine K_if_eq (tgt := 360) (dt_at dtX12_expression 170 rfl) (by decide) (by first | assumption | exact ⟨by omega, by omega⟩) (fun c3 => ?_) (fun c3 => absurd c3 (by omega))
  exact K_pk [0, 1, 2, 3] (ls' := [(3, vi 1), (0, vr 0), (1, vi (fvP pu)), (2, vi (laV pu))]) rfl (end_360 (pu := pu) X kE)
set_option maxHeartbeats 4000000 in
set_option maxRecDepth 100000 in
theorem rule_and {h0 : HP} {tp : Int → Int} {n : Nat} {pu : Int} {a : Nat} {Q : AO → HP → Prop} {p : Nat} {L V W : List Int} {b : Bool} {T : List Bool} (hpu : pu = 0 ∨ pu = 1) (hw : isWb tp (tk tp n p) 13 = true) (hV : opn 2 V) (hW : blk 2 W) (g : KO tp n pu (KLx h0 tp n pu a Q) (KEx h0 tp n a Q) 0 (tk tp n p).2.2 (L ++ V) ((-11) :: W) (false :: T)) : KLx h0 tp n pu a Q p L (V ++ W) (b :: T) := by
  intro hh S
  have hbn := SR_bnd S (by omega)
  have hlV : (V ++ W).length = V.length + W.length := List.length_append
  have hp := S.1.2.2.1
  have hkw := kwF_13 hw
  have hnz : (tk tp n p).1 ≠ 0 := isWb_0 hw
  have hle := tk_e (tp := tp) hp
  refine K_iload_n (dt_at dtX12_expression 23 rfl) rfl rfl ?_
  refine K_if_eq (tgt := 340) (dt_at dtX12_expression 24 rfl) (by decide) (by first | assumption | exact ⟨by omega, by omega⟩) (fun c1 => absurd c1 (by omega)) (fun c1 => ?_)
  refine K_aload_n (dt_at dtX12_expression 25 rfl) rfl rfl ?_
  refine K_callV (M' := mX12_isGood) (a := 0) (ci := 12) (As := []) (st := []) (dt_at dtX12_expression 26 rfl) (good_t S.1.2.2.2.1) (show TT 0 = (0, 12) from rfl) rfl wL_X12_164 vX12_isGood rfl npX12_isGood (by decide) (by decide) (Nat.le_of_ble_eq_true rfl) (by decide) (by decide) GK_E (fun v9 h9 hq => ?_) (fun E h9 hq => by cases hq.1)
  obtain ⟨e9, e8⟩ := hq
  cases e9
  rw [e8]
  show K mX12_expression _ _ 0 0 47 [(3, vi 1), (0, vr 0), (1, vi (fvP pu)), (2, vi (laV pu))] [vi 1] hh
  refine K_if_eq (tgt := 340) (dt_at dtX12_expression 27 rfl) (by decide) (by first | assumption | exact ⟨by omega, by omega⟩) (fun c2 => absurd c2 (by omega)) (fun c2 => ?_)
  refine K_aload_n (dt_at dtX12_expression 28 rfl) rfl rfl ?_
  refine K_callV (M' := mX12_knownWord) (a := 0) (ci := 12) (As := []) (st := []) (dt_at dtX12_expression 29 rfl) (kw_g S.1) (show TT 0 = (0, 12) from rfl) rfl wL_X12_189 vX12_knownWord rfl npX12_knownWord (by decide) (by decide) (Nat.le_of_ble_eq_true rfl) (by decide) (by decide) GK_E (fun v9 h9 hq => ?_) (fun E h9 hq => by cases hq.1)
  obtain ⟨e9, e8⟩ := hq
  cases e9
  rw [e8]
  show K mX12_expression _ _ 0 0 54 [(3, vi 1), (0, vr 0), (1, vi (fvP pu)), (2, vi (laV pu))] [vi (kwF tp (tk tp n p))] hh
  rw [hkw]
  refine K_istore (ls' := [(4, vi 13), (3, vi 1), (0, vr 0), (1, vi (fvP pu)), (2, vi (laV pu))]) (dt_at dtX12_expression 30 rfl) (by decide) rfl ?_
  refine K_iload (dt_at dtX12_expression 31 rfl) rfl ?_
  refine K_bipush (dt_at dtX12_expression 32 rfl) (by decide) ?_
  refine K_icmp_eq (tgt := 70) (dt_at dtX12_expression 33 rfl) (by decide) (by first | assumption | exact ⟨by omega, by omega⟩) (by first | assumption | exact ⟨by omega, by omega⟩) (fun c3 => ?_) (fun c3 => absurd c3 (by omega))
  refine K_aload_n (dt_at dtX12_expression 37 rfl) rfl rfl ?_
  refine K_iload (dt_at dtX12_expression 38 rfl) rfl ?_
  refine K_bipush (dt_at dtX12_expression 39 rfl) (by decide) ?_
  refine K_icmp_ne (tgt := 82) (dt_at dtX12_expression 40 rfl) (by decide) (by first | assumption | exact ⟨by omega, by omega⟩) (by first | assumption | exact ⟨by omega, by omega⟩) (fun c4 => absurd c4 (by omega)) (fun c4 => ?_)
  refine K_iconst (dt_at dtX12_expression 41 rfl) ?_
  refine K_goto (tgt := 83) (dt_at dtX12_expression 42 rfl) (by decide) ?_
  refine K_callV (M' := mX12_drops) (a := 0) (ci := 12) (As := [vi 2]) (st := []) (dt_at dtX12_expression 44 rfl) (drops_K (s := 2) (V := V) (W := W) ⟨by decide, by decide⟩ (hW) (fun x hx => S.2.2.2.1.2 x (List.mem_append.mpr (Or.inr hx))) (opn_up hV (by omega)) S.2.2.2.1.1 (by omega) (by omega) (by omega)) (show TT 0 = (0, 12) from rfl) rfl wL_X12_214 vX12_drops rfl npX12_drops (by decide) (by decide) (Nat.le_of_ble_eq_true rfl) (by decide) (by decide) GK_E (fun v9 hc1 hq => ?_) (fun E h9 hq => by cases hq.1)
  have hqq2 := hq
  obtain ⟨e9q2, Dq2⟩ := hqq2
  have Sq2 := SR_drop S (by omega) (opn_up hV (by omega : (2 : Int) ≤ _)) Dq2
  cases e9q2
  show K mX12_expression _ _ 0 0 86 [(4, vi 13), (3, vi 1), (0, vr 0), (1, vi (fvP pu)), (2, vi (laV pu))] [] hc1
  refine K_aload_n (dt_at dtX12_expression 45 rfl) rfl rfl ?_
  refine K_iload (dt_at dtX12_expression 46 rfl) rfl ?_
  refine K_bipush (dt_at dtX12_expression 47 rfl) (by decide) ?_
  refine K_icmp_ne (tgt := 98) (dt_at dtX12_expression 48 rfl) (by decide) (by first | assumption | exact ⟨by omega, by omega⟩) (by first | assumption | exact ⟨by omega, by omega⟩) (fun c5 => absurd c5 (by omega)) (fun c5 => ?_)
  refine K_iconst (dt_at dtX12_expression 49 rfl) ?_
  refine K_goto (tgt := 99) (dt_at dtX12_expression 50 rfl) (by decide) ?_
  refine K_callV (M' := mX12_waitsFor) (a := 0) (ci := 12) (As := [vi 4]) (st := []) (dt_at dtX12_expression 52 rfl) (sX12_waitsFor (v := 4) (by have := SR_bnd Sq2 (by omega); omega)) (show TT 0 = (0, 12) from rfl) rfl wL_X12_205 vX12_waitsFor rfl npX12_waitsFor (by decide) (by decide) (Nat.le_of_ble_eq_true rfl) (by decide) (by decide) GK_E (fun v9 h9 hq => ?_) (fun E h9 hq => by cases hq.1)
  obtain ⟨e9, e8⟩ := hq
  cases e9
  rw [e8]
  show K mX12_expression _ _ 0 0 102 [(4, vi 13), (3, vi 1), (0, vr 0), (1, vi (fvP pu)), (2, vi (laV pu))] [] (sI (sA hc1 16 (hI hc1 0 31) 4) 0 31 (hI hc1 0 31 + 1))
  obtain ⟨hq3, eq3⟩ : ∃ z, z = sA hc1 16 (hI hc1 0 31) 4 := ⟨_, rfl⟩
  rw [← eq3]
  obtain ⟨aq3, fq3, iq3, rq3⟩ := sA_fx eq3
  obtain ⟨hq4, eq4⟩ : ∃ z, z = sI hq3 0 31 (hI hc1 0 31 + 1) := ⟨_, rfl⟩
  rw [← eq4]
  obtain ⟨iq4, fq4, aq4, rq4⟩ := sI_fx eq4
  have Sq4 := SR_push (x := (-11)) Sq2 (Or.inr (by decide)) iq4 (by rw [aq4, aq3, show wcF (-11) = 4 from rfl]) (FL_tr (FL_eA eq3 rfl : FL [16] [(0, 31)] [] hc1 hq3) (FL_eI eq4 rfl))
  have bnhq4 := SR_bnd Sq4 (by omega)
  have tlhq4 : 1 ≤ hI hq4 0 32 := by rw [bnhq4.2.2.2.2.2.1]; show (1 : Int) ≤ ((T.length + 1 : Nat) : Int); omega
  refine K_aload_n (dt_at dtX12_expression 53 rfl) rfl rfl ?_
  refine K_get (a := 0) (ci := 12) (k := 41) (v := vr 17) (dt_at dtX12_expression 54 rfl) (show TT 0 = (0, 12) from rfl) rfl (by decide) wF_X12_68 rfl ?_
  refine K_aload_n (dt_at dtX12_expression 55 rfl) rfl rfl ?_
  refine K_get (a := 0) (ci := 12) (k := 32) (v := vi (hI hq4 0 32)) (dt_at dtX12_expression 56 rfl) (show TT 0 = (0, 12) from rfl) rfl (by decide) wF_X12_199 rfl ?_
  refine K_iconst (dt_at dtX12_expression 57 rfl) ?_
  refine K_zast (dt_at dtX12_expression 58 rfl) (show TT 17 = (3, 9) from rfl) (by omega) (by omega) (by omega) ?_
  obtain ⟨hq5, eq5⟩ : ∃ z, z = sA hq4 17 (hI hq4 0 32) 0 := ⟨_, rfl⟩
  rw [← eq5]
  obtain ⟨aq5, fq5, iq5, rq5⟩ := sA_fx eq5
  refine K_aload_n (dt_at dtX12_expression 59 rfl) rfl rfl ?_
  have Sq5 := SR_test (d := false) (h' := hq5) Sq4 (by rw [eq5]; rfl)
  refine K_callV (M' := mX12_goes) (a := 0) (ci := 12) (As := []) (st := []) (dt_at dtX12_expression 60 rfl) (goes_g Sq5.1) (show TT 0 = (0, 12) from rfl) rfl wL_X12_168 vX12_goes rfl npX12_goes (by decide) (by decide) (Nat.le_of_ble_eq_true rfl) (by decide) (by decide) GK_E (fun v9 hc6 hq => ?_) (fun E h9 hq => by cases hq.1)
  have hqq7 := hq
  obtain ⟨e9q7, Aq7, Gq7⟩ := hqq7
  have Sq7 := SR_goes Sq5 (Or.inr ⟨rfl, hnz⟩) Aq7 Gq7
  cases e9q7
  show K mX12_expression _ _ 0 0 116 [(4, vi 13), (3, vi 1), (0, vr 0), (1, vi (fvP pu)), (2, vi (laV pu))] [] hc6
  refine K_aload_n (dt_at dtX12_expression 61 rfl) rfl rfl ?_
  refine K_iconst (dt_at dtX12_expression 62 rfl) ?_
  refine K_callV (M' := mX12_operand) (a := 0) (ci := 12) (As := [vi 1]) (st := []) (dt_at dtX12_expression 63 rfl) (operand_1 (f := n + 1) hpu Sq7 (by omega)) (show TT 0 = (0, 12) from rfl) rfl wL_X12_217 vX12_operand rfl npX12_operand (by decide) (by decide) (Nat.le_of_ble_eq_true rfl) (by decide) (by decide) GK_E (fun v9 hc8 hq => ?_) (fun E h9 hq => by cases hq.1)
  have hqq9 := hq
  obtain ⟨e9q9, oq9⟩ := hqq9
  cases e9q9
  show K mX12_expression _ _ 0 0 121 [(4, vi 13), (3, vi 1), (0, vr 0), (1, vi (fvP pu)), (2, vi (laV pu))] [] hc8
  refine K_goto (tgt := 337) (dt_at dtX12_expression 64 rfl) (by decide) ?_
  refine K_goto (tgt := 39) (dt_at dtX12_expression 167 rfl) (by decide) ?_
  have g9 := g (n + 1) (by omega)
  have o9 := oq9
  rcases hu : opP tp n pu (n + 1) 0 (tk tp n p).2.2 ((-11) :: W) (false :: T) with e | ⟨q, x9, W9, T9⟩
  · rw [hu] at g9 o9
    exact K_pk [1, 2, 3, 4] (ls' := [(3, vi 1), (0, vr 0), (1, vi (fvP pu)), (2, vi (laV pu))]) rfl (end_39 (pu := pu) o9 g9)
  · rw [hu] at g9 o9
    exact K_pk [1, 2, 3, 4] (ls' := [(3, vi 1), (0, vr 0), (1, vi (fvP pu)), (2, vi (laV pu))]) rfl (g9 _ o9)
set_option maxHeartbeats 4000000 in
set_option maxRecDepth 100000 in
theorem rule_or {h0 : HP} {tp : Int → Int} {n : Nat} {pu : Int} {a : Nat} {Q : AO → HP → Prop} {p : Nat} {L V W : List Int} {b : Bool} {T : List Bool} (hpu : pu = 0 ∨ pu = 1) (hw : isWb tp (tk tp n p) 14 = true) (hV : opn 1 V) (hW : blk 1 W) (g : KO tp n pu (KLx h0 tp n pu a Q) (KEx h0 tp n a Q) 0 (tk tp n p).2.2 (L ++ V) ((-10) :: W) (false :: T)) : KLx h0 tp n pu a Q p L (V ++ W) (b :: T) := by
  intro hh S
  have hbn := SR_bnd S (by omega)
  have hlV : (V ++ W).length = V.length + W.length := List.length_append
  have hp := S.1.2.2.1
  have hkw := kwF_14 hw
  have hnz : (tk tp n p).1 ≠ 0 := isWb_0 hw
  have hle := tk_e (tp := tp) hp
  refine K_iload_n (dt_at dtX12_expression 23 rfl) rfl rfl ?_
  refine K_if_eq (tgt := 340) (dt_at dtX12_expression 24 rfl) (by decide) (by first | assumption | exact ⟨by omega, by omega⟩) (fun c1 => absurd c1 (by omega)) (fun c1 => ?_)
  refine K_aload_n (dt_at dtX12_expression 25 rfl) rfl rfl ?_
  refine K_callV (M' := mX12_isGood) (a := 0) (ci := 12) (As := []) (st := []) (dt_at dtX12_expression 26 rfl) (good_t S.1.2.2.2.1) (show TT 0 = (0, 12) from rfl) rfl wL_X12_164 vX12_isGood rfl npX12_isGood (by decide) (by decide) (Nat.le_of_ble_eq_true rfl) (by decide) (by decide) GK_E (fun v9 h9 hq => ?_) (fun E h9 hq => by cases hq.1)
  obtain ⟨e9, e8⟩ := hq
  cases e9
  rw [e8]
  show K mX12_expression _ _ 0 0 47 [(3, vi 1), (0, vr 0), (1, vi (fvP pu)), (2, vi (laV pu))] [vi 1] hh
  refine K_if_eq (tgt := 340) (dt_at dtX12_expression 27 rfl) (by decide) (by first | assumption | exact ⟨by omega, by omega⟩) (fun c2 => absurd c2 (by omega)) (fun c2 => ?_)
  refine K_aload_n (dt_at dtX12_expression 28 rfl) rfl rfl ?_
  refine K_callV (M' := mX12_knownWord) (a := 0) (ci := 12) (As := []) (st := []) (dt_at dtX12_expression 29 rfl) (kw_g S.1) (show TT 0 = (0, 12) from rfl) rfl wL_X12_189 vX12_knownWord rfl npX12_knownWord (by decide) (by decide) (Nat.le_of_ble_eq_true rfl) (by decide) (by decide) GK_E (fun v9 h9 hq => ?_) (fun E h9 hq => by cases hq.1)
  obtain ⟨e9, e8⟩ := hq
  cases e9
  rw [e8]
  show K mX12_expression _ _ 0 0 54 [(3, vi 1), (0, vr 0), (1, vi (fvP pu)), (2, vi (laV pu))] [vi (kwF tp (tk tp n p))] hh
  rw [hkw]
  refine K_istore (ls' := [(4, vi 14), (3, vi 1), (0, vr 0), (1, vi (fvP pu)), (2, vi (laV pu))]) (dt_at dtX12_expression 30 rfl) (by decide) rfl ?_
  refine K_iload (dt_at dtX12_expression 31 rfl) rfl ?_
  refine K_bipush (dt_at dtX12_expression 32 rfl) (by decide) ?_
  refine K_icmp_eq (tgt := 70) (dt_at dtX12_expression 33 rfl) (by decide) (by first | assumption | exact ⟨by omega, by omega⟩) (by first | assumption | exact ⟨by omega, by omega⟩) (fun c3 => absurd c3 (by omega)) (fun c3 => ?_)
  refine K_iload (dt_at dtX12_expression 34 rfl) rfl ?_
  refine K_bipush (dt_at dtX12_expression 35 rfl) (by decide) ?_
  refine K_icmp_ne (tgt := 124) (dt_at dtX12_expression 36 rfl) (by decide) (by first | assumption | exact ⟨by omega, by omega⟩) (by first | assumption | exact ⟨by omega, by omega⟩) (fun c4 => absurd c4 (by omega)) (fun c4 => ?_)
  refine K_aload_n (dt_at dtX12_expression 37 rfl) rfl rfl ?_
  refine K_iload (dt_at dtX12_expression 38 rfl) rfl ?_
  refine K_bipush (dt_at dtX12_expression 39 rfl) (by decide) ?_
  refine K_icmp_ne (tgt := 82) (dt_at dtX12_expression 40 rfl) (by decide) (by first | assumption | exact ⟨by omega, by omega⟩) (by first | assumption | exact ⟨by omega, by omega⟩) (fun c5 => ?_) (fun c5 => absurd c5 (by omega))
  refine K_iconst (dt_at dtX12_expression 43 rfl) ?_
  refine K_callV (M' := mX12_drops) (a := 0) (ci := 12) (As := [vi 1]) (st := []) (dt_at dtX12_expression 44 rfl) (drops_K (s := 1) (V := V) (W := W) ⟨by decide, by decide⟩ (hW) (fun x hx => S.2.2.2.1.2 x (List.mem_append.mpr (Or.inr hx))) (opn_up hV (by omega)) S.2.2.2.1.1 (by omega) (by omega) (by omega)) (show TT 0 = (0, 12) from rfl) rfl wL_X12_214 vX12_drops rfl npX12_drops (by decide) (by decide) (Nat.le_of_ble_eq_true rfl) (by decide) (by decide) GK_E (fun v9 hc1 hq => ?_) (fun E h9 hq => by cases hq.1)
  have hqq2 := hq
  obtain ⟨e9q2, Dq2⟩ := hqq2
  have Sq2 := SR_drop S (by omega) (opn_up hV (by omega : (1 : Int) ≤ _)) Dq2
  cases e9q2
  show K mX12_expression _ _ 0 0 86 [(4, vi 14), (3, vi 1), (0, vr 0), (1, vi (fvP pu)), (2, vi (laV pu))] [] hc1
  refine K_aload_n (dt_at dtX12_expression 45 rfl) rfl rfl ?_
  refine K_iload (dt_at dtX12_expression 46 rfl) rfl ?_
  refine K_bipush (dt_at dtX12_expression 47 rfl) (by decide) ?_
  refine K_icmp_ne (tgt := 98) (dt_at dtX12_expression 48 rfl) (by decide) (by first | assumption | exact ⟨by omega, by omega⟩) (by first | assumption | exact ⟨by omega, by omega⟩) (fun c6 => ?_) (fun c6 => absurd c6 (by omega))
  refine K_iconst (dt_at dtX12_expression 51 rfl) ?_
  refine K_callV (M' := mX12_waitsFor) (a := 0) (ci := 12) (As := [vi 5]) (st := []) (dt_at dtX12_expression 52 rfl) (sX12_waitsFor (v := 5) (by have := SR_bnd Sq2 (by omega); omega)) (show TT 0 = (0, 12) from rfl) rfl wL_X12_205 vX12_waitsFor rfl npX12_waitsFor (by decide) (by decide) (Nat.le_of_ble_eq_true rfl) (by decide) (by decide) GK_E (fun v9 h9 hq => ?_) (fun E h9 hq => by cases hq.1)
  obtain ⟨e9, e8⟩ := hq
  cases e9
  rw [e8]
  show K mX12_expression _ _ 0 0 102 [(4, vi 14), (3, vi 1), (0, vr 0), (1, vi (fvP pu)), (2, vi (laV pu))] [] (sI (sA hc1 16 (hI hc1 0 31) 5) 0 31 (hI hc1 0 31 + 1))
  obtain ⟨hq3, eq3⟩ : ∃ z, z = sA hc1 16 (hI hc1 0 31) 5 := ⟨_, rfl⟩
  rw [← eq3]
  obtain ⟨aq3, fq3, iq3, rq3⟩ := sA_fx eq3
  obtain ⟨hq4, eq4⟩ : ∃ z, z = sI hq3 0 31 (hI hc1 0 31 + 1) := ⟨_, rfl⟩
  rw [← eq4]
  obtain ⟨iq4, fq4, aq4, rq4⟩ := sI_fx eq4
  have Sq4 := SR_push (x := (-10)) Sq2 (Or.inr (by decide)) iq4 (by rw [aq4, aq3, show wcF (-10) = 5 from rfl]) (FL_tr (FL_eA eq3 rfl : FL [16] [(0, 31)] [] hc1 hq3) (FL_eI eq4 rfl))
  have bnhq4 := SR_bnd Sq4 (by omega)
  have tlhq4 : 1 ≤ hI hq4 0 32 := by rw [bnhq4.2.2.2.2.2.1]; show (1 : Int) ≤ ((T.length + 1 : Nat) : Int); omega
  refine K_aload_n (dt_at dtX12_expression 53 rfl) rfl rfl ?_
  refine K_get (a := 0) (ci := 12) (k := 41) (v := vr 17) (dt_at dtX12_expression 54 rfl) (show TT 0 = (0, 12) from rfl) rfl (by decide) wF_X12_68 rfl ?_
  refine K_aload_n (dt_at dtX12_expression 55 rfl) rfl rfl ?_
  refine K_get (a := 0) (ci := 12) (k := 32) (v := vi (hI hq4 0 32)) (dt_at dtX12_expression 56 rfl) (show TT 0 = (0, 12) from rfl) rfl (by decide) wF_X12_199 rfl ?_
  refine K_iconst (dt_at dtX12_expression 57 rfl) ?_
  refine K_zast (dt_at dtX12_expression 58 rfl) (show TT 17 = (3, 9) from rfl) (by omega) (by omega) (by omega) ?_
  obtain ⟨hq5, eq5⟩ : ∃ z, z = sA hq4 17 (hI hq4 0 32) 0 := ⟨_, rfl⟩
  rw [← eq5]
  obtain ⟨aq5, fq5, iq5, rq5⟩ := sA_fx eq5
  refine K_aload_n (dt_at dtX12_expression 59 rfl) rfl rfl ?_
  have Sq5 := SR_test (d := false) (h' := hq5) Sq4 (by rw [eq5]; rfl)
  refine K_callV (M' := mX12_goes) (a := 0) (ci := 12) (As := []) (st := []) (dt_at dtX12_expression 60 rfl) (goes_g Sq5.1) (show TT 0 = (0, 12) from rfl) rfl wL_X12_168 vX12_goes rfl npX12_goes (by decide) (by decide) (Nat.le_of_ble_eq_true rfl) (by decide) (by decide) GK_E (fun v9 hc6 hq => ?_) (fun E h9 hq => by cases hq.1)
  have hqq7 := hq
  obtain ⟨e9q7, Aq7, Gq7⟩ := hqq7
  have Sq7 := SR_goes Sq5 (Or.inr ⟨rfl, hnz⟩) Aq7 Gq7
  cases e9q7
  show K mX12_expression _ _ 0 0 116 [(4, vi 14), (3, vi 1), (0, vr 0), (1, vi (fvP pu)), (2, vi (laV pu))] [] hc6
  refine K_aload_n (dt_at dtX12_expression 61 rfl) rfl rfl ?_
  refine K_iconst (dt_at dtX12_expression 62 rfl) ?_
  refine K_callV (M' := mX12_operand) (a := 0) (ci := 12) (As := [vi 1]) (st := []) (dt_at dtX12_expression 63 rfl) (operand_1 (f := n + 1) hpu Sq7 (by omega)) (show TT 0 = (0, 12) from rfl) rfl wL_X12_217 vX12_operand rfl npX12_operand (by decide) (by decide) (Nat.le_of_ble_eq_true rfl) (by decide) (by decide) GK_E (fun v9 hc8 hq => ?_) (fun E h9 hq => by cases hq.1)
  have hqq9 := hq
  obtain ⟨e9q9, oq9⟩ := hqq9
  cases e9q9
  show K mX12_expression _ _ 0 0 121 [(4, vi 14), (3, vi 1), (0, vr 0), (1, vi (fvP pu)), (2, vi (laV pu))] [] hc8
  refine K_goto (tgt := 337) (dt_at dtX12_expression 64 rfl) (by decide) ?_
  refine K_goto (tgt := 39) (dt_at dtX12_expression 167 rfl) (by decide) ?_
  have g9 := g (n + 1) (by omega)
  have o9 := oq9
  rcases hu : opP tp n pu (n + 1) 0 (tk tp n p).2.2 ((-10) :: W) (false :: T) with e | ⟨q, x9, W9, T9⟩
  · rw [hu] at g9 o9
    exact K_pk [1, 2, 3, 4] (ls' := [(3, vi 1), (0, vr 0), (1, vi (fvP pu)), (2, vi (laV pu))]) rfl (end_39 (pu := pu) o9 g9)
  · rw [hu] at g9 o9
    exact K_pk [1, 2, 3, 4] (ls' := [(3, vi 1), (0, vr 0), (1, vi (fvP pu)), (2, vi (laV pu))]) rfl (g9 _ o9)
set_option maxHeartbeats 4000000 in
set_option maxRecDepth 100000 in
theorem rule_lt {h0 : HP} {tp : Int → Int} {n : Nat} {pu : Int} {a : Nat} {Q : AO → HP → Prop} {p : Nat} {L V W : List Int} {b : Bool} {T : List Bool} (hpu : pu = 0 ∨ pu = 1) (hs : Sg tp (tk tp n p) 60) (hV : opn 4 V) (hW : blk 4 W) (g : KO tp n pu (KLx h0 tp n pu a Q) (KEx h0 tp n a Q) 7 (tk tp n p).2.2 (L ++ V) ((-12) :: W) (true :: T)) : KLx h0 tp n pu a Q p L (V ++ W) (false :: T) := by
  intro hh S
  have hbn := SR_bnd S (by omega)
  have hlV : (V ++ W).length = V.length + W.length := List.length_append
  have hp := S.1.2.2.1
  have hkw : kwF tp (tk tp n p) = -1 := kwF_no (fun i hi z => Sg_w hs z)
  have hnz : (tk tp n p).1 ≠ 0 := by have := hs.1; omega
  have hle := tk_e (tp := tp) hp
  refine K_iload_n (dt_at dtX12_expression 23 rfl) rfl rfl ?_
  refine K_if_eq (tgt := 340) (dt_at dtX12_expression 24 rfl) (by decide) (by first | assumption | exact ⟨by omega, by omega⟩) (fun c1 => absurd c1 (by omega)) (fun c1 => ?_)
  refine K_aload_n (dt_at dtX12_expression 25 rfl) rfl rfl ?_
  refine K_callV (M' := mX12_isGood) (a := 0) (ci := 12) (As := []) (st := []) (dt_at dtX12_expression 26 rfl) (good_t S.1.2.2.2.1) (show TT 0 = (0, 12) from rfl) rfl wL_X12_164 vX12_isGood rfl npX12_isGood (by decide) (by decide) (Nat.le_of_ble_eq_true rfl) (by decide) (by decide) GK_E (fun v9 h9 hq => ?_) (fun E h9 hq => by cases hq.1)
  obtain ⟨e9, e8⟩ := hq
  cases e9
  rw [e8]
  show K mX12_expression _ _ 0 0 47 [(3, vi 1), (0, vr 0), (1, vi (fvP pu)), (2, vi (laV pu))] [vi 1] hh
  refine K_if_eq (tgt := 340) (dt_at dtX12_expression 27 rfl) (by decide) (by first | assumption | exact ⟨by omega, by omega⟩) (fun c2 => absurd c2 (by omega)) (fun c2 => ?_)
  refine K_aload_n (dt_at dtX12_expression 28 rfl) rfl rfl ?_
  refine K_callV (M' := mX12_knownWord) (a := 0) (ci := 12) (As := []) (st := []) (dt_at dtX12_expression 29 rfl) (kw_g S.1) (show TT 0 = (0, 12) from rfl) rfl wL_X12_189 vX12_knownWord rfl npX12_knownWord (by decide) (by decide) (Nat.le_of_ble_eq_true rfl) (by decide) (by decide) GK_E (fun v9 h9 hq => ?_) (fun E h9 hq => by cases hq.1)
  obtain ⟨e9, e8⟩ := hq
  cases e9
  rw [e8]
  show K mX12_expression _ _ 0 0 54 [(3, vi 1), (0, vr 0), (1, vi (fvP pu)), (2, vi (laV pu))] [vi (kwF tp (tk tp n p))] hh
  rw [hkw]
  refine K_istore (ls' := [(4, vi (-1)), (3, vi 1), (0, vr 0), (1, vi (fvP pu)), (2, vi (laV pu))]) (dt_at dtX12_expression 30 rfl) (by decide) rfl ?_
  refine K_iload (dt_at dtX12_expression 31 rfl) rfl ?_
  refine K_bipush (dt_at dtX12_expression 32 rfl) (by decide) ?_
  refine K_icmp_eq (tgt := 70) (dt_at dtX12_expression 33 rfl) (by decide) (by first | assumption | exact ⟨by omega, by omega⟩) (by first | assumption | exact ⟨by omega, by omega⟩) (fun c3 => absurd c3 (by omega)) (fun c3 => ?_)
  refine K_iload (dt_at dtX12_expression 34 rfl) rfl ?_
  refine K_bipush (dt_at dtX12_expression 35 rfl) (by decide) ?_
  refine K_icmp_ne (tgt := 124) (dt_at dtX12_expression 36 rfl) (by decide) (by first | assumption | exact ⟨by omega, by omega⟩) (by first | assumption | exact ⟨by omega, by omega⟩) (fun c4 => ?_) (fun c4 => absurd c4 (by omega))
  refine K_aload_n (dt_at dtX12_expression 65 rfl) rfl rfl ?_
  refine K_bipush (dt_at dtX12_expression 66 rfl) (by decide) ?_
  refine K_callV (M' := mX12_isSign) (a := 0) (ci := 12) (As := [vi 60]) (st := []) (dt_at dtX12_expression 67 rfl) (sg_g (c := 60) S.1 ⟨by decide, by decide⟩) (show TT 0 = (0, 12) from rfl) rfl wL_X12_202 vX12_isSign rfl npX12_isSign (by decide) (by decide) (Nat.le_of_ble_eq_true rfl) (by decide) (by decide) GK_E (fun v9 h9 hq => ?_) (fun E h9 hq => by cases hq.1)
  obtain ⟨e9, e8⟩ := hq
  cases e9
  rw [e8]
  show K mX12_expression _ _ 0 0 130 [(4, vi (-1)), (3, vi 1), (0, vr 0), (1, vi (fvP pu)), (2, vi (laV pu))] [vi (if Sg tp (tk tp n p) 60 then 1 else 0)] hh
  rw [if_pos hs]
  refine K_if_ne (tgt := 142) (dt_at dtX12_expression 68 rfl) (by decide) (by first | assumption | exact ⟨by omega, by omega⟩) (fun c5 => ?_) (fun c5 => absurd c5 (by omega))
  have th := TLt_hd S.2.2.2.2.1.1
  have tl0 : 1 ≤ hI hh 0 32 := by rw [hbn.2.2.2.2.2.1]; show (1 : Int) ≤ ((T.length + 1 : Nat) : Int); omega
  have th0 : hA hh 17 (hI hh 0 32) = 0 := th
  refine K_aload_n (dt_at dtX12_expression 73 rfl) rfl rfl ?_
  refine K_get (a := 0) (ci := 12) (k := 41) (v := vr 17) (dt_at dtX12_expression 74 rfl) (show TT 0 = (0, 12) from rfl) rfl (by decide) wF_X12_68 rfl ?_
  refine K_aload_n (dt_at dtX12_expression 75 rfl) rfl rfl ?_
  refine K_get (a := 0) (ci := 12) (k := 32) (v := vi (hI hh 0 32)) (dt_at dtX12_expression 76 rfl) (show TT 0 = (0, 12) from rfl) rfl (by decide) wF_X12_199 rfl ?_
  refine K_zald (dt_at dtX12_expression 77 rfl) (show TT 17 = (3, 9) from rfl) (by omega) (by omega) ?_
  rw [th0]
  refine K_if_ne (tgt := 201) (dt_at dtX12_expression 78 rfl) (by decide) (by first | assumption | exact ⟨by omega, by omega⟩) (fun c6 => absurd c6 (by omega)) (fun c6 => ?_)
  refine K_aload_n (dt_at dtX12_expression 79 rfl) rfl rfl ?_
  refine K_iconst (dt_at dtX12_expression 80 rfl) ?_
  refine K_callV (M' := mX12_drops) (a := 0) (ci := 12) (As := [vi 4]) (st := []) (dt_at dtX12_expression 81 rfl) (drops_K (s := 4) (V := V) (W := W) ⟨by decide, by decide⟩ (hW) (fun x hx => S.2.2.2.1.2 x (List.mem_append.mpr (Or.inr hx))) (opn_up hV (by omega)) S.2.2.2.1.1 (by omega) (by omega) (by omega)) (show TT 0 = (0, 12) from rfl) rfl wL_X12_214 vX12_drops rfl npX12_drops (by decide) (by decide) (Nat.le_of_ble_eq_true rfl) (by decide) (by decide) GK_E (fun v9 hc1 hq => ?_) (fun E h9 hq => by cases hq.1)
  have hqq2 := hq
  obtain ⟨e9q2, Dq2⟩ := hqq2
  have Sq2 := SR_drop S (by omega) (opn_up hV (by omega : (4 : Int) ≤ _)) Dq2
  cases e9q2
  show K mX12_expression _ _ 0 0 159 [(4, vi (-1)), (3, vi 1), (0, vr 0), (1, vi (fvP pu)), (2, vi (laV pu))] [] hc1
  refine K_aload_n (dt_at dtX12_expression 82 rfl) rfl rfl ?_
  refine K_aload_n (dt_at dtX12_expression 83 rfl) rfl rfl ?_
  refine K_bipush (dt_at dtX12_expression 84 rfl) (by decide) ?_
  refine K_callV (M' := mX12_isSign) (a := 0) (ci := 12) (As := [vi 60]) (st := [vr 0]) (dt_at dtX12_expression 85 rfl) (sg_g (c := 60) Sq2.1 ⟨by decide, by decide⟩) (show TT 0 = (0, 12) from rfl) rfl wL_X12_202 vX12_isSign rfl npX12_isSign (by decide) (by decide) (Nat.le_of_ble_eq_true rfl) (by decide) (by decide) GK_E (fun v9 h9 hq => ?_) (fun E h9 hq => by cases hq.1)
  obtain ⟨e9, e8⟩ := hq
  cases e9
  rw [e8]
  show K mX12_expression _ _ 0 0 166 [(4, vi (-1)), (3, vi 1), (0, vr 0), (1, vi (fvP pu)), (2, vi (laV pu))] [vi (if Sg tp (tk tp n p) 60 then 1 else 0), vr 0] hc1
  rw [if_pos hs]
  refine K_if_eq (tgt := 174) (dt_at dtX12_expression 86 rfl) (by decide) (by first | assumption | exact ⟨by omega, by omega⟩) (fun c7 => absurd c7 (by omega)) (fun c7 => ?_)
  refine K_bipush (dt_at dtX12_expression 87 rfl) (by decide) ?_
  refine K_goto (tgt := 176) (dt_at dtX12_expression 88 rfl) (by decide) ?_
  refine K_callV (M' := mX12_waitsFor) (a := 0) (ci := 12) (As := [vi 6]) (st := []) (dt_at dtX12_expression 90 rfl) (sX12_waitsFor (v := 6) (by have := SR_bnd Sq2 (by omega); omega)) (show TT 0 = (0, 12) from rfl) rfl wL_X12_205 vX12_waitsFor rfl npX12_waitsFor (by decide) (by decide) (Nat.le_of_ble_eq_true rfl) (by decide) (by decide) GK_E (fun v9 h9 hq => ?_) (fun E h9 hq => by cases hq.1)
  obtain ⟨e9, e8⟩ := hq
  cases e9
  rw [e8]
  show K mX12_expression _ _ 0 0 179 [(4, vi (-1)), (3, vi 1), (0, vr 0), (1, vi (fvP pu)), (2, vi (laV pu))] [] (sI (sA hc1 16 (hI hc1 0 31) 6) 0 31 (hI hc1 0 31 + 1))
  obtain ⟨hq3, eq3⟩ : ∃ z, z = sA hc1 16 (hI hc1 0 31) 6 := ⟨_, rfl⟩
  rw [← eq3]
  obtain ⟨aq3, fq3, iq3, rq3⟩ := sA_fx eq3
  obtain ⟨hq4, eq4⟩ : ∃ z, z = sI hq3 0 31 (hI hc1 0 31 + 1) := ⟨_, rfl⟩
  rw [← eq4]
  obtain ⟨iq4, fq4, aq4, rq4⟩ := sI_fx eq4
  have Sq4 := SR_push (x := (-12)) Sq2 (Or.inr (by decide)) iq4 (by rw [aq4, aq3, show wcF (-12) = 6 from rfl]) (FL_tr (FL_eA eq3 rfl : FL [16] [(0, 31)] [] hc1 hq3) (FL_eI eq4 rfl))
  have bnhq4 := SR_bnd Sq4 (by omega)
  have tlhq4 : 1 ≤ hI hq4 0 32 := by rw [bnhq4.2.2.2.2.2.1]; show (1 : Int) ≤ ((T.length + 1 : Nat) : Int); omega
  refine K_aload_n (dt_at dtX12_expression 91 rfl) rfl rfl ?_
  refine K_get (a := 0) (ci := 12) (k := 41) (v := vr 17) (dt_at dtX12_expression 92 rfl) (show TT 0 = (0, 12) from rfl) rfl (by decide) wF_X12_68 rfl ?_
  refine K_aload_n (dt_at dtX12_expression 93 rfl) rfl rfl ?_
  refine K_get (a := 0) (ci := 12) (k := 32) (v := vi (hI hq4 0 32)) (dt_at dtX12_expression 94 rfl) (show TT 0 = (0, 12) from rfl) rfl (by decide) wF_X12_199 rfl ?_
  refine K_iconst (dt_at dtX12_expression 95 rfl) ?_
  refine K_zast (dt_at dtX12_expression 96 rfl) (show TT 17 = (3, 9) from rfl) (by omega) (by omega) (by omega) ?_
  obtain ⟨hq5, eq5⟩ : ∃ z, z = sA hq4 17 (hI hq4 0 32) 1 := ⟨_, rfl⟩
  rw [← eq5]
  obtain ⟨aq5, fq5, iq5, rq5⟩ := sA_fx eq5
  refine K_aload_n (dt_at dtX12_expression 97 rfl) rfl rfl ?_
  have Sq5 := SR_test (d := true) (h' := hq5) Sq4 (by rw [eq5]; rfl)
  refine K_callV (M' := mX12_goes) (a := 0) (ci := 12) (As := []) (st := []) (dt_at dtX12_expression 98 rfl) (goes_g Sq5.1) (show TT 0 = (0, 12) from rfl) rfl wL_X12_168 vX12_goes rfl npX12_goes (by decide) (by decide) (Nat.le_of_ble_eq_true rfl) (by decide) (by decide) GK_E (fun v9 hc6 hq => ?_) (fun E h9 hq => by cases hq.1)
  have hqq7 := hq
  obtain ⟨e9q7, Aq7, Gq7⟩ := hqq7
  have Sq7 := SR_goes Sq5 (Or.inr ⟨rfl, hnz⟩) Aq7 Gq7
  cases e9q7
  show K mX12_expression _ _ 0 0 193 [(4, vi (-1)), (3, vi 1), (0, vr 0), (1, vi (fvP pu)), (2, vi (laV pu))] [] hc6
  refine K_aload_n (dt_at dtX12_expression 99 rfl) rfl rfl ?_
  refine K_iconst (dt_at dtX12_expression 100 rfl) ?_
  refine K_callV (M' := mX12_operand) (a := 0) (ci := 12) (As := [vi 0]) (st := []) (dt_at dtX12_expression 101 rfl) (operand_0 (f := n + 1) hpu Sq7 (by omega)) (show TT 0 = (0, 12) from rfl) rfl wL_X12_217 vX12_operand rfl npX12_operand (by decide) (by decide) (Nat.le_of_ble_eq_true rfl) (by decide) (by decide) GK_E (fun v9 hc8 hq => ?_) (fun E h9 hq => by cases hq.1)
  have hqq9 := hq
  obtain ⟨e9q9, oq9⟩ := hqq9
  cases e9q9
  show K mX12_expression _ _ 0 0 198 [(4, vi (-1)), (3, vi 1), (0, vr 0), (1, vi (fvP pu)), (2, vi (laV pu))] [] hc8
  refine K_goto (tgt := 337) (dt_at dtX12_expression 102 rfl) (by decide) ?_
  refine K_goto (tgt := 39) (dt_at dtX12_expression 167 rfl) (by decide) ?_
  have g9 := g (n + 1) (by omega)
  have o9 := oq9
  rcases hu : opP tp n pu (n + 1) 7 (tk tp n p).2.2 ((-12) :: W) (true :: T) with e | ⟨q, x9, W9, T9⟩
  · rw [hu] at g9 o9
    exact K_pk [1, 2, 3, 4] (ls' := [(3, vi 1), (0, vr 0), (1, vi (fvP pu)), (2, vi (laV pu))]) rfl (end_39 (pu := pu) o9 g9)
  · rw [hu] at g9 o9
    exact K_pk [1, 2, 3, 4] (ls' := [(3, vi 1), (0, vr 0), (1, vi (fvP pu)), (2, vi (laV pu))]) rfl (g9 _ o9)
set_option maxHeartbeats 4000000 in
set_option maxRecDepth 100000 in
theorem rule_eq {h0 : HP} {tp : Int → Int} {n : Nat} {pu : Int} {a : Nat} {Q : AO → HP → Prop} {p : Nat} {L V W : List Int} {b : Bool} {T : List Bool} (hpu : pu = 0 ∨ pu = 1) (hs : Sg tp (tk tp n p) 61) (hV : opn 4 V) (hW : blk 4 W) (g : KO tp n pu (KLx h0 tp n pu a Q) (KEx h0 tp n a Q) 7 (tk tp n p).2.2 (L ++ V) ((-13) :: W) (true :: T)) : KLx h0 tp n pu a Q p L (V ++ W) (false :: T) := by
  intro hh S
  have hbn := SR_bnd S (by omega)
  have hlV : (V ++ W).length = V.length + W.length := List.length_append
  have hp := S.1.2.2.1
  have hkw : kwF tp (tk tp n p) = -1 := kwF_no (fun i hi z => Sg_w hs z)
  have hnz : (tk tp n p).1 ≠ 0 := by have := hs.1; omega
  have hle := tk_e (tp := tp) hp
  refine K_iload_n (dt_at dtX12_expression 23 rfl) rfl rfl ?_
  refine K_if_eq (tgt := 340) (dt_at dtX12_expression 24 rfl) (by decide) (by first | assumption | exact ⟨by omega, by omega⟩) (fun c1 => absurd c1 (by omega)) (fun c1 => ?_)
  refine K_aload_n (dt_at dtX12_expression 25 rfl) rfl rfl ?_
  refine K_callV (M' := mX12_isGood) (a := 0) (ci := 12) (As := []) (st := []) (dt_at dtX12_expression 26 rfl) (good_t S.1.2.2.2.1) (show TT 0 = (0, 12) from rfl) rfl wL_X12_164 vX12_isGood rfl npX12_isGood (by decide) (by decide) (Nat.le_of_ble_eq_true rfl) (by decide) (by decide) GK_E (fun v9 h9 hq => ?_) (fun E h9 hq => by cases hq.1)
  obtain ⟨e9, e8⟩ := hq
  cases e9
  rw [e8]
  show K mX12_expression _ _ 0 0 47 [(3, vi 1), (0, vr 0), (1, vi (fvP pu)), (2, vi (laV pu))] [vi 1] hh
  refine K_if_eq (tgt := 340) (dt_at dtX12_expression 27 rfl) (by decide) (by first | assumption | exact ⟨by omega, by omega⟩) (fun c2 => absurd c2 (by omega)) (fun c2 => ?_)
  refine K_aload_n (dt_at dtX12_expression 28 rfl) rfl rfl ?_
  refine K_callV (M' := mX12_knownWord) (a := 0) (ci := 12) (As := []) (st := []) (dt_at dtX12_expression 29 rfl) (kw_g S.1) (show TT 0 = (0, 12) from rfl) rfl wL_X12_189 vX12_knownWord rfl npX12_knownWord (by decide) (by decide) (Nat.le_of_ble_eq_true rfl) (by decide) (by decide) GK_E (fun v9 h9 hq => ?_) (fun E h9 hq => by cases hq.1)
  obtain ⟨e9, e8⟩ := hq
  cases e9
  rw [e8]
  show K mX12_expression _ _ 0 0 54 [(3, vi 1), (0, vr 0), (1, vi (fvP pu)), (2, vi (laV pu))] [vi (kwF tp (tk tp n p))] hh
  rw [hkw]
  refine K_istore (ls' := [(4, vi (-1)), (3, vi 1), (0, vr 0), (1, vi (fvP pu)), (2, vi (laV pu))]) (dt_at dtX12_expression 30 rfl) (by decide) rfl ?_
  refine K_iload (dt_at dtX12_expression 31 rfl) rfl ?_
  refine K_bipush (dt_at dtX12_expression 32 rfl) (by decide) ?_
  refine K_icmp_eq (tgt := 70) (dt_at dtX12_expression 33 rfl) (by decide) (by first | assumption | exact ⟨by omega, by omega⟩) (by first | assumption | exact ⟨by omega, by omega⟩) (fun c3 => absurd c3 (by omega)) (fun c3 => ?_)
  refine K_iload (dt_at dtX12_expression 34 rfl) rfl ?_
  refine K_bipush (dt_at dtX12_expression 35 rfl) (by decide) ?_
  refine K_icmp_ne (tgt := 124) (dt_at dtX12_expression 36 rfl) (by decide) (by first | assumption | exact ⟨by omega, by omega⟩) (by first | assumption | exact ⟨by omega, by omega⟩) (fun c4 => ?_) (fun c4 => absurd c4 (by omega))
  refine K_aload_n (dt_at dtX12_expression 65 rfl) rfl rfl ?_
  refine K_bipush (dt_at dtX12_expression 66 rfl) (by decide) ?_
  refine K_callV (M' := mX12_isSign) (a := 0) (ci := 12) (As := [vi 60]) (st := []) (dt_at dtX12_expression 67 rfl) (sg_g (c := 60) S.1 ⟨by decide, by decide⟩) (show TT 0 = (0, 12) from rfl) rfl wL_X12_202 vX12_isSign rfl npX12_isSign (by decide) (by decide) (Nat.le_of_ble_eq_true rfl) (by decide) (by decide) GK_E (fun v9 h9 hq => ?_) (fun E h9 hq => by cases hq.1)
  obtain ⟨e9, e8⟩ := hq
  cases e9
  rw [e8]
  show K mX12_expression _ _ 0 0 130 [(4, vi (-1)), (3, vi 1), (0, vr 0), (1, vi (fvP pu)), (2, vi (laV pu))] [vi (if Sg tp (tk tp n p) 60 then 1 else 0)] hh
  rw [if_neg (fun z => absurd (hs.2.symm.trans z.2) (by decide))]
  refine K_if_ne (tgt := 142) (dt_at dtX12_expression 68 rfl) (by decide) (by first | assumption | exact ⟨by omega, by omega⟩) (fun c5 => absurd c5 (by omega)) (fun c5 => ?_)
  refine K_aload_n (dt_at dtX12_expression 69 rfl) rfl rfl ?_
  refine K_bipush (dt_at dtX12_expression 70 rfl) (by decide) ?_
  refine K_callV (M' := mX12_isSign) (a := 0) (ci := 12) (As := [vi 61]) (st := []) (dt_at dtX12_expression 71 rfl) (sg_g (c := 61) S.1 ⟨by decide, by decide⟩) (show TT 0 = (0, 12) from rfl) rfl wL_X12_202 vX12_isSign rfl npX12_isSign (by decide) (by decide) (Nat.le_of_ble_eq_true rfl) (by decide) (by decide) GK_E (fun v9 h9 hq => ?_) (fun E h9 hq => by cases hq.1)
  obtain ⟨e9, e8⟩ := hq
  cases e9
  rw [e8]
  show K mX12_expression _ _ 0 0 139 [(4, vi (-1)), (3, vi 1), (0, vr 0), (1, vi (fvP pu)), (2, vi (laV pu))] [vi (if Sg tp (tk tp n p) 61 then 1 else 0)] hh
  rw [if_pos hs]
  refine K_if_eq (tgt := 201) (dt_at dtX12_expression 72 rfl) (by decide) (by first | assumption | exact ⟨by omega, by omega⟩) (fun c6 => absurd c6 (by omega)) (fun c6 => ?_)
  have th := TLt_hd S.2.2.2.2.1.1
  have tl0 : 1 ≤ hI hh 0 32 := by rw [hbn.2.2.2.2.2.1]; show (1 : Int) ≤ ((T.length + 1 : Nat) : Int); omega
  have th0 : hA hh 17 (hI hh 0 32) = 0 := th
  refine K_aload_n (dt_at dtX12_expression 73 rfl) rfl rfl ?_
  refine K_get (a := 0) (ci := 12) (k := 41) (v := vr 17) (dt_at dtX12_expression 74 rfl) (show TT 0 = (0, 12) from rfl) rfl (by decide) wF_X12_68 rfl ?_
  refine K_aload_n (dt_at dtX12_expression 75 rfl) rfl rfl ?_
  refine K_get (a := 0) (ci := 12) (k := 32) (v := vi (hI hh 0 32)) (dt_at dtX12_expression 76 rfl) (show TT 0 = (0, 12) from rfl) rfl (by decide) wF_X12_199 rfl ?_
  refine K_zald (dt_at dtX12_expression 77 rfl) (show TT 17 = (3, 9) from rfl) (by omega) (by omega) ?_
  rw [th0]
  refine K_if_ne (tgt := 201) (dt_at dtX12_expression 78 rfl) (by decide) (by first | assumption | exact ⟨by omega, by omega⟩) (fun c7 => absurd c7 (by omega)) (fun c7 => ?_)
  refine K_aload_n (dt_at dtX12_expression 79 rfl) rfl rfl ?_
  refine K_iconst (dt_at dtX12_expression 80 rfl) ?_
  refine K_callV (M' := mX12_drops) (a := 0) (ci := 12) (As := [vi 4]) (st := []) (dt_at dtX12_expression 81 rfl) (drops_K (s := 4) (V := V) (W := W) ⟨by decide, by decide⟩ (hW) (fun x hx => S.2.2.2.1.2 x (List.mem_append.mpr (Or.inr hx))) (opn_up hV (by omega)) S.2.2.2.1.1 (by omega) (by omega) (by omega)) (show TT 0 = (0, 12) from rfl) rfl wL_X12_214 vX12_drops rfl npX12_drops (by decide) (by decide) (Nat.le_of_ble_eq_true rfl) (by decide) (by decide) GK_E (fun v9 hc1 hq => ?_) (fun E h9 hq => by cases hq.1)
  have hqq2 := hq
  obtain ⟨e9q2, Dq2⟩ := hqq2
  have Sq2 := SR_drop S (by omega) (opn_up hV (by omega : (4 : Int) ≤ _)) Dq2
  cases e9q2
  show K mX12_expression _ _ 0 0 159 [(4, vi (-1)), (3, vi 1), (0, vr 0), (1, vi (fvP pu)), (2, vi (laV pu))] [] hc1
  refine K_aload_n (dt_at dtX12_expression 82 rfl) rfl rfl ?_
  refine K_aload_n (dt_at dtX12_expression 83 rfl) rfl rfl ?_
  refine K_bipush (dt_at dtX12_expression 84 rfl) (by decide) ?_
  refine K_callV (M' := mX12_isSign) (a := 0) (ci := 12) (As := [vi 60]) (st := [vr 0]) (dt_at dtX12_expression 85 rfl) (sg_g (c := 60) Sq2.1 ⟨by decide, by decide⟩) (show TT 0 = (0, 12) from rfl) rfl wL_X12_202 vX12_isSign rfl npX12_isSign (by decide) (by decide) (Nat.le_of_ble_eq_true rfl) (by decide) (by decide) GK_E (fun v9 h9 hq => ?_) (fun E h9 hq => by cases hq.1)
  obtain ⟨e9, e8⟩ := hq
  cases e9
  rw [e8]
  show K mX12_expression _ _ 0 0 166 [(4, vi (-1)), (3, vi 1), (0, vr 0), (1, vi (fvP pu)), (2, vi (laV pu))] [vi (if Sg tp (tk tp n p) 60 then 1 else 0), vr 0] hc1
  rw [if_neg (fun z => absurd (hs.2.symm.trans z.2) (by decide))]
  refine K_if_eq (tgt := 174) (dt_at dtX12_expression 86 rfl) (by decide) (by first | assumption | exact ⟨by omega, by omega⟩) (fun c8 => ?_) (fun c8 => absurd c8 (by omega))
  refine K_bipush (dt_at dtX12_expression 89 rfl) (by decide) ?_
  refine K_callV (M' := mX12_waitsFor) (a := 0) (ci := 12) (As := [vi 7]) (st := []) (dt_at dtX12_expression 90 rfl) (sX12_waitsFor (v := 7) (by have := SR_bnd Sq2 (by omega); omega)) (show TT 0 = (0, 12) from rfl) rfl wL_X12_205 vX12_waitsFor rfl npX12_waitsFor (by decide) (by decide) (Nat.le_of_ble_eq_true rfl) (by decide) (by decide) GK_E (fun v9 h9 hq => ?_) (fun E h9 hq => by cases hq.1)
  obtain ⟨e9, e8⟩ := hq
  cases e9
  rw [e8]
  show K mX12_expression _ _ 0 0 179 [(4, vi (-1)), (3, vi 1), (0, vr 0), (1, vi (fvP pu)), (2, vi (laV pu))] [] (sI (sA hc1 16 (hI hc1 0 31) 7) 0 31 (hI hc1 0 31 + 1))
  obtain ⟨hq3, eq3⟩ : ∃ z, z = sA hc1 16 (hI hc1 0 31) 7 := ⟨_, rfl⟩
  rw [← eq3]
  obtain ⟨aq3, fq3, iq3, rq3⟩ := sA_fx eq3
  obtain ⟨hq4, eq4⟩ : ∃ z, z = sI hq3 0 31 (hI hc1 0 31 + 1) := ⟨_, rfl⟩
  rw [← eq4]
  obtain ⟨iq4, fq4, aq4, rq4⟩ := sI_fx eq4
  have Sq4 := SR_push (x := (-13)) Sq2 (Or.inr (by decide)) iq4 (by rw [aq4, aq3, show wcF (-13) = 7 from rfl]) (FL_tr (FL_eA eq3 rfl : FL [16] [(0, 31)] [] hc1 hq3) (FL_eI eq4 rfl))
  have bnhq4 := SR_bnd Sq4 (by omega)
  have tlhq4 : 1 ≤ hI hq4 0 32 := by rw [bnhq4.2.2.2.2.2.1]; show (1 : Int) ≤ ((T.length + 1 : Nat) : Int); omega
  refine K_aload_n (dt_at dtX12_expression 91 rfl) rfl rfl ?_
  refine K_get (a := 0) (ci := 12) (k := 41) (v := vr 17) (dt_at dtX12_expression 92 rfl) (show TT 0 = (0, 12) from rfl) rfl (by decide) wF_X12_68 rfl ?_
  refine K_aload_n (dt_at dtX12_expression 93 rfl) rfl rfl ?_
  refine K_get (a := 0) (ci := 12) (k := 32) (v := vi (hI hq4 0 32)) (dt_at dtX12_expression 94 rfl) (show TT 0 = (0, 12) from rfl) rfl (by decide) wF_X12_199 rfl ?_
  refine K_iconst (dt_at dtX12_expression 95 rfl) ?_
  refine K_zast (dt_at dtX12_expression 96 rfl) (show TT 17 = (3, 9) from rfl) (by omega) (by omega) (by omega) ?_
  obtain ⟨hq5, eq5⟩ : ∃ z, z = sA hq4 17 (hI hq4 0 32) 1 := ⟨_, rfl⟩
  rw [← eq5]
  obtain ⟨aq5, fq5, iq5, rq5⟩ := sA_fx eq5
  refine K_aload_n (dt_at dtX12_expression 97 rfl) rfl rfl ?_
  have Sq5 := SR_test (d := true) (h' := hq5) Sq4 (by rw [eq5]; rfl)
  refine K_callV (M' := mX12_goes) (a := 0) (ci := 12) (As := []) (st := []) (dt_at dtX12_expression 98 rfl) (goes_g Sq5.1) (show TT 0 = (0, 12) from rfl) rfl wL_X12_168 vX12_goes rfl npX12_goes (by decide) (by decide) (Nat.le_of_ble_eq_true rfl) (by decide) (by decide) GK_E (fun v9 hc6 hq => ?_) (fun E h9 hq => by cases hq.1)
  have hqq7 := hq
  obtain ⟨e9q7, Aq7, Gq7⟩ := hqq7
  have Sq7 := SR_goes Sq5 (Or.inr ⟨rfl, hnz⟩) Aq7 Gq7
  cases e9q7
  show K mX12_expression _ _ 0 0 193 [(4, vi (-1)), (3, vi 1), (0, vr 0), (1, vi (fvP pu)), (2, vi (laV pu))] [] hc6
  refine K_aload_n (dt_at dtX12_expression 99 rfl) rfl rfl ?_
  refine K_iconst (dt_at dtX12_expression 100 rfl) ?_
  refine K_callV (M' := mX12_operand) (a := 0) (ci := 12) (As := [vi 0]) (st := []) (dt_at dtX12_expression 101 rfl) (operand_0 (f := n + 1) hpu Sq7 (by omega)) (show TT 0 = (0, 12) from rfl) rfl wL_X12_217 vX12_operand rfl npX12_operand (by decide) (by decide) (Nat.le_of_ble_eq_true rfl) (by decide) (by decide) GK_E (fun v9 hc8 hq => ?_) (fun E h9 hq => by cases hq.1)
  have hqq9 := hq
  obtain ⟨e9q9, oq9⟩ := hqq9
  cases e9q9
  show K mX12_expression _ _ 0 0 198 [(4, vi (-1)), (3, vi 1), (0, vr 0), (1, vi (fvP pu)), (2, vi (laV pu))] [] hc8
  refine K_goto (tgt := 337) (dt_at dtX12_expression 102 rfl) (by decide) ?_
  refine K_goto (tgt := 39) (dt_at dtX12_expression 167 rfl) (by decide) ?_
  have g9 := g (n + 1) (by omega)
  have o9 := oq9
  rcases hu : opP tp n pu (n + 1) 7 (tk tp n p).2.2 ((-13) :: W) (true :: T) with e | ⟨q, x9, W9, T9⟩
  · rw [hu] at g9 o9
    exact K_pk [1, 2, 3, 4] (ls' := [(3, vi 1), (0, vr 0), (1, vi (fvP pu)), (2, vi (laV pu))]) rfl (end_39 (pu := pu) o9 g9)
  · rw [hu] at g9 o9
    exact K_pk [1, 2, 3, 4] (ls' := [(3, vi 1), (0, vr 0), (1, vi (fvP pu)), (2, vi (laV pu))]) rfl (g9 _ o9)
set_option maxHeartbeats 4000000 in
set_option maxRecDepth 100000 in
theorem rule_plus {h0 : HP} {tp : Int → Int} {n : Nat} {pu : Int} {a : Nat} {Q : AO → HP → Prop} {p : Nat} {L V W : List Int} {b : Bool} {T : List Bool} (hpu : pu = 0 ∨ pu = 1) (hs : Sg tp (tk tp n p) 43) (hV : opn 5 V) (hW : blk 5 W) (g : KO tp n pu (KLx h0 tp n pu a Q) (KEx h0 tp n a Q) 7 (tk tp n p).2.2 (L ++ V) ((-14) :: W) (b :: T)) : KLx h0 tp n pu a Q p L (V ++ W) (b :: T) := by
  intro hh S
  have hbn := SR_bnd S (by omega)
  have hlV : (V ++ W).length = V.length + W.length := List.length_append
  have hp := S.1.2.2.1
  have hkw : kwF tp (tk tp n p) = -1 := kwF_no (fun i hi z => Sg_w hs z)
  have hnz : (tk tp n p).1 ≠ 0 := by have := hs.1; omega
  have hle := tk_e (tp := tp) hp
  refine K_iload_n (dt_at dtX12_expression 23 rfl) rfl rfl ?_
  refine K_if_eq (tgt := 340) (dt_at dtX12_expression 24 rfl) (by decide) (by first | assumption | exact ⟨by omega, by omega⟩) (fun c1 => absurd c1 (by omega)) (fun c1 => ?_)
  refine K_aload_n (dt_at dtX12_expression 25 rfl) rfl rfl ?_
  refine K_callV (M' := mX12_isGood) (a := 0) (ci := 12) (As := []) (st := []) (dt_at dtX12_expression 26 rfl) (good_t S.1.2.2.2.1) (show TT 0 = (0, 12) from rfl) rfl wL_X12_164 vX12_isGood rfl npX12_isGood (by decide) (by decide) (Nat.le_of_ble_eq_true rfl) (by decide) (by decide) GK_E (fun v9 h9 hq => ?_) (fun E h9 hq => by cases hq.1)
  obtain ⟨e9, e8⟩ := hq
  cases e9
  rw [e8]
  show K mX12_expression _ _ 0 0 47 [(3, vi 1), (0, vr 0), (1, vi (fvP pu)), (2, vi (laV pu))] [vi 1] hh
  refine K_if_eq (tgt := 340) (dt_at dtX12_expression 27 rfl) (by decide) (by first | assumption | exact ⟨by omega, by omega⟩) (fun c2 => absurd c2 (by omega)) (fun c2 => ?_)
  refine K_aload_n (dt_at dtX12_expression 28 rfl) rfl rfl ?_
  refine K_callV (M' := mX12_knownWord) (a := 0) (ci := 12) (As := []) (st := []) (dt_at dtX12_expression 29 rfl) (kw_g S.1) (show TT 0 = (0, 12) from rfl) rfl wL_X12_189 vX12_knownWord rfl npX12_knownWord (by decide) (by decide) (Nat.le_of_ble_eq_true rfl) (by decide) (by decide) GK_E (fun v9 h9 hq => ?_) (fun E h9 hq => by cases hq.1)
  obtain ⟨e9, e8⟩ := hq
  cases e9
  rw [e8]
  show K mX12_expression _ _ 0 0 54 [(3, vi 1), (0, vr 0), (1, vi (fvP pu)), (2, vi (laV pu))] [vi (kwF tp (tk tp n p))] hh
  rw [hkw]
  refine K_istore (ls' := [(4, vi (-1)), (3, vi 1), (0, vr 0), (1, vi (fvP pu)), (2, vi (laV pu))]) (dt_at dtX12_expression 30 rfl) (by decide) rfl ?_
  refine K_iload (dt_at dtX12_expression 31 rfl) rfl ?_
  refine K_bipush (dt_at dtX12_expression 32 rfl) (by decide) ?_
  refine K_icmp_eq (tgt := 70) (dt_at dtX12_expression 33 rfl) (by decide) (by first | assumption | exact ⟨by omega, by omega⟩) (by first | assumption | exact ⟨by omega, by omega⟩) (fun c3 => absurd c3 (by omega)) (fun c3 => ?_)
  refine K_iload (dt_at dtX12_expression 34 rfl) rfl ?_
  refine K_bipush (dt_at dtX12_expression 35 rfl) (by decide) ?_
  refine K_icmp_ne (tgt := 124) (dt_at dtX12_expression 36 rfl) (by decide) (by first | assumption | exact ⟨by omega, by omega⟩) (by first | assumption | exact ⟨by omega, by omega⟩) (fun c4 => ?_) (fun c4 => absurd c4 (by omega))
  refine K_aload_n (dt_at dtX12_expression 65 rfl) rfl rfl ?_
  refine K_bipush (dt_at dtX12_expression 66 rfl) (by decide) ?_
  refine K_callV (M' := mX12_isSign) (a := 0) (ci := 12) (As := [vi 60]) (st := []) (dt_at dtX12_expression 67 rfl) (sg_g (c := 60) S.1 ⟨by decide, by decide⟩) (show TT 0 = (0, 12) from rfl) rfl wL_X12_202 vX12_isSign rfl npX12_isSign (by decide) (by decide) (Nat.le_of_ble_eq_true rfl) (by decide) (by decide) GK_E (fun v9 h9 hq => ?_) (fun E h9 hq => by cases hq.1)
  obtain ⟨e9, e8⟩ := hq
  cases e9
  rw [e8]
  show K mX12_expression _ _ 0 0 130 [(4, vi (-1)), (3, vi 1), (0, vr 0), (1, vi (fvP pu)), (2, vi (laV pu))] [vi (if Sg tp (tk tp n p) 60 then 1 else 0)] hh
  rw [if_neg (fun z => absurd (hs.2.symm.trans z.2) (by decide))]
  refine K_if_ne (tgt := 142) (dt_at dtX12_expression 68 rfl) (by decide) (by first | assumption | exact ⟨by omega, by omega⟩) (fun c5 => absurd c5 (by omega)) (fun c5 => ?_)
  refine K_aload_n (dt_at dtX12_expression 69 rfl) rfl rfl ?_
  refine K_bipush (dt_at dtX12_expression 70 rfl) (by decide) ?_
  refine K_callV (M' := mX12_isSign) (a := 0) (ci := 12) (As := [vi 61]) (st := []) (dt_at dtX12_expression 71 rfl) (sg_g (c := 61) S.1 ⟨by decide, by decide⟩) (show TT 0 = (0, 12) from rfl) rfl wL_X12_202 vX12_isSign rfl npX12_isSign (by decide) (by decide) (Nat.le_of_ble_eq_true rfl) (by decide) (by decide) GK_E (fun v9 h9 hq => ?_) (fun E h9 hq => by cases hq.1)
  obtain ⟨e9, e8⟩ := hq
  cases e9
  rw [e8]
  show K mX12_expression _ _ 0 0 139 [(4, vi (-1)), (3, vi 1), (0, vr 0), (1, vi (fvP pu)), (2, vi (laV pu))] [vi (if Sg tp (tk tp n p) 61 then 1 else 0)] hh
  rw [if_neg (fun z => absurd (hs.2.symm.trans z.2) (by decide))]
  refine K_if_eq (tgt := 201) (dt_at dtX12_expression 72 rfl) (by decide) (by first | assumption | exact ⟨by omega, by omega⟩) (fun c6 => ?_) (fun c6 => absurd c6 (by omega))
  refine K_aload_n (dt_at dtX12_expression 103 rfl) rfl rfl ?_
  refine K_bipush (dt_at dtX12_expression 104 rfl) (by decide) ?_
  refine K_callV (M' := mX12_isSign) (a := 0) (ci := 12) (As := [vi 43]) (st := []) (dt_at dtX12_expression 105 rfl) (sg_g (c := 43) S.1 ⟨by decide, by decide⟩) (show TT 0 = (0, 12) from rfl) rfl wL_X12_202 vX12_isSign rfl npX12_isSign (by decide) (by decide) (Nat.le_of_ble_eq_true rfl) (by decide) (by decide) GK_E (fun v9 h9 hq => ?_) (fun E h9 hq => by cases hq.1)
  obtain ⟨e9, e8⟩ := hq
  cases e9
  rw [e8]
  show K mX12_expression _ _ 0 0 207 [(4, vi (-1)), (3, vi 1), (0, vr 0), (1, vi (fvP pu)), (2, vi (laV pu))] [vi (if Sg tp (tk tp n p) 43 then 1 else 0)] hh
  rw [if_pos hs]
  refine K_if_ne (tgt := 219) (dt_at dtX12_expression 106 rfl) (by decide) (by first | assumption | exact ⟨by omega, by omega⟩) (fun c7 => ?_) (fun c7 => absurd c7 (by omega))
  refine K_aload_n (dt_at dtX12_expression 111 rfl) rfl rfl ?_
  refine K_iconst (dt_at dtX12_expression 112 rfl) ?_
  refine K_callV (M' := mX12_drops) (a := 0) (ci := 12) (As := [vi 5]) (st := []) (dt_at dtX12_expression 113 rfl) (drops_K (s := 5) (V := V) (W := W) ⟨by decide, by decide⟩ (hW) (fun x hx => S.2.2.2.1.2 x (List.mem_append.mpr (Or.inr hx))) (opn_up hV (by omega)) S.2.2.2.1.1 (by omega) (by omega) (by omega)) (show TT 0 = (0, 12) from rfl) rfl wL_X12_214 vX12_drops rfl npX12_drops (by decide) (by decide) (Nat.le_of_ble_eq_true rfl) (by decide) (by decide) GK_E (fun v9 hc1 hq => ?_) (fun E h9 hq => by cases hq.1)
  have hqq2 := hq
  obtain ⟨e9q2, Dq2⟩ := hqq2
  have Sq2 := SR_drop S (by omega) (opn_up hV (by omega : (5 : Int) ≤ _)) Dq2
  cases e9q2
  show K mX12_expression _ _ 0 0 224 [(4, vi (-1)), (3, vi 1), (0, vr 0), (1, vi (fvP pu)), (2, vi (laV pu))] [] hc1
  refine K_aload_n (dt_at dtX12_expression 114 rfl) rfl rfl ?_
  refine K_aload_n (dt_at dtX12_expression 115 rfl) rfl rfl ?_
  refine K_bipush (dt_at dtX12_expression 116 rfl) (by decide) ?_
  refine K_callV (M' := mX12_isSign) (a := 0) (ci := 12) (As := [vi 43]) (st := [vr 0]) (dt_at dtX12_expression 117 rfl) (sg_g (c := 43) Sq2.1 ⟨by decide, by decide⟩) (show TT 0 = (0, 12) from rfl) rfl wL_X12_202 vX12_isSign rfl npX12_isSign (by decide) (by decide) (Nat.le_of_ble_eq_true rfl) (by decide) (by decide) GK_E (fun v9 h9 hq => ?_) (fun E h9 hq => by cases hq.1)
  obtain ⟨e9, e8⟩ := hq
  cases e9
  rw [e8]
  show K mX12_expression _ _ 0 0 231 [(4, vi (-1)), (3, vi 1), (0, vr 0), (1, vi (fvP pu)), (2, vi (laV pu))] [vi (if Sg tp (tk tp n p) 43 then 1 else 0), vr 0] hc1
  rw [if_pos hs]
  refine K_if_eq (tgt := 239) (dt_at dtX12_expression 118 rfl) (by decide) (by first | assumption | exact ⟨by omega, by omega⟩) (fun c8 => absurd c8 (by omega)) (fun c8 => ?_)
  refine K_bipush (dt_at dtX12_expression 119 rfl) (by decide) ?_
  refine K_goto (tgt := 241) (dt_at dtX12_expression 120 rfl) (by decide) ?_
  refine K_callV (M' := mX12_waitsFor) (a := 0) (ci := 12) (As := [vi 8]) (st := []) (dt_at dtX12_expression 122 rfl) (sX12_waitsFor (v := 8) (by have := SR_bnd Sq2 (by omega); omega)) (show TT 0 = (0, 12) from rfl) rfl wL_X12_205 vX12_waitsFor rfl npX12_waitsFor (by decide) (by decide) (Nat.le_of_ble_eq_true rfl) (by decide) (by decide) GK_E (fun v9 h9 hq => ?_) (fun E h9 hq => by cases hq.1)
  obtain ⟨e9, e8⟩ := hq
  cases e9
  rw [e8]
  show K mX12_expression _ _ 0 0 244 [(4, vi (-1)), (3, vi 1), (0, vr 0), (1, vi (fvP pu)), (2, vi (laV pu))] [] (sI (sA hc1 16 (hI hc1 0 31) 8) 0 31 (hI hc1 0 31 + 1))
  obtain ⟨hq3, eq3⟩ : ∃ z, z = sA hc1 16 (hI hc1 0 31) 8 := ⟨_, rfl⟩
  rw [← eq3]
  obtain ⟨aq3, fq3, iq3, rq3⟩ := sA_fx eq3
  obtain ⟨hq4, eq4⟩ : ∃ z, z = sI hq3 0 31 (hI hc1 0 31 + 1) := ⟨_, rfl⟩
  rw [← eq4]
  obtain ⟨iq4, fq4, aq4, rq4⟩ := sI_fx eq4
  have Sq4 := SR_push (x := (-14)) Sq2 (Or.inr (by decide)) iq4 (by rw [aq4, aq3, show wcF (-14) = 8 from rfl]) (FL_tr (FL_eA eq3 rfl : FL [16] [(0, 31)] [] hc1 hq3) (FL_eI eq4 rfl))
  have bnhq4 := SR_bnd Sq4 (by omega)
  have tlhq4 : 1 ≤ hI hq4 0 32 := by rw [bnhq4.2.2.2.2.2.1]; show (1 : Int) ≤ ((T.length + 1 : Nat) : Int); omega
  refine K_aload_n (dt_at dtX12_expression 123 rfl) rfl rfl ?_
  refine K_callV (M' := mX12_goes) (a := 0) (ci := 12) (As := []) (st := []) (dt_at dtX12_expression 124 rfl) (goes_g Sq4.1) (show TT 0 = (0, 12) from rfl) rfl wL_X12_168 vX12_goes rfl npX12_goes (by decide) (by decide) (Nat.le_of_ble_eq_true rfl) (by decide) (by decide) GK_E (fun v9 hc5 hq => ?_) (fun E h9 hq => by cases hq.1)
  have hqq6 := hq
  obtain ⟨e9q6, Aq6, Gq6⟩ := hqq6
  have Sq6 := SR_goes Sq4 (Or.inr ⟨rfl, hnz⟩) Aq6 Gq6
  cases e9q6
  show K mX12_expression _ _ 0 0 248 [(4, vi (-1)), (3, vi 1), (0, vr 0), (1, vi (fvP pu)), (2, vi (laV pu))] [] hc5
  refine K_aload_n (dt_at dtX12_expression 125 rfl) rfl rfl ?_
  refine K_iconst (dt_at dtX12_expression 126 rfl) ?_
  refine K_callV (M' := mX12_operand) (a := 0) (ci := 12) (As := [vi 0]) (st := []) (dt_at dtX12_expression 127 rfl) (operand_0 (f := n + 1) hpu Sq6 (by omega)) (show TT 0 = (0, 12) from rfl) rfl wL_X12_217 vX12_operand rfl npX12_operand (by decide) (by decide) (Nat.le_of_ble_eq_true rfl) (by decide) (by decide) GK_E (fun v9 hc7 hq => ?_) (fun E h9 hq => by cases hq.1)
  have hqq8 := hq
  obtain ⟨e9q8, oq8⟩ := hqq8
  cases e9q8
  show K mX12_expression _ _ 0 0 253 [(4, vi (-1)), (3, vi 1), (0, vr 0), (1, vi (fvP pu)), (2, vi (laV pu))] [] hc7
  refine K_goto (tgt := 337) (dt_at dtX12_expression 128 rfl) (by decide) ?_
  refine K_goto (tgt := 39) (dt_at dtX12_expression 167 rfl) (by decide) ?_
  have g9 := g (n + 1) (by omega)
  have o9 := oq8
  rcases hu : opP tp n pu (n + 1) 7 (tk tp n p).2.2 ((-14) :: W) (b :: T) with e | ⟨q, x9, W9, T9⟩
  · rw [hu] at g9 o9
    exact K_pk [1, 2, 3, 4] (ls' := [(3, vi 1), (0, vr 0), (1, vi (fvP pu)), (2, vi (laV pu))]) rfl (end_39 (pu := pu) o9 g9)
  · rw [hu] at g9 o9
    exact K_pk [1, 2, 3, 4] (ls' := [(3, vi 1), (0, vr 0), (1, vi (fvP pu)), (2, vi (laV pu))]) rfl (g9 _ o9)
set_option maxHeartbeats 4000000 in
set_option maxRecDepth 100000 in
theorem rule_minus {h0 : HP} {tp : Int → Int} {n : Nat} {pu : Int} {a : Nat} {Q : AO → HP → Prop} {p : Nat} {L V W : List Int} {b : Bool} {T : List Bool} (hpu : pu = 0 ∨ pu = 1) (hs : Sg tp (tk tp n p) 45) (hV : opn 5 V) (hW : blk 5 W) (g : KO tp n pu (KLx h0 tp n pu a Q) (KEx h0 tp n a Q) 7 (tk tp n p).2.2 (L ++ V) ((-15) :: W) (b :: T)) : KLx h0 tp n pu a Q p L (V ++ W) (b :: T) := by
  intro hh S
  have hbn := SR_bnd S (by omega)
  have hlV : (V ++ W).length = V.length + W.length := List.length_append
  have hp := S.1.2.2.1
  have hkw : kwF tp (tk tp n p) = -1 := kwF_no (fun i hi z => Sg_w hs z)
  have hnz : (tk tp n p).1 ≠ 0 := by have := hs.1; omega
  have hle := tk_e (tp := tp) hp
  refine K_iload_n (dt_at dtX12_expression 23 rfl) rfl rfl ?_
  refine K_if_eq (tgt := 340) (dt_at dtX12_expression 24 rfl) (by decide) (by first | assumption | exact ⟨by omega, by omega⟩) (fun c1 => absurd c1 (by omega)) (fun c1 => ?_)
  refine K_aload_n (dt_at dtX12_expression 25 rfl) rfl rfl ?_
  refine K_callV (M' := mX12_isGood) (a := 0) (ci := 12) (As := []) (st := []) (dt_at dtX12_expression 26 rfl) (good_t S.1.2.2.2.1) (show TT 0 = (0, 12) from rfl) rfl wL_X12_164 vX12_isGood rfl npX12_isGood (by decide) (by decide) (Nat.le_of_ble_eq_true rfl) (by decide) (by decide) GK_E (fun v9 h9 hq => ?_) (fun E h9 hq => by cases hq.1)
  obtain ⟨e9, e8⟩ := hq
  cases e9
  rw [e8]
  show K mX12_expression _ _ 0 0 47 [(3, vi 1), (0, vr 0), (1, vi (fvP pu)), (2, vi (laV pu))] [vi 1] hh
  refine K_if_eq (tgt := 340) (dt_at dtX12_expression 27 rfl) (by decide) (by first | assumption | exact ⟨by omega, by omega⟩) (fun c2 => absurd c2 (by omega)) (fun c2 => ?_)
  refine K_aload_n (dt_at dtX12_expression 28 rfl) rfl rfl ?_
  refine K_callV (M' := mX12_knownWord) (a := 0) (ci := 12) (As := []) (st := []) (dt_at dtX12_expression 29 rfl) (kw_g S.1) (show TT 0 = (0, 12) from rfl) rfl wL_X12_189 vX12_knownWord rfl npX12_knownWord (by decide) (by decide) (Nat.le_of_ble_eq_true rfl) (by decide) (by decide) GK_E (fun v9 h9 hq => ?_) (fun E h9 hq => by cases hq.1)
  obtain ⟨e9, e8⟩ := hq
  cases e9
  rw [e8]
  show K mX12_expression _ _ 0 0 54 [(3, vi 1), (0, vr 0), (1, vi (fvP pu)), (2, vi (laV pu))] [vi (kwF tp (tk tp n p))] hh
  rw [hkw]
  refine K_istore (ls' := [(4, vi (-1)), (3, vi 1), (0, vr 0), (1, vi (fvP pu)), (2, vi (laV pu))]) (dt_at dtX12_expression 30 rfl) (by decide) rfl ?_
  refine K_iload (dt_at dtX12_expression 31 rfl) rfl ?_
  refine K_bipush (dt_at dtX12_expression 32 rfl) (by decide) ?_
  refine K_icmp_eq (tgt := 70) (dt_at dtX12_expression 33 rfl) (by decide) (by first | assumption | exact ⟨by omega, by omega⟩) (by first | assumption | exact ⟨by omega, by omega⟩) (fun c3 => absurd c3 (by omega)) (fun c3 => ?_)
  refine K_iload (dt_at dtX12_expression 34 rfl) rfl ?_
  refine K_bipush (dt_at dtX12_expression 35 rfl) (by decide) ?_
  refine K_icmp_ne (tgt := 124) (dt_at dtX12_expression 36 rfl) (by decide) (by first | assumption | exact ⟨by omega, by omega⟩) (by first | assumption | exact ⟨by omega, by omega⟩) (fun c4 => ?_) (fun c4 => absurd c4 (by omega))
  refine K_aload_n (dt_at dtX12_expression 65 rfl) rfl rfl ?_
  refine K_bipush (dt_at dtX12_expression 66 rfl) (by decide) ?_
  refine K_callV (M' := mX12_isSign) (a := 0) (ci := 12) (As := [vi 60]) (st := []) (dt_at dtX12_expression 67 rfl) (sg_g (c := 60) S.1 ⟨by decide, by decide⟩) (show TT 0 = (0, 12) from rfl) rfl wL_X12_202 vX12_isSign rfl npX12_isSign (by decide) (by decide) (Nat.le_of_ble_eq_true rfl) (by decide) (by decide) GK_E (fun v9 h9 hq => ?_) (fun E h9 hq => by cases hq.1)
  obtain ⟨e9, e8⟩ := hq
  cases e9
  rw [e8]
  show K mX12_expression _ _ 0 0 130 [(4, vi (-1)), (3, vi 1), (0, vr 0), (1, vi (fvP pu)), (2, vi (laV pu))] [vi (if Sg tp (tk tp n p) 60 then 1 else 0)] hh
  rw [if_neg (fun z => absurd (hs.2.symm.trans z.2) (by decide))]
  refine K_if_ne (tgt := 142) (dt_at dtX12_expression 68 rfl) (by decide) (by first | assumption | exact ⟨by omega, by omega⟩) (fun c5 => absurd c5 (by omega)) (fun c5 => ?_)
  refine K_aload_n (dt_at dtX12_expression 69 rfl) rfl rfl ?_
  refine K_bipush (dt_at dtX12_expression 70 rfl) (by decide) ?_
  refine K_callV (M' := mX12_isSign) (a := 0) (ci := 12) (As := [vi 61]) (st := []) (dt_at dtX12_expression 71 rfl) (sg_g (c := 61) S.1 ⟨by decide, by decide⟩) (show TT 0 = (0, 12) from rfl) rfl wL_X12_202 vX12_isSign rfl npX12_isSign (by decide) (by decide) (Nat.le_of_ble_eq_true rfl) (by decide) (by decide) GK_E (fun v9 h9 hq => ?_) (fun E h9 hq => by cases hq.1)
  obtain ⟨e9, e8⟩ := hq
  cases e9
  rw [e8]
  show K mX12_expression _ _ 0 0 139 [(4, vi (-1)), (3, vi 1), (0, vr 0), (1, vi (fvP pu)), (2, vi (laV pu))] [vi (if Sg tp (tk tp n p) 61 then 1 else 0)] hh
  rw [if_neg (fun z => absurd (hs.2.symm.trans z.2) (by decide))]
  refine K_if_eq (tgt := 201) (dt_at dtX12_expression 72 rfl) (by decide) (by first | assumption | exact ⟨by omega, by omega⟩) (fun c6 => ?_) (fun c6 => absurd c6 (by omega))
  refine K_aload_n (dt_at dtX12_expression 103 rfl) rfl rfl ?_
  refine K_bipush (dt_at dtX12_expression 104 rfl) (by decide) ?_
  refine K_callV (M' := mX12_isSign) (a := 0) (ci := 12) (As := [vi 43]) (st := []) (dt_at dtX12_expression 105 rfl) (sg_g (c := 43) S.1 ⟨by decide, by decide⟩) (show TT 0 = (0, 12) from rfl) rfl wL_X12_202 vX12_isSign rfl npX12_isSign (by decide) (by decide) (Nat.le_of_ble_eq_true rfl) (by decide) (by decide) GK_E (fun v9 h9 hq => ?_) (fun E h9 hq => by cases hq.1)
  obtain ⟨e9, e8⟩ := hq
  cases e9
  rw [e8]
  show K mX12_expression _ _ 0 0 207 [(4, vi (-1)), (3, vi 1), (0, vr 0), (1, vi (fvP pu)), (2, vi (laV pu))] [vi (if Sg tp (tk tp n p) 43 then 1 else 0)] hh
  rw [if_neg (fun z => absurd (hs.2.symm.trans z.2) (by decide))]
  refine K_if_ne (tgt := 219) (dt_at dtX12_expression 106 rfl) (by decide) (by first | assumption | exact ⟨by omega, by omega⟩) (fun c7 => absurd c7 (by omega)) (fun c7 => ?_)
  refine K_aload_n (dt_at dtX12_expression 107 rfl) rfl rfl ?_
  refine K_bipush (dt_at dtX12_expression 108 rfl) (by decide) ?_
  refine K_callV (M' := mX12_isSign) (a := 0) (ci := 12) (As := [vi 45]) (st := []) (dt_at dtX12_expression 109 rfl) (sg_g (c := 45) S.1 ⟨by decide, by decide⟩) (show TT 0 = (0, 12) from rfl) rfl wL_X12_202 vX12_isSign rfl npX12_isSign (by decide) (by decide) (Nat.le_of_ble_eq_true rfl) (by decide) (by decide) GK_E (fun v9 h9 hq => ?_) (fun E h9 hq => by cases hq.1)
  obtain ⟨e9, e8⟩ := hq
  cases e9
  rw [e8]
  show K mX12_expression _ _ 0 0 216 [(4, vi (-1)), (3, vi 1), (0, vr 0), (1, vi (fvP pu)), (2, vi (laV pu))] [vi (if Sg tp (tk tp n p) 45 then 1 else 0)] hh
  rw [if_pos hs]
  refine K_if_eq (tgt := 256) (dt_at dtX12_expression 110 rfl) (by decide) (by first | assumption | exact ⟨by omega, by omega⟩) (fun c8 => absurd c8 (by omega)) (fun c8 => ?_)
  refine K_aload_n (dt_at dtX12_expression 111 rfl) rfl rfl ?_
  refine K_iconst (dt_at dtX12_expression 112 rfl) ?_
  refine K_callV (M' := mX12_drops) (a := 0) (ci := 12) (As := [vi 5]) (st := []) (dt_at dtX12_expression 113 rfl) (drops_K (s := 5) (V := V) (W := W) ⟨by decide, by decide⟩ (hW) (fun x hx => S.2.2.2.1.2 x (List.mem_append.mpr (Or.inr hx))) (opn_up hV (by omega)) S.2.2.2.1.1 (by omega) (by omega) (by omega)) (show TT 0 = (0, 12) from rfl) rfl wL_X12_214 vX12_drops rfl npX12_drops (by decide) (by decide) (Nat.le_of_ble_eq_true rfl) (by decide) (by decide) GK_E (fun v9 hc1 hq => ?_) (fun E h9 hq => by cases hq.1)
  have hqq2 := hq
  obtain ⟨e9q2, Dq2⟩ := hqq2
  have Sq2 := SR_drop S (by omega) (opn_up hV (by omega : (5 : Int) ≤ _)) Dq2
  cases e9q2
  show K mX12_expression _ _ 0 0 224 [(4, vi (-1)), (3, vi 1), (0, vr 0), (1, vi (fvP pu)), (2, vi (laV pu))] [] hc1
  refine K_aload_n (dt_at dtX12_expression 114 rfl) rfl rfl ?_
  refine K_aload_n (dt_at dtX12_expression 115 rfl) rfl rfl ?_
  refine K_bipush (dt_at dtX12_expression 116 rfl) (by decide) ?_
  refine K_callV (M' := mX12_isSign) (a := 0) (ci := 12) (As := [vi 43]) (st := [vr 0]) (dt_at dtX12_expression 117 rfl) (sg_g (c := 43) Sq2.1 ⟨by decide, by decide⟩) (show TT 0 = (0, 12) from rfl) rfl wL_X12_202 vX12_isSign rfl npX12_isSign (by decide) (by decide) (Nat.le_of_ble_eq_true rfl) (by decide) (by decide) GK_E (fun v9 h9 hq => ?_) (fun E h9 hq => by cases hq.1)
  obtain ⟨e9, e8⟩ := hq
  cases e9
  rw [e8]
  show K mX12_expression _ _ 0 0 231 [(4, vi (-1)), (3, vi 1), (0, vr 0), (1, vi (fvP pu)), (2, vi (laV pu))] [vi (if Sg tp (tk tp n p) 43 then 1 else 0), vr 0] hc1
  rw [if_neg (fun z => absurd (hs.2.symm.trans z.2) (by decide))]
  refine K_if_eq (tgt := 239) (dt_at dtX12_expression 118 rfl) (by decide) (by first | assumption | exact ⟨by omega, by omega⟩) (fun c9 => ?_) (fun c9 => absurd c9 (by omega))
  refine K_bipush (dt_at dtX12_expression 121 rfl) (by decide) ?_
  refine K_callV (M' := mX12_waitsFor) (a := 0) (ci := 12) (As := [vi 9]) (st := []) (dt_at dtX12_expression 122 rfl) (sX12_waitsFor (v := 9) (by have := SR_bnd Sq2 (by omega); omega)) (show TT 0 = (0, 12) from rfl) rfl wL_X12_205 vX12_waitsFor rfl npX12_waitsFor (by decide) (by decide) (Nat.le_of_ble_eq_true rfl) (by decide) (by decide) GK_E (fun v9 h9 hq => ?_) (fun E h9 hq => by cases hq.1)
  obtain ⟨e9, e8⟩ := hq
  cases e9
  rw [e8]
  show K mX12_expression _ _ 0 0 244 [(4, vi (-1)), (3, vi 1), (0, vr 0), (1, vi (fvP pu)), (2, vi (laV pu))] [] (sI (sA hc1 16 (hI hc1 0 31) 9) 0 31 (hI hc1 0 31 + 1))
  obtain ⟨hq3, eq3⟩ : ∃ z, z = sA hc1 16 (hI hc1 0 31) 9 := ⟨_, rfl⟩
  rw [← eq3]
  obtain ⟨aq3, fq3, iq3, rq3⟩ := sA_fx eq3
  obtain ⟨hq4, eq4⟩ : ∃ z, z = sI hq3 0 31 (hI hc1 0 31 + 1) := ⟨_, rfl⟩
  rw [← eq4]
  obtain ⟨iq4, fq4, aq4, rq4⟩ := sI_fx eq4
  have Sq4 := SR_push (x := (-15)) Sq2 (Or.inr (by decide)) iq4 (by rw [aq4, aq3, show wcF (-15) = 9 from rfl]) (FL_tr (FL_eA eq3 rfl : FL [16] [(0, 31)] [] hc1 hq3) (FL_eI eq4 rfl))
  have bnhq4 := SR_bnd Sq4 (by omega)
  have tlhq4 : 1 ≤ hI hq4 0 32 := by rw [bnhq4.2.2.2.2.2.1]; show (1 : Int) ≤ ((T.length + 1 : Nat) : Int); omega
  refine K_aload_n (dt_at dtX12_expression 123 rfl) rfl rfl ?_
  refine K_callV (M' := mX12_goes) (a := 0) (ci := 12) (As := []) (st := []) (dt_at dtX12_expression 124 rfl) (goes_g Sq4.1) (show TT 0 = (0, 12) from rfl) rfl wL_X12_168 vX12_goes rfl npX12_goes (by decide) (by decide) (Nat.le_of_ble_eq_true rfl) (by decide) (by decide) GK_E (fun v9 hc5 hq => ?_) (fun E h9 hq => by cases hq.1)
  have hqq6 := hq
  obtain ⟨e9q6, Aq6, Gq6⟩ := hqq6
  have Sq6 := SR_goes Sq4 (Or.inr ⟨rfl, hnz⟩) Aq6 Gq6
  cases e9q6
  show K mX12_expression _ _ 0 0 248 [(4, vi (-1)), (3, vi 1), (0, vr 0), (1, vi (fvP pu)), (2, vi (laV pu))] [] hc5
  refine K_aload_n (dt_at dtX12_expression 125 rfl) rfl rfl ?_
  refine K_iconst (dt_at dtX12_expression 126 rfl) ?_
  refine K_callV (M' := mX12_operand) (a := 0) (ci := 12) (As := [vi 0]) (st := []) (dt_at dtX12_expression 127 rfl) (operand_0 (f := n + 1) hpu Sq6 (by omega)) (show TT 0 = (0, 12) from rfl) rfl wL_X12_217 vX12_operand rfl npX12_operand (by decide) (by decide) (Nat.le_of_ble_eq_true rfl) (by decide) (by decide) GK_E (fun v9 hc7 hq => ?_) (fun E h9 hq => by cases hq.1)
  have hqq8 := hq
  obtain ⟨e9q8, oq8⟩ := hqq8
  cases e9q8
  show K mX12_expression _ _ 0 0 253 [(4, vi (-1)), (3, vi 1), (0, vr 0), (1, vi (fvP pu)), (2, vi (laV pu))] [] hc7
  refine K_goto (tgt := 337) (dt_at dtX12_expression 128 rfl) (by decide) ?_
  refine K_goto (tgt := 39) (dt_at dtX12_expression 167 rfl) (by decide) ?_
  have g9 := g (n + 1) (by omega)
  have o9 := oq8
  rcases hu : opP tp n pu (n + 1) 7 (tk tp n p).2.2 ((-15) :: W) (b :: T) with e | ⟨q, x9, W9, T9⟩
  · rw [hu] at g9 o9
    exact K_pk [1, 2, 3, 4] (ls' := [(3, vi 1), (0, vr 0), (1, vi (fvP pu)), (2, vi (laV pu))]) rfl (end_39 (pu := pu) o9 g9)
  · rw [hu] at g9 o9
    exact K_pk [1, 2, 3, 4] (ls' := [(3, vi 1), (0, vr 0), (1, vi (fvP pu)), (2, vi (laV pu))]) rfl (g9 _ o9)
set_option maxHeartbeats 4000000 in
set_option maxRecDepth 100000 in
theorem rule_times {h0 : HP} {tp : Int → Int} {n : Nat} {pu : Int} {a : Nat} {Q : AO → HP → Prop} {p : Nat} {L V W : List Int} {b : Bool} {T : List Bool} (hpu : pu = 0 ∨ pu = 1) (hs : Sg tp (tk tp n p) 42) (hV : opn 6 V) (hW : blk 6 W) (g : KO tp n pu (KLx h0 tp n pu a Q) (KEx h0 tp n a Q) 7 (tk tp n p).2.2 (L ++ V) ((-16) :: W) (b :: T)) : KLx h0 tp n pu a Q p L (V ++ W) (b :: T) := by
  intro hh S
  have hbn := SR_bnd S (by omega)
  have hlV : (V ++ W).length = V.length + W.length := List.length_append
  have hp := S.1.2.2.1
  have hkw : kwF tp (tk tp n p) = -1 := kwF_no (fun i hi z => Sg_w hs z)
  have hnz : (tk tp n p).1 ≠ 0 := by have := hs.1; omega
  have hle := tk_e (tp := tp) hp
  refine K_iload_n (dt_at dtX12_expression 23 rfl) rfl rfl ?_
  refine K_if_eq (tgt := 340) (dt_at dtX12_expression 24 rfl) (by decide) (by first | assumption | exact ⟨by omega, by omega⟩) (fun c1 => absurd c1 (by omega)) (fun c1 => ?_)
  refine K_aload_n (dt_at dtX12_expression 25 rfl) rfl rfl ?_
  refine K_callV (M' := mX12_isGood) (a := 0) (ci := 12) (As := []) (st := []) (dt_at dtX12_expression 26 rfl) (good_t S.1.2.2.2.1) (show TT 0 = (0, 12) from rfl) rfl wL_X12_164 vX12_isGood rfl npX12_isGood (by decide) (by decide) (Nat.le_of_ble_eq_true rfl) (by decide) (by decide) GK_E (fun v9 h9 hq => ?_) (fun E h9 hq => by cases hq.1)
  obtain ⟨e9, e8⟩ := hq
  cases e9
  rw [e8]
  show K mX12_expression _ _ 0 0 47 [(3, vi 1), (0, vr 0), (1, vi (fvP pu)), (2, vi (laV pu))] [vi 1] hh
  refine K_if_eq (tgt := 340) (dt_at dtX12_expression 27 rfl) (by decide) (by first | assumption | exact ⟨by omega, by omega⟩) (fun c2 => absurd c2 (by omega)) (fun c2 => ?_)
  refine K_aload_n (dt_at dtX12_expression 28 rfl) rfl rfl ?_
  refine K_callV (M' := mX12_knownWord) (a := 0) (ci := 12) (As := []) (st := []) (dt_at dtX12_expression 29 rfl) (kw_g S.1) (show TT 0 = (0, 12) from rfl) rfl wL_X12_189 vX12_knownWord rfl npX12_knownWord (by decide) (by decide) (Nat.le_of_ble_eq_true rfl) (by decide) (by decide) GK_E (fun v9 h9 hq => ?_) (fun E h9 hq => by cases hq.1)
  obtain ⟨e9, e8⟩ := hq
  cases e9
  rw [e8]
  show K mX12_expression _ _ 0 0 54 [(3, vi 1), (0, vr 0), (1, vi (fvP pu)), (2, vi (laV pu))] [vi (kwF tp (tk tp n p))] hh
  rw [hkw]
  refine K_istore (ls' := [(4, vi (-1)), (3, vi 1), (0, vr 0), (1, vi (fvP pu)), (2, vi (laV pu))]) (dt_at dtX12_expression 30 rfl) (by decide) rfl ?_
  refine K_iload (dt_at dtX12_expression 31 rfl) rfl ?_
  refine K_bipush (dt_at dtX12_expression 32 rfl) (by decide) ?_
  refine K_icmp_eq (tgt := 70) (dt_at dtX12_expression 33 rfl) (by decide) (by first | assumption | exact ⟨by omega, by omega⟩) (by first | assumption | exact ⟨by omega, by omega⟩) (fun c3 => absurd c3 (by omega)) (fun c3 => ?_)
  refine K_iload (dt_at dtX12_expression 34 rfl) rfl ?_
  refine K_bipush (dt_at dtX12_expression 35 rfl) (by decide) ?_
  refine K_icmp_ne (tgt := 124) (dt_at dtX12_expression 36 rfl) (by decide) (by first | assumption | exact ⟨by omega, by omega⟩) (by first | assumption | exact ⟨by omega, by omega⟩) (fun c4 => ?_) (fun c4 => absurd c4 (by omega))
  refine K_aload_n (dt_at dtX12_expression 65 rfl) rfl rfl ?_
  refine K_bipush (dt_at dtX12_expression 66 rfl) (by decide) ?_
  refine K_callV (M' := mX12_isSign) (a := 0) (ci := 12) (As := [vi 60]) (st := []) (dt_at dtX12_expression 67 rfl) (sg_g (c := 60) S.1 ⟨by decide, by decide⟩) (show TT 0 = (0, 12) from rfl) rfl wL_X12_202 vX12_isSign rfl npX12_isSign (by decide) (by decide) (Nat.le_of_ble_eq_true rfl) (by decide) (by decide) GK_E (fun v9 h9 hq => ?_) (fun E h9 hq => by cases hq.1)
  obtain ⟨e9, e8⟩ := hq
  cases e9
  rw [e8]
  show K mX12_expression _ _ 0 0 130 [(4, vi (-1)), (3, vi 1), (0, vr 0), (1, vi (fvP pu)), (2, vi (laV pu))] [vi (if Sg tp (tk tp n p) 60 then 1 else 0)] hh
  rw [if_neg (fun z => absurd (hs.2.symm.trans z.2) (by decide))]
  refine K_if_ne (tgt := 142) (dt_at dtX12_expression 68 rfl) (by decide) (by first | assumption | exact ⟨by omega, by omega⟩) (fun c5 => absurd c5 (by omega)) (fun c5 => ?_)
  refine K_aload_n (dt_at dtX12_expression 69 rfl) rfl rfl ?_
  refine K_bipush (dt_at dtX12_expression 70 rfl) (by decide) ?_
  refine K_callV (M' := mX12_isSign) (a := 0) (ci := 12) (As := [vi 61]) (st := []) (dt_at dtX12_expression 71 rfl) (sg_g (c := 61) S.1 ⟨by decide, by decide⟩) (show TT 0 = (0, 12) from rfl) rfl wL_X12_202 vX12_isSign rfl npX12_isSign (by decide) (by decide) (Nat.le_of_ble_eq_true rfl) (by decide) (by decide) GK_E (fun v9 h9 hq => ?_) (fun E h9 hq => by cases hq.1)
  obtain ⟨e9, e8⟩ := hq
  cases e9
  rw [e8]
  show K mX12_expression _ _ 0 0 139 [(4, vi (-1)), (3, vi 1), (0, vr 0), (1, vi (fvP pu)), (2, vi (laV pu))] [vi (if Sg tp (tk tp n p) 61 then 1 else 0)] hh
  rw [if_neg (fun z => absurd (hs.2.symm.trans z.2) (by decide))]
  refine K_if_eq (tgt := 201) (dt_at dtX12_expression 72 rfl) (by decide) (by first | assumption | exact ⟨by omega, by omega⟩) (fun c6 => ?_) (fun c6 => absurd c6 (by omega))
  refine K_aload_n (dt_at dtX12_expression 103 rfl) rfl rfl ?_
  refine K_bipush (dt_at dtX12_expression 104 rfl) (by decide) ?_
  refine K_callV (M' := mX12_isSign) (a := 0) (ci := 12) (As := [vi 43]) (st := []) (dt_at dtX12_expression 105 rfl) (sg_g (c := 43) S.1 ⟨by decide, by decide⟩) (show TT 0 = (0, 12) from rfl) rfl wL_X12_202 vX12_isSign rfl npX12_isSign (by decide) (by decide) (Nat.le_of_ble_eq_true rfl) (by decide) (by decide) GK_E (fun v9 h9 hq => ?_) (fun E h9 hq => by cases hq.1)
  obtain ⟨e9, e8⟩ := hq
  cases e9
  rw [e8]
  show K mX12_expression _ _ 0 0 207 [(4, vi (-1)), (3, vi 1), (0, vr 0), (1, vi (fvP pu)), (2, vi (laV pu))] [vi (if Sg tp (tk tp n p) 43 then 1 else 0)] hh
  rw [if_neg (fun z => absurd (hs.2.symm.trans z.2) (by decide))]
  refine K_if_ne (tgt := 219) (dt_at dtX12_expression 106 rfl) (by decide) (by first | assumption | exact ⟨by omega, by omega⟩) (fun c7 => absurd c7 (by omega)) (fun c7 => ?_)
  refine K_aload_n (dt_at dtX12_expression 107 rfl) rfl rfl ?_
  refine K_bipush (dt_at dtX12_expression 108 rfl) (by decide) ?_
  refine K_callV (M' := mX12_isSign) (a := 0) (ci := 12) (As := [vi 45]) (st := []) (dt_at dtX12_expression 109 rfl) (sg_g (c := 45) S.1 ⟨by decide, by decide⟩) (show TT 0 = (0, 12) from rfl) rfl wL_X12_202 vX12_isSign rfl npX12_isSign (by decide) (by decide) (Nat.le_of_ble_eq_true rfl) (by decide) (by decide) GK_E (fun v9 h9 hq => ?_) (fun E h9 hq => by cases hq.1)
  obtain ⟨e9, e8⟩ := hq
  cases e9
  rw [e8]
  show K mX12_expression _ _ 0 0 216 [(4, vi (-1)), (3, vi 1), (0, vr 0), (1, vi (fvP pu)), (2, vi (laV pu))] [vi (if Sg tp (tk tp n p) 45 then 1 else 0)] hh
  rw [if_neg (fun z => absurd (hs.2.symm.trans z.2) (by decide))]
  refine K_if_eq (tgt := 256) (dt_at dtX12_expression 110 rfl) (by decide) (by first | assumption | exact ⟨by omega, by omega⟩) (fun c8 => ?_) (fun c8 => absurd c8 (by omega))
  refine K_aload_n (dt_at dtX12_expression 129 rfl) rfl rfl ?_
  refine K_bipush (dt_at dtX12_expression 130 rfl) (by decide) ?_
  refine K_callV (M' := mX12_isSign) (a := 0) (ci := 12) (As := [vi 42]) (st := []) (dt_at dtX12_expression 131 rfl) (sg_g (c := 42) S.1 ⟨by decide, by decide⟩) (show TT 0 = (0, 12) from rfl) rfl wL_X12_202 vX12_isSign rfl npX12_isSign (by decide) (by decide) (Nat.le_of_ble_eq_true rfl) (by decide) (by decide) GK_E (fun v9 h9 hq => ?_) (fun E h9 hq => by cases hq.1)
  obtain ⟨e9, e8⟩ := hq
  cases e9
  rw [e8]
  show K mX12_expression _ _ 0 0 262 [(4, vi (-1)), (3, vi 1), (0, vr 0), (1, vi (fvP pu)), (2, vi (laV pu))] [vi (if Sg tp (tk tp n p) 42 then 1 else 0)] hh
  rw [if_pos hs]
  refine K_if_ne (tgt := 274) (dt_at dtX12_expression 132 rfl) (by decide) (by first | assumption | exact ⟨by omega, by omega⟩) (fun c9 => ?_) (fun c9 => absurd c9 (by omega))
  refine K_aload_n (dt_at dtX12_expression 137 rfl) rfl rfl ?_
  refine K_bipush (dt_at dtX12_expression 138 rfl) (by decide) ?_
  refine K_callV (M' := mX12_drops) (a := 0) (ci := 12) (As := [vi 6]) (st := []) (dt_at dtX12_expression 139 rfl) (drops_K (s := 6) (V := V) (W := W) ⟨by decide, by decide⟩ (hW) (fun x hx => S.2.2.2.1.2 x (List.mem_append.mpr (Or.inr hx))) (opn_up hV (by omega)) S.2.2.2.1.1 (by omega) (by omega) (by omega)) (show TT 0 = (0, 12) from rfl) rfl wL_X12_214 vX12_drops rfl npX12_drops (by decide) (by decide) (Nat.le_of_ble_eq_true rfl) (by decide) (by decide) GK_E (fun v9 hc1 hq => ?_) (fun E h9 hq => by cases hq.1)
  have hqq2 := hq
  obtain ⟨e9q2, Dq2⟩ := hqq2
  have Sq2 := SR_drop S (by omega) (opn_up hV (by omega : (6 : Int) ≤ _)) Dq2
  cases e9q2
  show K mX12_expression _ _ 0 0 280 [(4, vi (-1)), (3, vi 1), (0, vr 0), (1, vi (fvP pu)), (2, vi (laV pu))] [] hc1
  refine K_aload_n (dt_at dtX12_expression 140 rfl) rfl rfl ?_
  refine K_aload_n (dt_at dtX12_expression 141 rfl) rfl rfl ?_
  refine K_bipush (dt_at dtX12_expression 142 rfl) (by decide) ?_
  refine K_callV (M' := mX12_isSign) (a := 0) (ci := 12) (As := [vi 42]) (st := [vr 0]) (dt_at dtX12_expression 143 rfl) (sg_g (c := 42) Sq2.1 ⟨by decide, by decide⟩) (show TT 0 = (0, 12) from rfl) rfl wL_X12_202 vX12_isSign rfl npX12_isSign (by decide) (by decide) (Nat.le_of_ble_eq_true rfl) (by decide) (by decide) GK_E (fun v9 h9 hq => ?_) (fun E h9 hq => by cases hq.1)
  obtain ⟨e9, e8⟩ := hq
  cases e9
  rw [e8]
  show K mX12_expression _ _ 0 0 287 [(4, vi (-1)), (3, vi 1), (0, vr 0), (1, vi (fvP pu)), (2, vi (laV pu))] [vi (if Sg tp (tk tp n p) 42 then 1 else 0), vr 0] hc1
  rw [if_pos hs]
  refine K_if_eq (tgt := 295) (dt_at dtX12_expression 144 rfl) (by decide) (by first | assumption | exact ⟨by omega, by omega⟩) (fun c10 => absurd c10 (by omega)) (fun c10 => ?_)
  refine K_bipush (dt_at dtX12_expression 145 rfl) (by decide) ?_
  refine K_goto (tgt := 297) (dt_at dtX12_expression 146 rfl) (by decide) ?_
  refine K_callV (M' := mX12_waitsFor) (a := 0) (ci := 12) (As := [vi 10]) (st := []) (dt_at dtX12_expression 148 rfl) (sX12_waitsFor (v := 10) (by have := SR_bnd Sq2 (by omega); omega)) (show TT 0 = (0, 12) from rfl) rfl wL_X12_205 vX12_waitsFor rfl npX12_waitsFor (by decide) (by decide) (Nat.le_of_ble_eq_true rfl) (by decide) (by decide) GK_E (fun v9 h9 hq => ?_) (fun E h9 hq => by cases hq.1)
  obtain ⟨e9, e8⟩ := hq
  cases e9
  rw [e8]
  show K mX12_expression _ _ 0 0 300 [(4, vi (-1)), (3, vi 1), (0, vr 0), (1, vi (fvP pu)), (2, vi (laV pu))] [] (sI (sA hc1 16 (hI hc1 0 31) 10) 0 31 (hI hc1 0 31 + 1))
  obtain ⟨hq3, eq3⟩ : ∃ z, z = sA hc1 16 (hI hc1 0 31) 10 := ⟨_, rfl⟩
  rw [← eq3]
  obtain ⟨aq3, fq3, iq3, rq3⟩ := sA_fx eq3
  obtain ⟨hq4, eq4⟩ : ∃ z, z = sI hq3 0 31 (hI hc1 0 31 + 1) := ⟨_, rfl⟩
  rw [← eq4]
  obtain ⟨iq4, fq4, aq4, rq4⟩ := sI_fx eq4
  have Sq4 := SR_push (x := (-16)) Sq2 (Or.inr (by decide)) iq4 (by rw [aq4, aq3, show wcF (-16) = 10 from rfl]) (FL_tr (FL_eA eq3 rfl : FL [16] [(0, 31)] [] hc1 hq3) (FL_eI eq4 rfl))
  have bnhq4 := SR_bnd Sq4 (by omega)
  have tlhq4 : 1 ≤ hI hq4 0 32 := by rw [bnhq4.2.2.2.2.2.1]; show (1 : Int) ≤ ((T.length + 1 : Nat) : Int); omega
  refine K_aload_n (dt_at dtX12_expression 149 rfl) rfl rfl ?_
  refine K_callV (M' := mX12_goes) (a := 0) (ci := 12) (As := []) (st := []) (dt_at dtX12_expression 150 rfl) (goes_g Sq4.1) (show TT 0 = (0, 12) from rfl) rfl wL_X12_168 vX12_goes rfl npX12_goes (by decide) (by decide) (Nat.le_of_ble_eq_true rfl) (by decide) (by decide) GK_E (fun v9 hc5 hq => ?_) (fun E h9 hq => by cases hq.1)
  have hqq6 := hq
  obtain ⟨e9q6, Aq6, Gq6⟩ := hqq6
  have Sq6 := SR_goes Sq4 (Or.inr ⟨rfl, hnz⟩) Aq6 Gq6
  cases e9q6
  show K mX12_expression _ _ 0 0 304 [(4, vi (-1)), (3, vi 1), (0, vr 0), (1, vi (fvP pu)), (2, vi (laV pu))] [] hc5
  refine K_aload_n (dt_at dtX12_expression 151 rfl) rfl rfl ?_
  refine K_iconst (dt_at dtX12_expression 152 rfl) ?_
  refine K_callV (M' := mX12_operand) (a := 0) (ci := 12) (As := [vi 0]) (st := []) (dt_at dtX12_expression 153 rfl) (operand_0 (f := n + 1) hpu Sq6 (by omega)) (show TT 0 = (0, 12) from rfl) rfl wL_X12_217 vX12_operand rfl npX12_operand (by decide) (by decide) (Nat.le_of_ble_eq_true rfl) (by decide) (by decide) GK_E (fun v9 hc7 hq => ?_) (fun E h9 hq => by cases hq.1)
  have hqq8 := hq
  obtain ⟨e9q8, oq8⟩ := hqq8
  cases e9q8
  show K mX12_expression _ _ 0 0 309 [(4, vi (-1)), (3, vi 1), (0, vr 0), (1, vi (fvP pu)), (2, vi (laV pu))] [] hc7
  refine K_goto (tgt := 337) (dt_at dtX12_expression 154 rfl) (by decide) ?_
  refine K_goto (tgt := 39) (dt_at dtX12_expression 167 rfl) (by decide) ?_
  have g9 := g (n + 1) (by omega)
  have o9 := oq8
  rcases hu : opP tp n pu (n + 1) 7 (tk tp n p).2.2 ((-16) :: W) (b :: T) with e | ⟨q, x9, W9, T9⟩
  · rw [hu] at g9 o9
    exact K_pk [1, 2, 3, 4] (ls' := [(3, vi 1), (0, vr 0), (1, vi (fvP pu)), (2, vi (laV pu))]) rfl (end_39 (pu := pu) o9 g9)
  · rw [hu] at g9 o9
    exact K_pk [1, 2, 3, 4] (ls' := [(3, vi 1), (0, vr 0), (1, vi (fvP pu)), (2, vi (laV pu))]) rfl (g9 _ o9)
set_option maxHeartbeats 4000000 in
set_option maxRecDepth 100000 in
theorem rule_over {h0 : HP} {tp : Int → Int} {n : Nat} {pu : Int} {a : Nat} {Q : AO → HP → Prop} {p : Nat} {L V W : List Int} {b : Bool} {T : List Bool} (hpu : pu = 0 ∨ pu = 1) (hs : Sg tp (tk tp n p) 47) (hV : opn 6 V) (hW : blk 6 W) (g : KO tp n pu (KLx h0 tp n pu a Q) (KEx h0 tp n a Q) 7 (tk tp n p).2.2 (L ++ V) ((-17) :: W) (b :: T)) : KLx h0 tp n pu a Q p L (V ++ W) (b :: T) := by
  intro hh S
  have hbn := SR_bnd S (by omega)
  have hlV : (V ++ W).length = V.length + W.length := List.length_append
  have hp := S.1.2.2.1
  have hkw : kwF tp (tk tp n p) = -1 := kwF_no (fun i hi z => Sg_w hs z)
  have hnz : (tk tp n p).1 ≠ 0 := by have := hs.1; omega
  have hle := tk_e (tp := tp) hp
  refine K_iload_n (dt_at dtX12_expression 23 rfl) rfl rfl ?_
  refine K_if_eq (tgt := 340) (dt_at dtX12_expression 24 rfl) (by decide) (by first | assumption | exact ⟨by omega, by omega⟩) (fun c1 => absurd c1 (by omega)) (fun c1 => ?_)
  refine K_aload_n (dt_at dtX12_expression 25 rfl) rfl rfl ?_
  refine K_callV (M' := mX12_isGood) (a := 0) (ci := 12) (As := []) (st := []) (dt_at dtX12_expression 26 rfl) (good_t S.1.2.2.2.1) (show TT 0 = (0, 12) from rfl) rfl wL_X12_164 vX12_isGood rfl npX12_isGood (by decide) (by decide) (Nat.le_of_ble_eq_true rfl) (by decide) (by decide) GK_E (fun v9 h9 hq => ?_) (fun E h9 hq => by cases hq.1)
  obtain ⟨e9, e8⟩ := hq
  cases e9
  rw [e8]
  show K mX12_expression _ _ 0 0 47 [(3, vi 1), (0, vr 0), (1, vi (fvP pu)), (2, vi (laV pu))] [vi 1] hh
  refine K_if_eq (tgt := 340) (dt_at dtX12_expression 27 rfl) (by decide) (by first | assumption | exact ⟨by omega, by omega⟩) (fun c2 => absurd c2 (by omega)) (fun c2 => ?_)
  refine K_aload_n (dt_at dtX12_expression 28 rfl) rfl rfl ?_
  refine K_callV (M' := mX12_knownWord) (a := 0) (ci := 12) (As := []) (st := []) (dt_at dtX12_expression 29 rfl) (kw_g S.1) (show TT 0 = (0, 12) from rfl) rfl wL_X12_189 vX12_knownWord rfl npX12_knownWord (by decide) (by decide) (Nat.le_of_ble_eq_true rfl) (by decide) (by decide) GK_E (fun v9 h9 hq => ?_) (fun E h9 hq => by cases hq.1)
  obtain ⟨e9, e8⟩ := hq
  cases e9
  rw [e8]
  show K mX12_expression _ _ 0 0 54 [(3, vi 1), (0, vr 0), (1, vi (fvP pu)), (2, vi (laV pu))] [vi (kwF tp (tk tp n p))] hh
  rw [hkw]
  refine K_istore (ls' := [(4, vi (-1)), (3, vi 1), (0, vr 0), (1, vi (fvP pu)), (2, vi (laV pu))]) (dt_at dtX12_expression 30 rfl) (by decide) rfl ?_
  refine K_iload (dt_at dtX12_expression 31 rfl) rfl ?_
  refine K_bipush (dt_at dtX12_expression 32 rfl) (by decide) ?_
  refine K_icmp_eq (tgt := 70) (dt_at dtX12_expression 33 rfl) (by decide) (by first | assumption | exact ⟨by omega, by omega⟩) (by first | assumption | exact ⟨by omega, by omega⟩) (fun c3 => absurd c3 (by omega)) (fun c3 => ?_)
  refine K_iload (dt_at dtX12_expression 34 rfl) rfl ?_
  refine K_bipush (dt_at dtX12_expression 35 rfl) (by decide) ?_
  refine K_icmp_ne (tgt := 124) (dt_at dtX12_expression 36 rfl) (by decide) (by first | assumption | exact ⟨by omega, by omega⟩) (by first | assumption | exact ⟨by omega, by omega⟩) (fun c4 => ?_) (fun c4 => absurd c4 (by omega))
  refine K_aload_n (dt_at dtX12_expression 65 rfl) rfl rfl ?_
  refine K_bipush (dt_at dtX12_expression 66 rfl) (by decide) ?_
  refine K_callV (M' := mX12_isSign) (a := 0) (ci := 12) (As := [vi 60]) (st := []) (dt_at dtX12_expression 67 rfl) (sg_g (c := 60) S.1 ⟨by decide, by decide⟩) (show TT 0 = (0, 12) from rfl) rfl wL_X12_202 vX12_isSign rfl npX12_isSign (by decide) (by decide) (Nat.le_of_ble_eq_true rfl) (by decide) (by decide) GK_E (fun v9 h9 hq => ?_) (fun E h9 hq => by cases hq.1)
  obtain ⟨e9, e8⟩ := hq
  cases e9
  rw [e8]
  show K mX12_expression _ _ 0 0 130 [(4, vi (-1)), (3, vi 1), (0, vr 0), (1, vi (fvP pu)), (2, vi (laV pu))] [vi (if Sg tp (tk tp n p) 60 then 1 else 0)] hh
  rw [if_neg (fun z => absurd (hs.2.symm.trans z.2) (by decide))]
  refine K_if_ne (tgt := 142) (dt_at dtX12_expression 68 rfl) (by decide) (by first | assumption | exact ⟨by omega, by omega⟩) (fun c5 => absurd c5 (by omega)) (fun c5 => ?_)
  refine K_aload_n (dt_at dtX12_expression 69 rfl) rfl rfl ?_
  refine K_bipush (dt_at dtX12_expression 70 rfl) (by decide) ?_
  refine K_callV (M' := mX12_isSign) (a := 0) (ci := 12) (As := [vi 61]) (st := []) (dt_at dtX12_expression 71 rfl) (sg_g (c := 61) S.1 ⟨by decide, by decide⟩) (show TT 0 = (0, 12) from rfl) rfl wL_X12_202 vX12_isSign rfl npX12_isSign (by decide) (by decide) (Nat.le_of_ble_eq_true rfl) (by decide) (by decide) GK_E (fun v9 h9 hq => ?_) (fun E h9 hq => by cases hq.1)
  obtain ⟨e9, e8⟩ := hq
  cases e9
  rw [e8]
  show K mX12_expression _ _ 0 0 139 [(4, vi (-1)), (3, vi 1), (0, vr 0), (1, vi (fvP pu)), (2, vi (laV pu))] [vi (if Sg tp (tk tp n p) 61 then 1 else 0)] hh
  rw [if_neg (fun z => absurd (hs.2.symm.trans z.2) (by decide))]
  refine K_if_eq (tgt := 201) (dt_at dtX12_expression 72 rfl) (by decide) (by first | assumption | exact ⟨by omega, by omega⟩) (fun c6 => ?_) (fun c6 => absurd c6 (by omega))
  refine K_aload_n (dt_at dtX12_expression 103 rfl) rfl rfl ?_
  refine K_bipush (dt_at dtX12_expression 104 rfl) (by decide) ?_
  refine K_callV (M' := mX12_isSign) (a := 0) (ci := 12) (As := [vi 43]) (st := []) (dt_at dtX12_expression 105 rfl) (sg_g (c := 43) S.1 ⟨by decide, by decide⟩) (show TT 0 = (0, 12) from rfl) rfl wL_X12_202 vX12_isSign rfl npX12_isSign (by decide) (by decide) (Nat.le_of_ble_eq_true rfl) (by decide) (by decide) GK_E (fun v9 h9 hq => ?_) (fun E h9 hq => by cases hq.1)
  obtain ⟨e9, e8⟩ := hq
  cases e9
  rw [e8]
  show K mX12_expression _ _ 0 0 207 [(4, vi (-1)), (3, vi 1), (0, vr 0), (1, vi (fvP pu)), (2, vi (laV pu))] [vi (if Sg tp (tk tp n p) 43 then 1 else 0)] hh
  rw [if_neg (fun z => absurd (hs.2.symm.trans z.2) (by decide))]
  refine K_if_ne (tgt := 219) (dt_at dtX12_expression 106 rfl) (by decide) (by first | assumption | exact ⟨by omega, by omega⟩) (fun c7 => absurd c7 (by omega)) (fun c7 => ?_)
  refine K_aload_n (dt_at dtX12_expression 107 rfl) rfl rfl ?_
  refine K_bipush (dt_at dtX12_expression 108 rfl) (by decide) ?_
  refine K_callV (M' := mX12_isSign) (a := 0) (ci := 12) (As := [vi 45]) (st := []) (dt_at dtX12_expression 109 rfl) (sg_g (c := 45) S.1 ⟨by decide, by decide⟩) (show TT 0 = (0, 12) from rfl) rfl wL_X12_202 vX12_isSign rfl npX12_isSign (by decide) (by decide) (Nat.le_of_ble_eq_true rfl) (by decide) (by decide) GK_E (fun v9 h9 hq => ?_) (fun E h9 hq => by cases hq.1)
  obtain ⟨e9, e8⟩ := hq
  cases e9
  rw [e8]
  show K mX12_expression _ _ 0 0 216 [(4, vi (-1)), (3, vi 1), (0, vr 0), (1, vi (fvP pu)), (2, vi (laV pu))] [vi (if Sg tp (tk tp n p) 45 then 1 else 0)] hh
  rw [if_neg (fun z => absurd (hs.2.symm.trans z.2) (by decide))]
  refine K_if_eq (tgt := 256) (dt_at dtX12_expression 110 rfl) (by decide) (by first | assumption | exact ⟨by omega, by omega⟩) (fun c8 => ?_) (fun c8 => absurd c8 (by omega))
  refine K_aload_n (dt_at dtX12_expression 129 rfl) rfl rfl ?_
  refine K_bipush (dt_at dtX12_expression 130 rfl) (by decide) ?_
  refine K_callV (M' := mX12_isSign) (a := 0) (ci := 12) (As := [vi 42]) (st := []) (dt_at dtX12_expression 131 rfl) (sg_g (c := 42) S.1 ⟨by decide, by decide⟩) (show TT 0 = (0, 12) from rfl) rfl wL_X12_202 vX12_isSign rfl npX12_isSign (by decide) (by decide) (Nat.le_of_ble_eq_true rfl) (by decide) (by decide) GK_E (fun v9 h9 hq => ?_) (fun E h9 hq => by cases hq.1)
  obtain ⟨e9, e8⟩ := hq
  cases e9
  rw [e8]
  show K mX12_expression _ _ 0 0 262 [(4, vi (-1)), (3, vi 1), (0, vr 0), (1, vi (fvP pu)), (2, vi (laV pu))] [vi (if Sg tp (tk tp n p) 42 then 1 else 0)] hh
  rw [if_neg (fun z => absurd (hs.2.symm.trans z.2) (by decide))]
  refine K_if_ne (tgt := 274) (dt_at dtX12_expression 132 rfl) (by decide) (by first | assumption | exact ⟨by omega, by omega⟩) (fun c9 => absurd c9 (by omega)) (fun c9 => ?_)
  refine K_aload_n (dt_at dtX12_expression 133 rfl) rfl rfl ?_
  refine K_bipush (dt_at dtX12_expression 134 rfl) (by decide) ?_
  refine K_callV (M' := mX12_isSign) (a := 0) (ci := 12) (As := [vi 47]) (st := []) (dt_at dtX12_expression 135 rfl) (sg_g (c := 47) S.1 ⟨by decide, by decide⟩) (show TT 0 = (0, 12) from rfl) rfl wL_X12_202 vX12_isSign rfl npX12_isSign (by decide) (by decide) (Nat.le_of_ble_eq_true rfl) (by decide) (by decide) GK_E (fun v9 h9 hq => ?_) (fun E h9 hq => by cases hq.1)
  obtain ⟨e9, e8⟩ := hq
  cases e9
  rw [e8]
  show K mX12_expression _ _ 0 0 271 [(4, vi (-1)), (3, vi 1), (0, vr 0), (1, vi (fvP pu)), (2, vi (laV pu))] [vi (if Sg tp (tk tp n p) 47 then 1 else 0)] hh
  rw [if_pos hs]
  refine K_if_eq (tgt := 312) (dt_at dtX12_expression 136 rfl) (by decide) (by first | assumption | exact ⟨by omega, by omega⟩) (fun c10 => absurd c10 (by omega)) (fun c10 => ?_)
  refine K_aload_n (dt_at dtX12_expression 137 rfl) rfl rfl ?_
  refine K_bipush (dt_at dtX12_expression 138 rfl) (by decide) ?_
  refine K_callV (M' := mX12_drops) (a := 0) (ci := 12) (As := [vi 6]) (st := []) (dt_at dtX12_expression 139 rfl) (drops_K (s := 6) (V := V) (W := W) ⟨by decide, by decide⟩ (hW) (fun x hx => S.2.2.2.1.2 x (List.mem_append.mpr (Or.inr hx))) (opn_up hV (by omega)) S.2.2.2.1.1 (by omega) (by omega) (by omega)) (show TT 0 = (0, 12) from rfl) rfl wL_X12_214 vX12_drops rfl npX12_drops (by decide) (by decide) (Nat.le_of_ble_eq_true rfl) (by decide) (by decide) GK_E (fun v9 hc1 hq => ?_) (fun E h9 hq => by cases hq.1)
  have hqq2 := hq
  obtain ⟨e9q2, Dq2⟩ := hqq2
  have Sq2 := SR_drop S (by omega) (opn_up hV (by omega : (6 : Int) ≤ _)) Dq2
  cases e9q2
  show K mX12_expression _ _ 0 0 280 [(4, vi (-1)), (3, vi 1), (0, vr 0), (1, vi (fvP pu)), (2, vi (laV pu))] [] hc1
  refine K_aload_n (dt_at dtX12_expression 140 rfl) rfl rfl ?_
  refine K_aload_n (dt_at dtX12_expression 141 rfl) rfl rfl ?_
  refine K_bipush (dt_at dtX12_expression 142 rfl) (by decide) ?_
  refine K_callV (M' := mX12_isSign) (a := 0) (ci := 12) (As := [vi 42]) (st := [vr 0]) (dt_at dtX12_expression 143 rfl) (sg_g (c := 42) Sq2.1 ⟨by decide, by decide⟩) (show TT 0 = (0, 12) from rfl) rfl wL_X12_202 vX12_isSign rfl npX12_isSign (by decide) (by decide) (Nat.le_of_ble_eq_true rfl) (by decide) (by decide) GK_E (fun v9 h9 hq => ?_) (fun E h9 hq => by cases hq.1)
  obtain ⟨e9, e8⟩ := hq
  cases e9
  rw [e8]
  show K mX12_expression _ _ 0 0 287 [(4, vi (-1)), (3, vi 1), (0, vr 0), (1, vi (fvP pu)), (2, vi (laV pu))] [vi (if Sg tp (tk tp n p) 42 then 1 else 0), vr 0] hc1
  rw [if_neg (fun z => absurd (hs.2.symm.trans z.2) (by decide))]
  refine K_if_eq (tgt := 295) (dt_at dtX12_expression 144 rfl) (by decide) (by first | assumption | exact ⟨by omega, by omega⟩) (fun c11 => ?_) (fun c11 => absurd c11 (by omega))
  refine K_bipush (dt_at dtX12_expression 147 rfl) (by decide) ?_
  refine K_callV (M' := mX12_waitsFor) (a := 0) (ci := 12) (As := [vi 11]) (st := []) (dt_at dtX12_expression 148 rfl) (sX12_waitsFor (v := 11) (by have := SR_bnd Sq2 (by omega); omega)) (show TT 0 = (0, 12) from rfl) rfl wL_X12_205 vX12_waitsFor rfl npX12_waitsFor (by decide) (by decide) (Nat.le_of_ble_eq_true rfl) (by decide) (by decide) GK_E (fun v9 h9 hq => ?_) (fun E h9 hq => by cases hq.1)
  obtain ⟨e9, e8⟩ := hq
  cases e9
  rw [e8]
  show K mX12_expression _ _ 0 0 300 [(4, vi (-1)), (3, vi 1), (0, vr 0), (1, vi (fvP pu)), (2, vi (laV pu))] [] (sI (sA hc1 16 (hI hc1 0 31) 11) 0 31 (hI hc1 0 31 + 1))
  obtain ⟨hq3, eq3⟩ : ∃ z, z = sA hc1 16 (hI hc1 0 31) 11 := ⟨_, rfl⟩
  rw [← eq3]
  obtain ⟨aq3, fq3, iq3, rq3⟩ := sA_fx eq3
  obtain ⟨hq4, eq4⟩ : ∃ z, z = sI hq3 0 31 (hI hc1 0 31 + 1) := ⟨_, rfl⟩
  rw [← eq4]
  obtain ⟨iq4, fq4, aq4, rq4⟩ := sI_fx eq4
  have Sq4 := SR_push (x := (-17)) Sq2 (Or.inr (by decide)) iq4 (by rw [aq4, aq3, show wcF (-17) = 11 from rfl]) (FL_tr (FL_eA eq3 rfl : FL [16] [(0, 31)] [] hc1 hq3) (FL_eI eq4 rfl))
  have bnhq4 := SR_bnd Sq4 (by omega)
  have tlhq4 : 1 ≤ hI hq4 0 32 := by rw [bnhq4.2.2.2.2.2.1]; show (1 : Int) ≤ ((T.length + 1 : Nat) : Int); omega
  refine K_aload_n (dt_at dtX12_expression 149 rfl) rfl rfl ?_
  refine K_callV (M' := mX12_goes) (a := 0) (ci := 12) (As := []) (st := []) (dt_at dtX12_expression 150 rfl) (goes_g Sq4.1) (show TT 0 = (0, 12) from rfl) rfl wL_X12_168 vX12_goes rfl npX12_goes (by decide) (by decide) (Nat.le_of_ble_eq_true rfl) (by decide) (by decide) GK_E (fun v9 hc5 hq => ?_) (fun E h9 hq => by cases hq.1)
  have hqq6 := hq
  obtain ⟨e9q6, Aq6, Gq6⟩ := hqq6
  have Sq6 := SR_goes Sq4 (Or.inr ⟨rfl, hnz⟩) Aq6 Gq6
  cases e9q6
  show K mX12_expression _ _ 0 0 304 [(4, vi (-1)), (3, vi 1), (0, vr 0), (1, vi (fvP pu)), (2, vi (laV pu))] [] hc5
  refine K_aload_n (dt_at dtX12_expression 151 rfl) rfl rfl ?_
  refine K_iconst (dt_at dtX12_expression 152 rfl) ?_
  refine K_callV (M' := mX12_operand) (a := 0) (ci := 12) (As := [vi 0]) (st := []) (dt_at dtX12_expression 153 rfl) (operand_0 (f := n + 1) hpu Sq6 (by omega)) (show TT 0 = (0, 12) from rfl) rfl wL_X12_217 vX12_operand rfl npX12_operand (by decide) (by decide) (Nat.le_of_ble_eq_true rfl) (by decide) (by decide) GK_E (fun v9 hc7 hq => ?_) (fun E h9 hq => by cases hq.1)
  have hqq8 := hq
  obtain ⟨e9q8, oq8⟩ := hqq8
  cases e9q8
  show K mX12_expression _ _ 0 0 309 [(4, vi (-1)), (3, vi 1), (0, vr 0), (1, vi (fvP pu)), (2, vi (laV pu))] [] hc7
  refine K_goto (tgt := 337) (dt_at dtX12_expression 154 rfl) (by decide) ?_
  refine K_goto (tgt := 39) (dt_at dtX12_expression 167 rfl) (by decide) ?_
  have g9 := g (n + 1) (by omega)
  have o9 := oq8
  rcases hu : opP tp n pu (n + 1) 7 (tk tp n p).2.2 ((-17) :: W) (b :: T) with e | ⟨q, x9, W9, T9⟩
  · rw [hu] at g9 o9
    exact K_pk [1, 2, 3, 4] (ls' := [(3, vi 1), (0, vr 0), (1, vi (fvP pu)), (2, vi (laV pu))]) rfl (end_39 (pu := pu) o9 g9)
  · rw [hu] at g9 o9
    exact K_pk [1, 2, 3, 4] (ls' := [(3, vi 1), (0, vr 0), (1, vi (fvP pu)), (2, vi (laV pu))]) rfl (g9 _ o9)
set_option maxHeartbeats 4000000 in
set_option maxRecDepth 100000 in
theorem rule_close {h0 : HP} {tp : Int → Int} {n : Nat} {pu : Int} {a : Nat} {Q : AO → HP → Prop} {p : Nat} {L V W : List Int} {b c : Bool} {T : List Bool} (hs : Sg tp (tk tp n p) 41) (hV : opn 1 V) (g : KLx h0 tp n pu a Q (tk tp n p).2.2 (L ++ V) W (c :: T)) : KLx h0 tp n pu a Q p L (V ++ 0 :: W) (b :: c :: T) := by
  intro hh S
  have hbn := SR_bnd S (by omega)
  have hp := S.1.2.2.1
  have hkw : kwF tp (tk tp n p) = -1 := kwF_no (fun i hi z => Sg_w hs z)
  have hnz : (tk tp n p).1 ≠ 0 := by have := hs.1; omega
  refine K_iload_n (dt_at dtX12_expression 23 rfl) rfl rfl ?_
  refine K_if_eq (tgt := 340) (dt_at dtX12_expression 24 rfl) (by decide) (by first | assumption | exact ⟨by omega, by omega⟩) (fun c1 => absurd c1 (by omega)) (fun c1 => ?_)
  refine K_aload_n (dt_at dtX12_expression 25 rfl) rfl rfl ?_
  refine K_callV (M' := mX12_isGood) (a := 0) (ci := 12) (As := []) (st := []) (dt_at dtX12_expression 26 rfl) (good_t S.1.2.2.2.1) (show TT 0 = (0, 12) from rfl) rfl wL_X12_164 vX12_isGood rfl npX12_isGood (by decide) (by decide) (Nat.le_of_ble_eq_true rfl) (by decide) (by decide) GK_E (fun v9 h9 hq => ?_) (fun E h9 hq => by cases hq.1)
  obtain ⟨e9, e8⟩ := hq
  cases e9
  rw [e8]
  show K mX12_expression _ _ 0 0 47 [(3, vi 1), (0, vr 0), (1, vi (fvP pu)), (2, vi (laV pu))] [vi 1] hh
  refine K_if_eq (tgt := 340) (dt_at dtX12_expression 27 rfl) (by decide) (by first | assumption | exact ⟨by omega, by omega⟩) (fun c2 => absurd c2 (by omega)) (fun c2 => ?_)
  refine K_aload_n (dt_at dtX12_expression 28 rfl) rfl rfl ?_
  refine K_callV (M' := mX12_knownWord) (a := 0) (ci := 12) (As := []) (st := []) (dt_at dtX12_expression 29 rfl) (kw_g S.1) (show TT 0 = (0, 12) from rfl) rfl wL_X12_189 vX12_knownWord rfl npX12_knownWord (by decide) (by decide) (Nat.le_of_ble_eq_true rfl) (by decide) (by decide) GK_E (fun v9 h9 hq => ?_) (fun E h9 hq => by cases hq.1)
  obtain ⟨e9, e8⟩ := hq
  cases e9
  rw [e8]
  show K mX12_expression _ _ 0 0 54 [(3, vi 1), (0, vr 0), (1, vi (fvP pu)), (2, vi (laV pu))] [vi (kwF tp (tk tp n p))] hh
  rw [hkw]
  refine K_istore (ls' := [(4, vi (-1)), (3, vi 1), (0, vr 0), (1, vi (fvP pu)), (2, vi (laV pu))]) (dt_at dtX12_expression 30 rfl) (by decide) rfl ?_
  refine K_iload (dt_at dtX12_expression 31 rfl) rfl ?_
  refine K_bipush (dt_at dtX12_expression 32 rfl) (by decide) ?_
  refine K_icmp_eq (tgt := 70) (dt_at dtX12_expression 33 rfl) (by decide) (by first | assumption | exact ⟨by omega, by omega⟩) (by first | assumption | exact ⟨by omega, by omega⟩) (fun c3 => absurd c3 (by omega)) (fun c3 => ?_)
  refine K_iload (dt_at dtX12_expression 34 rfl) rfl ?_
  refine K_bipush (dt_at dtX12_expression 35 rfl) (by decide) ?_
  refine K_icmp_ne (tgt := 124) (dt_at dtX12_expression 36 rfl) (by decide) (by first | assumption | exact ⟨by omega, by omega⟩) (by first | assumption | exact ⟨by omega, by omega⟩) (fun c4 => ?_) (fun c4 => absurd c4 (by omega))
  refine K_aload_n (dt_at dtX12_expression 65 rfl) rfl rfl ?_
  refine K_bipush (dt_at dtX12_expression 66 rfl) (by decide) ?_
  refine K_callV (M' := mX12_isSign) (a := 0) (ci := 12) (As := [vi 60]) (st := []) (dt_at dtX12_expression 67 rfl) (sg_g (c := 60) S.1 ⟨by decide, by decide⟩) (show TT 0 = (0, 12) from rfl) rfl wL_X12_202 vX12_isSign rfl npX12_isSign (by decide) (by decide) (Nat.le_of_ble_eq_true rfl) (by decide) (by decide) GK_E (fun v9 h9 hq => ?_) (fun E h9 hq => by cases hq.1)
  obtain ⟨e9, e8⟩ := hq
  cases e9
  rw [e8]
  show K mX12_expression _ _ 0 0 130 [(4, vi (-1)), (3, vi 1), (0, vr 0), (1, vi (fvP pu)), (2, vi (laV pu))] [vi (if Sg tp (tk tp n p) 60 then 1 else 0)] hh
  rw [if_neg (fun z => absurd (hs.2.symm.trans z.2) (by decide))]
  refine K_if_ne (tgt := 142) (dt_at dtX12_expression 68 rfl) (by decide) (by first | assumption | exact ⟨by omega, by omega⟩) (fun c5 => absurd c5 (by omega)) (fun c5 => ?_)
  refine K_aload_n (dt_at dtX12_expression 69 rfl) rfl rfl ?_
  refine K_bipush (dt_at dtX12_expression 70 rfl) (by decide) ?_
  refine K_callV (M' := mX12_isSign) (a := 0) (ci := 12) (As := [vi 61]) (st := []) (dt_at dtX12_expression 71 rfl) (sg_g (c := 61) S.1 ⟨by decide, by decide⟩) (show TT 0 = (0, 12) from rfl) rfl wL_X12_202 vX12_isSign rfl npX12_isSign (by decide) (by decide) (Nat.le_of_ble_eq_true rfl) (by decide) (by decide) GK_E (fun v9 h9 hq => ?_) (fun E h9 hq => by cases hq.1)
  obtain ⟨e9, e8⟩ := hq
  cases e9
  rw [e8]
  show K mX12_expression _ _ 0 0 139 [(4, vi (-1)), (3, vi 1), (0, vr 0), (1, vi (fvP pu)), (2, vi (laV pu))] [vi (if Sg tp (tk tp n p) 61 then 1 else 0)] hh
  rw [if_neg (fun z => absurd (hs.2.symm.trans z.2) (by decide))]
  refine K_if_eq (tgt := 201) (dt_at dtX12_expression 72 rfl) (by decide) (by first | assumption | exact ⟨by omega, by omega⟩) (fun c6 => ?_) (fun c6 => absurd c6 (by omega))
  refine K_aload_n (dt_at dtX12_expression 103 rfl) rfl rfl ?_
  refine K_bipush (dt_at dtX12_expression 104 rfl) (by decide) ?_
  refine K_callV (M' := mX12_isSign) (a := 0) (ci := 12) (As := [vi 43]) (st := []) (dt_at dtX12_expression 105 rfl) (sg_g (c := 43) S.1 ⟨by decide, by decide⟩) (show TT 0 = (0, 12) from rfl) rfl wL_X12_202 vX12_isSign rfl npX12_isSign (by decide) (by decide) (Nat.le_of_ble_eq_true rfl) (by decide) (by decide) GK_E (fun v9 h9 hq => ?_) (fun E h9 hq => by cases hq.1)
  obtain ⟨e9, e8⟩ := hq
  cases e9
  rw [e8]
  show K mX12_expression _ _ 0 0 207 [(4, vi (-1)), (3, vi 1), (0, vr 0), (1, vi (fvP pu)), (2, vi (laV pu))] [vi (if Sg tp (tk tp n p) 43 then 1 else 0)] hh
  rw [if_neg (fun z => absurd (hs.2.symm.trans z.2) (by decide))]
  refine K_if_ne (tgt := 219) (dt_at dtX12_expression 106 rfl) (by decide) (by first | assumption | exact ⟨by omega, by omega⟩) (fun c7 => absurd c7 (by omega)) (fun c7 => ?_)
  refine K_aload_n (dt_at dtX12_expression 107 rfl) rfl rfl ?_
  refine K_bipush (dt_at dtX12_expression 108 rfl) (by decide) ?_
  refine K_callV (M' := mX12_isSign) (a := 0) (ci := 12) (As := [vi 45]) (st := []) (dt_at dtX12_expression 109 rfl) (sg_g (c := 45) S.1 ⟨by decide, by decide⟩) (show TT 0 = (0, 12) from rfl) rfl wL_X12_202 vX12_isSign rfl npX12_isSign (by decide) (by decide) (Nat.le_of_ble_eq_true rfl) (by decide) (by decide) GK_E (fun v9 h9 hq => ?_) (fun E h9 hq => by cases hq.1)
  obtain ⟨e9, e8⟩ := hq
  cases e9
  rw [e8]
  show K mX12_expression _ _ 0 0 216 [(4, vi (-1)), (3, vi 1), (0, vr 0), (1, vi (fvP pu)), (2, vi (laV pu))] [vi (if Sg tp (tk tp n p) 45 then 1 else 0)] hh
  rw [if_neg (fun z => absurd (hs.2.symm.trans z.2) (by decide))]
  refine K_if_eq (tgt := 256) (dt_at dtX12_expression 110 rfl) (by decide) (by first | assumption | exact ⟨by omega, by omega⟩) (fun c8 => ?_) (fun c8 => absurd c8 (by omega))
  refine K_aload_n (dt_at dtX12_expression 129 rfl) rfl rfl ?_
  refine K_bipush (dt_at dtX12_expression 130 rfl) (by decide) ?_
  refine K_callV (M' := mX12_isSign) (a := 0) (ci := 12) (As := [vi 42]) (st := []) (dt_at dtX12_expression 131 rfl) (sg_g (c := 42) S.1 ⟨by decide, by decide⟩) (show TT 0 = (0, 12) from rfl) rfl wL_X12_202 vX12_isSign rfl npX12_isSign (by decide) (by decide) (Nat.le_of_ble_eq_true rfl) (by decide) (by decide) GK_E (fun v9 h9 hq => ?_) (fun E h9 hq => by cases hq.1)
  obtain ⟨e9, e8⟩ := hq
  cases e9
  rw [e8]
  show K mX12_expression _ _ 0 0 262 [(4, vi (-1)), (3, vi 1), (0, vr 0), (1, vi (fvP pu)), (2, vi (laV pu))] [vi (if Sg tp (tk tp n p) 42 then 1 else 0)] hh
  rw [if_neg (fun z => absurd (hs.2.symm.trans z.2) (by decide))]
  refine K_if_ne (tgt := 274) (dt_at dtX12_expression 132 rfl) (by decide) (by first | assumption | exact ⟨by omega, by omega⟩) (fun c9 => absurd c9 (by omega)) (fun c9 => ?_)
  refine K_aload_n (dt_at dtX12_expression 133 rfl) rfl rfl ?_
  refine K_bipush (dt_at dtX12_expression 134 rfl) (by decide) ?_
  refine K_callV (M' := mX12_isSign) (a := 0) (ci := 12) (As := [vi 47]) (st := []) (dt_at dtX12_expression 135 rfl) (sg_g (c := 47) S.1 ⟨by decide, by decide⟩) (show TT 0 = (0, 12) from rfl) rfl wL_X12_202 vX12_isSign rfl npX12_isSign (by decide) (by decide) (Nat.le_of_ble_eq_true rfl) (by decide) (by decide) GK_E (fun v9 h9 hq => ?_) (fun E h9 hq => by cases hq.1)
  obtain ⟨e9, e8⟩ := hq
  cases e9
  rw [e8]
  show K mX12_expression _ _ 0 0 271 [(4, vi (-1)), (3, vi 1), (0, vr 0), (1, vi (fvP pu)), (2, vi (laV pu))] [vi (if Sg tp (tk tp n p) 47 then 1 else 0)] hh
  rw [if_neg (fun z => absurd (hs.2.symm.trans z.2) (by decide))]
  refine K_if_eq (tgt := 312) (dt_at dtX12_expression 136 rfl) (by decide) (by first | assumption | exact ⟨by omega, by omega⟩) (fun c10 => ?_) (fun c10 => absurd c10 (by omega))
  refine K_aload_n (dt_at dtX12_expression 155 rfl) rfl rfl ?_
  refine K_bipush (dt_at dtX12_expression 156 rfl) (by decide) ?_
  refine K_callV (M' := mX12_isSign) (a := 0) (ci := 12) (As := [vi 41]) (st := []) (dt_at dtX12_expression 157 rfl) (sg_g (c := 41) S.1 ⟨by decide, by decide⟩) (show TT 0 = (0, 12) from rfl) rfl wL_X12_202 vX12_isSign rfl npX12_isSign (by decide) (by decide) (Nat.le_of_ble_eq_true rfl) (by decide) (by decide) GK_E (fun v9 h9 hq => ?_) (fun E h9 hq => by cases hq.1)
  obtain ⟨e9, e8⟩ := hq
  cases e9
  rw [e8]
  show K mX12_expression _ _ 0 0 318 [(4, vi (-1)), (3, vi 1), (0, vr 0), (1, vi (fvP pu)), (2, vi (laV pu))] [vi (if Sg tp (tk tp n p) 41 then 1 else 0)] hh
  rw [if_pos hs]
  refine K_if_eq (tgt := 335) (dt_at dtX12_expression 158 rfl) (by decide) (by first | assumption | exact ⟨by omega, by omega⟩) (fun c11 => absurd c11 (by omega)) (fun c11 => ?_)
  refine K_aload_n (dt_at dtX12_expression 159 rfl) rfl rfl ?_
  refine K_callV (M' := mX12_isOpened) (a := 0) (ci := 12) (As := []) (st := []) (dt_at dtX12_expression 160 rfl) (opened_t hV S.2.2.2.1.1 (by omega)) (show TT 0 = (0, 12) from rfl) rfl wL_X12_221 vX12_isOpened rfl npX12_isOpened (by decide) (by decide) (Nat.le_of_ble_eq_true rfl) (by decide) (by decide) GK_E (fun v9 h9 hq => ?_) (fun E h9 hq => by cases hq.1)
  obtain ⟨e9, e8⟩ := hq
  cases e9
  rw [e8]
  show K mX12_expression _ _ 0 0 325 [(4, vi (-1)), (3, vi 1), (0, vr 0), (1, vi (fvP pu)), (2, vi (laV pu))] [vi 1] hh
  refine K_if_eq (tgt := 335) (dt_at dtX12_expression 161 rfl) (by decide) (by first | assumption | exact ⟨by omega, by omega⟩) (fun c12 => absurd c12 (by omega)) (fun c12 => ?_)
  refine K_aload_n (dt_at dtX12_expression 162 rfl) rfl rfl ?_
  refine K_callV (M' := mX12_closes) (a := 0) (ci := 12) (As := []) (st := []) (dt_at dtX12_expression 163 rfl) (closes_K S hV) (show TT 0 = (0, 12) from rfl) rfl wL_X12_224 vX12_closes rfl npX12_closes (by decide) (by decide) (Nat.le_of_ble_eq_true rfl) (by decide) (by decide) GK_E (fun v9 hc1 hq => ?_) (fun E h9 hq => by cases hq.1)
  have hqq2 := hq
  obtain ⟨e9q2, Sq2⟩ := hqq2
  cases e9q2
  show K mX12_expression _ _ 0 0 332 [(4, vi (-1)), (3, vi 1), (0, vr 0), (1, vi (fvP pu)), (2, vi (laV pu))] [] hc1
  refine K_goto (tgt := 337) (dt_at dtX12_expression 164 rfl) (by decide) ?_
  refine K_goto (tgt := 39) (dt_at dtX12_expression 167 rfl) (by decide) ?_
  exact K_pk [1, 2, 3, 4] (ls' := [(3, vi 1), (0, vr 0), (1, vi (fvP pu)), (2, vi (laV pu))]) rfl (g _ Sq2)
set_option maxHeartbeats 4000000 in
set_option maxRecDepth 100000 in
theorem rule_exit {h0 : HP} {tp : Int → Int} {n : Nat} {pu : Int} {a : Nat} {Q : AO → HP → Prop} {p : Nat} {L V W : List Int} {b c : Bool} {T : List Bool} (ns : ¬ Sg tp (tk tp n p) 41) (hV : opn 1 V) (hf : (prdS tp (tk tp n p) = 0 ∧ sumS tp (tk tp n p) = 0 ∧ (b = false → tstS tp (tk tp n p) = 0)) ∧ andS tp (tk tp n p) = 0 ∧ orS tp (tk tp n p) = 0) (kE : KEx h0 tp n a Q (1, (tk tp n p).2.1)) : KLx h0 tp n pu a Q p L (V ++ 0 :: W) (b :: c :: T) := by
  intro hh S
  have hbn := SR_bnd S (by omega)
  have tl0 : 2 ≤ hI hh 0 32 := by rw [hbn.2.2.2.2.2.1]; show (2 : Int) ≤ ((T.length + 1 + 1 : Nat) : Int); omega
  have k13 := andS_0 hf.2.1
  have k14 := orS_0 hf.2.2
  have kb := kwF_b tp (tk tp n p)
  obtain ⟨p1, p2⟩ := prdS_0 hf.1.1
  obtain ⟨s1, s2⟩ := sumS_0 hf.1.2.1
  have th := TLt_hd S.2.2.2.2.1.1
  refine K_iload_n (dt_at dtX12_expression 23 rfl) rfl rfl ?_
  refine K_if_eq (tgt := 340) (dt_at dtX12_expression 24 rfl) (by decide) (by first | assumption | exact ⟨by omega, by omega⟩) (fun c1 => absurd c1 (by omega)) (fun c1 => ?_)
  refine K_aload_n (dt_at dtX12_expression 25 rfl) rfl rfl ?_
  refine K_callV (M' := mX12_isGood) (a := 0) (ci := 12) (As := []) (st := []) (dt_at dtX12_expression 26 rfl) (good_t S.1.2.2.2.1) (show TT 0 = (0, 12) from rfl) rfl wL_X12_164 vX12_isGood rfl npX12_isGood (by decide) (by decide) (Nat.le_of_ble_eq_true rfl) (by decide) (by decide) GK_E (fun v9 h9 hq => ?_) (fun E h9 hq => by cases hq.1)
  obtain ⟨e9, e8⟩ := hq
  cases e9
  rw [e8]
  show K mX12_expression _ _ 0 0 47 [(3, vi 1), (0, vr 0), (1, vi (fvP pu)), (2, vi (laV pu))] [vi 1] hh
  refine K_if_eq (tgt := 340) (dt_at dtX12_expression 27 rfl) (by decide) (by first | assumption | exact ⟨by omega, by omega⟩) (fun c2 => absurd c2 (by omega)) (fun c2 => ?_)
  refine K_aload_n (dt_at dtX12_expression 28 rfl) rfl rfl ?_
  refine K_callV (M' := mX12_knownWord) (a := 0) (ci := 12) (As := []) (st := []) (dt_at dtX12_expression 29 rfl) (kw_g S.1) (show TT 0 = (0, 12) from rfl) rfl wL_X12_189 vX12_knownWord rfl npX12_knownWord (by decide) (by decide) (Nat.le_of_ble_eq_true rfl) (by decide) (by decide) GK_E (fun v9 h9 hq => ?_) (fun E h9 hq => by cases hq.1)
  obtain ⟨e9, e8⟩ := hq
  cases e9
  rw [e8]
  show K mX12_expression _ _ 0 0 54 [(3, vi 1), (0, vr 0), (1, vi (fvP pu)), (2, vi (laV pu))] [vi (kwF tp (tk tp n p))] hh
  refine K_istore (ls' := [(4, vi (kwF tp (tk tp n p))), (3, vi 1), (0, vr 0), (1, vi (fvP pu)), (2, vi (laV pu))]) (dt_at dtX12_expression 30 rfl) (by decide) rfl ?_
  refine K_iload (dt_at dtX12_expression 31 rfl) rfl ?_
  refine K_bipush (dt_at dtX12_expression 32 rfl) (by decide) ?_
  refine K_icmp_eq (tgt := 70) (dt_at dtX12_expression 33 rfl) (by decide) ⟨by omega, by omega⟩ (by first | assumption | exact ⟨by omega, by omega⟩) (fun c3 => absurd c3 (by omega)) (fun c3 => ?_)
  refine K_iload (dt_at dtX12_expression 34 rfl) rfl ?_
  refine K_bipush (dt_at dtX12_expression 35 rfl) (by decide) ?_
  refine K_icmp_ne (tgt := 124) (dt_at dtX12_expression 36 rfl) (by decide) ⟨by omega, by omega⟩ (by first | assumption | exact ⟨by omega, by omega⟩) (fun c4 => ?_) (fun c4 => absurd c4 (by omega))
  refine K_aload_n (dt_at dtX12_expression 65 rfl) rfl rfl ?_
  refine K_bipush (dt_at dtX12_expression 66 rfl) (by decide) ?_
  refine K_callV (M' := mX12_isSign) (a := 0) (ci := 12) (As := [vi 60]) (st := []) (dt_at dtX12_expression 67 rfl) (sg_g (c := 60) S.1 ⟨by decide, by decide⟩) (show TT 0 = (0, 12) from rfl) rfl wL_X12_202 vX12_isSign rfl npX12_isSign (by decide) (by decide) (Nat.le_of_ble_eq_true rfl) (by decide) (by decide) GK_E (fun v9 h9 hq => ?_) (fun E h9 hq => by cases hq.1)
  obtain ⟨e9, e8⟩ := hq
  cases e9
  rw [e8]
  show K mX12_expression _ _ 0 0 130 [(4, vi (kwF tp (tk tp n p))), (3, vi 1), (0, vr 0), (1, vi (fvP pu)), (2, vi (laV pu))] [vi (if Sg tp (tk tp n p) 60 then 1 else 0)] hh
  by_cases z5 : Sg tp (tk tp n p) 60
  · rw [if_pos z5]
    refine K_if_ne (tgt := 142) (dt_at dtX12_expression 68 rfl) (by decide) (by first | assumption | exact ⟨by omega, by omega⟩) (fun c6 => ?_) (fun c6 => absurd c6 (by omega))
    have hb1 : b = true := by cases b with | true => rfl | false => first | exact absurd (by assumption) (tstS_0 (hf.1.2.2 rfl)).1 | exact absurd (by assumption) (tstS_0 (hf.1.2.2 rfl)).2
    have th1 : hA hh 17 (hI hh 0 32) = 1 := by rw [th, hb1]; rfl
    refine K_aload_n (dt_at dtX12_expression 73 rfl) rfl rfl ?_
    refine K_get (a := 0) (ci := 12) (k := 41) (v := vr 17) (dt_at dtX12_expression 74 rfl) (show TT 0 = (0, 12) from rfl) rfl (by decide) wF_X12_68 rfl ?_
    refine K_aload_n (dt_at dtX12_expression 75 rfl) rfl rfl ?_
    refine K_get (a := 0) (ci := 12) (k := 32) (v := vi (hI hh 0 32)) (dt_at dtX12_expression 76 rfl) (show TT 0 = (0, 12) from rfl) rfl (by decide) wF_X12_199 rfl ?_
    refine K_zald (dt_at dtX12_expression 77 rfl) (show TT 17 = (3, 9) from rfl) (by omega) (by omega) ?_
    rw [th1]
    refine K_if_ne (tgt := 201) (dt_at dtX12_expression 78 rfl) (by decide) (by first | assumption | exact ⟨by omega, by omega⟩) (fun c7 => ?_) (fun c7 => absurd c7 (by omega))
    refine K_aload_n (dt_at dtX12_expression 103 rfl) rfl rfl ?_
    refine K_bipush (dt_at dtX12_expression 104 rfl) (by decide) ?_
    refine K_callV (M' := mX12_isSign) (a := 0) (ci := 12) (As := [vi 43]) (st := []) (dt_at dtX12_expression 105 rfl) (sg_g (c := 43) S.1 ⟨by decide, by decide⟩) (show TT 0 = (0, 12) from rfl) rfl wL_X12_202 vX12_isSign rfl npX12_isSign (by decide) (by decide) (Nat.le_of_ble_eq_true rfl) (by decide) (by decide) GK_E (fun v9 h9 hq => ?_) (fun E h9 hq => by cases hq.1)
    obtain ⟨e9, e8⟩ := hq
    cases e9
    rw [e8]
    show K mX12_expression _ _ 0 0 207 [(4, vi (kwF tp (tk tp n p))), (3, vi 1), (0, vr 0), (1, vi (fvP pu)), (2, vi (laV pu))] [vi (if Sg tp (tk tp n p) 43 then 1 else 0)] hh
    rw [if_neg s1]
    refine K_if_ne (tgt := 219) (dt_at dtX12_expression 106 rfl) (by decide) (by first | assumption | exact ⟨by omega, by omega⟩) (fun c8 => absurd c8 (by omega)) (fun c8 => ?_)
    refine K_aload_n (dt_at dtX12_expression 107 rfl) rfl rfl ?_
    refine K_bipush (dt_at dtX12_expression 108 rfl) (by decide) ?_
    refine K_callV (M' := mX12_isSign) (a := 0) (ci := 12) (As := [vi 45]) (st := []) (dt_at dtX12_expression 109 rfl) (sg_g (c := 45) S.1 ⟨by decide, by decide⟩) (show TT 0 = (0, 12) from rfl) rfl wL_X12_202 vX12_isSign rfl npX12_isSign (by decide) (by decide) (Nat.le_of_ble_eq_true rfl) (by decide) (by decide) GK_E (fun v9 h9 hq => ?_) (fun E h9 hq => by cases hq.1)
    obtain ⟨e9, e8⟩ := hq
    cases e9
    rw [e8]
    show K mX12_expression _ _ 0 0 216 [(4, vi (kwF tp (tk tp n p))), (3, vi 1), (0, vr 0), (1, vi (fvP pu)), (2, vi (laV pu))] [vi (if Sg tp (tk tp n p) 45 then 1 else 0)] hh
    rw [if_neg s2]
    refine K_if_eq (tgt := 256) (dt_at dtX12_expression 110 rfl) (by decide) (by first | assumption | exact ⟨by omega, by omega⟩) (fun c9 => ?_) (fun c9 => absurd c9 (by omega))
    refine K_aload_n (dt_at dtX12_expression 129 rfl) rfl rfl ?_
    refine K_bipush (dt_at dtX12_expression 130 rfl) (by decide) ?_
    refine K_callV (M' := mX12_isSign) (a := 0) (ci := 12) (As := [vi 42]) (st := []) (dt_at dtX12_expression 131 rfl) (sg_g (c := 42) S.1 ⟨by decide, by decide⟩) (show TT 0 = (0, 12) from rfl) rfl wL_X12_202 vX12_isSign rfl npX12_isSign (by decide) (by decide) (Nat.le_of_ble_eq_true rfl) (by decide) (by decide) GK_E (fun v9 h9 hq => ?_) (fun E h9 hq => by cases hq.1)
    obtain ⟨e9, e8⟩ := hq
    cases e9
    rw [e8]
    show K mX12_expression _ _ 0 0 262 [(4, vi (kwF tp (tk tp n p))), (3, vi 1), (0, vr 0), (1, vi (fvP pu)), (2, vi (laV pu))] [vi (if Sg tp (tk tp n p) 42 then 1 else 0)] hh
    rw [if_neg p1]
    refine K_if_ne (tgt := 274) (dt_at dtX12_expression 132 rfl) (by decide) (by first | assumption | exact ⟨by omega, by omega⟩) (fun c10 => absurd c10 (by omega)) (fun c10 => ?_)
    refine K_aload_n (dt_at dtX12_expression 133 rfl) rfl rfl ?_
    refine K_bipush (dt_at dtX12_expression 134 rfl) (by decide) ?_
    refine K_callV (M' := mX12_isSign) (a := 0) (ci := 12) (As := [vi 47]) (st := []) (dt_at dtX12_expression 135 rfl) (sg_g (c := 47) S.1 ⟨by decide, by decide⟩) (show TT 0 = (0, 12) from rfl) rfl wL_X12_202 vX12_isSign rfl npX12_isSign (by decide) (by decide) (Nat.le_of_ble_eq_true rfl) (by decide) (by decide) GK_E (fun v9 h9 hq => ?_) (fun E h9 hq => by cases hq.1)
    obtain ⟨e9, e8⟩ := hq
    cases e9
    rw [e8]
    show K mX12_expression _ _ 0 0 271 [(4, vi (kwF tp (tk tp n p))), (3, vi 1), (0, vr 0), (1, vi (fvP pu)), (2, vi (laV pu))] [vi (if Sg tp (tk tp n p) 47 then 1 else 0)] hh
    rw [if_neg p2]
    refine K_if_eq (tgt := 312) (dt_at dtX12_expression 136 rfl) (by decide) (by first | assumption | exact ⟨by omega, by omega⟩) (fun c11 => ?_) (fun c11 => absurd c11 (by omega))
    refine K_aload_n (dt_at dtX12_expression 155 rfl) rfl rfl ?_
    refine K_bipush (dt_at dtX12_expression 156 rfl) (by decide) ?_
    refine K_callV (M' := mX12_isSign) (a := 0) (ci := 12) (As := [vi 41]) (st := []) (dt_at dtX12_expression 157 rfl) (sg_g (c := 41) S.1 ⟨by decide, by decide⟩) (show TT 0 = (0, 12) from rfl) rfl wL_X12_202 vX12_isSign rfl npX12_isSign (by decide) (by decide) (Nat.le_of_ble_eq_true rfl) (by decide) (by decide) GK_E (fun v9 h9 hq => ?_) (fun E h9 hq => by cases hq.1)
    obtain ⟨e9, e8⟩ := hq
    cases e9
    rw [e8]
    show K mX12_expression _ _ 0 0 318 [(4, vi (kwF tp (tk tp n p))), (3, vi 1), (0, vr 0), (1, vi (fvP pu)), (2, vi (laV pu))] [vi (if Sg tp (tk tp n p) 41 then 1 else 0)] hh
    rw [if_neg ns]
    refine K_if_eq (tgt := 335) (dt_at dtX12_expression 158 rfl) (by decide) (by first | assumption | exact ⟨by omega, by omega⟩) (fun c12 => ?_) (fun c12 => absurd c12 (by omega))
    refine K_iconst (dt_at dtX12_expression 165 rfl) ?_
    refine K_istore_n (ls' := [(3, vi 0), (4, vi (kwF tp (tk tp n p))), (0, vr 0), (1, vi (fvP pu)), (2, vi (laV pu))]) (dt_at dtX12_expression 166 rfl) rfl (by decide) rfl ?_
    refine K_goto (tgt := 39) (dt_at dtX12_expression 167 rfl) (by decide) ?_
    refine K_iload_n (dt_at dtX12_expression 23 rfl) rfl rfl ?_
    refine K_if_eq (tgt := 340) (dt_at dtX12_expression 24 rfl) (by decide) (by first | assumption | exact ⟨by omega, by omega⟩) (fun c13 => ?_) (fun c13 => absurd c13 (by omega))
    refine K_aload_n (dt_at dtX12_expression 168 rfl) rfl rfl ?_
    refine K_callV (M' := mX12_isGood) (a := 0) (ci := 12) (As := []) (st := []) (dt_at dtX12_expression 169 rfl) (good_t S.1.2.2.2.1) (show TT 0 = (0, 12) from rfl) rfl wL_X12_164 vX12_isGood rfl npX12_isGood (by decide) (by decide) (Nat.le_of_ble_eq_true rfl) (by decide) (by decide) GK_E (fun v9 h9 hq => ?_) (fun E h9 hq => by cases hq.1)
    obtain ⟨e9, e8⟩ := hq
    cases e9
    rw [e8]
    show K mX12_expression _ _ 0 0 344 [(3, vi 0), (4, vi (kwF tp (tk tp n p))), (0, vr 0), (1, vi (fvP pu)), (2, vi (laV pu))] [vi 1] hh
    refine K_if_eq (tgt := 360) (dt_at dtX12_expression 170 rfl) (by decide) (by first | assumption | exact ⟨by omega, by omega⟩) (fun c14 => absurd c14 (by omega)) (fun c14 => ?_)
    refine K_aload_n (dt_at dtX12_expression 171 rfl) rfl rfl ?_
    refine K_get (a := 0) (ci := 12) (k := 32) (v := vi (hI hh 0 32)) (dt_at dtX12_expression 172 rfl) (show TT 0 = (0, 12) from rfl) rfl (by decide) wF_X12_199 rfl ?_
    refine K_iconst (dt_at dtX12_expression 173 rfl) ?_
    refine K_icmp_le (tgt := 360) (dt_at dtX12_expression 174 rfl) (by decide) ⟨by omega, by omega⟩ (by first | assumption | exact ⟨by omega, by omega⟩) (fun c15 => absurd c15 (by omega)) (fun c15 => ?_)
    refine K_aload_n (dt_at dtX12_expression 175 rfl) rfl rfl ?_
    refine K_iconst (dt_at dtX12_expression 176 rfl) ?_
    refine K_callV (M' := mX12_wrong) (a := 0) (ci := 12) (As := [vi 1]) (st := []) (dt_at dtX12_expression 177 rfl) (wrong_g (k := 1) S.1 (by omega)) (show TT 0 = (0, 12) from rfl) rfl wL_X12_171 vX12_wrong rfl npX12_wrong (by decide) (by decide) (Nat.le_of_ble_eq_true rfl) (by decide) (by decide) GK_E (fun v9 hc1 hq => ?_) (fun E h9 hq => by cases hq.1)
    have hqq2 := hq
    obtain ⟨e9q2, Eq2, Gq2⟩ := hqq2
    have Xq2 := SR_E S (by omega) Eq2 Gq2
    cases e9q2
    show K mX12_expression _ _ 0 0 360 [(3, vi 0), (4, vi (kwF tp (tk tp n p))), (0, vr 0), (1, vi (fvP pu)), (2, vi (laV pu))] [] hc1
    exact K_pk [0, 2, 3, 4] (ls' := [(3, vi 0), (0, vr 0), (1, vi (fvP pu)), (2, vi (laV pu))]) rfl (end_360 (pu := pu) Xq2 kE)
  · rw [if_neg z5]
    refine K_if_ne (tgt := 142) (dt_at dtX12_expression 68 rfl) (by decide) (by first | assumption | exact ⟨by omega, by omega⟩) (fun c16 => absurd c16 (by omega)) (fun c16 => ?_)
    refine K_aload_n (dt_at dtX12_expression 69 rfl) rfl rfl ?_
    refine K_bipush (dt_at dtX12_expression 70 rfl) (by decide) ?_
    refine K_callV (M' := mX12_isSign) (a := 0) (ci := 12) (As := [vi 61]) (st := []) (dt_at dtX12_expression 71 rfl) (sg_g (c := 61) S.1 ⟨by decide, by decide⟩) (show TT 0 = (0, 12) from rfl) rfl wL_X12_202 vX12_isSign rfl npX12_isSign (by decide) (by decide) (Nat.le_of_ble_eq_true rfl) (by decide) (by decide) GK_E (fun v9 h9 hq => ?_) (fun E h9 hq => by cases hq.1)
    obtain ⟨e9, e8⟩ := hq
    cases e9
    rw [e8]
    show K mX12_expression _ _ 0 0 139 [(4, vi (kwF tp (tk tp n p))), (3, vi 1), (0, vr 0), (1, vi (fvP pu)), (2, vi (laV pu))] [vi (if Sg tp (tk tp n p) 61 then 1 else 0)] hh
    by_cases z17 : Sg tp (tk tp n p) 61
    · rw [if_pos z17]
      refine K_if_eq (tgt := 201) (dt_at dtX12_expression 72 rfl) (by decide) (by first | assumption | exact ⟨by omega, by omega⟩) (fun c18 => absurd c18 (by omega)) (fun c18 => ?_)
      have hb1 : b = true := by cases b with | true => rfl | false => first | exact absurd (by assumption) (tstS_0 (hf.1.2.2 rfl)).1 | exact absurd (by assumption) (tstS_0 (hf.1.2.2 rfl)).2
      have th1 : hA hh 17 (hI hh 0 32) = 1 := by rw [th, hb1]; rfl
      refine K_aload_n (dt_at dtX12_expression 73 rfl) rfl rfl ?_
      refine K_get (a := 0) (ci := 12) (k := 41) (v := vr 17) (dt_at dtX12_expression 74 rfl) (show TT 0 = (0, 12) from rfl) rfl (by decide) wF_X12_68 rfl ?_
      refine K_aload_n (dt_at dtX12_expression 75 rfl) rfl rfl ?_
      refine K_get (a := 0) (ci := 12) (k := 32) (v := vi (hI hh 0 32)) (dt_at dtX12_expression 76 rfl) (show TT 0 = (0, 12) from rfl) rfl (by decide) wF_X12_199 rfl ?_
      refine K_zald (dt_at dtX12_expression 77 rfl) (show TT 17 = (3, 9) from rfl) (by omega) (by omega) ?_
      rw [th1]
      refine K_if_ne (tgt := 201) (dt_at dtX12_expression 78 rfl) (by decide) (by first | assumption | exact ⟨by omega, by omega⟩) (fun c19 => ?_) (fun c19 => absurd c19 (by omega))
      refine K_aload_n (dt_at dtX12_expression 103 rfl) rfl rfl ?_
      refine K_bipush (dt_at dtX12_expression 104 rfl) (by decide) ?_
      refine K_callV (M' := mX12_isSign) (a := 0) (ci := 12) (As := [vi 43]) (st := []) (dt_at dtX12_expression 105 rfl) (sg_g (c := 43) S.1 ⟨by decide, by decide⟩) (show TT 0 = (0, 12) from rfl) rfl wL_X12_202 vX12_isSign rfl npX12_isSign (by decide) (by decide) (Nat.le_of_ble_eq_true rfl) (by decide) (by decide) GK_E (fun v9 h9 hq => ?_) (fun E h9 hq => by cases hq.1)
      obtain ⟨e9, e8⟩ := hq
      cases e9
      rw [e8]
      show K mX12_expression _ _ 0 0 207 [(4, vi (kwF tp (tk tp n p))), (3, vi 1), (0, vr 0), (1, vi (fvP pu)), (2, vi (laV pu))] [vi (if Sg tp (tk tp n p) 43 then 1 else 0)] hh
      rw [if_neg s1]
      refine K_if_ne (tgt := 219) (dt_at dtX12_expression 106 rfl) (by decide) (by first | assumption | exact ⟨by omega, by omega⟩) (fun c20 => absurd c20 (by omega)) (fun c20 => ?_)
      refine K_aload_n (dt_at dtX12_expression 107 rfl) rfl rfl ?_
      refine K_bipush (dt_at dtX12_expression 108 rfl) (by decide) ?_
      refine K_callV (M' := mX12_isSign) (a := 0) (ci := 12) (As := [vi 45]) (st := []) (dt_at dtX12_expression 109 rfl) (sg_g (c := 45) S.1 ⟨by decide, by decide⟩) (show TT 0 = (0, 12) from rfl) rfl wL_X12_202 vX12_isSign rfl npX12_isSign (by decide) (by decide) (Nat.le_of_ble_eq_true rfl) (by decide) (by decide) GK_E (fun v9 h9 hq => ?_) (fun E h9 hq => by cases hq.1)
      obtain ⟨e9, e8⟩ := hq
      cases e9
      rw [e8]
      show K mX12_expression _ _ 0 0 216 [(4, vi (kwF tp (tk tp n p))), (3, vi 1), (0, vr 0), (1, vi (fvP pu)), (2, vi (laV pu))] [vi (if Sg tp (tk tp n p) 45 then 1 else 0)] hh
      rw [if_neg s2]
      refine K_if_eq (tgt := 256) (dt_at dtX12_expression 110 rfl) (by decide) (by first | assumption | exact ⟨by omega, by omega⟩) (fun c21 => ?_) (fun c21 => absurd c21 (by omega))
      refine K_aload_n (dt_at dtX12_expression 129 rfl) rfl rfl ?_
      refine K_bipush (dt_at dtX12_expression 130 rfl) (by decide) ?_
      refine K_callV (M' := mX12_isSign) (a := 0) (ci := 12) (As := [vi 42]) (st := []) (dt_at dtX12_expression 131 rfl) (sg_g (c := 42) S.1 ⟨by decide, by decide⟩) (show TT 0 = (0, 12) from rfl) rfl wL_X12_202 vX12_isSign rfl npX12_isSign (by decide) (by decide) (Nat.le_of_ble_eq_true rfl) (by decide) (by decide) GK_E (fun v9 h9 hq => ?_) (fun E h9 hq => by cases hq.1)
      obtain ⟨e9, e8⟩ := hq
      cases e9
      rw [e8]
      show K mX12_expression _ _ 0 0 262 [(4, vi (kwF tp (tk tp n p))), (3, vi 1), (0, vr 0), (1, vi (fvP pu)), (2, vi (laV pu))] [vi (if Sg tp (tk tp n p) 42 then 1 else 0)] hh
      rw [if_neg p1]
      refine K_if_ne (tgt := 274) (dt_at dtX12_expression 132 rfl) (by decide) (by first | assumption | exact ⟨by omega, by omega⟩) (fun c22 => absurd c22 (by omega)) (fun c22 => ?_)
      refine K_aload_n (dt_at dtX12_expression 133 rfl) rfl rfl ?_
      refine K_bipush (dt_at dtX12_expression 134 rfl) (by decide) ?_
      refine K_callV (M' := mX12_isSign) (a := 0) (ci := 12) (As := [vi 47]) (st := []) (dt_at dtX12_expression 135 rfl) (sg_g (c := 47) S.1 ⟨by decide, by decide⟩) (show TT 0 = (0, 12) from rfl) rfl wL_X12_202 vX12_isSign rfl npX12_isSign (by decide) (by decide) (Nat.le_of_ble_eq_true rfl) (by decide) (by decide) GK_E (fun v9 h9 hq => ?_) (fun E h9 hq => by cases hq.1)
      obtain ⟨e9, e8⟩ := hq
      cases e9
      rw [e8]
      show K mX12_expression _ _ 0 0 271 [(4, vi (kwF tp (tk tp n p))), (3, vi 1), (0, vr 0), (1, vi (fvP pu)), (2, vi (laV pu))] [vi (if Sg tp (tk tp n p) 47 then 1 else 0)] hh
      rw [if_neg p2]
      refine K_if_eq (tgt := 312) (dt_at dtX12_expression 136 rfl) (by decide) (by first | assumption | exact ⟨by omega, by omega⟩) (fun c23 => ?_) (fun c23 => absurd c23 (by omega))
      refine K_aload_n (dt_at dtX12_expression 155 rfl) rfl rfl ?_
      refine K_bipush (dt_at dtX12_expression 156 rfl) (by decide) ?_
      refine K_callV (M' := mX12_isSign) (a := 0) (ci := 12) (As := [vi 41]) (st := []) (dt_at dtX12_expression 157 rfl) (sg_g (c := 41) S.1 ⟨by decide, by decide⟩) (show TT 0 = (0, 12) from rfl) rfl wL_X12_202 vX12_isSign rfl npX12_isSign (by decide) (by decide) (Nat.le_of_ble_eq_true rfl) (by decide) (by decide) GK_E (fun v9 h9 hq => ?_) (fun E h9 hq => by cases hq.1)
      obtain ⟨e9, e8⟩ := hq
      cases e9
      rw [e8]
      show K mX12_expression _ _ 0 0 318 [(4, vi (kwF tp (tk tp n p))), (3, vi 1), (0, vr 0), (1, vi (fvP pu)), (2, vi (laV pu))] [vi (if Sg tp (tk tp n p) 41 then 1 else 0)] hh
      rw [if_neg ns]
      refine K_if_eq (tgt := 335) (dt_at dtX12_expression 158 rfl) (by decide) (by first | assumption | exact ⟨by omega, by omega⟩) (fun c24 => ?_) (fun c24 => absurd c24 (by omega))
      refine K_iconst (dt_at dtX12_expression 165 rfl) ?_
      refine K_istore_n (ls' := [(3, vi 0), (4, vi (kwF tp (tk tp n p))), (0, vr 0), (1, vi (fvP pu)), (2, vi (laV pu))]) (dt_at dtX12_expression 166 rfl) rfl (by decide) rfl ?_
      refine K_goto (tgt := 39) (dt_at dtX12_expression 167 rfl) (by decide) ?_
      refine K_iload_n (dt_at dtX12_expression 23 rfl) rfl rfl ?_
      refine K_if_eq (tgt := 340) (dt_at dtX12_expression 24 rfl) (by decide) (by first | assumption | exact ⟨by omega, by omega⟩) (fun c25 => ?_) (fun c25 => absurd c25 (by omega))
      refine K_aload_n (dt_at dtX12_expression 168 rfl) rfl rfl ?_
      refine K_callV (M' := mX12_isGood) (a := 0) (ci := 12) (As := []) (st := []) (dt_at dtX12_expression 169 rfl) (good_t S.1.2.2.2.1) (show TT 0 = (0, 12) from rfl) rfl wL_X12_164 vX12_isGood rfl npX12_isGood (by decide) (by decide) (Nat.le_of_ble_eq_true rfl) (by decide) (by decide) GK_E (fun v9 h9 hq => ?_) (fun E h9 hq => by cases hq.1)
      obtain ⟨e9, e8⟩ := hq
      cases e9
      rw [e8]
      show K mX12_expression _ _ 0 0 344 [(3, vi 0), (4, vi (kwF tp (tk tp n p))), (0, vr 0), (1, vi (fvP pu)), (2, vi (laV pu))] [vi 1] hh
      refine K_if_eq (tgt := 360) (dt_at dtX12_expression 170 rfl) (by decide) (by first | assumption | exact ⟨by omega, by omega⟩) (fun c26 => absurd c26 (by omega)) (fun c26 => ?_)
      refine K_aload_n (dt_at dtX12_expression 171 rfl) rfl rfl ?_
      refine K_get (a := 0) (ci := 12) (k := 32) (v := vi (hI hh 0 32)) (dt_at dtX12_expression 172 rfl) (show TT 0 = (0, 12) from rfl) rfl (by decide) wF_X12_199 rfl ?_
      refine K_iconst (dt_at dtX12_expression 173 rfl) ?_
      refine K_icmp_le (tgt := 360) (dt_at dtX12_expression 174 rfl) (by decide) ⟨by omega, by omega⟩ (by first | assumption | exact ⟨by omega, by omega⟩) (fun c27 => absurd c27 (by omega)) (fun c27 => ?_)
      refine K_aload_n (dt_at dtX12_expression 175 rfl) rfl rfl ?_
      refine K_iconst (dt_at dtX12_expression 176 rfl) ?_
      refine K_callV (M' := mX12_wrong) (a := 0) (ci := 12) (As := [vi 1]) (st := []) (dt_at dtX12_expression 177 rfl) (wrong_g (k := 1) S.1 (by omega)) (show TT 0 = (0, 12) from rfl) rfl wL_X12_171 vX12_wrong rfl npX12_wrong (by decide) (by decide) (Nat.le_of_ble_eq_true rfl) (by decide) (by decide) GK_E (fun v9 hc3 hq => ?_) (fun E h9 hq => by cases hq.1)
      have hqq4 := hq
      obtain ⟨e9q4, Eq4, Gq4⟩ := hqq4
      have Xq4 := SR_E S (by omega) Eq4 Gq4
      cases e9q4
      show K mX12_expression _ _ 0 0 360 [(3, vi 0), (4, vi (kwF tp (tk tp n p))), (0, vr 0), (1, vi (fvP pu)), (2, vi (laV pu))] [] hc3
      exact K_pk [0, 2, 3, 4] (ls' := [(3, vi 0), (0, vr 0), (1, vi (fvP pu)), (2, vi (laV pu))]) rfl (end_360 (pu := pu) Xq4 kE)
    · rw [if_neg z17]
      refine K_if_eq (tgt := 201) (dt_at dtX12_expression 72 rfl) (by decide) (by first | assumption | exact ⟨by omega, by omega⟩) (fun c28 => ?_) (fun c28 => absurd c28 (by omega))
      refine K_aload_n (dt_at dtX12_expression 103 rfl) rfl rfl ?_
      refine K_bipush (dt_at dtX12_expression 104 rfl) (by decide) ?_
      refine K_callV (M' := mX12_isSign) (a := 0) (ci := 12) (As := [vi 43]) (st := []) (dt_at dtX12_expression 105 rfl) (sg_g (c := 43) S.1 ⟨by decide, by decide⟩) (show TT 0 = (0, 12) from rfl) rfl wL_X12_202 vX12_isSign rfl npX12_isSign (by decide) (by decide) (Nat.le_of_ble_eq_true rfl) (by decide) (by decide) GK_E (fun v9 h9 hq => ?_) (fun E h9 hq => by cases hq.1)
      obtain ⟨e9, e8⟩ := hq
      cases e9
      rw [e8]
      show K mX12_expression _ _ 0 0 207 [(4, vi (kwF tp (tk tp n p))), (3, vi 1), (0, vr 0), (1, vi (fvP pu)), (2, vi (laV pu))] [vi (if Sg tp (tk tp n p) 43 then 1 else 0)] hh
      rw [if_neg s1]
      refine K_if_ne (tgt := 219) (dt_at dtX12_expression 106 rfl) (by decide) (by first | assumption | exact ⟨by omega, by omega⟩) (fun c29 => absurd c29 (by omega)) (fun c29 => ?_)
      refine K_aload_n (dt_at dtX12_expression 107 rfl) rfl rfl ?_
      refine K_bipush (dt_at dtX12_expression 108 rfl) (by decide) ?_
      refine K_callV (M' := mX12_isSign) (a := 0) (ci := 12) (As := [vi 45]) (st := []) (dt_at dtX12_expression 109 rfl) (sg_g (c := 45) S.1 ⟨by decide, by decide⟩) (show TT 0 = (0, 12) from rfl) rfl wL_X12_202 vX12_isSign rfl npX12_isSign (by decide) (by decide) (Nat.le_of_ble_eq_true rfl) (by decide) (by decide) GK_E (fun v9 h9 hq => ?_) (fun E h9 hq => by cases hq.1)
      obtain ⟨e9, e8⟩ := hq
      cases e9
      rw [e8]
      show K mX12_expression _ _ 0 0 216 [(4, vi (kwF tp (tk tp n p))), (3, vi 1), (0, vr 0), (1, vi (fvP pu)), (2, vi (laV pu))] [vi (if Sg tp (tk tp n p) 45 then 1 else 0)] hh
      rw [if_neg s2]
      refine K_if_eq (tgt := 256) (dt_at dtX12_expression 110 rfl) (by decide) (by first | assumption | exact ⟨by omega, by omega⟩) (fun c30 => ?_) (fun c30 => absurd c30 (by omega))
      refine K_aload_n (dt_at dtX12_expression 129 rfl) rfl rfl ?_
      refine K_bipush (dt_at dtX12_expression 130 rfl) (by decide) ?_
      refine K_callV (M' := mX12_isSign) (a := 0) (ci := 12) (As := [vi 42]) (st := []) (dt_at dtX12_expression 131 rfl) (sg_g (c := 42) S.1 ⟨by decide, by decide⟩) (show TT 0 = (0, 12) from rfl) rfl wL_X12_202 vX12_isSign rfl npX12_isSign (by decide) (by decide) (Nat.le_of_ble_eq_true rfl) (by decide) (by decide) GK_E (fun v9 h9 hq => ?_) (fun E h9 hq => by cases hq.1)
      obtain ⟨e9, e8⟩ := hq
      cases e9
      rw [e8]
      show K mX12_expression _ _ 0 0 262 [(4, vi (kwF tp (tk tp n p))), (3, vi 1), (0, vr 0), (1, vi (fvP pu)), (2, vi (laV pu))] [vi (if Sg tp (tk tp n p) 42 then 1 else 0)] hh
      rw [if_neg p1]
      refine K_if_ne (tgt := 274) (dt_at dtX12_expression 132 rfl) (by decide) (by first | assumption | exact ⟨by omega, by omega⟩) (fun c31 => absurd c31 (by omega)) (fun c31 => ?_)
      refine K_aload_n (dt_at dtX12_expression 133 rfl) rfl rfl ?_
      refine K_bipush (dt_at dtX12_expression 134 rfl) (by decide) ?_
      refine K_callV (M' := mX12_isSign) (a := 0) (ci := 12) (As := [vi 47]) (st := []) (dt_at dtX12_expression 135 rfl) (sg_g (c := 47) S.1 ⟨by decide, by decide⟩) (show TT 0 = (0, 12) from rfl) rfl wL_X12_202 vX12_isSign rfl npX12_isSign (by decide) (by decide) (Nat.le_of_ble_eq_true rfl) (by decide) (by decide) GK_E (fun v9 h9 hq => ?_) (fun E h9 hq => by cases hq.1)
      obtain ⟨e9, e8⟩ := hq
      cases e9
      rw [e8]
      show K mX12_expression _ _ 0 0 271 [(4, vi (kwF tp (tk tp n p))), (3, vi 1), (0, vr 0), (1, vi (fvP pu)), (2, vi (laV pu))] [vi (if Sg tp (tk tp n p) 47 then 1 else 0)] hh
      rw [if_neg p2]
      refine K_if_eq (tgt := 312) (dt_at dtX12_expression 136 rfl) (by decide) (by first | assumption | exact ⟨by omega, by omega⟩) (fun c32 => ?_) (fun c32 => absurd c32 (by omega))
      refine K_aload_n (dt_at dtX12_expression 155 rfl) rfl rfl ?_
      refine K_bipush (dt_at dtX12_expression 156 rfl) (by decide) ?_
      refine K_callV (M' := mX12_isSign) (a := 0) (ci := 12) (As := [vi 41]) (st := []) (dt_at dtX12_expression 157 rfl) (sg_g (c := 41) S.1 ⟨by decide, by decide⟩) (show TT 0 = (0, 12) from rfl) rfl wL_X12_202 vX12_isSign rfl npX12_isSign (by decide) (by decide) (Nat.le_of_ble_eq_true rfl) (by decide) (by decide) GK_E (fun v9 h9 hq => ?_) (fun E h9 hq => by cases hq.1)
      obtain ⟨e9, e8⟩ := hq
      cases e9
      rw [e8]
      show K mX12_expression _ _ 0 0 318 [(4, vi (kwF tp (tk tp n p))), (3, vi 1), (0, vr 0), (1, vi (fvP pu)), (2, vi (laV pu))] [vi (if Sg tp (tk tp n p) 41 then 1 else 0)] hh
      rw [if_neg ns]
      refine K_if_eq (tgt := 335) (dt_at dtX12_expression 158 rfl) (by decide) (by first | assumption | exact ⟨by omega, by omega⟩) (fun c33 => ?_) (fun c33 => absurd c33 (by omega))
      refine K_iconst (dt_at dtX12_expression 165 rfl) ?_
      refine K_istore_n (ls' := [(3, vi 0), (4, vi (kwF tp (tk tp n p))), (0, vr 0), (1, vi (fvP pu)), (2, vi (laV pu))]) (dt_at dtX12_expression 166 rfl) rfl (by decide) rfl ?_
      refine K_goto (tgt := 39) (dt_at dtX12_expression 167 rfl) (by decide) ?_
      refine K_iload_n (dt_at dtX12_expression 23 rfl) rfl rfl ?_
      refine K_if_eq (tgt := 340) (dt_at dtX12_expression 24 rfl) (by decide) (by first | assumption | exact ⟨by omega, by omega⟩) (fun c34 => ?_) (fun c34 => absurd c34 (by omega))
      refine K_aload_n (dt_at dtX12_expression 168 rfl) rfl rfl ?_
      refine K_callV (M' := mX12_isGood) (a := 0) (ci := 12) (As := []) (st := []) (dt_at dtX12_expression 169 rfl) (good_t S.1.2.2.2.1) (show TT 0 = (0, 12) from rfl) rfl wL_X12_164 vX12_isGood rfl npX12_isGood (by decide) (by decide) (Nat.le_of_ble_eq_true rfl) (by decide) (by decide) GK_E (fun v9 h9 hq => ?_) (fun E h9 hq => by cases hq.1)
      obtain ⟨e9, e8⟩ := hq
      cases e9
      rw [e8]
      show K mX12_expression _ _ 0 0 344 [(3, vi 0), (4, vi (kwF tp (tk tp n p))), (0, vr 0), (1, vi (fvP pu)), (2, vi (laV pu))] [vi 1] hh
      refine K_if_eq (tgt := 360) (dt_at dtX12_expression 170 rfl) (by decide) (by first | assumption | exact ⟨by omega, by omega⟩) (fun c35 => absurd c35 (by omega)) (fun c35 => ?_)
      refine K_aload_n (dt_at dtX12_expression 171 rfl) rfl rfl ?_
      refine K_get (a := 0) (ci := 12) (k := 32) (v := vi (hI hh 0 32)) (dt_at dtX12_expression 172 rfl) (show TT 0 = (0, 12) from rfl) rfl (by decide) wF_X12_199 rfl ?_
      refine K_iconst (dt_at dtX12_expression 173 rfl) ?_
      refine K_icmp_le (tgt := 360) (dt_at dtX12_expression 174 rfl) (by decide) ⟨by omega, by omega⟩ (by first | assumption | exact ⟨by omega, by omega⟩) (fun c36 => absurd c36 (by omega)) (fun c36 => ?_)
      refine K_aload_n (dt_at dtX12_expression 175 rfl) rfl rfl ?_
      refine K_iconst (dt_at dtX12_expression 176 rfl) ?_
      refine K_callV (M' := mX12_wrong) (a := 0) (ci := 12) (As := [vi 1]) (st := []) (dt_at dtX12_expression 177 rfl) (wrong_g (k := 1) S.1 (by omega)) (show TT 0 = (0, 12) from rfl) rfl wL_X12_171 vX12_wrong rfl npX12_wrong (by decide) (by decide) (Nat.le_of_ble_eq_true rfl) (by decide) (by decide) GK_E (fun v9 hc5 hq => ?_) (fun E h9 hq => by cases hq.1)
      have hqq6 := hq
      obtain ⟨e9q6, Eq6, Gq6⟩ := hqq6
      have Xq6 := SR_E S (by omega) Eq6 Gq6
      cases e9q6
      show K mX12_expression _ _ 0 0 360 [(3, vi 0), (4, vi (kwF tp (tk tp n p))), (0, vr 0), (1, vi (fvP pu)), (2, vi (laV pu))] [] hc5
      exact K_pk [0, 2, 3, 4] (ls' := [(3, vi 0), (0, vr 0), (1, vi (fvP pu)), (2, vi (laV pu))]) rfl (end_360 (pu := pu) Xq6 kE)
set_option maxHeartbeats 4000000 in
set_option maxRecDepth 100000 in
theorem rule_done {h0 : HP} {tp : Int → Int} {n : Nat} {pu : Int} {a : Nat} {Q : AO → HP → Prop} {p : Nat} {L V : List Int} {b : Bool} (hV : opn 1 V) (hf : (prdS tp (tk tp n p) = 0 ∧ sumS tp (tk tp n p) = 0 ∧ (b = false → tstS tp (tk tp n p) = 0)) ∧ andS tp (tk tp n p) = 0 ∧ orS tp (tk tp n p) = 0) (kF : ∀ h', MGd h' tp n p → hI h' 0 28 = (a : Int) + (clN (L ++ V) : Int) + 1 → a + clN (L ++ V) + 1 ≤ 2 * p → cdR (hA h' 15) (a : Int) (L ++ V) → YF a h0 h' → Q (.inl none) h') : KLx h0 tp n pu a Q p L (V ++ []) [b] := by
  intro hh S
  have hbn := SR_bnd S (by omega)
  have hlV : (V ++ []).length = V.length := by rw [List.append_nil]
  have tl0 : hI hh 0 32 = 1 := hbn.2.2.2.2.2.1
  have k13 := andS_0 hf.2.1
  have k14 := orS_0 hf.2.2
  have kb := kwF_b tp (tk tp n p)
  obtain ⟨p1, p2⟩ := prdS_0 hf.1.1
  obtain ⟨s1, s2⟩ := sumS_0 hf.1.2.1
  have th := TLt_hd S.2.2.2.2.1.1
  refine K_iload_n (dt_at dtX12_expression 23 rfl) rfl rfl ?_
  refine K_if_eq (tgt := 340) (dt_at dtX12_expression 24 rfl) (by decide) (by first | assumption | exact ⟨by omega, by omega⟩) (fun c1 => absurd c1 (by omega)) (fun c1 => ?_)
  refine K_aload_n (dt_at dtX12_expression 25 rfl) rfl rfl ?_
  refine K_callV (M' := mX12_isGood) (a := 0) (ci := 12) (As := []) (st := []) (dt_at dtX12_expression 26 rfl) (good_t S.1.2.2.2.1) (show TT 0 = (0, 12) from rfl) rfl wL_X12_164 vX12_isGood rfl npX12_isGood (by decide) (by decide) (Nat.le_of_ble_eq_true rfl) (by decide) (by decide) GK_E (fun v9 h9 hq => ?_) (fun E h9 hq => by cases hq.1)
  obtain ⟨e9, e8⟩ := hq
  cases e9
  rw [e8]
  show K mX12_expression _ _ 0 0 47 [(3, vi 1), (0, vr 0), (1, vi (fvP pu)), (2, vi (laV pu))] [vi 1] hh
  refine K_if_eq (tgt := 340) (dt_at dtX12_expression 27 rfl) (by decide) (by first | assumption | exact ⟨by omega, by omega⟩) (fun c2 => absurd c2 (by omega)) (fun c2 => ?_)
  refine K_aload_n (dt_at dtX12_expression 28 rfl) rfl rfl ?_
  refine K_callV (M' := mX12_knownWord) (a := 0) (ci := 12) (As := []) (st := []) (dt_at dtX12_expression 29 rfl) (kw_g S.1) (show TT 0 = (0, 12) from rfl) rfl wL_X12_189 vX12_knownWord rfl npX12_knownWord (by decide) (by decide) (Nat.le_of_ble_eq_true rfl) (by decide) (by decide) GK_E (fun v9 h9 hq => ?_) (fun E h9 hq => by cases hq.1)
  obtain ⟨e9, e8⟩ := hq
  cases e9
  rw [e8]
  show K mX12_expression _ _ 0 0 54 [(3, vi 1), (0, vr 0), (1, vi (fvP pu)), (2, vi (laV pu))] [vi (kwF tp (tk tp n p))] hh
  refine K_istore (ls' := [(4, vi (kwF tp (tk tp n p))), (3, vi 1), (0, vr 0), (1, vi (fvP pu)), (2, vi (laV pu))]) (dt_at dtX12_expression 30 rfl) (by decide) rfl ?_
  refine K_iload (dt_at dtX12_expression 31 rfl) rfl ?_
  refine K_bipush (dt_at dtX12_expression 32 rfl) (by decide) ?_
  refine K_icmp_eq (tgt := 70) (dt_at dtX12_expression 33 rfl) (by decide) ⟨by omega, by omega⟩ (by first | assumption | exact ⟨by omega, by omega⟩) (fun c3 => absurd c3 (by omega)) (fun c3 => ?_)
  refine K_iload (dt_at dtX12_expression 34 rfl) rfl ?_
  refine K_bipush (dt_at dtX12_expression 35 rfl) (by decide) ?_
  refine K_icmp_ne (tgt := 124) (dt_at dtX12_expression 36 rfl) (by decide) ⟨by omega, by omega⟩ (by first | assumption | exact ⟨by omega, by omega⟩) (fun c4 => ?_) (fun c4 => absurd c4 (by omega))
  refine K_aload_n (dt_at dtX12_expression 65 rfl) rfl rfl ?_
  refine K_bipush (dt_at dtX12_expression 66 rfl) (by decide) ?_
  refine K_callV (M' := mX12_isSign) (a := 0) (ci := 12) (As := [vi 60]) (st := []) (dt_at dtX12_expression 67 rfl) (sg_g (c := 60) S.1 ⟨by decide, by decide⟩) (show TT 0 = (0, 12) from rfl) rfl wL_X12_202 vX12_isSign rfl npX12_isSign (by decide) (by decide) (Nat.le_of_ble_eq_true rfl) (by decide) (by decide) GK_E (fun v9 h9 hq => ?_) (fun E h9 hq => by cases hq.1)
  obtain ⟨e9, e8⟩ := hq
  cases e9
  rw [e8]
  show K mX12_expression _ _ 0 0 130 [(4, vi (kwF tp (tk tp n p))), (3, vi 1), (0, vr 0), (1, vi (fvP pu)), (2, vi (laV pu))] [vi (if Sg tp (tk tp n p) 60 then 1 else 0)] hh
  by_cases z5 : Sg tp (tk tp n p) 60
  · rw [if_pos z5]
    refine K_if_ne (tgt := 142) (dt_at dtX12_expression 68 rfl) (by decide) (by first | assumption | exact ⟨by omega, by omega⟩) (fun c6 => ?_) (fun c6 => absurd c6 (by omega))
    have hb1 : b = true := by cases b with | true => rfl | false => first | exact absurd (by assumption) (tstS_0 (hf.1.2.2 rfl)).1 | exact absurd (by assumption) (tstS_0 (hf.1.2.2 rfl)).2
    have th1 : hA hh 17 (hI hh 0 32) = 1 := by rw [th, hb1]; rfl
    refine K_aload_n (dt_at dtX12_expression 73 rfl) rfl rfl ?_
    refine K_get (a := 0) (ci := 12) (k := 41) (v := vr 17) (dt_at dtX12_expression 74 rfl) (show TT 0 = (0, 12) from rfl) rfl (by decide) wF_X12_68 rfl ?_
    refine K_aload_n (dt_at dtX12_expression 75 rfl) rfl rfl ?_
    refine K_get (a := 0) (ci := 12) (k := 32) (v := vi (hI hh 0 32)) (dt_at dtX12_expression 76 rfl) (show TT 0 = (0, 12) from rfl) rfl (by decide) wF_X12_199 rfl ?_
    refine K_zald (dt_at dtX12_expression 77 rfl) (show TT 17 = (3, 9) from rfl) (by omega) (by omega) ?_
    rw [th1]
    refine K_if_ne (tgt := 201) (dt_at dtX12_expression 78 rfl) (by decide) (by first | assumption | exact ⟨by omega, by omega⟩) (fun c7 => ?_) (fun c7 => absurd c7 (by omega))
    refine K_aload_n (dt_at dtX12_expression 103 rfl) rfl rfl ?_
    refine K_bipush (dt_at dtX12_expression 104 rfl) (by decide) ?_
    refine K_callV (M' := mX12_isSign) (a := 0) (ci := 12) (As := [vi 43]) (st := []) (dt_at dtX12_expression 105 rfl) (sg_g (c := 43) S.1 ⟨by decide, by decide⟩) (show TT 0 = (0, 12) from rfl) rfl wL_X12_202 vX12_isSign rfl npX12_isSign (by decide) (by decide) (Nat.le_of_ble_eq_true rfl) (by decide) (by decide) GK_E (fun v9 h9 hq => ?_) (fun E h9 hq => by cases hq.1)
    obtain ⟨e9, e8⟩ := hq
    cases e9
    rw [e8]
    show K mX12_expression _ _ 0 0 207 [(4, vi (kwF tp (tk tp n p))), (3, vi 1), (0, vr 0), (1, vi (fvP pu)), (2, vi (laV pu))] [vi (if Sg tp (tk tp n p) 43 then 1 else 0)] hh
    rw [if_neg s1]
    refine K_if_ne (tgt := 219) (dt_at dtX12_expression 106 rfl) (by decide) (by first | assumption | exact ⟨by omega, by omega⟩) (fun c8 => absurd c8 (by omega)) (fun c8 => ?_)
    refine K_aload_n (dt_at dtX12_expression 107 rfl) rfl rfl ?_
    refine K_bipush (dt_at dtX12_expression 108 rfl) (by decide) ?_
    refine K_callV (M' := mX12_isSign) (a := 0) (ci := 12) (As := [vi 45]) (st := []) (dt_at dtX12_expression 109 rfl) (sg_g (c := 45) S.1 ⟨by decide, by decide⟩) (show TT 0 = (0, 12) from rfl) rfl wL_X12_202 vX12_isSign rfl npX12_isSign (by decide) (by decide) (Nat.le_of_ble_eq_true rfl) (by decide) (by decide) GK_E (fun v9 h9 hq => ?_) (fun E h9 hq => by cases hq.1)
    obtain ⟨e9, e8⟩ := hq
    cases e9
    rw [e8]
    show K mX12_expression _ _ 0 0 216 [(4, vi (kwF tp (tk tp n p))), (3, vi 1), (0, vr 0), (1, vi (fvP pu)), (2, vi (laV pu))] [vi (if Sg tp (tk tp n p) 45 then 1 else 0)] hh
    rw [if_neg s2]
    refine K_if_eq (tgt := 256) (dt_at dtX12_expression 110 rfl) (by decide) (by first | assumption | exact ⟨by omega, by omega⟩) (fun c9 => ?_) (fun c9 => absurd c9 (by omega))
    refine K_aload_n (dt_at dtX12_expression 129 rfl) rfl rfl ?_
    refine K_bipush (dt_at dtX12_expression 130 rfl) (by decide) ?_
    refine K_callV (M' := mX12_isSign) (a := 0) (ci := 12) (As := [vi 42]) (st := []) (dt_at dtX12_expression 131 rfl) (sg_g (c := 42) S.1 ⟨by decide, by decide⟩) (show TT 0 = (0, 12) from rfl) rfl wL_X12_202 vX12_isSign rfl npX12_isSign (by decide) (by decide) (Nat.le_of_ble_eq_true rfl) (by decide) (by decide) GK_E (fun v9 h9 hq => ?_) (fun E h9 hq => by cases hq.1)
    obtain ⟨e9, e8⟩ := hq
    cases e9
    rw [e8]
    show K mX12_expression _ _ 0 0 262 [(4, vi (kwF tp (tk tp n p))), (3, vi 1), (0, vr 0), (1, vi (fvP pu)), (2, vi (laV pu))] [vi (if Sg tp (tk tp n p) 42 then 1 else 0)] hh
    rw [if_neg p1]
    refine K_if_ne (tgt := 274) (dt_at dtX12_expression 132 rfl) (by decide) (by first | assumption | exact ⟨by omega, by omega⟩) (fun c10 => absurd c10 (by omega)) (fun c10 => ?_)
    refine K_aload_n (dt_at dtX12_expression 133 rfl) rfl rfl ?_
    refine K_bipush (dt_at dtX12_expression 134 rfl) (by decide) ?_
    refine K_callV (M' := mX12_isSign) (a := 0) (ci := 12) (As := [vi 47]) (st := []) (dt_at dtX12_expression 135 rfl) (sg_g (c := 47) S.1 ⟨by decide, by decide⟩) (show TT 0 = (0, 12) from rfl) rfl wL_X12_202 vX12_isSign rfl npX12_isSign (by decide) (by decide) (Nat.le_of_ble_eq_true rfl) (by decide) (by decide) GK_E (fun v9 h9 hq => ?_) (fun E h9 hq => by cases hq.1)
    obtain ⟨e9, e8⟩ := hq
    cases e9
    rw [e8]
    show K mX12_expression _ _ 0 0 271 [(4, vi (kwF tp (tk tp n p))), (3, vi 1), (0, vr 0), (1, vi (fvP pu)), (2, vi (laV pu))] [vi (if Sg tp (tk tp n p) 47 then 1 else 0)] hh
    rw [if_neg p2]
    refine K_if_eq (tgt := 312) (dt_at dtX12_expression 136 rfl) (by decide) (by first | assumption | exact ⟨by omega, by omega⟩) (fun c11 => ?_) (fun c11 => absurd c11 (by omega))
    refine K_aload_n (dt_at dtX12_expression 155 rfl) rfl rfl ?_
    refine K_bipush (dt_at dtX12_expression 156 rfl) (by decide) ?_
    refine K_callV (M' := mX12_isSign) (a := 0) (ci := 12) (As := [vi 41]) (st := []) (dt_at dtX12_expression 157 rfl) (sg_g (c := 41) S.1 ⟨by decide, by decide⟩) (show TT 0 = (0, 12) from rfl) rfl wL_X12_202 vX12_isSign rfl npX12_isSign (by decide) (by decide) (Nat.le_of_ble_eq_true rfl) (by decide) (by decide) GK_E (fun v9 h9 hq => ?_) (fun E h9 hq => by cases hq.1)
    obtain ⟨e9, e8⟩ := hq
    cases e9
    rw [e8]
    show K mX12_expression _ _ 0 0 318 [(4, vi (kwF tp (tk tp n p))), (3, vi 1), (0, vr 0), (1, vi (fvP pu)), (2, vi (laV pu))] [vi (if Sg tp (tk tp n p) 41 then 1 else 0)] hh
    by_cases z12 : Sg tp (tk tp n p) 41
    · rw [if_pos z12]
      refine K_if_eq (tgt := 335) (dt_at dtX12_expression 158 rfl) (by decide) (by first | assumption | exact ⟨by omega, by omega⟩) (fun c13 => absurd c13 (by omega)) (fun c13 => ?_)
      refine K_aload_n (dt_at dtX12_expression 159 rfl) rfl rfl ?_
      refine K_callV (M' := mX12_isOpened) (a := 0) (ci := 12) (As := []) (st := []) (dt_at dtX12_expression 160 rfl) (opened_f (W := []) hV S.2.2.2.1.1 (by omega)) (show TT 0 = (0, 12) from rfl) rfl wL_X12_221 vX12_isOpened rfl npX12_isOpened (by decide) (by decide) (Nat.le_of_ble_eq_true rfl) (by decide) (by decide) GK_E (fun v9 h9 hq => ?_) (fun E h9 hq => by cases hq.1)
      obtain ⟨e9, e8⟩ := hq
      cases e9
      rw [e8]
      show K mX12_expression _ _ 0 0 325 [(4, vi (kwF tp (tk tp n p))), (3, vi 1), (0, vr 0), (1, vi (fvP pu)), (2, vi (laV pu))] [vi 0] hh
      refine K_if_eq (tgt := 335) (dt_at dtX12_expression 161 rfl) (by decide) (by first | assumption | exact ⟨by omega, by omega⟩) (fun c14 => ?_) (fun c14 => absurd c14 (by omega))
      refine K_iconst (dt_at dtX12_expression 165 rfl) ?_
      refine K_istore_n (ls' := [(3, vi 0), (4, vi (kwF tp (tk tp n p))), (0, vr 0), (1, vi (fvP pu)), (2, vi (laV pu))]) (dt_at dtX12_expression 166 rfl) rfl (by decide) rfl ?_
      refine K_goto (tgt := 39) (dt_at dtX12_expression 167 rfl) (by decide) ?_
      refine K_iload_n (dt_at dtX12_expression 23 rfl) rfl rfl ?_
      refine K_if_eq (tgt := 340) (dt_at dtX12_expression 24 rfl) (by decide) (by first | assumption | exact ⟨by omega, by omega⟩) (fun c15 => ?_) (fun c15 => absurd c15 (by omega))
      refine K_aload_n (dt_at dtX12_expression 168 rfl) rfl rfl ?_
      refine K_callV (M' := mX12_isGood) (a := 0) (ci := 12) (As := []) (st := []) (dt_at dtX12_expression 169 rfl) (good_t S.1.2.2.2.1) (show TT 0 = (0, 12) from rfl) rfl wL_X12_164 vX12_isGood rfl npX12_isGood (by decide) (by decide) (Nat.le_of_ble_eq_true rfl) (by decide) (by decide) GK_E (fun v9 h9 hq => ?_) (fun E h9 hq => by cases hq.1)
      obtain ⟨e9, e8⟩ := hq
      cases e9
      rw [e8]
      show K mX12_expression _ _ 0 0 344 [(3, vi 0), (4, vi (kwF tp (tk tp n p))), (0, vr 0), (1, vi (fvP pu)), (2, vi (laV pu))] [vi 1] hh
      refine K_if_eq (tgt := 360) (dt_at dtX12_expression 170 rfl) (by decide) (by first | assumption | exact ⟨by omega, by omega⟩) (fun c16 => absurd c16 (by omega)) (fun c16 => ?_)
      refine K_aload_n (dt_at dtX12_expression 171 rfl) rfl rfl ?_
      refine K_get (a := 0) (ci := 12) (k := 32) (v := vi (hI hh 0 32)) (dt_at dtX12_expression 172 rfl) (show TT 0 = (0, 12) from rfl) rfl (by decide) wF_X12_199 rfl ?_
      refine K_iconst (dt_at dtX12_expression 173 rfl) ?_
      refine K_icmp_le (tgt := 360) (dt_at dtX12_expression 174 rfl) (by decide) ⟨by omega, by omega⟩ (by first | assumption | exact ⟨by omega, by omega⟩) (fun c17 => ?_) (fun c17 => absurd c17 (by omega))
      refine K_aload_n (dt_at dtX12_expression 178 rfl) rfl rfl ?_
      refine K_iconst (dt_at dtX12_expression 179 rfl) ?_
      refine K_callV (M' := mX12_drops) (a := 0) (ci := 12) (As := [vi 0]) (st := []) (dt_at dtX12_expression 180 rfl) (drops_K (s := 0) (V := V) (W := []) ⟨by decide, by decide⟩ trivial (fun x hx => absurd hx (List.not_mem_nil)) (opn_up hV (by omega)) S.2.2.2.1.1 (by omega) (by omega) (by omega)) (show TT 0 = (0, 12) from rfl) rfl wL_X12_214 vX12_drops rfl npX12_drops (by decide) (by decide) (Nat.le_of_ble_eq_true rfl) (by decide) (by decide) GK_E (fun v9 hc1 hq => ?_) (fun E h9 hq => by cases hq.1)
      have hqq2 := hq
      obtain ⟨e9q2, Dq2⟩ := hqq2
      have S9 := SR_drop S (by omega) (opn_up hV (by omega : (0 : Int) ≤ _)) Dq2
      obtain ⟨s1, ⟨s2, s3⟩, ⟨s4, s5⟩, ⟨s6, s7⟩, ⟨s8, s9⟩, ⟨b1, b2⟩, Y9⟩ := id S9
      have hp7 := hbn.2.2.2.2.1
      cases e9q2
      show K mX12_expression _ _ 0 0 365 [(3, vi 0), (4, vi (kwF tp (tk tp n p))), (0, vr 0), (1, vi (fvP pu)), (2, vi (laV pu))] [] hc1
      refine K_aload_n (dt_at dtX12_expression 181 rfl) rfl rfl ?_
      refine K_iconst (dt_at dtX12_expression 182 rfl) ?_
      refine K_callV (M' := mX12_puts) (a := 0) (ci := 12) (As := [vi 0]) (st := []) (dt_at dtX12_expression 183 rfl) (sX12_puts (v := 0) ⟨by rw [s4]; omega, by rw [s4]; omega⟩) (show TT 0 = (0, 12) from rfl) rfl wL_X12_186 vX12_puts rfl npX12_puts (by decide) (by decide) (Nat.le_of_ble_eq_true rfl) (by decide) (by decide) GK_E (fun v9 h9 hq => ?_) (fun E h9 hq => by cases hq.1)
      obtain ⟨e9, e8⟩ := hq
      cases e9
      rw [e8]
      show K mX12_expression _ _ 0 0 370 [(3, vi 0), (4, vi (kwF tp (tk tp n p))), (0, vr 0), (1, vi (fvP pu)), (2, vi (laV pu))] [] (sI (sA hc1 15 (hI hc1 0 28) 0) 0 28 (hI hc1 0 28 + 1))
      obtain ⟨hq3, eq3⟩ : ∃ z, z = sA hc1 15 (hI hc1 0 28) 0 := ⟨_, rfl⟩
      rw [← eq3]
      obtain ⟨aq3, fq3, iq3, rq3⟩ := sA_fx eq3
      rw [s4] at aq3
      obtain ⟨hq4, eq4⟩ : ∃ z, z = sI hq3 0 28 (hI hc1 0 28 + 1) := ⟨_, rfl⟩
      rw [← eq4]
      obtain ⟨iq4, fq4, aq4, rq4⟩ := sI_fx eq4
      rw [s4] at iq4
      have R5 := MGd_up s1 (FL_tr (FL_eA eq3 rfl : FL [15] [(0, 28)] [] hc1 hq3) (FL_eI eq4 rfl)) rfl rfl
      exact K_vret (dt_at dtX12_expression 184 rfl) rfl (by decide) (by decide) (kF _ R5 (by rw [iq4]) (by omega) (cdR_P _ _ (by omega) (by omega) (cdP_cg _ _ (fun i _ h2 => by rw [aq4, aq3, upI_n (by omega)]) s5) (by rw [aq4, aq3, upI_s])) (YF_tr Y9 (FL_tr (FL_eA eq3 rfl : FL [15] [(0, 28)] [] hc1 hq3) (FL_eI eq4 rfl)) rfl rfl (fun i hi => by rw [aq4, aq3, upI_n (by omega)])))
    · rw [if_neg z12]
      refine K_if_eq (tgt := 335) (dt_at dtX12_expression 158 rfl) (by decide) (by first | assumption | exact ⟨by omega, by omega⟩) (fun c18 => ?_) (fun c18 => absurd c18 (by omega))
      refine K_iconst (dt_at dtX12_expression 165 rfl) ?_
      refine K_istore_n (ls' := [(3, vi 0), (4, vi (kwF tp (tk tp n p))), (0, vr 0), (1, vi (fvP pu)), (2, vi (laV pu))]) (dt_at dtX12_expression 166 rfl) rfl (by decide) rfl ?_
      refine K_goto (tgt := 39) (dt_at dtX12_expression 167 rfl) (by decide) ?_
      refine K_iload_n (dt_at dtX12_expression 23 rfl) rfl rfl ?_
      refine K_if_eq (tgt := 340) (dt_at dtX12_expression 24 rfl) (by decide) (by first | assumption | exact ⟨by omega, by omega⟩) (fun c19 => ?_) (fun c19 => absurd c19 (by omega))
      refine K_aload_n (dt_at dtX12_expression 168 rfl) rfl rfl ?_
      refine K_callV (M' := mX12_isGood) (a := 0) (ci := 12) (As := []) (st := []) (dt_at dtX12_expression 169 rfl) (good_t S.1.2.2.2.1) (show TT 0 = (0, 12) from rfl) rfl wL_X12_164 vX12_isGood rfl npX12_isGood (by decide) (by decide) (Nat.le_of_ble_eq_true rfl) (by decide) (by decide) GK_E (fun v9 h9 hq => ?_) (fun E h9 hq => by cases hq.1)
      obtain ⟨e9, e8⟩ := hq
      cases e9
      rw [e8]
      show K mX12_expression _ _ 0 0 344 [(3, vi 0), (4, vi (kwF tp (tk tp n p))), (0, vr 0), (1, vi (fvP pu)), (2, vi (laV pu))] [vi 1] hh
      refine K_if_eq (tgt := 360) (dt_at dtX12_expression 170 rfl) (by decide) (by first | assumption | exact ⟨by omega, by omega⟩) (fun c20 => absurd c20 (by omega)) (fun c20 => ?_)
      refine K_aload_n (dt_at dtX12_expression 171 rfl) rfl rfl ?_
      refine K_get (a := 0) (ci := 12) (k := 32) (v := vi (hI hh 0 32)) (dt_at dtX12_expression 172 rfl) (show TT 0 = (0, 12) from rfl) rfl (by decide) wF_X12_199 rfl ?_
      refine K_iconst (dt_at dtX12_expression 173 rfl) ?_
      refine K_icmp_le (tgt := 360) (dt_at dtX12_expression 174 rfl) (by decide) ⟨by omega, by omega⟩ (by first | assumption | exact ⟨by omega, by omega⟩) (fun c21 => ?_) (fun c21 => absurd c21 (by omega))
      refine K_aload_n (dt_at dtX12_expression 178 rfl) rfl rfl ?_
      refine K_iconst (dt_at dtX12_expression 179 rfl) ?_
      refine K_callV (M' := mX12_drops) (a := 0) (ci := 12) (As := [vi 0]) (st := []) (dt_at dtX12_expression 180 rfl) (drops_K (s := 0) (V := V) (W := []) ⟨by decide, by decide⟩ trivial (fun x hx => absurd hx (List.not_mem_nil)) (opn_up hV (by omega)) S.2.2.2.1.1 (by omega) (by omega) (by omega)) (show TT 0 = (0, 12) from rfl) rfl wL_X12_214 vX12_drops rfl npX12_drops (by decide) (by decide) (Nat.le_of_ble_eq_true rfl) (by decide) (by decide) GK_E (fun v9 hc6 hq => ?_) (fun E h9 hq => by cases hq.1)
      have hqq7 := hq
      obtain ⟨e9q7, Dq7⟩ := hqq7
      have S9 := SR_drop S (by omega) (opn_up hV (by omega : (0 : Int) ≤ _)) Dq7
      obtain ⟨s1, ⟨s2, s3⟩, ⟨s4, s5⟩, ⟨s6, s7⟩, ⟨s8, s9⟩, ⟨b1, b2⟩, Y9⟩ := id S9
      have hp7 := hbn.2.2.2.2.1
      cases e9q7
      show K mX12_expression _ _ 0 0 365 [(3, vi 0), (4, vi (kwF tp (tk tp n p))), (0, vr 0), (1, vi (fvP pu)), (2, vi (laV pu))] [] hc6
      refine K_aload_n (dt_at dtX12_expression 181 rfl) rfl rfl ?_
      refine K_iconst (dt_at dtX12_expression 182 rfl) ?_
      refine K_callV (M' := mX12_puts) (a := 0) (ci := 12) (As := [vi 0]) (st := []) (dt_at dtX12_expression 183 rfl) (sX12_puts (v := 0) ⟨by rw [s4]; omega, by rw [s4]; omega⟩) (show TT 0 = (0, 12) from rfl) rfl wL_X12_186 vX12_puts rfl npX12_puts (by decide) (by decide) (Nat.le_of_ble_eq_true rfl) (by decide) (by decide) GK_E (fun v9 h9 hq => ?_) (fun E h9 hq => by cases hq.1)
      obtain ⟨e9, e8⟩ := hq
      cases e9
      rw [e8]
      show K mX12_expression _ _ 0 0 370 [(3, vi 0), (4, vi (kwF tp (tk tp n p))), (0, vr 0), (1, vi (fvP pu)), (2, vi (laV pu))] [] (sI (sA hc6 15 (hI hc6 0 28) 0) 0 28 (hI hc6 0 28 + 1))
      obtain ⟨hq8, eq8⟩ : ∃ z, z = sA hc6 15 (hI hc6 0 28) 0 := ⟨_, rfl⟩
      rw [← eq8]
      obtain ⟨aq8, fq8, iq8, rq8⟩ := sA_fx eq8
      rw [s4] at aq8
      obtain ⟨hq9, eq9⟩ : ∃ z, z = sI hq8 0 28 (hI hc6 0 28 + 1) := ⟨_, rfl⟩
      rw [← eq9]
      obtain ⟨iq9, fq9, aq9, rq9⟩ := sI_fx eq9
      rw [s4] at iq9
      have R10 := MGd_up s1 (FL_tr (FL_eA eq8 rfl : FL [15] [(0, 28)] [] hc6 hq8) (FL_eI eq9 rfl)) rfl rfl
      exact K_vret (dt_at dtX12_expression 184 rfl) rfl (by decide) (by decide) (kF _ R10 (by rw [iq9]) (by omega) (cdR_P _ _ (by omega) (by omega) (cdP_cg _ _ (fun i _ h2 => by rw [aq9, aq8, upI_n (by omega)]) s5) (by rw [aq9, aq8, upI_s])) (YF_tr Y9 (FL_tr (FL_eA eq8 rfl : FL [15] [(0, 28)] [] hc6 hq8) (FL_eI eq9 rfl)) rfl rfl (fun i hi => by rw [aq9, aq8, upI_n (by omega)])))
  · rw [if_neg z5]
    refine K_if_ne (tgt := 142) (dt_at dtX12_expression 68 rfl) (by decide) (by first | assumption | exact ⟨by omega, by omega⟩) (fun c22 => absurd c22 (by omega)) (fun c22 => ?_)
    refine K_aload_n (dt_at dtX12_expression 69 rfl) rfl rfl ?_
    refine K_bipush (dt_at dtX12_expression 70 rfl) (by decide) ?_
    refine K_callV (M' := mX12_isSign) (a := 0) (ci := 12) (As := [vi 61]) (st := []) (dt_at dtX12_expression 71 rfl) (sg_g (c := 61) S.1 ⟨by decide, by decide⟩) (show TT 0 = (0, 12) from rfl) rfl wL_X12_202 vX12_isSign rfl npX12_isSign (by decide) (by decide) (Nat.le_of_ble_eq_true rfl) (by decide) (by decide) GK_E (fun v9 h9 hq => ?_) (fun E h9 hq => by cases hq.1)
    obtain ⟨e9, e8⟩ := hq
    cases e9
    rw [e8]
    show K mX12_expression _ _ 0 0 139 [(4, vi (kwF tp (tk tp n p))), (3, vi 1), (0, vr 0), (1, vi (fvP pu)), (2, vi (laV pu))] [vi (if Sg tp (tk tp n p) 61 then 1 else 0)] hh
    by_cases z23 : Sg tp (tk tp n p) 61
    · rw [if_pos z23]
      refine K_if_eq (tgt := 201) (dt_at dtX12_expression 72 rfl) (by decide) (by first | assumption | exact ⟨by omega, by omega⟩) (fun c24 => absurd c24 (by omega)) (fun c24 => ?_)
      have hb1 : b = true := by cases b with | true => rfl | false => first | exact absurd (by assumption) (tstS_0 (hf.1.2.2 rfl)).1 | exact absurd (by assumption) (tstS_0 (hf.1.2.2 rfl)).2
      have th1 : hA hh 17 (hI hh 0 32) = 1 := by rw [th, hb1]; rfl
      refine K_aload_n (dt_at dtX12_expression 73 rfl) rfl rfl ?_
      refine K_get (a := 0) (ci := 12) (k := 41) (v := vr 17) (dt_at dtX12_expression 74 rfl) (show TT 0 = (0, 12) from rfl) rfl (by decide) wF_X12_68 rfl ?_
      refine K_aload_n (dt_at dtX12_expression 75 rfl) rfl rfl ?_
      refine K_get (a := 0) (ci := 12) (k := 32) (v := vi (hI hh 0 32)) (dt_at dtX12_expression 76 rfl) (show TT 0 = (0, 12) from rfl) rfl (by decide) wF_X12_199 rfl ?_
      refine K_zald (dt_at dtX12_expression 77 rfl) (show TT 17 = (3, 9) from rfl) (by omega) (by omega) ?_
      rw [th1]
      refine K_if_ne (tgt := 201) (dt_at dtX12_expression 78 rfl) (by decide) (by first | assumption | exact ⟨by omega, by omega⟩) (fun c25 => ?_) (fun c25 => absurd c25 (by omega))
      refine K_aload_n (dt_at dtX12_expression 103 rfl) rfl rfl ?_
      refine K_bipush (dt_at dtX12_expression 104 rfl) (by decide) ?_
      refine K_callV (M' := mX12_isSign) (a := 0) (ci := 12) (As := [vi 43]) (st := []) (dt_at dtX12_expression 105 rfl) (sg_g (c := 43) S.1 ⟨by decide, by decide⟩) (show TT 0 = (0, 12) from rfl) rfl wL_X12_202 vX12_isSign rfl npX12_isSign (by decide) (by decide) (Nat.le_of_ble_eq_true rfl) (by decide) (by decide) GK_E (fun v9 h9 hq => ?_) (fun E h9 hq => by cases hq.1)
      obtain ⟨e9, e8⟩ := hq
      cases e9
      rw [e8]
      show K mX12_expression _ _ 0 0 207 [(4, vi (kwF tp (tk tp n p))), (3, vi 1), (0, vr 0), (1, vi (fvP pu)), (2, vi (laV pu))] [vi (if Sg tp (tk tp n p) 43 then 1 else 0)] hh
      rw [if_neg s1]
      refine K_if_ne (tgt := 219) (dt_at dtX12_expression 106 rfl) (by decide) (by first | assumption | exact ⟨by omega, by omega⟩) (fun c26 => absurd c26 (by omega)) (fun c26 => ?_)
      refine K_aload_n (dt_at dtX12_expression 107 rfl) rfl rfl ?_
      refine K_bipush (dt_at dtX12_expression 108 rfl) (by decide) ?_
      refine K_callV (M' := mX12_isSign) (a := 0) (ci := 12) (As := [vi 45]) (st := []) (dt_at dtX12_expression 109 rfl) (sg_g (c := 45) S.1 ⟨by decide, by decide⟩) (show TT 0 = (0, 12) from rfl) rfl wL_X12_202 vX12_isSign rfl npX12_isSign (by decide) (by decide) (Nat.le_of_ble_eq_true rfl) (by decide) (by decide) GK_E (fun v9 h9 hq => ?_) (fun E h9 hq => by cases hq.1)
      obtain ⟨e9, e8⟩ := hq
      cases e9
      rw [e8]
      show K mX12_expression _ _ 0 0 216 [(4, vi (kwF tp (tk tp n p))), (3, vi 1), (0, vr 0), (1, vi (fvP pu)), (2, vi (laV pu))] [vi (if Sg tp (tk tp n p) 45 then 1 else 0)] hh
      rw [if_neg s2]
      refine K_if_eq (tgt := 256) (dt_at dtX12_expression 110 rfl) (by decide) (by first | assumption | exact ⟨by omega, by omega⟩) (fun c27 => ?_) (fun c27 => absurd c27 (by omega))
      refine K_aload_n (dt_at dtX12_expression 129 rfl) rfl rfl ?_
      refine K_bipush (dt_at dtX12_expression 130 rfl) (by decide) ?_
      refine K_callV (M' := mX12_isSign) (a := 0) (ci := 12) (As := [vi 42]) (st := []) (dt_at dtX12_expression 131 rfl) (sg_g (c := 42) S.1 ⟨by decide, by decide⟩) (show TT 0 = (0, 12) from rfl) rfl wL_X12_202 vX12_isSign rfl npX12_isSign (by decide) (by decide) (Nat.le_of_ble_eq_true rfl) (by decide) (by decide) GK_E (fun v9 h9 hq => ?_) (fun E h9 hq => by cases hq.1)
      obtain ⟨e9, e8⟩ := hq
      cases e9
      rw [e8]
      show K mX12_expression _ _ 0 0 262 [(4, vi (kwF tp (tk tp n p))), (3, vi 1), (0, vr 0), (1, vi (fvP pu)), (2, vi (laV pu))] [vi (if Sg tp (tk tp n p) 42 then 1 else 0)] hh
      rw [if_neg p1]
      refine K_if_ne (tgt := 274) (dt_at dtX12_expression 132 rfl) (by decide) (by first | assumption | exact ⟨by omega, by omega⟩) (fun c28 => absurd c28 (by omega)) (fun c28 => ?_)
      refine K_aload_n (dt_at dtX12_expression 133 rfl) rfl rfl ?_
      refine K_bipush (dt_at dtX12_expression 134 rfl) (by decide) ?_
      refine K_callV (M' := mX12_isSign) (a := 0) (ci := 12) (As := [vi 47]) (st := []) (dt_at dtX12_expression 135 rfl) (sg_g (c := 47) S.1 ⟨by decide, by decide⟩) (show TT 0 = (0, 12) from rfl) rfl wL_X12_202 vX12_isSign rfl npX12_isSign (by decide) (by decide) (Nat.le_of_ble_eq_true rfl) (by decide) (by decide) GK_E (fun v9 h9 hq => ?_) (fun E h9 hq => by cases hq.1)
      obtain ⟨e9, e8⟩ := hq
      cases e9
      rw [e8]
      show K mX12_expression _ _ 0 0 271 [(4, vi (kwF tp (tk tp n p))), (3, vi 1), (0, vr 0), (1, vi (fvP pu)), (2, vi (laV pu))] [vi (if Sg tp (tk tp n p) 47 then 1 else 0)] hh
      rw [if_neg p2]
      refine K_if_eq (tgt := 312) (dt_at dtX12_expression 136 rfl) (by decide) (by first | assumption | exact ⟨by omega, by omega⟩) (fun c29 => ?_) (fun c29 => absurd c29 (by omega))
      refine K_aload_n (dt_at dtX12_expression 155 rfl) rfl rfl ?_
      refine K_bipush (dt_at dtX12_expression 156 rfl) (by decide) ?_
      refine K_callV (M' := mX12_isSign) (a := 0) (ci := 12) (As := [vi 41]) (st := []) (dt_at dtX12_expression 157 rfl) (sg_g (c := 41) S.1 ⟨by decide, by decide⟩) (show TT 0 = (0, 12) from rfl) rfl wL_X12_202 vX12_isSign rfl npX12_isSign (by decide) (by decide) (Nat.le_of_ble_eq_true rfl) (by decide) (by decide) GK_E (fun v9 h9 hq => ?_) (fun E h9 hq => by cases hq.1)
      obtain ⟨e9, e8⟩ := hq
      cases e9
      rw [e8]
      show K mX12_expression _ _ 0 0 318 [(4, vi (kwF tp (tk tp n p))), (3, vi 1), (0, vr 0), (1, vi (fvP pu)), (2, vi (laV pu))] [vi (if Sg tp (tk tp n p) 41 then 1 else 0)] hh
      by_cases z30 : Sg tp (tk tp n p) 41
      · rw [if_pos z30]
        refine K_if_eq (tgt := 335) (dt_at dtX12_expression 158 rfl) (by decide) (by first | assumption | exact ⟨by omega, by omega⟩) (fun c31 => absurd c31 (by omega)) (fun c31 => ?_)
        refine K_aload_n (dt_at dtX12_expression 159 rfl) rfl rfl ?_
        refine K_callV (M' := mX12_isOpened) (a := 0) (ci := 12) (As := []) (st := []) (dt_at dtX12_expression 160 rfl) (opened_f (W := []) hV S.2.2.2.1.1 (by omega)) (show TT 0 = (0, 12) from rfl) rfl wL_X12_221 vX12_isOpened rfl npX12_isOpened (by decide) (by decide) (Nat.le_of_ble_eq_true rfl) (by decide) (by decide) GK_E (fun v9 h9 hq => ?_) (fun E h9 hq => by cases hq.1)
        obtain ⟨e9, e8⟩ := hq
        cases e9
        rw [e8]
        show K mX12_expression _ _ 0 0 325 [(4, vi (kwF tp (tk tp n p))), (3, vi 1), (0, vr 0), (1, vi (fvP pu)), (2, vi (laV pu))] [vi 0] hh
        refine K_if_eq (tgt := 335) (dt_at dtX12_expression 161 rfl) (by decide) (by first | assumption | exact ⟨by omega, by omega⟩) (fun c32 => ?_) (fun c32 => absurd c32 (by omega))
        refine K_iconst (dt_at dtX12_expression 165 rfl) ?_
        refine K_istore_n (ls' := [(3, vi 0), (4, vi (kwF tp (tk tp n p))), (0, vr 0), (1, vi (fvP pu)), (2, vi (laV pu))]) (dt_at dtX12_expression 166 rfl) rfl (by decide) rfl ?_
        refine K_goto (tgt := 39) (dt_at dtX12_expression 167 rfl) (by decide) ?_
        refine K_iload_n (dt_at dtX12_expression 23 rfl) rfl rfl ?_
        refine K_if_eq (tgt := 340) (dt_at dtX12_expression 24 rfl) (by decide) (by first | assumption | exact ⟨by omega, by omega⟩) (fun c33 => ?_) (fun c33 => absurd c33 (by omega))
        refine K_aload_n (dt_at dtX12_expression 168 rfl) rfl rfl ?_
        refine K_callV (M' := mX12_isGood) (a := 0) (ci := 12) (As := []) (st := []) (dt_at dtX12_expression 169 rfl) (good_t S.1.2.2.2.1) (show TT 0 = (0, 12) from rfl) rfl wL_X12_164 vX12_isGood rfl npX12_isGood (by decide) (by decide) (Nat.le_of_ble_eq_true rfl) (by decide) (by decide) GK_E (fun v9 h9 hq => ?_) (fun E h9 hq => by cases hq.1)
        obtain ⟨e9, e8⟩ := hq
        cases e9
        rw [e8]
        show K mX12_expression _ _ 0 0 344 [(3, vi 0), (4, vi (kwF tp (tk tp n p))), (0, vr 0), (1, vi (fvP pu)), (2, vi (laV pu))] [vi 1] hh
        refine K_if_eq (tgt := 360) (dt_at dtX12_expression 170 rfl) (by decide) (by first | assumption | exact ⟨by omega, by omega⟩) (fun c34 => absurd c34 (by omega)) (fun c34 => ?_)
        refine K_aload_n (dt_at dtX12_expression 171 rfl) rfl rfl ?_
        refine K_get (a := 0) (ci := 12) (k := 32) (v := vi (hI hh 0 32)) (dt_at dtX12_expression 172 rfl) (show TT 0 = (0, 12) from rfl) rfl (by decide) wF_X12_199 rfl ?_
        refine K_iconst (dt_at dtX12_expression 173 rfl) ?_
        refine K_icmp_le (tgt := 360) (dt_at dtX12_expression 174 rfl) (by decide) ⟨by omega, by omega⟩ (by first | assumption | exact ⟨by omega, by omega⟩) (fun c35 => ?_) (fun c35 => absurd c35 (by omega))
        refine K_aload_n (dt_at dtX12_expression 178 rfl) rfl rfl ?_
        refine K_iconst (dt_at dtX12_expression 179 rfl) ?_
        refine K_callV (M' := mX12_drops) (a := 0) (ci := 12) (As := [vi 0]) (st := []) (dt_at dtX12_expression 180 rfl) (drops_K (s := 0) (V := V) (W := []) ⟨by decide, by decide⟩ trivial (fun x hx => absurd hx (List.not_mem_nil)) (opn_up hV (by omega)) S.2.2.2.1.1 (by omega) (by omega) (by omega)) (show TT 0 = (0, 12) from rfl) rfl wL_X12_214 vX12_drops rfl npX12_drops (by decide) (by decide) (Nat.le_of_ble_eq_true rfl) (by decide) (by decide) GK_E (fun v9 hc11 hq => ?_) (fun E h9 hq => by cases hq.1)
        have hqq12 := hq
        obtain ⟨e9q12, Dq12⟩ := hqq12
        have S9 := SR_drop S (by omega) (opn_up hV (by omega : (0 : Int) ≤ _)) Dq12
        obtain ⟨s1, ⟨s2, s3⟩, ⟨s4, s5⟩, ⟨s6, s7⟩, ⟨s8, s9⟩, ⟨b1, b2⟩, Y9⟩ := id S9
        have hp7 := hbn.2.2.2.2.1
        cases e9q12
        show K mX12_expression _ _ 0 0 365 [(3, vi 0), (4, vi (kwF tp (tk tp n p))), (0, vr 0), (1, vi (fvP pu)), (2, vi (laV pu))] [] hc11
        refine K_aload_n (dt_at dtX12_expression 181 rfl) rfl rfl ?_
        refine K_iconst (dt_at dtX12_expression 182 rfl) ?_
        refine K_callV (M' := mX12_puts) (a := 0) (ci := 12) (As := [vi 0]) (st := []) (dt_at dtX12_expression 183 rfl) (sX12_puts (v := 0) ⟨by rw [s4]; omega, by rw [s4]; omega⟩) (show TT 0 = (0, 12) from rfl) rfl wL_X12_186 vX12_puts rfl npX12_puts (by decide) (by decide) (Nat.le_of_ble_eq_true rfl) (by decide) (by decide) GK_E (fun v9 h9 hq => ?_) (fun E h9 hq => by cases hq.1)
        obtain ⟨e9, e8⟩ := hq
        cases e9
        rw [e8]
        show K mX12_expression _ _ 0 0 370 [(3, vi 0), (4, vi (kwF tp (tk tp n p))), (0, vr 0), (1, vi (fvP pu)), (2, vi (laV pu))] [] (sI (sA hc11 15 (hI hc11 0 28) 0) 0 28 (hI hc11 0 28 + 1))
        obtain ⟨hq13, eq13⟩ : ∃ z, z = sA hc11 15 (hI hc11 0 28) 0 := ⟨_, rfl⟩
        rw [← eq13]
        obtain ⟨aq13, fq13, iq13, rq13⟩ := sA_fx eq13
        rw [s4] at aq13
        obtain ⟨hq14, eq14⟩ : ∃ z, z = sI hq13 0 28 (hI hc11 0 28 + 1) := ⟨_, rfl⟩
        rw [← eq14]
        obtain ⟨iq14, fq14, aq14, rq14⟩ := sI_fx eq14
        rw [s4] at iq14
        have R15 := MGd_up s1 (FL_tr (FL_eA eq13 rfl : FL [15] [(0, 28)] [] hc11 hq13) (FL_eI eq14 rfl)) rfl rfl
        exact K_vret (dt_at dtX12_expression 184 rfl) rfl (by decide) (by decide) (kF _ R15 (by rw [iq14]) (by omega) (cdR_P _ _ (by omega) (by omega) (cdP_cg _ _ (fun i _ h2 => by rw [aq14, aq13, upI_n (by omega)]) s5) (by rw [aq14, aq13, upI_s])) (YF_tr Y9 (FL_tr (FL_eA eq13 rfl : FL [15] [(0, 28)] [] hc11 hq13) (FL_eI eq14 rfl)) rfl rfl (fun i hi => by rw [aq14, aq13, upI_n (by omega)])))
      · rw [if_neg z30]
        refine K_if_eq (tgt := 335) (dt_at dtX12_expression 158 rfl) (by decide) (by first | assumption | exact ⟨by omega, by omega⟩) (fun c36 => ?_) (fun c36 => absurd c36 (by omega))
        refine K_iconst (dt_at dtX12_expression 165 rfl) ?_
        refine K_istore_n (ls' := [(3, vi 0), (4, vi (kwF tp (tk tp n p))), (0, vr 0), (1, vi (fvP pu)), (2, vi (laV pu))]) (dt_at dtX12_expression 166 rfl) rfl (by decide) rfl ?_
        refine K_goto (tgt := 39) (dt_at dtX12_expression 167 rfl) (by decide) ?_
        refine K_iload_n (dt_at dtX12_expression 23 rfl) rfl rfl ?_
        refine K_if_eq (tgt := 340) (dt_at dtX12_expression 24 rfl) (by decide) (by first | assumption | exact ⟨by omega, by omega⟩) (fun c37 => ?_) (fun c37 => absurd c37 (by omega))
        refine K_aload_n (dt_at dtX12_expression 168 rfl) rfl rfl ?_
        refine K_callV (M' := mX12_isGood) (a := 0) (ci := 12) (As := []) (st := []) (dt_at dtX12_expression 169 rfl) (good_t S.1.2.2.2.1) (show TT 0 = (0, 12) from rfl) rfl wL_X12_164 vX12_isGood rfl npX12_isGood (by decide) (by decide) (Nat.le_of_ble_eq_true rfl) (by decide) (by decide) GK_E (fun v9 h9 hq => ?_) (fun E h9 hq => by cases hq.1)
        obtain ⟨e9, e8⟩ := hq
        cases e9
        rw [e8]
        show K mX12_expression _ _ 0 0 344 [(3, vi 0), (4, vi (kwF tp (tk tp n p))), (0, vr 0), (1, vi (fvP pu)), (2, vi (laV pu))] [vi 1] hh
        refine K_if_eq (tgt := 360) (dt_at dtX12_expression 170 rfl) (by decide) (by first | assumption | exact ⟨by omega, by omega⟩) (fun c38 => absurd c38 (by omega)) (fun c38 => ?_)
        refine K_aload_n (dt_at dtX12_expression 171 rfl) rfl rfl ?_
        refine K_get (a := 0) (ci := 12) (k := 32) (v := vi (hI hh 0 32)) (dt_at dtX12_expression 172 rfl) (show TT 0 = (0, 12) from rfl) rfl (by decide) wF_X12_199 rfl ?_
        refine K_iconst (dt_at dtX12_expression 173 rfl) ?_
        refine K_icmp_le (tgt := 360) (dt_at dtX12_expression 174 rfl) (by decide) ⟨by omega, by omega⟩ (by first | assumption | exact ⟨by omega, by omega⟩) (fun c39 => ?_) (fun c39 => absurd c39 (by omega))
        refine K_aload_n (dt_at dtX12_expression 178 rfl) rfl rfl ?_
        refine K_iconst (dt_at dtX12_expression 179 rfl) ?_
        refine K_callV (M' := mX12_drops) (a := 0) (ci := 12) (As := [vi 0]) (st := []) (dt_at dtX12_expression 180 rfl) (drops_K (s := 0) (V := V) (W := []) ⟨by decide, by decide⟩ trivial (fun x hx => absurd hx (List.not_mem_nil)) (opn_up hV (by omega)) S.2.2.2.1.1 (by omega) (by omega) (by omega)) (show TT 0 = (0, 12) from rfl) rfl wL_X12_214 vX12_drops rfl npX12_drops (by decide) (by decide) (Nat.le_of_ble_eq_true rfl) (by decide) (by decide) GK_E (fun v9 hc16 hq => ?_) (fun E h9 hq => by cases hq.1)
        have hqq17 := hq
        obtain ⟨e9q17, Dq17⟩ := hqq17
        have S9 := SR_drop S (by omega) (opn_up hV (by omega : (0 : Int) ≤ _)) Dq17
        obtain ⟨s1, ⟨s2, s3⟩, ⟨s4, s5⟩, ⟨s6, s7⟩, ⟨s8, s9⟩, ⟨b1, b2⟩, Y9⟩ := id S9
        have hp7 := hbn.2.2.2.2.1
        cases e9q17
        show K mX12_expression _ _ 0 0 365 [(3, vi 0), (4, vi (kwF tp (tk tp n p))), (0, vr 0), (1, vi (fvP pu)), (2, vi (laV pu))] [] hc16
        refine K_aload_n (dt_at dtX12_expression 181 rfl) rfl rfl ?_
        refine K_iconst (dt_at dtX12_expression 182 rfl) ?_
        refine K_callV (M' := mX12_puts) (a := 0) (ci := 12) (As := [vi 0]) (st := []) (dt_at dtX12_expression 183 rfl) (sX12_puts (v := 0) ⟨by rw [s4]; omega, by rw [s4]; omega⟩) (show TT 0 = (0, 12) from rfl) rfl wL_X12_186 vX12_puts rfl npX12_puts (by decide) (by decide) (Nat.le_of_ble_eq_true rfl) (by decide) (by decide) GK_E (fun v9 h9 hq => ?_) (fun E h9 hq => by cases hq.1)
        obtain ⟨e9, e8⟩ := hq
        cases e9
        rw [e8]
        show K mX12_expression _ _ 0 0 370 [(3, vi 0), (4, vi (kwF tp (tk tp n p))), (0, vr 0), (1, vi (fvP pu)), (2, vi (laV pu))] [] (sI (sA hc16 15 (hI hc16 0 28) 0) 0 28 (hI hc16 0 28 + 1))
        obtain ⟨hq18, eq18⟩ : ∃ z, z = sA hc16 15 (hI hc16 0 28) 0 := ⟨_, rfl⟩
        rw [← eq18]
        obtain ⟨aq18, fq18, iq18, rq18⟩ := sA_fx eq18
        rw [s4] at aq18
        obtain ⟨hq19, eq19⟩ : ∃ z, z = sI hq18 0 28 (hI hc16 0 28 + 1) := ⟨_, rfl⟩
        rw [← eq19]
        obtain ⟨iq19, fq19, aq19, rq19⟩ := sI_fx eq19
        rw [s4] at iq19
        have R20 := MGd_up s1 (FL_tr (FL_eA eq18 rfl : FL [15] [(0, 28)] [] hc16 hq18) (FL_eI eq19 rfl)) rfl rfl
        exact K_vret (dt_at dtX12_expression 184 rfl) rfl (by decide) (by decide) (kF _ R20 (by rw [iq19]) (by omega) (cdR_P _ _ (by omega) (by omega) (cdP_cg _ _ (fun i _ h2 => by rw [aq19, aq18, upI_n (by omega)]) s5) (by rw [aq19, aq18, upI_s])) (YF_tr Y9 (FL_tr (FL_eA eq18 rfl : FL [15] [(0, 28)] [] hc16 hq18) (FL_eI eq19 rfl)) rfl rfl (fun i hi => by rw [aq19, aq18, upI_n (by omega)])))
    · rw [if_neg z23]
      refine K_if_eq (tgt := 201) (dt_at dtX12_expression 72 rfl) (by decide) (by first | assumption | exact ⟨by omega, by omega⟩) (fun c40 => ?_) (fun c40 => absurd c40 (by omega))
      refine K_aload_n (dt_at dtX12_expression 103 rfl) rfl rfl ?_
      refine K_bipush (dt_at dtX12_expression 104 rfl) (by decide) ?_
      refine K_callV (M' := mX12_isSign) (a := 0) (ci := 12) (As := [vi 43]) (st := []) (dt_at dtX12_expression 105 rfl) (sg_g (c := 43) S.1 ⟨by decide, by decide⟩) (show TT 0 = (0, 12) from rfl) rfl wL_X12_202 vX12_isSign rfl npX12_isSign (by decide) (by decide) (Nat.le_of_ble_eq_true rfl) (by decide) (by decide) GK_E (fun v9 h9 hq => ?_) (fun E h9 hq => by cases hq.1)
      obtain ⟨e9, e8⟩ := hq
      cases e9
      rw [e8]
      show K mX12_expression _ _ 0 0 207 [(4, vi (kwF tp (tk tp n p))), (3, vi 1), (0, vr 0), (1, vi (fvP pu)), (2, vi (laV pu))] [vi (if Sg tp (tk tp n p) 43 then 1 else 0)] hh
      rw [if_neg s1]
      refine K_if_ne (tgt := 219) (dt_at dtX12_expression 106 rfl) (by decide) (by first | assumption | exact ⟨by omega, by omega⟩) (fun c41 => absurd c41 (by omega)) (fun c41 => ?_)
      refine K_aload_n (dt_at dtX12_expression 107 rfl) rfl rfl ?_
      refine K_bipush (dt_at dtX12_expression 108 rfl) (by decide) ?_
      refine K_callV (M' := mX12_isSign) (a := 0) (ci := 12) (As := [vi 45]) (st := []) (dt_at dtX12_expression 109 rfl) (sg_g (c := 45) S.1 ⟨by decide, by decide⟩) (show TT 0 = (0, 12) from rfl) rfl wL_X12_202 vX12_isSign rfl npX12_isSign (by decide) (by decide) (Nat.le_of_ble_eq_true rfl) (by decide) (by decide) GK_E (fun v9 h9 hq => ?_) (fun E h9 hq => by cases hq.1)
      obtain ⟨e9, e8⟩ := hq
      cases e9
      rw [e8]
      show K mX12_expression _ _ 0 0 216 [(4, vi (kwF tp (tk tp n p))), (3, vi 1), (0, vr 0), (1, vi (fvP pu)), (2, vi (laV pu))] [vi (if Sg tp (tk tp n p) 45 then 1 else 0)] hh
      rw [if_neg s2]
      refine K_if_eq (tgt := 256) (dt_at dtX12_expression 110 rfl) (by decide) (by first | assumption | exact ⟨by omega, by omega⟩) (fun c42 => ?_) (fun c42 => absurd c42 (by omega))
      refine K_aload_n (dt_at dtX12_expression 129 rfl) rfl rfl ?_
      refine K_bipush (dt_at dtX12_expression 130 rfl) (by decide) ?_
      refine K_callV (M' := mX12_isSign) (a := 0) (ci := 12) (As := [vi 42]) (st := []) (dt_at dtX12_expression 131 rfl) (sg_g (c := 42) S.1 ⟨by decide, by decide⟩) (show TT 0 = (0, 12) from rfl) rfl wL_X12_202 vX12_isSign rfl npX12_isSign (by decide) (by decide) (Nat.le_of_ble_eq_true rfl) (by decide) (by decide) GK_E (fun v9 h9 hq => ?_) (fun E h9 hq => by cases hq.1)
      obtain ⟨e9, e8⟩ := hq
      cases e9
      rw [e8]
      show K mX12_expression _ _ 0 0 262 [(4, vi (kwF tp (tk tp n p))), (3, vi 1), (0, vr 0), (1, vi (fvP pu)), (2, vi (laV pu))] [vi (if Sg tp (tk tp n p) 42 then 1 else 0)] hh
      rw [if_neg p1]
      refine K_if_ne (tgt := 274) (dt_at dtX12_expression 132 rfl) (by decide) (by first | assumption | exact ⟨by omega, by omega⟩) (fun c43 => absurd c43 (by omega)) (fun c43 => ?_)
      refine K_aload_n (dt_at dtX12_expression 133 rfl) rfl rfl ?_
      refine K_bipush (dt_at dtX12_expression 134 rfl) (by decide) ?_
      refine K_callV (M' := mX12_isSign) (a := 0) (ci := 12) (As := [vi 47]) (st := []) (dt_at dtX12_expression 135 rfl) (sg_g (c := 47) S.1 ⟨by decide, by decide⟩) (show TT 0 = (0, 12) from rfl) rfl wL_X12_202 vX12_isSign rfl npX12_isSign (by decide) (by decide) (Nat.le_of_ble_eq_true rfl) (by decide) (by decide) GK_E (fun v9 h9 hq => ?_) (fun E h9 hq => by cases hq.1)
      obtain ⟨e9, e8⟩ := hq
      cases e9
      rw [e8]
      show K mX12_expression _ _ 0 0 271 [(4, vi (kwF tp (tk tp n p))), (3, vi 1), (0, vr 0), (1, vi (fvP pu)), (2, vi (laV pu))] [vi (if Sg tp (tk tp n p) 47 then 1 else 0)] hh
      rw [if_neg p2]
      refine K_if_eq (tgt := 312) (dt_at dtX12_expression 136 rfl) (by decide) (by first | assumption | exact ⟨by omega, by omega⟩) (fun c44 => ?_) (fun c44 => absurd c44 (by omega))
      refine K_aload_n (dt_at dtX12_expression 155 rfl) rfl rfl ?_
      refine K_bipush (dt_at dtX12_expression 156 rfl) (by decide) ?_
      refine K_callV (M' := mX12_isSign) (a := 0) (ci := 12) (As := [vi 41]) (st := []) (dt_at dtX12_expression 157 rfl) (sg_g (c := 41) S.1 ⟨by decide, by decide⟩) (show TT 0 = (0, 12) from rfl) rfl wL_X12_202 vX12_isSign rfl npX12_isSign (by decide) (by decide) (Nat.le_of_ble_eq_true rfl) (by decide) (by decide) GK_E (fun v9 h9 hq => ?_) (fun E h9 hq => by cases hq.1)
      obtain ⟨e9, e8⟩ := hq
      cases e9
      rw [e8]
      show K mX12_expression _ _ 0 0 318 [(4, vi (kwF tp (tk tp n p))), (3, vi 1), (0, vr 0), (1, vi (fvP pu)), (2, vi (laV pu))] [vi (if Sg tp (tk tp n p) 41 then 1 else 0)] hh
      by_cases z45 : Sg tp (tk tp n p) 41
      · rw [if_pos z45]
        refine K_if_eq (tgt := 335) (dt_at dtX12_expression 158 rfl) (by decide) (by first | assumption | exact ⟨by omega, by omega⟩) (fun c46 => absurd c46 (by omega)) (fun c46 => ?_)
        refine K_aload_n (dt_at dtX12_expression 159 rfl) rfl rfl ?_
        refine K_callV (M' := mX12_isOpened) (a := 0) (ci := 12) (As := []) (st := []) (dt_at dtX12_expression 160 rfl) (opened_f (W := []) hV S.2.2.2.1.1 (by omega)) (show TT 0 = (0, 12) from rfl) rfl wL_X12_221 vX12_isOpened rfl npX12_isOpened (by decide) (by decide) (Nat.le_of_ble_eq_true rfl) (by decide) (by decide) GK_E (fun v9 h9 hq => ?_) (fun E h9 hq => by cases hq.1)
        obtain ⟨e9, e8⟩ := hq
        cases e9
        rw [e8]
        show K mX12_expression _ _ 0 0 325 [(4, vi (kwF tp (tk tp n p))), (3, vi 1), (0, vr 0), (1, vi (fvP pu)), (2, vi (laV pu))] [vi 0] hh
        refine K_if_eq (tgt := 335) (dt_at dtX12_expression 161 rfl) (by decide) (by first | assumption | exact ⟨by omega, by omega⟩) (fun c47 => ?_) (fun c47 => absurd c47 (by omega))
        refine K_iconst (dt_at dtX12_expression 165 rfl) ?_
        refine K_istore_n (ls' := [(3, vi 0), (4, vi (kwF tp (tk tp n p))), (0, vr 0), (1, vi (fvP pu)), (2, vi (laV pu))]) (dt_at dtX12_expression 166 rfl) rfl (by decide) rfl ?_
        refine K_goto (tgt := 39) (dt_at dtX12_expression 167 rfl) (by decide) ?_
        refine K_iload_n (dt_at dtX12_expression 23 rfl) rfl rfl ?_
        refine K_if_eq (tgt := 340) (dt_at dtX12_expression 24 rfl) (by decide) (by first | assumption | exact ⟨by omega, by omega⟩) (fun c48 => ?_) (fun c48 => absurd c48 (by omega))
        refine K_aload_n (dt_at dtX12_expression 168 rfl) rfl rfl ?_
        refine K_callV (M' := mX12_isGood) (a := 0) (ci := 12) (As := []) (st := []) (dt_at dtX12_expression 169 rfl) (good_t S.1.2.2.2.1) (show TT 0 = (0, 12) from rfl) rfl wL_X12_164 vX12_isGood rfl npX12_isGood (by decide) (by decide) (Nat.le_of_ble_eq_true rfl) (by decide) (by decide) GK_E (fun v9 h9 hq => ?_) (fun E h9 hq => by cases hq.1)
        obtain ⟨e9, e8⟩ := hq
        cases e9
        rw [e8]
        show K mX12_expression _ _ 0 0 344 [(3, vi 0), (4, vi (kwF tp (tk tp n p))), (0, vr 0), (1, vi (fvP pu)), (2, vi (laV pu))] [vi 1] hh
        refine K_if_eq (tgt := 360) (dt_at dtX12_expression 170 rfl) (by decide) (by first | assumption | exact ⟨by omega, by omega⟩) (fun c49 => absurd c49 (by omega)) (fun c49 => ?_)
        refine K_aload_n (dt_at dtX12_expression 171 rfl) rfl rfl ?_
        refine K_get (a := 0) (ci := 12) (k := 32) (v := vi (hI hh 0 32)) (dt_at dtX12_expression 172 rfl) (show TT 0 = (0, 12) from rfl) rfl (by decide) wF_X12_199 rfl ?_
        refine K_iconst (dt_at dtX12_expression 173 rfl) ?_
        refine K_icmp_le (tgt := 360) (dt_at dtX12_expression 174 rfl) (by decide) ⟨by omega, by omega⟩ (by first | assumption | exact ⟨by omega, by omega⟩) (fun c50 => ?_) (fun c50 => absurd c50 (by omega))
        refine K_aload_n (dt_at dtX12_expression 178 rfl) rfl rfl ?_
        refine K_iconst (dt_at dtX12_expression 179 rfl) ?_
        refine K_callV (M' := mX12_drops) (a := 0) (ci := 12) (As := [vi 0]) (st := []) (dt_at dtX12_expression 180 rfl) (drops_K (s := 0) (V := V) (W := []) ⟨by decide, by decide⟩ trivial (fun x hx => absurd hx (List.not_mem_nil)) (opn_up hV (by omega)) S.2.2.2.1.1 (by omega) (by omega) (by omega)) (show TT 0 = (0, 12) from rfl) rfl wL_X12_214 vX12_drops rfl npX12_drops (by decide) (by decide) (Nat.le_of_ble_eq_true rfl) (by decide) (by decide) GK_E (fun v9 hc21 hq => ?_) (fun E h9 hq => by cases hq.1)
        have hqq22 := hq
        obtain ⟨e9q22, Dq22⟩ := hqq22
        have S9 := SR_drop S (by omega) (opn_up hV (by omega : (0 : Int) ≤ _)) Dq22
        obtain ⟨s1, ⟨s2, s3⟩, ⟨s4, s5⟩, ⟨s6, s7⟩, ⟨s8, s9⟩, ⟨b1, b2⟩, Y9⟩ := id S9
        have hp7 := hbn.2.2.2.2.1
        cases e9q22
        show K mX12_expression _ _ 0 0 365 [(3, vi 0), (4, vi (kwF tp (tk tp n p))), (0, vr 0), (1, vi (fvP pu)), (2, vi (laV pu))] [] hc21
        refine K_aload_n (dt_at dtX12_expression 181 rfl) rfl rfl ?_
        refine K_iconst (dt_at dtX12_expression 182 rfl) ?_
        refine K_callV (M' := mX12_puts) (a := 0) (ci := 12) (As := [vi 0]) (st := []) (dt_at dtX12_expression 183 rfl) (sX12_puts (v := 0) ⟨by rw [s4]; omega, by rw [s4]; omega⟩) (show TT 0 = (0, 12) from rfl) rfl wL_X12_186 vX12_puts rfl npX12_puts (by decide) (by decide) (Nat.le_of_ble_eq_true rfl) (by decide) (by decide) GK_E (fun v9 h9 hq => ?_) (fun E h9 hq => by cases hq.1)
        obtain ⟨e9, e8⟩ := hq
        cases e9
        rw [e8]
        show K mX12_expression _ _ 0 0 370 [(3, vi 0), (4, vi (kwF tp (tk tp n p))), (0, vr 0), (1, vi (fvP pu)), (2, vi (laV pu))] [] (sI (sA hc21 15 (hI hc21 0 28) 0) 0 28 (hI hc21 0 28 + 1))
        obtain ⟨hq23, eq23⟩ : ∃ z, z = sA hc21 15 (hI hc21 0 28) 0 := ⟨_, rfl⟩
        rw [← eq23]
        obtain ⟨aq23, fq23, iq23, rq23⟩ := sA_fx eq23
        rw [s4] at aq23
        obtain ⟨hq24, eq24⟩ : ∃ z, z = sI hq23 0 28 (hI hc21 0 28 + 1) := ⟨_, rfl⟩
        rw [← eq24]
        obtain ⟨iq24, fq24, aq24, rq24⟩ := sI_fx eq24
        rw [s4] at iq24
        have R25 := MGd_up s1 (FL_tr (FL_eA eq23 rfl : FL [15] [(0, 28)] [] hc21 hq23) (FL_eI eq24 rfl)) rfl rfl
        exact K_vret (dt_at dtX12_expression 184 rfl) rfl (by decide) (by decide) (kF _ R25 (by rw [iq24]) (by omega) (cdR_P _ _ (by omega) (by omega) (cdP_cg _ _ (fun i _ h2 => by rw [aq24, aq23, upI_n (by omega)]) s5) (by rw [aq24, aq23, upI_s])) (YF_tr Y9 (FL_tr (FL_eA eq23 rfl : FL [15] [(0, 28)] [] hc21 hq23) (FL_eI eq24 rfl)) rfl rfl (fun i hi => by rw [aq24, aq23, upI_n (by omega)])))
      · rw [if_neg z45]
        refine K_if_eq (tgt := 335) (dt_at dtX12_expression 158 rfl) (by decide) (by first | assumption | exact ⟨by omega, by omega⟩) (fun c51 => ?_) (fun c51 => absurd c51 (by omega))
        refine K_iconst (dt_at dtX12_expression 165 rfl) ?_
        refine K_istore_n (ls' := [(3, vi 0), (4, vi (kwF tp (tk tp n p))), (0, vr 0), (1, vi (fvP pu)), (2, vi (laV pu))]) (dt_at dtX12_expression 166 rfl) rfl (by decide) rfl ?_
        refine K_goto (tgt := 39) (dt_at dtX12_expression 167 rfl) (by decide) ?_
        refine K_iload_n (dt_at dtX12_expression 23 rfl) rfl rfl ?_
        refine K_if_eq (tgt := 340) (dt_at dtX12_expression 24 rfl) (by decide) (by first | assumption | exact ⟨by omega, by omega⟩) (fun c52 => ?_) (fun c52 => absurd c52 (by omega))
        refine K_aload_n (dt_at dtX12_expression 168 rfl) rfl rfl ?_
        refine K_callV (M' := mX12_isGood) (a := 0) (ci := 12) (As := []) (st := []) (dt_at dtX12_expression 169 rfl) (good_t S.1.2.2.2.1) (show TT 0 = (0, 12) from rfl) rfl wL_X12_164 vX12_isGood rfl npX12_isGood (by decide) (by decide) (Nat.le_of_ble_eq_true rfl) (by decide) (by decide) GK_E (fun v9 h9 hq => ?_) (fun E h9 hq => by cases hq.1)
        obtain ⟨e9, e8⟩ := hq
        cases e9
        rw [e8]
        show K mX12_expression _ _ 0 0 344 [(3, vi 0), (4, vi (kwF tp (tk tp n p))), (0, vr 0), (1, vi (fvP pu)), (2, vi (laV pu))] [vi 1] hh
        refine K_if_eq (tgt := 360) (dt_at dtX12_expression 170 rfl) (by decide) (by first | assumption | exact ⟨by omega, by omega⟩) (fun c53 => absurd c53 (by omega)) (fun c53 => ?_)
        refine K_aload_n (dt_at dtX12_expression 171 rfl) rfl rfl ?_
        refine K_get (a := 0) (ci := 12) (k := 32) (v := vi (hI hh 0 32)) (dt_at dtX12_expression 172 rfl) (show TT 0 = (0, 12) from rfl) rfl (by decide) wF_X12_199 rfl ?_
        refine K_iconst (dt_at dtX12_expression 173 rfl) ?_
        refine K_icmp_le (tgt := 360) (dt_at dtX12_expression 174 rfl) (by decide) ⟨by omega, by omega⟩ (by first | assumption | exact ⟨by omega, by omega⟩) (fun c54 => ?_) (fun c54 => absurd c54 (by omega))
        refine K_aload_n (dt_at dtX12_expression 178 rfl) rfl rfl ?_
        refine K_iconst (dt_at dtX12_expression 179 rfl) ?_
        refine K_callV (M' := mX12_drops) (a := 0) (ci := 12) (As := [vi 0]) (st := []) (dt_at dtX12_expression 180 rfl) (drops_K (s := 0) (V := V) (W := []) ⟨by decide, by decide⟩ trivial (fun x hx => absurd hx (List.not_mem_nil)) (opn_up hV (by omega)) S.2.2.2.1.1 (by omega) (by omega) (by omega)) (show TT 0 = (0, 12) from rfl) rfl wL_X12_214 vX12_drops rfl npX12_drops (by decide) (by decide) (Nat.le_of_ble_eq_true rfl) (by decide) (by decide) GK_E (fun v9 hc26 hq => ?_) (fun E h9 hq => by cases hq.1)
        have hqq27 := hq
        obtain ⟨e9q27, Dq27⟩ := hqq27
        have S9 := SR_drop S (by omega) (opn_up hV (by omega : (0 : Int) ≤ _)) Dq27
        obtain ⟨s1, ⟨s2, s3⟩, ⟨s4, s5⟩, ⟨s6, s7⟩, ⟨s8, s9⟩, ⟨b1, b2⟩, Y9⟩ := id S9
        have hp7 := hbn.2.2.2.2.1
        cases e9q27
        show K mX12_expression _ _ 0 0 365 [(3, vi 0), (4, vi (kwF tp (tk tp n p))), (0, vr 0), (1, vi (fvP pu)), (2, vi (laV pu))] [] hc26
        refine K_aload_n (dt_at dtX12_expression 181 rfl) rfl rfl ?_
        refine K_iconst (dt_at dtX12_expression 182 rfl) ?_
        refine K_callV (M' := mX12_puts) (a := 0) (ci := 12) (As := [vi 0]) (st := []) (dt_at dtX12_expression 183 rfl) (sX12_puts (v := 0) ⟨by rw [s4]; omega, by rw [s4]; omega⟩) (show TT 0 = (0, 12) from rfl) rfl wL_X12_186 vX12_puts rfl npX12_puts (by decide) (by decide) (Nat.le_of_ble_eq_true rfl) (by decide) (by decide) GK_E (fun v9 h9 hq => ?_) (fun E h9 hq => by cases hq.1)
        obtain ⟨e9, e8⟩ := hq
        cases e9
        rw [e8]
        show K mX12_expression _ _ 0 0 370 [(3, vi 0), (4, vi (kwF tp (tk tp n p))), (0, vr 0), (1, vi (fvP pu)), (2, vi (laV pu))] [] (sI (sA hc26 15 (hI hc26 0 28) 0) 0 28 (hI hc26 0 28 + 1))
        obtain ⟨hq28, eq28⟩ : ∃ z, z = sA hc26 15 (hI hc26 0 28) 0 := ⟨_, rfl⟩
        rw [← eq28]
        obtain ⟨aq28, fq28, iq28, rq28⟩ := sA_fx eq28
        rw [s4] at aq28
        obtain ⟨hq29, eq29⟩ : ∃ z, z = sI hq28 0 28 (hI hc26 0 28 + 1) := ⟨_, rfl⟩
        rw [← eq29]
        obtain ⟨iq29, fq29, aq29, rq29⟩ := sI_fx eq29
        rw [s4] at iq29
        have R30 := MGd_up s1 (FL_tr (FL_eA eq28 rfl : FL [15] [(0, 28)] [] hc26 hq28) (FL_eI eq29 rfl)) rfl rfl
        exact K_vret (dt_at dtX12_expression 184 rfl) rfl (by decide) (by decide) (kF _ R30 (by rw [iq29]) (by omega) (cdR_P _ _ (by omega) (by omega) (cdP_cg _ _ (fun i _ h2 => by rw [aq29, aq28, upI_n (by omega)]) s5) (by rw [aq29, aq28, upI_s])) (YF_tr Y9 (FL_tr (FL_eA eq28 rfl : FL [15] [(0, 28)] [] hc26 hq28) (FL_eI eq29 rfl)) rfl rfl (fun i hi => by rw [aq29, aq28, upI_n (by omega)])))
theorem MA_x {h0 : HP} {tp : Int → Int} {n : Nat} {pu : Int} {a : Nat} {Q : AO → HP → Prop} (hpu : pu = 0 ∨ pu = 1) : MA tp n pu (KLx h0 tp n pu a Q) (KEx h0 tp n a Q) := by
  refine ⟨fun p L V W b T hp h1 h2 h3 g => ?_, fun p L V W b T hp h1 h2 h3 g => ?_, fun p L V W T hp h1 h2 h3 g => ?_, fun p L V W b T hp h1 h2 h3 g => ?_, fun p L V W b T hp h1 h2 h3 g => ?_, fun p L V W b c T hp h1 h2 g => rule_close h1 h2 g, fun p L V W b c T hp h1 h2 h3 g => rule_exit h1 h2 h3 g⟩
  · by_cases c : isWb tp (tk tp n p) 14 = true
    · rw [orS_t c] at g
      exact rule_or hpu c h2 h3 g
    · exact absurd (orS_f c) h1
  · by_cases c : isWb tp (tk tp n p) 13 = true
    · rw [andS_t c] at g
      exact rule_and hpu c h2 h3 g
    · exact absurd (andS_f c) h1
  · by_cases c : Sg tp (tk tp n p) 60
    · rw [show tstS tp (tk tp n p) = -12 from if_pos c] at g
      exact rule_lt (b := false) hpu c h2 h3 g
    · by_cases c2 : Sg tp (tk tp n p) 61
      · rw [show tstS tp (tk tp n p) = -13 from (if_neg c).trans (if_pos c2)] at g
        exact rule_eq (b := false) hpu c2 h2 h3 g
      · exact absurd ((if_neg c).trans (if_neg c2)) h1
  · by_cases c : Sg tp (tk tp n p) 43
    · rw [show sumS tp (tk tp n p) = -14 from if_pos c] at g
      exact rule_plus hpu c h2 h3 g
    · by_cases c2 : Sg tp (tk tp n p) 45
      · rw [show sumS tp (tk tp n p) = -15 from (if_neg c).trans (if_pos c2)] at g
        exact rule_minus hpu c2 h2 h3 g
      · exact absurd ((if_neg c).trans (if_neg c2)) h1
  · by_cases c : Sg tp (tk tp n p) 42
    · rw [show prdS tp (tk tp n p) = -16 from if_pos c] at g
      exact rule_times hpu c h2 h3 g
    · by_cases c2 : Sg tp (tk tp n p) 47
      · rw [show prdS tp (tk tp n p) = -17 from (if_neg c).trans (if_pos c2)] at g
        exact rule_over hpu c2 h2 h3 g
      · exact absurd ((if_neg c).trans (if_neg c2)) h1
def EXo (h h' : HP) (tp : Int → Int) (n a : Nat) : PR → Prop
  | .inl e => MEr h' tp n e ∧ ((a : Int) ≤ hI h' 0 28 ∧ hI h' 0 28 ≤ 1400) ∧ YF a h h'
  | .inr (q, M) => MGd h' tp n q ∧ hI h' 0 28 = (a : Int) + (clN M : Int) + 1 ∧ a + clN M + 1 ≤ 2 * q ∧ cdR (hA h' 15) (a : Int) M ∧ YF a h h'
set_option maxHeartbeats 4000000 in
set_option maxRecDepth 100000 in
theorem expr_K {h : HP} {tp : Int → Int} {n p a : Nat} {pu : Int} (hpu : pu = 0 ∨ pu = 1) (A : MGd h tp n p) (ha : hI h 0 28 = (a : Int)) (hb : a + 8 ≤ 2 * p) : SpecK mX12_expression [vr 0, vi (fvP pu), vi (laV pu)] h (fun o h' => o = .inl none ∧ EXo h h' tp n a (exP tp n pu 6 p)) := by
  refine Spec_of (by decide +kernel) (Nat.le_of_ble_eq_true rfl) ?_
  have fb : i32 (fvP pu) ∧ i32 (laV pu) := by rcases hpu with rfl | rfl <;> exact ⟨⟨by decide, by decide⟩, ⟨by decide, by decide⟩⟩
  have hn7 := A.1.2.1
  have hp := A.2.2.1
  refine K_aload_n (dt_at dtX12_expression 0 rfl) rfl rfl ?_
  refine K_callV (M' := mX12_isGood) (a := 0) (ci := 12) (As := []) (st := []) (dt_at dtX12_expression 1 rfl) (good_t A.2.2.2.1) (show TT 0 = (0, 12) from rfl) rfl wL_X12_164 vX12_isGood rfl npX12_isGood (by decide) (by decide) (Nat.le_of_ble_eq_true rfl) (by decide) (by decide) GK_E (fun v9 h9 hq => ?_) (fun E h9 hq => by cases hq.1)
  obtain ⟨e9, e8⟩ := hq
  cases e9
  rw [e8]
  show K mX12_expression _ _ 0 0 4 [(0, vr 0), (1, vi (fvP pu)), (2, vi (laV pu))] [vi 1] h
  refine K_if_ne (tgt := 8) (dt_at dtX12_expression 2 rfl) (by decide) (by first | assumption | exact ⟨by omega, by omega⟩) (fun c1 => ?_) (fun c1 => absurd c1 (by omega))
  refine K_aload_n (dt_at dtX12_expression 4 rfl) rfl rfl ?_
  refine K_iload_n (dt_at dtX12_expression 5 rfl) rfl rfl ?_
  refine K_putI (a := 0) (ci := 12) (k := 29) (dt_at dtX12_expression 6 rfl) (show TT 0 = (0, 12) from rfl) rfl (by decide) wF_X12_193 rfl (Or.inl rfl) rfl rfl ?_
  obtain ⟨hq1, eq1⟩ : ∃ z, z = sI h 0 29 (fvP pu) := ⟨_, rfl⟩
  rw [← eq1]
  obtain ⟨iq1, fq1, aq1, rq1⟩ := sI_fx eq1
  refine K_aload_n (dt_at dtX12_expression 7 rfl) rfl rfl ?_
  refine K_iload_n (dt_at dtX12_expression 8 rfl) rfl rfl ?_
  refine K_putI (a := 0) (ci := 12) (k := 30) (dt_at dtX12_expression 9 rfl) (show TT 0 = (0, 12) from rfl) rfl (by decide) wF_X12_196 rfl (Or.inl rfl) rfl rfl ?_
  obtain ⟨hq2, eq2⟩ : ∃ z, z = sI hq1 0 30 (laV pu) := ⟨_, rfl⟩
  rw [← eq2]
  obtain ⟨iq2, fq2, aq2, rq2⟩ := sI_fx eq2
  refine K_aload_n (dt_at dtX12_expression 10 rfl) rfl rfl ?_
  refine K_iconst (dt_at dtX12_expression 11 rfl) ?_
  refine K_putI (a := 0) (ci := 12) (k := 31) (dt_at dtX12_expression 12 rfl) (show TT 0 = (0, 12) from rfl) rfl (by decide) wF_X12_177 rfl (Or.inl rfl) rfl rfl ?_
  obtain ⟨hq3, eq3⟩ : ∃ z, z = sI hq2 0 31 0 := ⟨_, rfl⟩
  rw [← eq3]
  obtain ⟨iq3, fq3, aq3, rq3⟩ := sI_fx eq3
  refine K_aload_n (dt_at dtX12_expression 13 rfl) rfl rfl ?_
  refine K_iconst (dt_at dtX12_expression 14 rfl) ?_
  refine K_putI (a := 0) (ci := 12) (k := 32) (dt_at dtX12_expression 15 rfl) (show TT 0 = (0, 12) from rfl) rfl (by decide) wF_X12_199 rfl (Or.inl rfl) rfl rfl ?_
  obtain ⟨hq4, eq4⟩ : ∃ z, z = sI hq3 0 32 0 := ⟨_, rfl⟩
  rw [← eq4]
  obtain ⟨iq4, fq4, aq4, rq4⟩ := sI_fx eq4
  refine K_aload_n (dt_at dtX12_expression 16 rfl) rfl rfl ?_
  have F9 : FL [] [(0, 29), (0, 30), (0, 31), (0, 32)] [] h hq4 := (FL_tr (FL_tr (FL_tr (FL_tr (FL_rf : FL [] [(0, 29), (0, 30), (0, 31), (0, 32)] [] h h) (FL_eI eq1 rfl)) (FL_eI eq2 rfl)) (FL_eI eq3 rfl)) (FL_eI eq4 rfl))
  have S9 : SR 0 h hq4 tp n pu a p [] [] [] := ⟨MGd_up A F9 rfl rfl, ⟨by rw [(fq4 0 29 (by omega)), (fq3 0 29 (by omega)), (fq2 0 29 (by omega)), iq1], by rw [(fq4 0 30 (by omega)), (fq3 0 30 (by omega)), iq2]⟩, ⟨by rw [F9.2.1 0 28 rfl, ha]; show (a : Int) = (a : Int) + ((0 : Nat) : Int); omega, trivial⟩, ⟨⟨by rw [(fq4 0 31 (by omega)), iq3]; rfl, fun j hj => absurd hj (Nat.not_lt_zero j)⟩, fun x hx => absurd hx (List.not_mem_nil)⟩, ⟨⟨by rw [iq4]; rfl, fun j hj => absurd hj (Nat.not_lt_zero j)⟩, by decide⟩, ⟨by show a + 0 + 0 + 8 ≤ 2 * p + 0; omega, Nat.zero_le _⟩, ⟨fun i _ => by rw [F9.1 15 rfl], FL_up F9 rfl rfl rfl⟩⟩
  refine K_callV (M' := mX12_deeper) (a := 0) (ci := 12) (As := []) (st := []) (dt_at dtX12_expression 17 rfl) (deeper_t S9.2.2.2.2.1.1 (by decide)) (show TT 0 = (0, 12) from rfl) rfl wL_X12_208 vX12_deeper rfl npX12_deeper (by decide) (by decide) (Nat.le_of_ble_eq_true rfl) (by decide) (by decide) GK_E (fun v9 hc5 hq => ?_) (fun E h9 hq => by cases hq.1)
  have hqq6 := hq
  obtain ⟨e9q6, tq6, Gq6⟩ := hqq6
  have Sq6 := SR_deep S9 (by decide) tq6 Gq6
  cases e9q6
  show K mX12_expression _ _ 0 0 32 [(0, vr 0), (1, vi (fvP pu)), (2, vi (laV pu))] [] hc5
  refine K_aload_n (dt_at dtX12_expression 18 rfl) rfl rfl ?_
  refine K_iconst (dt_at dtX12_expression 19 rfl) ?_
  refine K_callV (M' := mX12_operand) (a := 0) (ci := 12) (As := [vi 1]) (st := []) (dt_at dtX12_expression 20 rfl) (operand_1 (f := n + 1) hpu Sq6 (by omega)) (show TT 0 = (0, 12) from rfl) rfl wL_X12_217 vX12_operand rfl npX12_operand (by decide) (by decide) (Nat.le_of_ble_eq_true rfl) (by decide) (by decide) GK_E (fun v9 hc7 hq => ?_) (fun E h9 hq => by cases hq.1)
  have hqq8 := hq
  obtain ⟨e9q8, oq8⟩ := hqq8
  cases e9q8
  show K mX12_expression _ _ 0 0 37 [(0, vr 0), (1, vi (fvP pu)), (2, vi (laV pu))] [] hc7
  refine K_iconst (dt_at dtX12_expression 21 rfl) ?_
  refine K_istore_n (ls' := [(3, vi 1), (0, vr 0), (1, vi (fvP pu)), (2, vi (laV pu))]) (dt_at dtX12_expression 22 rfl) rfl (by decide) rfl ?_
  have o9 := oq8
  have lv := LV_ex hn7 (MA_x (h0 := h) (n := n) (a := a) (tp := tp) (Q := (fun o h' => o = .inl none ∧ EXo h h' tp n a (exP tp n pu 6 p))) hpu) 5 p [] [] false [] rfl trivial rfl hp
  have g9 : ∀ X, exP tp n pu 6 p = X → KOr (KLx h tp n pu a (fun o h' => o = .inl none ∧ EXo h h' tp n a (exP tp n pu 6 p))) (KEx h tp n a (fun o h' => o = .inl none ∧ EXo h h' tp n a (exP tp n pu 6 p))) [] (opP tp n pu (n + 1) 0 p [] [false]) := by
    intro X hx
    cases X with
    | inl e => exact lv.1 e hx (fun h' a1 a2 a3 => ⟨rfl, by rw [hx]; exact ⟨a1, a2, a3⟩⟩) (n + 1) (by omega)
    | inr qM =>
      obtain ⟨q, M⟩ := qM
      refine lv.2 q M hx (fun L' V b' e1 hV hf _ => ?_) (n + 1) (by omega)
      refine rule_done hV ⟨hf.1.1, hf.1.2, hf.2⟩ (fun h' a1 a2 a3 a4 a5 => ⟨rfl, ?_⟩)
      rw [List.nil_append] at e1
      rw [e1] at a2 a3 a4
      rw [hx]
      exact ⟨a1, a2, a3, a4, a5⟩
  replace g9 := g9 _ rfl
  rcases hu : opP tp n pu (n + 1) 0 p [] [false] with e | ⟨q, x9, W9, T9⟩
  · rw [hu] at g9 o9
    exact K_pk [0, 1, 2, 3] (ls' := [(3, vi 1), (0, vr 0), (1, vi (fvP pu)), (2, vi (laV pu))]) rfl (end_39 (pu := pu) o9 g9)
  · rw [hu] at g9 o9
    exact K_pk [0, 1, 2, 3] (ls' := [(3, vi 1), (0, vr 0), (1, vi (fvP pu)), (2, vi (laV pu))]) rfl (g9 _ o9)
