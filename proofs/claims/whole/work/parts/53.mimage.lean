theorem mAc_cp {h h2 : HP} {a b ka kb : Nat} {C : AC} {g : Int → Int} (m : mAc h a ka C) (e : hA h2 b = pwF (fun i => hA h a i) g 0 3080) (i : hI h2 0 kb = (C.1 : Int)) : mAc h2 b kb C := by
  refine ⟨i, m.2.1, fun k hk j j0 j1 => ?_⟩
  have pb := pm_b j0 j1
  have := m.2.1
  rw [e, pwF_in (by omega) (by omega)]
  exact m.2.2 k hk j j0 j1
theorem mSe_cp {h h2 : HP} {a b ka kb : Nat} {N : SN} {g : Int → Int} (m : mSe h a ka N) (e : hA h2 b = pwF (fun i => hA h a i) g 0 32) (i : hI h2 0 kb = (N.1 : Int)) : mSe h2 b kb N := by
  refine ⟨i, m.2.1, fun k hk => ?_⟩
  have := m.2.1
  rw [e, pwF_in (by omega) (by omega), pwF_in (by omega) (by omega), pwF_in (by omega) (by omega), pwF_in (by omega) (by omega)]
  exact m.2.2 k hk
theorem MV_img {h h' : HP} {S : HS} {v : SV} {im im' : Option SV} {tp : Int → Int} {nt : Nat} {rf : Int × Int × Int} {fl : Int} (m : MV h (S, v, im, tp, nt, rf, fl)) (fa : ∀ a, (a ≠ 26 ∧ a ≠ 27 ∧ a ≠ 28) → hA h' a = hA h a) (fi : ∀ a k, (a ≠ 0 ∨ (k ≠ 0 ∧ k ≠ 56 ∧ k ≠ 57 ∧ k ≠ 58)) → hI h' a k = hI h a k) (hi : mIm h' im') : MV h' (S, v, im', tp, nt, rf, fl) := by
  obtain ⟨m1, m2, m3, ⟨m4, m5, m6⟩, m7, m8⟩ := m
  exact ⟨MS_fr m1 (fi 0 1 (by omega)) (fi 0 2 (by omega)) (fi 0 3 (by omega)) (fi 0 4 (by omega)) (fa 1 (by omega)) (fa 2 (by omega)) (fa 3 (by omega)) (fa 4 (by omega)) (fa 5 (by omega)) (fa 6 (by omega)), by rw [fa 20 (by omega)]; exact m2, by rw [fi 0 49 (by omega)]; exact m3, ⟨RV0_fr m4 (fun i _ => by rw [fa 18 (by omega)]), mAc_fr m5 (fi 0 44 (by omega)) (fa 19 (by omega)), mSe_fr m6 (fi 0 51 (by omega)) (fa 23 (by omega))⟩, hi, mTp_fr m8 (fi 0 12 (by omega)) (fi 0 14 (by omega)) (fa 7 (by omega)) (fa 8 (by omega))⟩
theorem MV_res {h h' : HP} {S : HS} {v w : SV} {im : Option SV} {tp : Int → Int} {nt : Nat} {rf : Int × Int × Int} {fl : Int} (m : MV h (S, v, im, tp, nt, rf, fl)) (fa : ∀ a, (a ≠ 18 ∧ a ≠ 19 ∧ a ≠ 23) → hA h' a = hA h a) (fi : ∀ a k, (a ≠ 0 ∨ (k ≠ 0 ∧ k ≠ 44 ∧ k ≠ 51)) → hI h' a k = hI h a k) (h1 : RV h' 0 w.1) (h2 : mAc h' 19 44 w.2.1) (h3 : mSe h' 23 51 w.2.2) : MV h' (S, w, im, tp, nt, rf, fl) := by
  obtain ⟨m1, m2, m3, ⟨m4, m5, m6⟩, m7, m8⟩ := m
  exact ⟨MS_fr m1 (fi 0 1 (by omega)) (fi 0 2 (by omega)) (fi 0 3 (by omega)) (fi 0 4 (by omega)) (fa 1 (by omega)) (fa 2 (by omega)) (fa 3 (by omega)) (fa 4 (by omega)) (fa 5 (by omega)) (fa 6 (by omega)), by rw [fa 20 (by omega)]; exact m2, by rw [fi 0 49 (by omega)]; exact m3, ⟨h1, h2, h3⟩, mIm_fr m7 (fi 0 56 (by omega)) (fi 0 57 (by omega)) (fi 0 58 (by omega)) (fa 26 (by omega)) (fa 27 (by omega)) (fa 28 (by omega)), mTp_fr m8 (fi 0 12 (by omega)) (fi 0 14 (by omega)) (fa 7 (by omega)) (fa 8 (by omega))⟩
def mX12_image : MI := (yX12_image, cX12_image, 2, none, rmK 2 0)
def tX12_image : List (Nat × Instr × Nat) := [(0, .aload_n 0, 1), (1, .iconst 0, 1), (2, .putfield 105, 3), (5, .aload_n 0, 1), (6, .iconst 1, 1), (7, .putfield 283, 3), (10, .aload_n 0, 1), (11, .aload_n 0, 1), (12, .getfield 277, 3), (15, .putfield 451, 3), (18, .aload_n 0, 1), (19, .aload_n 0, 1), (20, .getfield 280, 3), (23, .putfield 454, 3), (26, .iconst 0, 1), (27, .istore_n 1, 1), (28, .iload_n 1, 1), (29, .bipush 77, 2), (31, .if_icmp .ge 21, 3), (34, .aload_n 0, 1), (35, .getfield 96, 3), (38, .iload_n 1, 1), (39, .aload_n 0, 1), (40, .getfield 72, 3), (43, .iload_n 1, 1), (44, .iaload, 1), (45, .iastore, 1), (46, .iinc 1 1, 3), (49, .goto (-21), 3), (52, .aload_n 0, 1), (53, .aload_n 0, 1), (54, .getfield 75, 3), (57, .aload_n 0, 1), (58, .getfield 99, 3), (61, .invokevirtual 273, 3), (64, .aload_n 0, 1), (65, .aload_n 0, 1), (66, .getfield 87, 3), (69, .aload_n 0, 1), (70, .getfield 102, 3), (73, .invokevirtual 273, 3), (76, .return_, 1)]
theorem dtX12_image : tX12_image.all (fun q => decide (decode cX12_image q.1 = .ok (q.2.1, q.2.2))) = true := by decide +kernel
theorem npX12_image : (parseMethodDescriptor (mY mX12_image).desc).map (fun d => d.parameters.length) = some 0 := by decide +kernel
theorem vX12_image : mV mX12_image := ⟨wI_X12_image, wS_X12_image, wN_X12, wC_X12_image, by decide +kernel, by decide +kernel⟩
set_option maxHeartbeats 4000000 in
set_option maxRecDepth 100000 in
theorem lp_X12_image {Z : CT → State → Prop} {hb : HP}  (kx : ∀ h2, hA h2 26 = (pwF (fun i => hA hb 18 (i)) (hA hb 26) 0 77) → (∀ b, b ≠ 26 → hA h2 b = hA hb b) → hI h2 = hI hb → hR h2 = hR hb → K mX12_image GK Z 0 0 52 [(1, vi 77), (0, vr 0)] [] h2) : ∀ (dd k : Nat) (hh : HP), k + dd = 77 → hA hh 26 = (pwF (fun i => hA hb 18 (i)) (hA hb 26) 0 (k : Int)) → (∀ b, b ≠ 26 → hA hh b = hA hb b) → hI hh = hI hb → hR hh = hR hb → K mX12_image GK Z 0 0 28 [(1, vi (k : Int)), (0, vr 0)] [] hh := by
  intro dd
  induction dd with
  | zero =>
    intro k hh hk ea fa fi fr
    have ek : k = 77 := by omega
    refine K_iload_n (dt_at dtX12_image 16 rfl) rfl rfl ?_
    refine K_bipush (dt_at dtX12_image 17 rfl) (by decide) ?_
    refine K_icmp_ge (tgt := 52) (dt_at dtX12_image 18 rfl) (by decide) (by first | assumption | exact ⟨by omega, by omega⟩) (by first | assumption | exact ⟨by omega, by omega⟩) (fun c1 => ?_) (fun c1 => absurd c1 (by omega))
    exact K_pk [0, 1] (ls' := [(1, vi (k : Int)), (0, vr 0)]) rfl (K_cg (ls' := [(1, vi 77), (0, vr 0)]) (h' := hh) (by rw [ek]; rfl) rfl (kx hh (by rw [ek] at ea; exact ea) fa fi fr))
  | succ dd ih =>
    intro k hh hk ea fa fi fr
    refine K_iload_n (dt_at dtX12_image 16 rfl) rfl rfl ?_
    refine K_bipush (dt_at dtX12_image 17 rfl) (by decide) ?_
    refine K_icmp_ge (tgt := 52) (dt_at dtX12_image 18 rfl) (by decide) (by first | assumption | exact ⟨by omega, by omega⟩) (by first | assumption | exact ⟨by omega, by omega⟩) (fun c1 => absurd c1 (by omega)) (fun c1 => ?_)
    refine K_aload_n (dt_at dtX12_image 19 rfl) rfl rfl ?_
    refine K_get (a := 0) (ci := 12) (k := 59) (v := vr 26) (dt_at dtX12_image 20 rfl) (show TT 0 = (0, 12) from rfl) rfl (by decide) wF_X12_96 rfl ?_
    refine K_iload_n (dt_at dtX12_image 21 rfl) rfl rfl ?_
    refine K_aload_n (dt_at dtX12_image 22 rfl) rfl rfl ?_
    refine K_get (a := 0) (ci := 12) (k := 42) (v := vr 18) (dt_at dtX12_image 23 rfl) (show TT 0 = (0, 12) from rfl) rfl (by decide) wF_X12_72 rfl ?_
    refine K_iload_n (dt_at dtX12_image 24 rfl) rfl rfl ?_
    refine K_iald (dt_at dtX12_image 25 rfl) (show TT 18 = (1, 154) from rfl) (by omega) (by omega) ?_
    rw [(fa 18 (by omega))]
    refine K_iast (dt_at dtX12_image 26 rfl) (show TT 26 = (1, 77) from rfl) (by omega) (by omega) ?_
    obtain ⟨hq1, eq1⟩ : ∃ z, z = sA hh 26 (k : Int) (hA hb 18 (k : Int)) := ⟨_, rfl⟩
    rw [← eq1]
    obtain ⟨aq1, fq1, iq1, rq1⟩ := sA_fx eq1
    rw [ea] at aq1
    refine K_iinc (ls' := [(1, vi ((k : Int) + 1)), (0, vr 0)]) (dt_at dtX12_image 27 rfl) rfl (by decide) rfl ?_
    refine K_goto (tgt := 28) (dt_at dtX12_image 28 rfl) (by decide) ?_
    exact K_pk [0, 1] rfl (ih (k + 1) hq1 (by omega) (by rw [aq1]; exact pwF_c (by omega) rfl) (fun b_ hb_ => by rw [fq1 b_ hb_]; exact fa b_ hb_) (by rw [iq1]; exact fi) (by rw [rq1]; exact fr))
set_option maxHeartbeats 4000000 in
set_option maxRecDepth 100000 in
theorem sX12_image {h : HP} {S : HS} {f : Int → Int} {C : AC} {N : SN} {im : Option SV} {tp : Int → Int} {nt : Nat} {rf : Int × Int × Int} {fl : Int} (V : MV h (S, (f, C, N), im, tp, nt, rf, fl)) (R : rowOK S f) : SpecK mX12_image [vr 0] h (fun o h' => o = .inl (none) ∧ MV h' (S, (f, C, N), some (f, C, N), tp, nt, rf, fl) ∧ FC h h' ∧ hI h' 0 0 = 0) := by
  refine Spec_of (by decide +kernel) (Nat.le_of_ble_eq_true rfl) ?_
  have Q0 := MV_ask V R
  have hB := Q0.1.1
  have hNt := hB.1
  have hNp := hB.2.1
  have hT := R.1
  have hW := hT.1
  have mc : mAc h 19 44 C := V.2.2.2.1.2.1
  have ms : mSe h 23 51 N := V.2.2.2.1.2.2
  refine K_aload_n (dt_at dtX12_image 0 rfl) rfl rfl ?_
  refine K_iconst (dt_at dtX12_image 1 rfl) ?_
  refine K_putI (a := 0) (ci := 12) (k := 0) (dt_at dtX12_image 2 rfl) (show TT 0 = (0, 12) from rfl) rfl (by decide) wF_X12_105 rfl (Or.inl rfl) rfl rfl ?_
  obtain ⟨hu1, eu1⟩ : ∃ z, z = sI h 0 0 0 := ⟨_, rfl⟩
  rw [← eu1]
  obtain ⟨iu1, fu1, au1, ru1⟩ := sI_fx eu1
  have Gu1 := MG_0 Q0 eu1
  refine K_aload_n (dt_at dtX12_image 3 rfl) rfl rfl ?_
  refine K_iconst (dt_at dtX12_image 4 rfl) ?_
  refine K_putI (a := 0) (ci := 12) (k := 56) (dt_at dtX12_image 5 rfl) (show TT 0 = (0, 12) from rfl) rfl (by decide) wF_X12_283 rfl (Or.inr rfl) (by decide) (by decide) ?_
  obtain ⟨hq2, eq2⟩ : ∃ z, z = sI hu1 0 56 1 := ⟨_, rfl⟩
  rw [← eq2]
  obtain ⟨iq2, fq2, aq2, rq2⟩ := sI_fx eq2
  refine K_aload_n (dt_at dtX12_image 6 rfl) rfl rfl ?_
  refine K_aload_n (dt_at dtX12_image 7 rfl) rfl rfl ?_
  refine K_get (a := 0) (ci := 12) (k := 44) (v := vi (C.1 : Int)) (dt_at dtX12_image 8 rfl) (show TT 0 = (0, 12) from rfl) rfl (by decide) wF_X12_277 (by show vi (hI hq2 0 44) = vi (C.1 : Int); rw [(fq2 0 44 (by omega)), (fu1 0 44 (by omega)), mc.1]) ?_
  refine K_putI (a := 0) (ci := 12) (k := 57) (dt_at dtX12_image 9 rfl) (show TT 0 = (0, 12) from rfl) rfl (by decide) wF_X12_451 rfl (Or.inl rfl) rfl rfl ?_
  obtain ⟨hq3, eq3⟩ : ∃ z, z = sI hq2 0 57 (C.1 : Int) := ⟨_, rfl⟩
  rw [← eq3]
  obtain ⟨iq3, fq3, aq3, rq3⟩ := sI_fx eq3
  refine K_aload_n (dt_at dtX12_image 10 rfl) rfl rfl ?_
  refine K_aload_n (dt_at dtX12_image 11 rfl) rfl rfl ?_
  refine K_get (a := 0) (ci := 12) (k := 51) (v := vi (N.1 : Int)) (dt_at dtX12_image 12 rfl) (show TT 0 = (0, 12) from rfl) rfl (by decide) wF_X12_280 (by show vi (hI hq3 0 51) = vi (N.1 : Int); rw [(fq3 0 51 (by omega)), (fq2 0 51 (by omega)), (fu1 0 51 (by omega)), ms.1]) ?_
  refine K_putI (a := 0) (ci := 12) (k := 58) (dt_at dtX12_image 13 rfl) (show TT 0 = (0, 12) from rfl) rfl (by decide) wF_X12_454 rfl (Or.inl rfl) rfl rfl ?_
  obtain ⟨hq4, eq4⟩ : ∃ z, z = sI hq3 0 58 (N.1 : Int) := ⟨_, rfl⟩
  rw [← eq4]
  obtain ⟨iq4, fq4, aq4, rq4⟩ := sI_fx eq4
  refine K_iconst (dt_at dtX12_image 14 rfl) ?_
  refine K_istore_n (ls' := [(1, vi 0), (0, vr 0)]) (dt_at dtX12_image 15 rfl) rfl (by decide) rfl ?_
  refine K_pk [0, 1] rfl (lp_X12_image (hb := hq4) (fun h2 q1 q2 q3 q4 => ?_) 77 0 hq4 (by omega) pwF_0.symm (fun _ _ => rfl) rfl rfl)
  refine K_aload_n (dt_at dtX12_image 29 rfl) rfl rfl ?_
  refine K_aload_n (dt_at dtX12_image 30 rfl) rfl rfl ?_
  refine K_get (a := 0) (ci := 12) (k := 43) (v := vr 19) (dt_at dtX12_image 31 rfl) (show TT 0 = (0, 12) from rfl) rfl (by decide) wF_X12_75 rfl ?_
  refine K_aload_n (dt_at dtX12_image 32 rfl) rfl rfl ?_
  refine K_get (a := 0) (ci := 12) (k := 60) (v := vr 27) (dt_at dtX12_image 33 rfl) (show TT 0 = (0, 12) from rfl) rfl (by decide) wF_X12_99 rfl ?_
  refine K_callV (M' := mX12_copies) (a := 0) (ci := 12) (As := [vr 19, vr 27]) (st := []) (dt_at dtX12_image 34 rfl) (sX12_copies_19) (show TT 0 = (0, 12) from rfl) rfl wL_X12_273 vX12_copies rfl npX12_copies (by decide) (by decide) (Nat.le_of_ble_eq_true rfl) (by decide) (by decide) GK_E (fun v9 hc5 hq => ?_) (fun E h9 hq => by cases hq.1)
  have hqq6 := hq
  obtain ⟨e9q6, c1q6, c2q6, c3q6, c4q6⟩ := hqq6
  cases e9q6
  show K mX12_image _ _ 0 0 64 [(1, vi 77), (0, vr 0)] [] hc5
  refine K_aload_n (dt_at dtX12_image 35 rfl) rfl rfl ?_
  refine K_aload_n (dt_at dtX12_image 36 rfl) rfl rfl ?_
  refine K_get (a := 0) (ci := 12) (k := 52) (v := vr 23) (dt_at dtX12_image 37 rfl) (show TT 0 = (0, 12) from rfl) rfl (by decide) wF_X12_87 rfl ?_
  refine K_aload_n (dt_at dtX12_image 38 rfl) rfl rfl ?_
  refine K_get (a := 0) (ci := 12) (k := 61) (v := vr 28) (dt_at dtX12_image 39 rfl) (show TT 0 = (0, 12) from rfl) rfl (by decide) wF_X12_102 rfl ?_
  refine K_callV (M' := mX12_copies) (a := 0) (ci := 12) (As := [vr 23, vr 28]) (st := []) (dt_at dtX12_image 40 rfl) (sX12_copies_23) (show TT 0 = (0, 12) from rfl) rfl wL_X12_273 vX12_copies rfl npX12_copies (by decide) (by decide) (Nat.le_of_ble_eq_true rfl) (by decide) (by decide) GK_E (fun v9 hc7 hq => ?_) (fun E h9 hq => by cases hq.1)
  have hqq8 := hq
  obtain ⟨e9q8, c1q8, c2q8, c3q8, c4q8⟩ := hqq8
  cases e9q8
  show K mX12_image _ _ 0 0 76 [(1, vi 77), (0, vr 0)] [] hc7
  have fa9 : ∀ a, (a ≠ 26 ∧ a ≠ 27 ∧ a ≠ 28) → hA hc7 a = hA h a := fun a_ z_ => by rw [(c2q8 a_ (by omega)), (c2q6 a_ (by omega)), (q2 a_ (by omega)), aq4, aq3, aq2, au1]
  have fi9 : ∀ a k, (a ≠ 0 ∨ (k ≠ 0 ∧ k ≠ 56 ∧ k ≠ 57 ∧ k ≠ 58)) → hI hc7 a k = hI h a k := fun a_ k_ z_ => by rw [c3q8, c3q6, q3, (fq4 a_ k_ (by omega)), (fq3 a_ k_ (by omega)), (fq2 a_ k_ (by omega)), (fu1 a_ k_ (by omega))]
  have fr9 : hR hc7 = hR h := by rw [c4q8, c4q6, q4, rq4, rq3, rq2, ru1]
  have i00 : hI hc7 0 0 = 0 := by rw [c3q8, c3q6, q3, (fq4 0 0 (by omega)), (fq3 0 0 (by omega)), (fq2 0 0 (by omega)), Gu1.2.2.2]
  have FC9 : FC h hc7 := ⟨fun a_ z_ => fa9 a_ (by omega), fun a_ k_ z_ => fi9 a_ k_ (Or.inl z_), fr9⟩
  have i56 : hI hc7 0 56 = 1 := by rw [c3q8, c3q6, q3, (fq4 0 56 (by omega)), (fq3 0 56 (by omega)), iq2]
  have i57 : hI hc7 0 57 = (C.1 : Int) := by rw [c3q8, c3q6, q3, (fq4 0 57 (by omega)), iq3]
  have i58 : hI hc7 0 58 = (N.1 : Int) := by rw [c3q8, c3q6, q3, iq4]
  have e26 : hA hc7 26 = pwF (fun i => hA hq4 18 i) (hA hq4 26) 0 77 := by rw [(c2q8 26 (by omega)), (c2q6 26 (by omega))]; exact q1
  have r26 : ∀ j : Int, 0 ≤ j → j < 77 → hA hc7 26 (pm j) = f j := fun j j0 j1 => by
    have pb := pm_b j0 j1
    rw [e26, pwF_in (by omega) (by omega), aq4, aq3, aq2, au1, show pm j = 0 + pm j by omega]
    exact V.2.2.2.1.1 j j0 j1
  have m27 : mAc hc7 27 57 C := mAc_cp (h := h) mc (by rw [(c2q8 27 (by omega)), c1q6, (q2 19 (by omega)), aq4, aq3, aq2, au1]) i57
  have m28 : mSe hc7 28 58 N := mSe_cp (h := h) ms (by rw [c1q8, (c2q6 23 (by omega)), (q2 23 (by omega)), aq4, aq3, aq2, au1]) i58
  exact K_vret (dt_at dtX12_image 41 rfl) rfl (by decide) (by decide) ⟨rfl, MV_img V fa9 fi9 (im' := some (f, C, N)) ⟨i56, r26, m27, m28⟩, FC9, i00⟩
def mX12_restore : MI := (yX12_restore, cX12_restore, 2, (some .boolean), rmK 2 0)
def tX12_restore : List (Nat × Instr × Nat) := [(0, .aload_n 0, 1), (1, .iconst 0, 1), (2, .putfield 105, 3), (5, .aload_n 0, 1), (6, .getfield 283, 3), (9, .ifCond .ne 5, 3), (12, .iconst 0, 1), (13, .ireturn, 1), (14, .aload_n 0, 1), (15, .aload_n 0, 1), (16, .getfield 451, 3), (19, .putfield 277, 3), (22, .aload_n 0, 1), (23, .aload_n 0, 1), (24, .getfield 454, 3), (27, .putfield 280, 3), (30, .iconst 0, 1), (31, .istore_n 1, 1), (32, .iload_n 1, 1), (33, .bipush 77, 2), (35, .if_icmp .ge 21, 3), (38, .aload_n 0, 1), (39, .getfield 72, 3), (42, .iload_n 1, 1), (43, .aload_n 0, 1), (44, .getfield 96, 3), (47, .iload_n 1, 1), (48, .iaload, 1), (49, .iastore, 1), (50, .iinc 1 1, 3), (53, .goto (-21), 3), (56, .aload_n 0, 1), (57, .aload_n 0, 1), (58, .getfield 99, 3), (61, .aload_n 0, 1), (62, .getfield 75, 3), (65, .invokevirtual 273, 3), (68, .aload_n 0, 1), (69, .aload_n 0, 1), (70, .getfield 102, 3), (73, .aload_n 0, 1), (74, .getfield 87, 3), (77, .invokevirtual 273, 3), (80, .iconst 1, 1), (81, .ireturn, 1)]
theorem dtX12_restore : tX12_restore.all (fun q => decide (decode cX12_restore q.1 = .ok (q.2.1, q.2.2))) = true := by decide +kernel
theorem npX12_restore : (parseMethodDescriptor (mY mX12_restore).desc).map (fun d => d.parameters.length) = some 0 := by decide +kernel
theorem vX12_restore : mV mX12_restore := ⟨wI_X12_restore, wS_X12_restore, wN_X12, wC_X12_restore, by decide +kernel, by decide +kernel⟩
set_option maxHeartbeats 4000000 in
set_option maxRecDepth 100000 in
theorem lp_X12_restore {Z : CT → State → Prop} {hb : HP}  (kx : ∀ h2, hA h2 18 = (pwF (fun i => hA hb 26 (i)) (hA hb 18) 0 77) → (∀ b, b ≠ 18 → hA h2 b = hA hb b) → hI h2 = hI hb → hR h2 = hR hb → K mX12_restore GK Z 0 0 56 [(1, vi 77), (0, vr 0)] [] h2) : ∀ (dd k : Nat) (hh : HP), k + dd = 77 → hA hh 18 = (pwF (fun i => hA hb 26 (i)) (hA hb 18) 0 (k : Int)) → (∀ b, b ≠ 18 → hA hh b = hA hb b) → hI hh = hI hb → hR hh = hR hb → K mX12_restore GK Z 0 0 32 [(1, vi (k : Int)), (0, vr 0)] [] hh := by
  intro dd
  induction dd with
  | zero =>
    intro k hh hk ea fa fi fr
    have ek : k = 77 := by omega
    refine K_iload_n (dt_at dtX12_restore 18 rfl) rfl rfl ?_
    refine K_bipush (dt_at dtX12_restore 19 rfl) (by decide) ?_
    refine K_icmp_ge (tgt := 56) (dt_at dtX12_restore 20 rfl) (by decide) (by first | assumption | exact ⟨by omega, by omega⟩) (by first | assumption | exact ⟨by omega, by omega⟩) (fun c1 => ?_) (fun c1 => absurd c1 (by omega))
    exact K_pk [0, 1] (ls' := [(1, vi (k : Int)), (0, vr 0)]) rfl (K_cg (ls' := [(1, vi 77), (0, vr 0)]) (h' := hh) (by rw [ek]; rfl) rfl (kx hh (by rw [ek] at ea; exact ea) fa fi fr))
  | succ dd ih =>
    intro k hh hk ea fa fi fr
    refine K_iload_n (dt_at dtX12_restore 18 rfl) rfl rfl ?_
    refine K_bipush (dt_at dtX12_restore 19 rfl) (by decide) ?_
    refine K_icmp_ge (tgt := 56) (dt_at dtX12_restore 20 rfl) (by decide) (by first | assumption | exact ⟨by omega, by omega⟩) (by first | assumption | exact ⟨by omega, by omega⟩) (fun c1 => absurd c1 (by omega)) (fun c1 => ?_)
    refine K_aload_n (dt_at dtX12_restore 21 rfl) rfl rfl ?_
    refine K_get (a := 0) (ci := 12) (k := 42) (v := vr 18) (dt_at dtX12_restore 22 rfl) (show TT 0 = (0, 12) from rfl) rfl (by decide) wF_X12_72 rfl ?_
    refine K_iload_n (dt_at dtX12_restore 23 rfl) rfl rfl ?_
    refine K_aload_n (dt_at dtX12_restore 24 rfl) rfl rfl ?_
    refine K_get (a := 0) (ci := 12) (k := 59) (v := vr 26) (dt_at dtX12_restore 25 rfl) (show TT 0 = (0, 12) from rfl) rfl (by decide) wF_X12_96 rfl ?_
    refine K_iload_n (dt_at dtX12_restore 26 rfl) rfl rfl ?_
    refine K_iald (dt_at dtX12_restore 27 rfl) (show TT 26 = (1, 77) from rfl) (by omega) (by omega) ?_
    rw [(fa 26 (by omega))]
    refine K_iast (dt_at dtX12_restore 28 rfl) (show TT 18 = (1, 154) from rfl) (by omega) (by omega) ?_
    obtain ⟨hq1, eq1⟩ : ∃ z, z = sA hh 18 (k : Int) (hA hb 26 (k : Int)) := ⟨_, rfl⟩
    rw [← eq1]
    obtain ⟨aq1, fq1, iq1, rq1⟩ := sA_fx eq1
    rw [ea] at aq1
    refine K_iinc (ls' := [(1, vi ((k : Int) + 1)), (0, vr 0)]) (dt_at dtX12_restore 29 rfl) rfl (by decide) rfl ?_
    refine K_goto (tgt := 32) (dt_at dtX12_restore 30 rfl) (by decide) ?_
    exact K_pk [0, 1] rfl (ih (k + 1) hq1 (by omega) (by rw [aq1]; exact pwF_c (by omega) rfl) (fun b_ hb_ => by rw [fq1 b_ hb_]; exact fa b_ hb_) (by rw [iq1]; exact fi) (by rw [rq1]; exact fr))
set_option maxHeartbeats 4000000 in
set_option maxRecDepth 100000 in
theorem sX12_restore_no {h : HP} {S : HS} {f : Int → Int} {C : AC} {N : SN} {im : Option SV} {tp : Int → Int} {nt : Nat} {rf : Int × Int × Int} {fl : Int} (V : MV h (S, (f, C, N), none, tp, nt, rf, fl)) (R : rowOK S f) : SpecK mX12_restore [vr 0] h (fun o h' => o = .inl (some (vi 0)) ∧ MV h' (S, (f, C, N), none, tp, nt, rf, fl) ∧ FC h h' ∧ hI h' 0 0 = 0) := by
  refine Spec_of (by decide +kernel) (Nat.le_of_ble_eq_true rfl) ?_
  have Q0 := MV_ask V R
  have hB := Q0.1.1
  have hNt := hB.1
  have hNp := hB.2.1
  have hT := R.1
  have hW := hT.1
  have i56 : hI h 0 56 = 0 := V.2.2.2.2.1
  refine K_aload_n (dt_at dtX12_restore 0 rfl) rfl rfl ?_
  refine K_iconst (dt_at dtX12_restore 1 rfl) ?_
  refine K_putI (a := 0) (ci := 12) (k := 0) (dt_at dtX12_restore 2 rfl) (show TT 0 = (0, 12) from rfl) rfl (by decide) wF_X12_105 rfl (Or.inl rfl) rfl rfl ?_
  obtain ⟨hu1, eu1⟩ : ∃ z, z = sI h 0 0 0 := ⟨_, rfl⟩
  rw [← eu1]
  obtain ⟨iu1, fu1, au1, ru1⟩ := sI_fx eu1
  have Gu1 := MG_0 Q0 eu1
  refine K_aload_n (dt_at dtX12_restore 3 rfl) rfl rfl ?_
  refine K_get (a := 0) (ci := 12) (k := 56) (v := vi 0) (dt_at dtX12_restore 4 rfl) (show TT 0 = (0, 12) from rfl) rfl (by decide) wF_X12_283 (by show vi (hI hu1 0 56) = vi 0; rw [(fu1 0 56 (by omega)), i56]) ?_
  refine K_if_ne (tgt := 14) (dt_at dtX12_restore 5 rfl) (by decide) (by first | assumption | exact ⟨by omega, by omega⟩) (fun c1 => absurd c1 (by omega)) (fun c1 => ?_)
  refine K_iconst (dt_at dtX12_restore 6 rfl) ?_
  exact K_iret (dt_at dtX12_restore 7 rfl) rfl (by decide) (by decide) (by decide) ⟨rfl, MV_FQ V Gu1.2.1, FC_FQ Gu1.2.1, Gu1.2.2.2⟩
set_option maxHeartbeats 4000000 in
set_option maxRecDepth 100000 in
theorem sX12_restore {h : HP} {S : HS} {f : Int → Int} {C : AC} {N : SN} {im : Option SV} {tp : Int → Int} {nt : Nat} {rf : Int × Int × Int} {fl : Int} {w : SV} (V : MV h (S, (f, C, N), some w, tp, nt, rf, fl)) (R : rowOK S f) : SpecK mX12_restore [vr 0] h (fun o h' => o = .inl (some (vi 1)) ∧ MV h' (S, w, some w, tp, nt, rf, fl) ∧ FC h h' ∧ hI h' 0 0 = 0) := by
  refine Spec_of (by decide +kernel) (Nat.le_of_ble_eq_true rfl) ?_
  have Q0 := MV_ask V R
  have hB := Q0.1.1
  have hNt := hB.1
  have hNp := hB.2.1
  have hT := R.1
  have hW := hT.1
  obtain ⟨W1, W2, W3, W4⟩ : hI h 0 56 = 1 ∧ (∀ j : Int, 0 ≤ j → j < 77 → hA h 26 (pm j) = w.1 j) ∧ mAc h 27 57 w.2.1 ∧ mSe h 28 58 w.2.2 := V.2.2.2.2.1
  refine K_aload_n (dt_at dtX12_restore 0 rfl) rfl rfl ?_
  refine K_iconst (dt_at dtX12_restore 1 rfl) ?_
  refine K_putI (a := 0) (ci := 12) (k := 0) (dt_at dtX12_restore 2 rfl) (show TT 0 = (0, 12) from rfl) rfl (by decide) wF_X12_105 rfl (Or.inl rfl) rfl rfl ?_
  obtain ⟨hu1, eu1⟩ : ∃ z, z = sI h 0 0 0 := ⟨_, rfl⟩
  rw [← eu1]
  obtain ⟨iu1, fu1, au1, ru1⟩ := sI_fx eu1
  have Gu1 := MG_0 Q0 eu1
  refine K_aload_n (dt_at dtX12_restore 3 rfl) rfl rfl ?_
  refine K_get (a := 0) (ci := 12) (k := 56) (v := vi 1) (dt_at dtX12_restore 4 rfl) (show TT 0 = (0, 12) from rfl) rfl (by decide) wF_X12_283 (by show vi (hI hu1 0 56) = vi 1; rw [(fu1 0 56 (by omega)), W1]) ?_
  refine K_if_ne (tgt := 14) (dt_at dtX12_restore 5 rfl) (by decide) (by first | assumption | exact ⟨by omega, by omega⟩) (fun c1 => ?_) (fun c1 => absurd c1 (by omega))
  refine K_aload_n (dt_at dtX12_restore 8 rfl) rfl rfl ?_
  refine K_aload_n (dt_at dtX12_restore 9 rfl) rfl rfl ?_
  refine K_get (a := 0) (ci := 12) (k := 57) (v := vi (w.2.1.1 : Int)) (dt_at dtX12_restore 10 rfl) (show TT 0 = (0, 12) from rfl) rfl (by decide) wF_X12_451 (by show vi (hI hu1 0 57) = vi (w.2.1.1 : Int); rw [(fu1 0 57 (by omega)), W3.1]) ?_
  refine K_putI (a := 0) (ci := 12) (k := 44) (dt_at dtX12_restore 11 rfl) (show TT 0 = (0, 12) from rfl) rfl (by decide) wF_X12_277 rfl (Or.inl rfl) rfl rfl ?_
  obtain ⟨hq2, eq2⟩ : ∃ z, z = sI hu1 0 44 (w.2.1.1 : Int) := ⟨_, rfl⟩
  rw [← eq2]
  obtain ⟨iq2, fq2, aq2, rq2⟩ := sI_fx eq2
  refine K_aload_n (dt_at dtX12_restore 12 rfl) rfl rfl ?_
  refine K_aload_n (dt_at dtX12_restore 13 rfl) rfl rfl ?_
  refine K_get (a := 0) (ci := 12) (k := 58) (v := vi (w.2.2.1 : Int)) (dt_at dtX12_restore 14 rfl) (show TT 0 = (0, 12) from rfl) rfl (by decide) wF_X12_454 (by show vi (hI hq2 0 58) = vi (w.2.2.1 : Int); rw [(fq2 0 58 (by omega)), (fu1 0 58 (by omega)), W4.1]) ?_
  refine K_putI (a := 0) (ci := 12) (k := 51) (dt_at dtX12_restore 15 rfl) (show TT 0 = (0, 12) from rfl) rfl (by decide) wF_X12_280 rfl (Or.inl rfl) rfl rfl ?_
  obtain ⟨hq3, eq3⟩ : ∃ z, z = sI hq2 0 51 (w.2.2.1 : Int) := ⟨_, rfl⟩
  rw [← eq3]
  obtain ⟨iq3, fq3, aq3, rq3⟩ := sI_fx eq3
  refine K_iconst (dt_at dtX12_restore 16 rfl) ?_
  refine K_istore_n (ls' := [(1, vi 0), (0, vr 0)]) (dt_at dtX12_restore 17 rfl) rfl (by decide) rfl ?_
  refine K_pk [0, 1] rfl (lp_X12_restore (hb := hq3) (fun h2 q1 q2 q3 q4 => ?_) 77 0 hq3 (by omega) pwF_0.symm (fun _ _ => rfl) rfl rfl)
  refine K_aload_n (dt_at dtX12_restore 31 rfl) rfl rfl ?_
  refine K_aload_n (dt_at dtX12_restore 32 rfl) rfl rfl ?_
  refine K_get (a := 0) (ci := 12) (k := 60) (v := vr 27) (dt_at dtX12_restore 33 rfl) (show TT 0 = (0, 12) from rfl) rfl (by decide) wF_X12_99 rfl ?_
  refine K_aload_n (dt_at dtX12_restore 34 rfl) rfl rfl ?_
  refine K_get (a := 0) (ci := 12) (k := 43) (v := vr 19) (dt_at dtX12_restore 35 rfl) (show TT 0 = (0, 12) from rfl) rfl (by decide) wF_X12_75 rfl ?_
  refine K_callV (M' := mX12_copies) (a := 0) (ci := 12) (As := [vr 27, vr 19]) (st := []) (dt_at dtX12_restore 36 rfl) (sX12_copies_27) (show TT 0 = (0, 12) from rfl) rfl wL_X12_273 vX12_copies rfl npX12_copies (by decide) (by decide) (Nat.le_of_ble_eq_true rfl) (by decide) (by decide) GK_E (fun v9 hc4 hq => ?_) (fun E h9 hq => by cases hq.1)
  have hqq5 := hq
  obtain ⟨e9q5, c1q5, c2q5, c3q5, c4q5⟩ := hqq5
  cases e9q5
  show K mX12_restore _ _ 0 0 68 [(1, vi 77), (0, vr 0)] [] hc4
  refine K_aload_n (dt_at dtX12_restore 37 rfl) rfl rfl ?_
  refine K_aload_n (dt_at dtX12_restore 38 rfl) rfl rfl ?_
  refine K_get (a := 0) (ci := 12) (k := 61) (v := vr 28) (dt_at dtX12_restore 39 rfl) (show TT 0 = (0, 12) from rfl) rfl (by decide) wF_X12_102 rfl ?_
  refine K_aload_n (dt_at dtX12_restore 40 rfl) rfl rfl ?_
  refine K_get (a := 0) (ci := 12) (k := 52) (v := vr 23) (dt_at dtX12_restore 41 rfl) (show TT 0 = (0, 12) from rfl) rfl (by decide) wF_X12_87 rfl ?_
  refine K_callV (M' := mX12_copies) (a := 0) (ci := 12) (As := [vr 28, vr 23]) (st := []) (dt_at dtX12_restore 42 rfl) (sX12_copies_28) (show TT 0 = (0, 12) from rfl) rfl wL_X12_273 vX12_copies rfl npX12_copies (by decide) (by decide) (Nat.le_of_ble_eq_true rfl) (by decide) (by decide) GK_E (fun v9 hc6 hq => ?_) (fun E h9 hq => by cases hq.1)
  have hqq7 := hq
  obtain ⟨e9q7, c1q7, c2q7, c3q7, c4q7⟩ := hqq7
  cases e9q7
  show K mX12_restore _ _ 0 0 80 [(1, vi 77), (0, vr 0)] [] hc6
  refine K_iconst (dt_at dtX12_restore 43 rfl) ?_
  have fa9 : ∀ a, (a ≠ 18 ∧ a ≠ 19 ∧ a ≠ 23) → hA hc6 a = hA h a := fun a_ z_ => by rw [(c2q7 a_ (by omega)), (c2q5 a_ (by omega)), (q2 a_ (by omega)), aq3, aq2, au1]
  have fi9 : ∀ a k, (a ≠ 0 ∨ (k ≠ 0 ∧ k ≠ 44 ∧ k ≠ 51)) → hI hc6 a k = hI h a k := fun a_ k_ z_ => by rw [c3q7, c3q5, q3, (fq3 a_ k_ (by omega)), (fq2 a_ k_ (by omega)), (fu1 a_ k_ (by omega))]
  have fr9 : hR hc6 = hR h := by rw [c4q7, c4q5, q4, rq3, rq2, ru1]
  have i00 : hI hc6 0 0 = 0 := by rw [c3q7, c3q5, q3, (fq3 0 0 (by omega)), (fq2 0 0 (by omega)), Gu1.2.2.2]
  have FC9 : FC h hc6 := ⟨fun a_ z_ => fa9 a_ (by omega), fun a_ k_ z_ => fi9 a_ k_ (Or.inl z_), fr9⟩
  have i44 : hI hc6 0 44 = (w.2.1.1 : Int) := by rw [c3q7, c3q5, q3, (fq3 0 44 (by omega)), iq2]
  have i51 : hI hc6 0 51 = (w.2.2.1 : Int) := by rw [c3q7, c3q5, q3, iq3]
  have r18 : RV hc6 0 w.1 := fun j j0 j1 => by
    have pb := pm_b j0 j1
    rw [(c2q7 18 (by omega)), (c2q5 18 (by omega)), q1, pwF_in (by omega) (by omega), aq3, aq2, au1, show 0 + pm j = pm j by omega]
    exact W2 j j0 j1
  have m19 : mAc hc6 19 44 w.2.1 := mAc_cp (h := h) W3 (by rw [(c2q7 19 (by omega)), c1q5, (q2 27 (by omega)), aq3, aq2, au1]) i44
  have m23 : mSe hc6 23 51 w.2.2 := mSe_cp (h := h) W4 (by rw [c1q7, (c2q5 28 (by omega)), (q2 28 (by omega)), aq3, aq2, au1]) i51
  exact K_iret (dt_at dtX12_restore 44 rfl) rfl (by decide) (by decide) (by decide) ⟨rfl, MV_res V fa9 fi9 r18 m19 m23, FC9, i00⟩
def mX12_lays : MI := (yX12_lays, cX12_lays, 3, none, rmK 1 0)
def tX12_lays : List (Nat × Instr × Nat) := [(0, .bipush 24, 2), (2, .istore_n 2, 1), (3, .iload_n 2, 1), (4, .ifCond .lt 35, 3), (7, .aload_n 0, 1), (8, .getfield 35, 3), (11, .aload_n 0, 1), (12, .getfield 108, 3), (15, .iload_n 1, 1), (16, .iload_n 2, 1), (17, .ishr, 1), (18, .sipush 255, 3), (21, .iand, 1), (22, .iastore, 1), (23, .aload_n 0, 1), (24, .dup, 1), (25, .getfield 108, 3), (28, .iconst 1, 1), (29, .iadd, 1), (30, .putfield 108, 3), (33, .iinc 2 (-8), 3), (36, .goto (-33), 3), (39, .return_, 1)]
theorem dtX12_lays : tX12_lays.all (fun q => decide (decode cX12_lays q.1 = .ok (q.2.1, q.2.2))) = true := by decide +kernel
theorem npX12_lays : (parseMethodDescriptor (mY mX12_lays).desc).map (fun d => d.parameters.length) = some 1 := by decide +kernel
theorem vX12_lays : mV mX12_lays := ⟨wI_X12_lays, wS_X12_lays, wN_X12, wC_X12_lays, by decide +kernel, by decide +kernel⟩
/-- four bytes behind a tape -/
def ly4 (g : Int → Int) (n v : Int) : Int → Int := upI (upI (upI (upI g n (bAnd (bShr v 24) 255)) (n + 1) (bAnd (bShr v 16) 255)) (n + 1 + 1) (bAnd (bShr v 8) 255)) (n + 1 + 1 + 1) (bAnd (bShr v 0) 255)
theorem ly4_cg {g g' : Int → Int} {n v i : Int} (h : i < n → g i = g' i) (hi : i < n + 4) (h0 : 0 ≤ n) : ly4 g n v i = ly4 g' n v i := by
  unfold ly4 upI
  by_cases a : i = n + 1 + 1 + 1
  · rw [if_pos a, if_pos a]
  · rw [if_neg a, if_neg a]
    by_cases b : i = n + 1 + 1
    · rw [if_pos b, if_pos b]
    · rw [if_neg b, if_neg b]
      by_cases c : i = n + 1
      · rw [if_pos c, if_pos c]
      · rw [if_neg c, if_neg c]
        by_cases d : i = n
        · rw [if_pos d, if_pos d]
        · rw [if_neg d, if_neg d]; exact h (by omega)
set_option maxHeartbeats 4000000 in
set_option maxRecDepth 100000 in
theorem sX12_lays {h : HP} {n v : Int} (e12 : hI h 0 12 = n) (hn : 0 ≤ n ∧ n ≤ 696) : SpecK mX12_lays [vr 0, vi v] h (fun o h' => o = .inl none ∧ hA h' 7 = ly4 (hA h 7) n v ∧ hI h' 0 12 = n + 1 + 1 + 1 + 1 ∧ (∀ a, a ≠ 7 → hA h' a = hA h a) ∧ (∀ a k, (a ≠ 0 ∨ k ≠ 12) → hI h' a k = hI h a k) ∧ hR h' = hR h) := by
  refine Spec_of (by decide +kernel) (Nat.le_of_ble_eq_true rfl) ?_
  refine K_bipush (dt_at dtX12_lays 0 rfl) (by decide) ?_
  refine K_istore_n (ls' := [(2, vi 24), (0, vr 0), (1, vi v)]) (dt_at dtX12_lays 1 rfl) rfl (by decide) rfl ?_
  refine K_iload_n (dt_at dtX12_lays 2 rfl) rfl rfl ?_
  refine K_if_lt (tgt := 39) (dt_at dtX12_lays 3 rfl) (by decide) (by first | assumption | exact ⟨by omega, by omega⟩) (fun c1 => absurd c1 (by omega)) (fun c1 => ?_)
  refine K_aload_n (dt_at dtX12_lays 4 rfl) rfl rfl ?_
  refine K_get (a := 0) (ci := 12) (k := 11) (v := vr 7) (dt_at dtX12_lays 5 rfl) (show TT 0 = (0, 12) from rfl) rfl (by decide) wF_X12_35 rfl ?_
  refine K_aload_n (dt_at dtX12_lays 6 rfl) rfl rfl ?_
  refine K_get (a := 0) (ci := 12) (k := 12) (v := vi n) (dt_at dtX12_lays 7 rfl) (show TT 0 = (0, 12) from rfl) rfl (by decide) wF_X12_108 (by show vi (hI h 0 12) = vi n; rw [e12]) ?_
  refine K_iload_n (dt_at dtX12_lays 8 rfl) rfl rfl ?_
  refine K_iload_n (dt_at dtX12_lays 9 rfl) rfl rfl ?_
  refine K_ishr (dt_at dtX12_lays 10 rfl) ?_
  refine K_sipush (dt_at dtX12_lays 11 rfl) (by decide) ?_
  refine K_iand (dt_at dtX12_lays 12 rfl) ?_
  refine K_iast (dt_at dtX12_lays 13 rfl) (show TT 7 = (1, 700) from rfl) (by omega) (by omega) ?_
  obtain ⟨hq1, eq1⟩ : ∃ z, z = sA h 7 n (bAnd (bShr v 24) 255) := ⟨_, rfl⟩
  rw [← eq1]
  obtain ⟨aq1, fq1, iq1, rq1⟩ := sA_fx eq1
  refine K_aload_n (dt_at dtX12_lays 14 rfl) rfl rfl ?_
  refine K_dup (dt_at dtX12_lays 15 rfl) rfl ?_
  refine K_get (a := 0) (ci := 12) (k := 12) (v := vi n) (dt_at dtX12_lays 16 rfl) (show TT 0 = (0, 12) from rfl) rfl (by decide) wF_X12_108 (by show vi (hI hq1 0 12) = vi n; rw [iq1, e12]) ?_
  refine K_iconst (dt_at dtX12_lays 17 rfl) ?_
  refine K_iadd (dt_at dtX12_lays 18 rfl) ?_
  refine K_putI (a := 0) (ci := 12) (k := 12) (dt_at dtX12_lays 19 rfl) (show TT 0 = (0, 12) from rfl) rfl (by decide) wF_X12_108 rfl (Or.inl rfl) rfl rfl ?_
  obtain ⟨hq2, eq2⟩ : ∃ z, z = sI hq1 0 12 (n + 1) := ⟨_, rfl⟩
  rw [← eq2]
  obtain ⟨iq2, fq2, aq2, rq2⟩ := sI_fx eq2
  refine K_iinc (ls' := [(2, vi (24 + (-8))), (0, vr 0), (1, vi v)]) (dt_at dtX12_lays 20 rfl) rfl (by decide) rfl ?_
  refine K_goto (tgt := 3) (dt_at dtX12_lays 21 rfl) (by decide) ?_
  refine K_cg (ls' := [(2, vi 16), (0, vr 0), (1, vi v)]) (h' := hq2) (by rw [show ((24 + (-8)) : Int) = 16 by decide]) rfl ?_
  refine K_iload_n (dt_at dtX12_lays 2 rfl) rfl rfl ?_
  refine K_if_lt (tgt := 39) (dt_at dtX12_lays 3 rfl) (by decide) (by first | assumption | exact ⟨by omega, by omega⟩) (fun c2 => absurd c2 (by omega)) (fun c2 => ?_)
  refine K_aload_n (dt_at dtX12_lays 4 rfl) rfl rfl ?_
  refine K_get (a := 0) (ci := 12) (k := 11) (v := vr 7) (dt_at dtX12_lays 5 rfl) (show TT 0 = (0, 12) from rfl) rfl (by decide) wF_X12_35 rfl ?_
  refine K_aload_n (dt_at dtX12_lays 6 rfl) rfl rfl ?_
  refine K_get (a := 0) (ci := 12) (k := 12) (v := vi (n + 1)) (dt_at dtX12_lays 7 rfl) (show TT 0 = (0, 12) from rfl) rfl (by decide) wF_X12_108 (by show vi (hI hq2 0 12) = vi (n + 1); rw [iq2]) ?_
  refine K_iload_n (dt_at dtX12_lays 8 rfl) rfl rfl ?_
  refine K_iload_n (dt_at dtX12_lays 9 rfl) rfl rfl ?_
  refine K_ishr (dt_at dtX12_lays 10 rfl) ?_
  refine K_sipush (dt_at dtX12_lays 11 rfl) (by decide) ?_
  refine K_iand (dt_at dtX12_lays 12 rfl) ?_
  refine K_iast (dt_at dtX12_lays 13 rfl) (show TT 7 = (1, 700) from rfl) (by omega) (by omega) ?_
  obtain ⟨hq3, eq3⟩ : ∃ z, z = sA hq2 7 (n + 1) (bAnd (bShr v 16) 255) := ⟨_, rfl⟩
  rw [← eq3]
  obtain ⟨aq3, fq3, iq3, rq3⟩ := sA_fx eq3
  rw [aq2, aq1] at aq3
  refine K_aload_n (dt_at dtX12_lays 14 rfl) rfl rfl ?_
  refine K_dup (dt_at dtX12_lays 15 rfl) rfl ?_
  refine K_get (a := 0) (ci := 12) (k := 12) (v := vi (n + 1)) (dt_at dtX12_lays 16 rfl) (show TT 0 = (0, 12) from rfl) rfl (by decide) wF_X12_108 (by show vi (hI hq3 0 12) = vi (n + 1); rw [iq3, iq2]) ?_
  refine K_iconst (dt_at dtX12_lays 17 rfl) ?_
  refine K_iadd (dt_at dtX12_lays 18 rfl) ?_
  refine K_putI (a := 0) (ci := 12) (k := 12) (dt_at dtX12_lays 19 rfl) (show TT 0 = (0, 12) from rfl) rfl (by decide) wF_X12_108 rfl (Or.inl rfl) rfl rfl ?_
  obtain ⟨hq4, eq4⟩ : ∃ z, z = sI hq3 0 12 ((n + 1) + 1) := ⟨_, rfl⟩
  rw [← eq4]
  obtain ⟨iq4, fq4, aq4, rq4⟩ := sI_fx eq4
  refine K_iinc (ls' := [(2, vi (16 + (-8))), (0, vr 0), (1, vi v)]) (dt_at dtX12_lays 20 rfl) rfl (by decide) rfl ?_
  refine K_goto (tgt := 3) (dt_at dtX12_lays 21 rfl) (by decide) ?_
  refine K_cg (ls' := [(2, vi 8), (0, vr 0), (1, vi v)]) (h' := hq4) (by rw [show ((16 + (-8)) : Int) = 8 by decide]) rfl ?_
  refine K_iload_n (dt_at dtX12_lays 2 rfl) rfl rfl ?_
  refine K_if_lt (tgt := 39) (dt_at dtX12_lays 3 rfl) (by decide) (by first | assumption | exact ⟨by omega, by omega⟩) (fun c3 => absurd c3 (by omega)) (fun c3 => ?_)
  refine K_aload_n (dt_at dtX12_lays 4 rfl) rfl rfl ?_
  refine K_get (a := 0) (ci := 12) (k := 11) (v := vr 7) (dt_at dtX12_lays 5 rfl) (show TT 0 = (0, 12) from rfl) rfl (by decide) wF_X12_35 rfl ?_
  refine K_aload_n (dt_at dtX12_lays 6 rfl) rfl rfl ?_
  refine K_get (a := 0) (ci := 12) (k := 12) (v := vi ((n + 1) + 1)) (dt_at dtX12_lays 7 rfl) (show TT 0 = (0, 12) from rfl) rfl (by decide) wF_X12_108 (by show vi (hI hq4 0 12) = vi ((n + 1) + 1); rw [iq4]) ?_
  refine K_iload_n (dt_at dtX12_lays 8 rfl) rfl rfl ?_
  refine K_iload_n (dt_at dtX12_lays 9 rfl) rfl rfl ?_
  refine K_ishr (dt_at dtX12_lays 10 rfl) ?_
  refine K_sipush (dt_at dtX12_lays 11 rfl) (by decide) ?_
  refine K_iand (dt_at dtX12_lays 12 rfl) ?_
  refine K_iast (dt_at dtX12_lays 13 rfl) (show TT 7 = (1, 700) from rfl) (by omega) (by omega) ?_
  obtain ⟨hq5, eq5⟩ : ∃ z, z = sA hq4 7 ((n + 1) + 1) (bAnd (bShr v 8) 255) := ⟨_, rfl⟩
  rw [← eq5]
  obtain ⟨aq5, fq5, iq5, rq5⟩ := sA_fx eq5
  rw [aq4, aq3] at aq5
  refine K_aload_n (dt_at dtX12_lays 14 rfl) rfl rfl ?_
  refine K_dup (dt_at dtX12_lays 15 rfl) rfl ?_
  refine K_get (a := 0) (ci := 12) (k := 12) (v := vi ((n + 1) + 1)) (dt_at dtX12_lays 16 rfl) (show TT 0 = (0, 12) from rfl) rfl (by decide) wF_X12_108 (by show vi (hI hq5 0 12) = vi ((n + 1) + 1); rw [iq5, iq4]) ?_
  refine K_iconst (dt_at dtX12_lays 17 rfl) ?_
  refine K_iadd (dt_at dtX12_lays 18 rfl) ?_
  refine K_putI (a := 0) (ci := 12) (k := 12) (dt_at dtX12_lays 19 rfl) (show TT 0 = (0, 12) from rfl) rfl (by decide) wF_X12_108 rfl (Or.inl rfl) rfl rfl ?_
  obtain ⟨hq6, eq6⟩ : ∃ z, z = sI hq5 0 12 (((n + 1) + 1) + 1) := ⟨_, rfl⟩
  rw [← eq6]
  obtain ⟨iq6, fq6, aq6, rq6⟩ := sI_fx eq6
  refine K_iinc (ls' := [(2, vi (8 + (-8))), (0, vr 0), (1, vi v)]) (dt_at dtX12_lays 20 rfl) rfl (by decide) rfl ?_
  refine K_goto (tgt := 3) (dt_at dtX12_lays 21 rfl) (by decide) ?_
  refine K_cg (ls' := [(2, vi 0), (0, vr 0), (1, vi v)]) (h' := hq6) (by rw [show ((8 + (-8)) : Int) = 0 by decide]) rfl ?_
  refine K_iload_n (dt_at dtX12_lays 2 rfl) rfl rfl ?_
  refine K_if_lt (tgt := 39) (dt_at dtX12_lays 3 rfl) (by decide) (by first | assumption | exact ⟨by omega, by omega⟩) (fun c4 => absurd c4 (by omega)) (fun c4 => ?_)
  refine K_aload_n (dt_at dtX12_lays 4 rfl) rfl rfl ?_
  refine K_get (a := 0) (ci := 12) (k := 11) (v := vr 7) (dt_at dtX12_lays 5 rfl) (show TT 0 = (0, 12) from rfl) rfl (by decide) wF_X12_35 rfl ?_
  refine K_aload_n (dt_at dtX12_lays 6 rfl) rfl rfl ?_
  refine K_get (a := 0) (ci := 12) (k := 12) (v := vi (((n + 1) + 1) + 1)) (dt_at dtX12_lays 7 rfl) (show TT 0 = (0, 12) from rfl) rfl (by decide) wF_X12_108 (by show vi (hI hq6 0 12) = vi (((n + 1) + 1) + 1); rw [iq6]) ?_
  refine K_iload_n (dt_at dtX12_lays 8 rfl) rfl rfl ?_
  refine K_iload_n (dt_at dtX12_lays 9 rfl) rfl rfl ?_
  refine K_ishr (dt_at dtX12_lays 10 rfl) ?_
  refine K_sipush (dt_at dtX12_lays 11 rfl) (by decide) ?_
  refine K_iand (dt_at dtX12_lays 12 rfl) ?_
  refine K_iast (dt_at dtX12_lays 13 rfl) (show TT 7 = (1, 700) from rfl) (by omega) (by omega) ?_
  obtain ⟨hq7, eq7⟩ : ∃ z, z = sA hq6 7 (((n + 1) + 1) + 1) (bAnd (bShr v 0) 255) := ⟨_, rfl⟩
  rw [← eq7]
  obtain ⟨aq7, fq7, iq7, rq7⟩ := sA_fx eq7
  rw [aq6, aq5] at aq7
  refine K_aload_n (dt_at dtX12_lays 14 rfl) rfl rfl ?_
  refine K_dup (dt_at dtX12_lays 15 rfl) rfl ?_
  refine K_get (a := 0) (ci := 12) (k := 12) (v := vi (((n + 1) + 1) + 1)) (dt_at dtX12_lays 16 rfl) (show TT 0 = (0, 12) from rfl) rfl (by decide) wF_X12_108 (by show vi (hI hq7 0 12) = vi (((n + 1) + 1) + 1); rw [iq7, iq6]) ?_
  refine K_iconst (dt_at dtX12_lays 17 rfl) ?_
  refine K_iadd (dt_at dtX12_lays 18 rfl) ?_
  refine K_putI (a := 0) (ci := 12) (k := 12) (dt_at dtX12_lays 19 rfl) (show TT 0 = (0, 12) from rfl) rfl (by decide) wF_X12_108 rfl (Or.inl rfl) rfl rfl ?_
  obtain ⟨hq8, eq8⟩ : ∃ z, z = sI hq7 0 12 ((((n + 1) + 1) + 1) + 1) := ⟨_, rfl⟩
  rw [← eq8]
  obtain ⟨iq8, fq8, aq8, rq8⟩ := sI_fx eq8
  refine K_iinc (ls' := [(2, vi (0 + (-8))), (0, vr 0), (1, vi v)]) (dt_at dtX12_lays 20 rfl) rfl (by decide) rfl ?_
  refine K_goto (tgt := 3) (dt_at dtX12_lays 21 rfl) (by decide) ?_
  refine K_cg (ls' := [(2, vi (-8)), (0, vr 0), (1, vi v)]) (h' := hq8) (by rw [show ((0 + (-8)) : Int) = (-8) by decide]) rfl ?_
  refine K_iload_n (dt_at dtX12_lays 2 rfl) rfl rfl ?_
  refine K_if_lt (tgt := 39) (dt_at dtX12_lays 3 rfl) (by decide) (by first | assumption | exact ⟨by omega, by omega⟩) (fun c5 => ?_) (fun c5 => absurd c5 (by omega))
  exact K_vret (dt_at dtX12_lays 22 rfl) rfl (by decide) (by decide) ⟨rfl, by rw [aq8, aq7]; rfl, by rw [iq8], fun a_ z_ => by rw [aq8, (fq7 a_ (by omega)), aq6, (fq5 a_ (by omega)), aq4, (fq3 a_ (by omega)), aq2, (fq1 a_ (by omega))], fun a_ k_ z_ => by rw [(fq8 a_ k_ (by omega)), iq7, (fq6 a_ k_ (by omega)), iq5, (fq4 a_ k_ (by omega)), iq3, (fq2 a_ k_ (by omega)), iq1], by rw [rq8, rq7, rq6, rq5, rq4, rq3, rq2, rq1]⟩
def mX12_feed : MI := (yX12_feed, cX12_feed, 6, (some .int), rmK 2 0)
def tX12_feed : List (Nat × Instr × Nat) := [(0, .aload_n 0, 1), (1, .iconst 0, 1), (2, .putfield 105, 3), (5, .aload_n 0, 1), (6, .getfield 108, 3), (9, .bipush 20, 2), (11, .iadd, 1), (12, .sipush 700, 3), (15, .if_icmp .le 5, 3), (18, .iconst (-1), 1), (19, .ireturn, 1), (20, .aload_n 0, 1), (21, .iload_n 1, 1), (22, .invokevirtual 111, 3), (25, .aload_n 0, 1), (26, .iload_n 2, 1), (27, .invokevirtual 111, 3), (30, .aload_n 0, 1), (31, .iload_n 3, 1), (32, .invokevirtual 111, 3), (35, .aload_n 0, 1), (36, .iload 4, 2), (38, .invokevirtual 111, 3), (41, .aload_n 0, 1), (42, .iload 5, 2), (44, .invokevirtual 111, 3), (47, .aload_n 0, 1), (48, .getfield 108, 3), (51, .ireturn, 1)]
theorem dtX12_feed : tX12_feed.all (fun q => decide (decode cX12_feed q.1 = .ok (q.2.1, q.2.2))) = true := by decide +kernel
theorem npX12_feed : (parseMethodDescriptor (mY mX12_feed).desc).map (fun d => d.parameters.length) = some 5 := by decide +kernel
theorem vX12_feed : mV mX12_feed := ⟨wI_X12_feed, wS_X12_feed, wN_X12, wC_X12_feed, by decide +kernel, by decide +kernel⟩
/-- twenty bytes behind a tape -/
def fdF (g : Int → Int) (n a b c d e : Int) : Int → Int := ly4 (ly4 (ly4 (ly4 (ly4 g n a) (n + 4) b) (n + 8) c) (n + 12) d) (n + 16) e
theorem fdF_cg {g g' : Int → Int} {n a b c d e i : Int} (h : i < n → g i = g' i) (hi : i < n + 20) (h0 : 0 ≤ n) : fdF g n a b c d e i = fdF g' n a b c d e i := by
  unfold fdF
  exact ly4_cg (fun _ => ly4_cg (fun _ => ly4_cg (fun _ => ly4_cg (fun _ => ly4_cg h (by omega) (by omega)) (by omega) (by omega)) (by omega) (by omega)) (by omega) (by omega)) (by omega) (by omega)
theorem MV_tape {h h' : HP} {S : HS} {v : SV} {im : Option SV} {tp tp' : Int → Int} {nt nt' : Nat} {rf : Int × Int × Int} {fl : Int} (m : MV h (S, v, im, tp, nt, rf, fl)) (fa : ∀ a, (a ≠ 7) → hA h' a = hA h a) (fi : ∀ a k, (a ≠ 0 ∨ (k ≠ 0 ∧ k ≠ 12)) → hI h' a k = hI h a k) (h1 : hI h' 0 12 = (nt' : Int)) (h2 : ∀ i : Int, 0 ≤ i → i < nt' → hA h' 7 i = tp' i) : MV h' (S, v, im, tp', nt', rf, fl) := by
  obtain ⟨m1, m2, m3, ⟨m4, m5, m6⟩, m7, m8, m9, m10, m11⟩ := m
  exact ⟨MS_fr m1 (fi 0 1 (by omega)) (fi 0 2 (by omega)) (fi 0 3 (by omega)) (fi 0 4 (by omega)) (fa 1 (by omega)) (fa 2 (by omega)) (fa 3 (by omega)) (fa 4 (by omega)) (fa 5 (by omega)) (fa 6 (by omega)), by rw [fa 20 (by omega)]; exact m2, by rw [fi 0 49 (by omega)]; exact m3, ⟨RV0_fr m4 (fun i _ => by rw [fa 18 (by omega)]), mAc_fr m5 (fi 0 44 (by omega)) (fa 19 (by omega)), mSe_fr m6 (fi 0 51 (by omega)) (fa 23 (by omega))⟩, mIm_fr m7 (fi 0 56 (by omega)) (fi 0 57 (by omega)) (fi 0 58 (by omega)) (fa 26 (by omega)) (fa 27 (by omega)) (fa 28 (by omega)), h1, h2, by rw [fa 8 (by omega)]; exact m10, by rw [fi 0 14 (by omega)]; exact m11⟩
set_option maxHeartbeats 4000000 in
set_option maxRecDepth 100000 in
theorem sX12_feed_no {h : HP} {S : HS} {f : Int → Int} {C : AC} {N : SN} {im : Option SV} {tp : Int → Int} {nt : Nat} {rf : Int × Int × Int} {fl : Int} {a b c d e : Int} (V : MV h (S, (f, C, N), im, tp, nt, rf, fl)) (R : rowOK S f) (no : 680 < nt) (n7 : nt ≤ 700) : SpecK mX12_feed [vr 0, vi a, vi b, vi c, vi d, vi e] h (fun o h' => o = .inl (some (vi (-1))) ∧ MV h' (S, (f, C, N), im, tp, nt, rf, fl) ∧ FC h h' ∧ hI h' 0 0 = 0) := by
  refine Spec_of (by decide +kernel) (Nat.le_of_ble_eq_true rfl) ?_
  have Q0 := MV_ask V R
  have hB := Q0.1.1
  have hNt := hB.1
  have hNp := hB.2.1
  have hT := R.1
  have hW := hT.1
  have e12 : hI h 0 12 = (nt : Int) := V.2.2.2.2.2.1
  refine K_aload_n (dt_at dtX12_feed 0 rfl) rfl rfl ?_
  refine K_iconst (dt_at dtX12_feed 1 rfl) ?_
  refine K_putI (a := 0) (ci := 12) (k := 0) (dt_at dtX12_feed 2 rfl) (show TT 0 = (0, 12) from rfl) rfl (by decide) wF_X12_105 rfl (Or.inl rfl) rfl rfl ?_
  obtain ⟨hu1, eu1⟩ : ∃ z, z = sI h 0 0 0 := ⟨_, rfl⟩
  rw [← eu1]
  obtain ⟨iu1, fu1, au1, ru1⟩ := sI_fx eu1
  have Gu1 := MG_0 Q0 eu1
  refine K_aload_n (dt_at dtX12_feed 3 rfl) rfl rfl ?_
  refine K_get (a := 0) (ci := 12) (k := 12) (v := vi (nt : Int)) (dt_at dtX12_feed 4 rfl) (show TT 0 = (0, 12) from rfl) rfl (by decide) wF_X12_108 (by show vi (hI hu1 0 12) = vi (nt : Int); rw [(fu1 0 12 (by omega)), e12]) ?_
  refine K_bipush (dt_at dtX12_feed 5 rfl) (by decide) ?_
  refine K_iadd (dt_at dtX12_feed 6 rfl) ?_
  refine K_sipush (dt_at dtX12_feed 7 rfl) (by decide) ?_
  refine K_icmp_le (tgt := 20) (dt_at dtX12_feed 8 rfl) (by decide) (by first | assumption | exact ⟨by omega, by omega⟩) (by first | assumption | exact ⟨by omega, by omega⟩) (fun c1 => absurd c1 (by omega)) (fun c1 => ?_)
  refine K_iconst (dt_at dtX12_feed 9 rfl) ?_
  exact K_iret (dt_at dtX12_feed 10 rfl) rfl rfl (by decide) (by decide) ⟨rfl, MV_FQ V Gu1.2.1, FC_FQ Gu1.2.1, Gu1.2.2.2⟩
set_option maxHeartbeats 4000000 in
set_option maxRecDepth 100000 in
theorem sX12_feed {h : HP} {S : HS} {f : Int → Int} {C : AC} {N : SN} {im : Option SV} {tp : Int → Int} {nt : Nat} {rf : Int × Int × Int} {fl : Int} {a b c d e : Int} (V : MV h (S, (f, C, N), im, tp, nt, rf, fl)) (R : rowOK S f) (ok : nt ≤ 680) : SpecK mX12_feed [vr 0, vi a, vi b, vi c, vi d, vi e] h (fun o h' => o = .inl (some (vi ((nt + 20 : Nat) : Int))) ∧ MV h' (S, (f, C, N), im, (fdF tp nt a b c d e), nt + 20, rf, fl) ∧ FC h h' ∧ hI h' 0 0 = 0) := by
  refine Spec_of (by decide +kernel) (Nat.le_of_ble_eq_true rfl) ?_
  have Q0 := MV_ask V R
  have hB := Q0.1.1
  have hNt := hB.1
  have hNp := hB.2.1
  have hT := R.1
  have hW := hT.1
  have e12 : hI h 0 12 = (nt : Int) := V.2.2.2.2.2.1
  refine K_aload_n (dt_at dtX12_feed 0 rfl) rfl rfl ?_
  refine K_iconst (dt_at dtX12_feed 1 rfl) ?_
  refine K_putI (a := 0) (ci := 12) (k := 0) (dt_at dtX12_feed 2 rfl) (show TT 0 = (0, 12) from rfl) rfl (by decide) wF_X12_105 rfl (Or.inl rfl) rfl rfl ?_
  obtain ⟨hu1, eu1⟩ : ∃ z, z = sI h 0 0 0 := ⟨_, rfl⟩
  rw [← eu1]
  obtain ⟨iu1, fu1, au1, ru1⟩ := sI_fx eu1
  have Gu1 := MG_0 Q0 eu1
  refine K_aload_n (dt_at dtX12_feed 3 rfl) rfl rfl ?_
  refine K_get (a := 0) (ci := 12) (k := 12) (v := vi (nt : Int)) (dt_at dtX12_feed 4 rfl) (show TT 0 = (0, 12) from rfl) rfl (by decide) wF_X12_108 (by show vi (hI hu1 0 12) = vi (nt : Int); rw [(fu1 0 12 (by omega)), e12]) ?_
  refine K_bipush (dt_at dtX12_feed 5 rfl) (by decide) ?_
  refine K_iadd (dt_at dtX12_feed 6 rfl) ?_
  refine K_sipush (dt_at dtX12_feed 7 rfl) (by decide) ?_
  refine K_icmp_le (tgt := 20) (dt_at dtX12_feed 8 rfl) (by decide) (by first | assumption | exact ⟨by omega, by omega⟩) (by first | assumption | exact ⟨by omega, by omega⟩) (fun c1 => ?_) (fun c1 => absurd c1 (by omega))
  refine K_aload_n (dt_at dtX12_feed 11 rfl) rfl rfl ?_
  refine K_iload_n (dt_at dtX12_feed 12 rfl) rfl rfl ?_
  refine K_callV (M' := mX12_lays) (a := 0) (ci := 12) (As := [vi a]) (st := []) (dt_at dtX12_feed 13 rfl) (sX12_lays (n := (nt : Int)) (by rw [(fu1 0 12 (by omega)), e12]) (by omega)) (show TT 0 = (0, 12) from rfl) rfl wL_X12_111 vX12_lays rfl npX12_lays (by decide) (by decide) (Nat.le_of_ble_eq_true rfl) (by decide) (by decide) GK_E (fun v9 hc2 hq => ?_) (fun E h9 hq => by cases hq.1)
  have hqq3 := hq
  obtain ⟨e9q3, y1q3, y2q3, y3q3, y4q3, y5q3⟩ := hqq3
  have y6q3 : hI hc2 0 12 = (nt : Int) + 4 := by rw [y2q3]; omega
  cases e9q3
  show K mX12_feed _ _ 0 0 25 [(0, vr 0), (1, vi a), (2, vi b), (3, vi c), (4, vi d), (5, vi e)] [] hc2
  refine K_aload_n (dt_at dtX12_feed 14 rfl) rfl rfl ?_
  refine K_iload_n (dt_at dtX12_feed 15 rfl) rfl rfl ?_
  refine K_callV (M' := mX12_lays) (a := 0) (ci := 12) (As := [vi b]) (st := []) (dt_at dtX12_feed 16 rfl) (sX12_lays (n := ((nt : Int) + 4)) (by rw [y6q3]) (by omega)) (show TT 0 = (0, 12) from rfl) rfl wL_X12_111 vX12_lays rfl npX12_lays (by decide) (by decide) (Nat.le_of_ble_eq_true rfl) (by decide) (by decide) GK_E (fun v9 hc4 hq => ?_) (fun E h9 hq => by cases hq.1)
  have hqq5 := hq
  obtain ⟨e9q5, y1q5, y2q5, y3q5, y4q5, y5q5⟩ := hqq5
  have y6q5 : hI hc4 0 12 = (nt : Int) + 8 := by rw [y2q5]; omega
  cases e9q5
  show K mX12_feed _ _ 0 0 30 [(0, vr 0), (1, vi a), (2, vi b), (3, vi c), (4, vi d), (5, vi e)] [] hc4
  refine K_aload_n (dt_at dtX12_feed 17 rfl) rfl rfl ?_
  refine K_iload_n (dt_at dtX12_feed 18 rfl) rfl rfl ?_
  refine K_callV (M' := mX12_lays) (a := 0) (ci := 12) (As := [vi c]) (st := []) (dt_at dtX12_feed 19 rfl) (sX12_lays (n := ((nt : Int) + 8)) (by rw [y6q5]) (by omega)) (show TT 0 = (0, 12) from rfl) rfl wL_X12_111 vX12_lays rfl npX12_lays (by decide) (by decide) (Nat.le_of_ble_eq_true rfl) (by decide) (by decide) GK_E (fun v9 hc6 hq => ?_) (fun E h9 hq => by cases hq.1)
  have hqq7 := hq
  obtain ⟨e9q7, y1q7, y2q7, y3q7, y4q7, y5q7⟩ := hqq7
  have y6q7 : hI hc6 0 12 = (nt : Int) + 12 := by rw [y2q7]; omega
  cases e9q7
  show K mX12_feed _ _ 0 0 35 [(0, vr 0), (1, vi a), (2, vi b), (3, vi c), (4, vi d), (5, vi e)] [] hc6
  refine K_aload_n (dt_at dtX12_feed 20 rfl) rfl rfl ?_
  refine K_iload (dt_at dtX12_feed 21 rfl) rfl ?_
  refine K_callV (M' := mX12_lays) (a := 0) (ci := 12) (As := [vi d]) (st := []) (dt_at dtX12_feed 22 rfl) (sX12_lays (n := ((nt : Int) + 12)) (by rw [y6q7]) (by omega)) (show TT 0 = (0, 12) from rfl) rfl wL_X12_111 vX12_lays rfl npX12_lays (by decide) (by decide) (Nat.le_of_ble_eq_true rfl) (by decide) (by decide) GK_E (fun v9 hc8 hq => ?_) (fun E h9 hq => by cases hq.1)
  have hqq9 := hq
  obtain ⟨e9q9, y1q9, y2q9, y3q9, y4q9, y5q9⟩ := hqq9
  have y6q9 : hI hc8 0 12 = (nt : Int) + 16 := by rw [y2q9]; omega
  cases e9q9
  show K mX12_feed _ _ 0 0 41 [(0, vr 0), (1, vi a), (2, vi b), (3, vi c), (4, vi d), (5, vi e)] [] hc8
  refine K_aload_n (dt_at dtX12_feed 23 rfl) rfl rfl ?_
  refine K_iload (dt_at dtX12_feed 24 rfl) rfl ?_
  refine K_callV (M' := mX12_lays) (a := 0) (ci := 12) (As := [vi e]) (st := []) (dt_at dtX12_feed 25 rfl) (sX12_lays (n := ((nt : Int) + 16)) (by rw [y6q9]) (by omega)) (show TT 0 = (0, 12) from rfl) rfl wL_X12_111 vX12_lays rfl npX12_lays (by decide) (by decide) (Nat.le_of_ble_eq_true rfl) (by decide) (by decide) GK_E (fun v9 hc10 hq => ?_) (fun E h9 hq => by cases hq.1)
  have hqq11 := hq
  obtain ⟨e9q11, y1q11, y2q11, y3q11, y4q11, y5q11⟩ := hqq11
  have y6q11 : hI hc10 0 12 = (nt : Int) + 20 := by rw [y2q11]; omega
  cases e9q11
  show K mX12_feed _ _ 0 0 47 [(0, vr 0), (1, vi a), (2, vi b), (3, vi c), (4, vi d), (5, vi e)] [] hc10
  refine K_aload_n (dt_at dtX12_feed 26 rfl) rfl rfl ?_
  refine K_get (a := 0) (ci := 12) (k := 12) (v := vi ((nt : Int) + 20)) (dt_at dtX12_feed 27 rfl) (show TT 0 = (0, 12) from rfl) rfl (by decide) wF_X12_108 (by show vi (hI hc10 0 12) = vi ((nt : Int) + 20); rw [y6q11]) ?_
  have fa9 : ∀ a, (a ≠ 7) → hA hc10 a = hA h a := fun a_ z_ => by rw [(y3q11 a_ (by omega)), (y3q9 a_ (by omega)), (y3q7 a_ (by omega)), (y3q5 a_ (by omega)), (y3q3 a_ (by omega)), au1]
  have fi9 : ∀ a k, (a ≠ 0 ∨ (k ≠ 0 ∧ k ≠ 12)) → hI hc10 a k = hI h a k := fun a_ k_ z_ => by rw [(y4q11 a_ k_ (by omega)), (y4q9 a_ k_ (by omega)), (y4q7 a_ k_ (by omega)), (y4q5 a_ k_ (by omega)), (y4q3 a_ k_ (by omega)), (fu1 a_ k_ (by omega))]
  have fr9 : hR hc10 = hR h := by rw [y5q11, y5q9, y5q7, y5q5, y5q3, ru1]
  have i00 : hI hc10 0 0 = 0 := by rw [(y4q11 0 0 (by omega)), (y4q9 0 0 (by omega)), (y4q7 0 0 (by omega)), (y4q5 0 0 (by omega)), (y4q3 0 0 (by omega)), Gu1.2.2.2]
  have FC9 : FC h hc10 := ⟨fun a_ z_ => fa9 a_ (by omega), fun a_ k_ z_ => fi9 a_ k_ (Or.inl z_), fr9⟩
  have e7 : hA hc10 7 = fdF (hA h 7) (nt : Int) a b c d e := by rw [y1q11, y1q9, y1q7, y1q5, y1q3, au1]; rfl
  exact K_iret (dt_at dtX12_feed 28 rfl) rfl rfl (by decide) (by decide) ⟨by rw [show (nt : Int) + 20 = ((nt + 20 : Nat) : Int) by omega], MV_tape V fa9 fi9 (by rw [y6q11]; omega) (fun i i0 i1 => by rw [e7]; exact fdF_cg (fun z => V.2.2.2.2.2.2.1 i i0 z) (by omega) (by omega)), FC9, i00⟩
