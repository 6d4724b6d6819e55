theorem MD_6 {h0 h : HP} {b : Int} {S : HS} {f : Int → Int} (d : MD h0 h b S f) : hA h 6 = hA h0 6 := d.2.2.1.1.1 6 (by decide) (by decide) (by decide)
theorem MD_3 {h0 h : HP} {b : Int} {S : HS} {f : Int → Int} (d : MD h0 h b S f) : hI h 0 3 = hI h0 0 3 := d.2.2.1.1.2.2.1 0 3 (Or.inr (by decide))
theorem MD_4 {h0 h : HP} {b : Int} {S : HS} {f : Int → Int} (d : MD h0 h b S f) : hI h 0 4 = hI h0 0 4 := d.2.2.1.1.2.2.1 0 4 (Or.inr (by decide))
def mX12_wantsOf : MI := (yX12_wantsOf, cX12_wantsOf, 5, (some .int), rmK 3 0)
def tX12_wantsOf : List (Nat × Instr × Nat) := [(0, .aload_n 0, 1), (1, .getfield 9, 3), (4, .iconst (-1), 1), (5, .if_icmp .ne 29, 3), (8, .aload_n 0, 1), (9, .getfield 20, 3), (12, .iload_n 3, 1), (13, .iaload, 1), (14, .aload_n 0, 1), (15, .getfield 72, 3), (18, .iload_n 1, 1), (19, .bipush 63, 2), (21, .iadd, 1), (22, .iload_n 2, 1), (23, .iadd, 1), (24, .iaload, 1), (25, .if_icmp .gt 7, 3), (28, .iconst 1, 1), (29, .goto 4, 3), (32, .iconst 0, 1), (33, .ireturn, 1), (34, .aload_n 0, 1), (35, .getfield 78, 3), (38, .iconst 0, 1), (39, .aload_n 0, 1), (40, .getfield 20, 3), (43, .iload_n 3, 1), (44, .iaload, 1), (45, .iastore, 1), (46, .aload_n 0, 1), (47, .getfield 78, 3), (50, .iconst 1, 1), (51, .aload_n 0, 1), (52, .getfield 16, 3), (55, .iload_n 3, 1), (56, .iaload, 1), (57, .iastore, 1), (58, .aload_n 0, 1), (59, .getfield 78, 3), (62, .iconst 2, 1), (63, .aload_n 0, 1), (64, .getfield 72, 3), (67, .iload_n 1, 1), (68, .bipush 57, 2), (70, .iadd, 1), (71, .iload_n 3, 1), (72, .iadd, 1), (73, .iaload, 1), (74, .iastore, 1), (75, .aload_n 0, 1), (76, .getfield 78, 3), (79, .iconst 3, 1), (80, .iload 4, 2), (82, .iastore, 1), (83, .aload_n 0, 1), (84, .getfield 78, 3), (87, .iconst 4, 1), (88, .aload_n 0, 1), (89, .getfield 72, 3), (92, .iload_n 1, 1), (93, .bipush 63, 2), (95, .iadd, 1), (96, .iload_n 2, 1), (97, .iadd, 1), (98, .iaload, 1), (99, .iastore, 1), (100, .aload_n 0, 1), (101, .getfield 78, 3), (104, .iconst 5, 1), (105, .aload_n 0, 1), (106, .getfield 72, 3), (109, .iload_n 1, 1), (110, .iconst 0, 1), (111, .iadd, 1), (112, .iaload, 1), (113, .iastore, 1), (114, .aload_n 0, 1), (115, .aload_n 0, 1), (116, .getfield 9, 3), (119, .invokevirtual 294, 3), (122, .iconst 0, 1), (123, .bipush 9, 2), (125, .invokestatic 297, 3), (128, .ireturn, 1)]
theorem dtX12_wantsOf : tX12_wantsOf.all (fun q => decide (decode cX12_wantsOf q.1 = .ok (q.2.1, q.2.2))) = true := by decide +kernel
theorem npX12_wantsOf : (parseMethodDescriptor (mY mX12_wantsOf).desc).map (fun d => d.parameters.length) = some 4 := by decide +kernel
theorem vX12_wantsOf : mV mX12_wantsOf := ⟨wI_X12_wantsOf, wS_X12_wantsOf, wN_X12, wC_X12_wantsOf, by decide +kernel, by decide +kernel⟩
set_option maxHeartbeats 4000000 in
set_option maxRecDepth 100000 in
theorem sX12_wantsOf_n {h0 h : HP} {b B : Int} {S : HS} {f : Int → Int} {p t x : Int} (d : MD h0 h b S f) (hT : rT B f) (hp : 0 ≤ p ∧ p < sNp S) (ht : 0 ≤ t ∧ t < sNt S) (hx : i32 x) (hpu : sPu S = none) : SpecK mX12_wantsOf [vr 0, vi b, vi p, vi t, vi x] h (fun o h' => o = .inl (some (vi (max 0 (wantF S f p t x)))) ∧ MD h0 h' b S f ∧ hI h' = hI h) := by
  refine Spec_of (by decide +kernel) (Nat.le_of_ble_eq_true rfl) ?_
  have hB := d.1.1
  have hNt := hB.1
  have hNp := hB.2.1
  have hb := d.2.1
  have hW := hT.1
  have wu := (hB.2.2.1 t ht.1 ht.2)
  have wp := hW.2 p (by omega) (by omega)
  have ws := hW.1 (29 + t) (by omega) (by omega)
  have w0 := hW.1 0 (by omega) (by omega)
  have e3 : hI h 0 3 = -1 := by rw [MD_3 d]; have := d.1.2.2.2.2.1; rw [hpu] at this; exact this
  have ew : wantF S f p t x = if f (15 + p) < sU S t then 0 else 1 := by unfold wantF; rw [hpu]
  refine K_aload_n (dt_at dtX12_wantsOf 0 rfl) rfl rfl ?_
  refine K_get (a := 0) (ci := 12) (k := 3) (v := vi (-1)) (dt_at dtX12_wantsOf 1 rfl) (show TT 0 = (0, 12) from rfl) rfl (by decide) wF_X12_9 (by show vi (hI h 0 3) = vi (-1); rw [e3]) ?_
  refine K_iconst (dt_at dtX12_wantsOf 2 rfl) ?_
  refine K_icmp_ne (tgt := 34) (dt_at dtX12_wantsOf 3 rfl) (by decide) (by first | assumption | exact ⟨by omega, by omega⟩) (by first | assumption | exact ⟨by omega, by omega⟩) (fun c1 => absurd c1 (by omega)) (fun c1 => ?_)
  refine K_aload_n (dt_at dtX12_wantsOf 4 rfl) rfl rfl ?_
  refine K_get (a := 0) (ci := 12) (k := 6) (v := vr 2) (dt_at dtX12_wantsOf 5 rfl) (show TT 0 = (0, 12) from rfl) rfl (by decide) wF_X12_20 rfl ?_
  refine K_iload_n (dt_at dtX12_wantsOf 6 rfl) rfl rfl ?_
  refine K_iald (dt_at dtX12_wantsOf 7 rfl) (show TT 2 = (1, 6) from rfl) (by omega) (by omega) ?_
  rw [show hA h 2 t = sU S t from MD_u d (by omega)]
  refine K_aload_n (dt_at dtX12_wantsOf 8 rfl) rfl rfl ?_
  refine K_get (a := 0) (ci := 12) (k := 42) (v := vr 18) (dt_at dtX12_wantsOf 9 rfl) (show TT 0 = (0, 12) from rfl) rfl (by decide) wF_X12_72 rfl ?_
  refine K_iload_n (dt_at dtX12_wantsOf 10 rfl) rfl rfl ?_
  refine K_bipush (dt_at dtX12_wantsOf 11 rfl) (by decide) ?_
  refine K_iadd (dt_at dtX12_wantsOf 12 rfl) ?_
  refine K_iload_n (dt_at dtX12_wantsOf 13 rfl) rfl rfl ?_
  refine K_iadd (dt_at dtX12_wantsOf 14 rfl) ?_
  refine K_iald (dt_at dtX12_wantsOf 15 rfl) (show TT 18 = (1, 154) from rfl) (by omega) (by omega) ?_
  rw [show hA h 18 ((b + 63) + p) = (f (15 + p)) from RV_f d.2.2.2 (p := p) (by omega) (by omega)]
  refine K_icmp_gt (tgt := 32) (dt_at dtX12_wantsOf 16 rfl) (by decide) (by first | assumption | exact ⟨by omega, by omega⟩) (by first | assumption | exact ⟨by omega, by omega⟩) (fun c2 => ?_) (fun c2 => ?_)
  · refine K_iconst (dt_at dtX12_wantsOf 19 rfl) ?_
    exact K_iret (dt_at dtX12_wantsOf 20 rfl) rfl rfl (by decide) (by decide) ⟨by rw [ew, if_pos (by omega)]; rfl, d, rfl⟩
  · refine K_iconst (dt_at dtX12_wantsOf 17 rfl) ?_
    refine K_goto (tgt := 33) (dt_at dtX12_wantsOf 18 rfl) (by decide) ?_
    exact K_iret (dt_at dtX12_wantsOf 20 rfl) rfl rfl (by decide) (by decide) ⟨by rw [ew, if_neg (by omega)]; rfl, d, rfl⟩
set_option maxHeartbeats 4000000 in
set_option maxRecDepth 100000 in
theorem sX12_wantsOf_s {h0 h : HP} {b B : Int} {S : HS} {f : Int → Int} {p t x : Int} {F : (Int → Int) → Int} (d : MD h0 h b S f) (hT : rT B f) (hp : 0 ≤ p ∧ p < sNp S) (ht : 0 ≤ t ∧ t < sNt S) (hx : i32 x) (hpu : sPu S = some F) : SpecK mX12_wantsOf [vr 0, vi b, vi p, vi t, vi x] h (fun o h' => o = .inl (some (vi (max 0 (wantF S f p t x)))) ∧ MD h0 h' b S f ∧ hI h' = hI h) := by
  refine Spec_of (by decide +kernel) (Nat.le_of_ble_eq_true rfl) ?_
  have hB := d.1.1
  have hNt := hB.1
  have hNp := hB.2.1
  have hb := d.2.1
  have hW := hT.1
  have wu := (hB.2.2.1 t ht.1 ht.2)
  have wp := hW.2 p (by omega) (by omega)
  have ws := hW.1 (29 + t) (by omega) (by omega)
  have w0 := hW.1 0 (by omega) (by omega)
  obtain ⟨a, L, ha, e3, cd, wf, -, hF⟩ : mRl h0 3 mkP inPu (some F) := by have := d.1.2.2.2.2.1; rw [hpu] at this; exact this
  have e3h : hI h 0 3 = a := by rw [MD_3 d]; exact e3
  have ew : wantF S f p t x = min (F (vP S f p t x)) 9 := by unfold wantF; rw [hpu]
  have f32 := hB.2.2.2.2.1 F hpu (vP S f p t x)
  have ha32 : 0 ≤ a ∧ a < 1400 := by cases L with | nil => exact cd.1 | cons s r => exact ⟨cd.1.1, by have := cd.1.2; omega⟩
  refine K_aload_n (dt_at dtX12_wantsOf 0 rfl) rfl rfl ?_
  refine K_get (a := 0) (ci := 12) (k := 3) (v := vi a) (dt_at dtX12_wantsOf 1 rfl) (show TT 0 = (0, 12) from rfl) rfl (by decide) wF_X12_9 (by show vi (hI h 0 3) = vi a; rw [e3h]) ?_
  refine K_iconst (dt_at dtX12_wantsOf 2 rfl) ?_
  refine K_icmp_ne (tgt := 34) (dt_at dtX12_wantsOf 3 rfl) (by decide) (by first | assumption | exact ⟨by omega, by omega⟩) (by first | assumption | exact ⟨by omega, by omega⟩) (fun c1 => ?_) (fun c1 => absurd c1 (by omega))
  refine K_aload_n (dt_at dtX12_wantsOf 21 rfl) rfl rfl ?_
  refine K_get (a := 0) (ci := 12) (k := 45) (v := vr 20) (dt_at dtX12_wantsOf 22 rfl) (show TT 0 = (0, 12) from rfl) rfl (by decide) wF_X12_78 rfl ?_
  refine K_iconst (dt_at dtX12_wantsOf 23 rfl) ?_
  refine K_aload_n (dt_at dtX12_wantsOf 24 rfl) rfl rfl ?_
  refine K_get (a := 0) (ci := 12) (k := 6) (v := vr 2) (dt_at dtX12_wantsOf 25 rfl) (show TT 0 = (0, 12) from rfl) rfl (by decide) wF_X12_20 rfl ?_
  refine K_iload_n (dt_at dtX12_wantsOf 26 rfl) rfl rfl ?_
  refine K_iald (dt_at dtX12_wantsOf 27 rfl) (show TT 2 = (1, 6) from rfl) (by omega) (by omega) ?_
  rw [show hA h 2 t = sU S t from MD_u d (by omega)]
  refine K_iast (dt_at dtX12_wantsOf 28 rfl) (show TT 20 = (1, 8) from rfl) (by omega) (by omega) ?_
  obtain ⟨hu1, eu1⟩ : ∃ z, z = sA h 20 0 (sU S t) := ⟨_, rfl⟩
  rw [← eu1]
  obtain ⟨au1, fu1, iu1, ru1⟩ := sA_fx eu1
  have du1 : MD h0 hu1 b S f := MD_20 d (by first | assumption | exact ⟨by omega, by omega⟩) eu1
  refine K_aload_n (dt_at dtX12_wantsOf 29 rfl) rfl rfl ?_
  refine K_get (a := 0) (ci := 12) (k := 45) (v := vr 20) (dt_at dtX12_wantsOf 30 rfl) (show TT 0 = (0, 12) from rfl) rfl (by decide) wF_X12_78 rfl ?_
  refine K_iconst (dt_at dtX12_wantsOf 31 rfl) ?_
  refine K_aload_n (dt_at dtX12_wantsOf 32 rfl) rfl rfl ?_
  refine K_get (a := 0) (ci := 12) (k := 5) (v := vr 1) (dt_at dtX12_wantsOf 33 rfl) (show TT 0 = (0, 12) from rfl) rfl (by decide) wF_X12_16 rfl ?_
  refine K_iload_n (dt_at dtX12_wantsOf 34 rfl) rfl rfl ?_
  refine K_iald (dt_at dtX12_wantsOf 35 rfl) (show TT 1 = (1, 6) from rfl) (by omega) (by omega) ?_
  rw [show hA hu1 1 t = sW S t from MD_w du1 (by omega)]
  refine K_iast (dt_at dtX12_wantsOf 36 rfl) (show TT 20 = (1, 8) from rfl) (by omega) (by omega) ?_
  obtain ⟨hu2, eu2⟩ : ∃ z, z = sA hu1 20 1 (sW S t) := ⟨_, rfl⟩
  rw [← eu2]
  obtain ⟨au2, fu2, iu2, ru2⟩ := sA_fx eu2
  have du2 : MD h0 hu2 b S f := MD_20 du1 (by first | assumption | exact ⟨by omega, by omega⟩) eu2
  rw [au1] at au2
  refine K_aload_n (dt_at dtX12_wantsOf 37 rfl) rfl rfl ?_
  refine K_get (a := 0) (ci := 12) (k := 45) (v := vr 20) (dt_at dtX12_wantsOf 38 rfl) (show TT 0 = (0, 12) from rfl) rfl (by decide) wF_X12_78 rfl ?_
  refine K_iconst (dt_at dtX12_wantsOf 39 rfl) ?_
  refine K_aload_n (dt_at dtX12_wantsOf 40 rfl) rfl rfl ?_
  refine K_get (a := 0) (ci := 12) (k := 42) (v := vr 18) (dt_at dtX12_wantsOf 41 rfl) (show TT 0 = (0, 12) from rfl) rfl (by decide) wF_X12_72 rfl ?_
  refine K_iload_n (dt_at dtX12_wantsOf 42 rfl) rfl rfl ?_
  refine K_bipush (dt_at dtX12_wantsOf 43 rfl) (by decide) ?_
  refine K_iadd (dt_at dtX12_wantsOf 44 rfl) ?_
  refine K_iload_n (dt_at dtX12_wantsOf 45 rfl) rfl rfl ?_
  refine K_iadd (dt_at dtX12_wantsOf 46 rfl) ?_
  refine K_iald (dt_at dtX12_wantsOf 47 rfl) (show TT 18 = (1, 154) from rfl) (by omega) (by omega) ?_
  rw [show hA hu2 18 ((b + 57) + t) = (f (29 + t)) from RV_s du2.2.2.2 (p := t) (by omega) (by omega)]
  refine K_iast (dt_at dtX12_wantsOf 48 rfl) (show TT 20 = (1, 8) from rfl) (by omega) (by omega) ?_
  obtain ⟨hu3, eu3⟩ : ∃ z, z = sA hu2 20 2 (f (29 + t)) := ⟨_, rfl⟩
  rw [← eu3]
  obtain ⟨au3, fu3, iu3, ru3⟩ := sA_fx eu3
  have du3 : MD h0 hu3 b S f := MD_20 du2 (by first | assumption | exact ⟨by omega, by omega⟩) eu3
  rw [au2] at au3
  refine K_aload_n (dt_at dtX12_wantsOf 49 rfl) rfl rfl ?_
  refine K_get (a := 0) (ci := 12) (k := 45) (v := vr 20) (dt_at dtX12_wantsOf 50 rfl) (show TT 0 = (0, 12) from rfl) rfl (by decide) wF_X12_78 rfl ?_
  refine K_iconst (dt_at dtX12_wantsOf 51 rfl) ?_
  refine K_iload (dt_at dtX12_wantsOf 52 rfl) rfl ?_
  refine K_iast (dt_at dtX12_wantsOf 53 rfl) (show TT 20 = (1, 8) from rfl) (by omega) (by omega) ?_
  obtain ⟨hu4, eu4⟩ : ∃ z, z = sA hu3 20 3 x := ⟨_, rfl⟩
  rw [← eu4]
  obtain ⟨au4, fu4, iu4, ru4⟩ := sA_fx eu4
  have du4 : MD h0 hu4 b S f := MD_20 du3 (by first | assumption | exact ⟨by omega, by omega⟩) eu4
  rw [au3] at au4
  refine K_aload_n (dt_at dtX12_wantsOf 54 rfl) rfl rfl ?_
  refine K_get (a := 0) (ci := 12) (k := 45) (v := vr 20) (dt_at dtX12_wantsOf 55 rfl) (show TT 0 = (0, 12) from rfl) rfl (by decide) wF_X12_78 rfl ?_
  refine K_iconst (dt_at dtX12_wantsOf 56 rfl) ?_
  refine K_aload_n (dt_at dtX12_wantsOf 57 rfl) rfl rfl ?_
  refine K_get (a := 0) (ci := 12) (k := 42) (v := vr 18) (dt_at dtX12_wantsOf 58 rfl) (show TT 0 = (0, 12) from rfl) rfl (by decide) wF_X12_72 rfl ?_
  refine K_iload_n (dt_at dtX12_wantsOf 59 rfl) rfl rfl ?_
  refine K_bipush (dt_at dtX12_wantsOf 60 rfl) (by decide) ?_
  refine K_iadd (dt_at dtX12_wantsOf 61 rfl) ?_
  refine K_iload_n (dt_at dtX12_wantsOf 62 rfl) rfl rfl ?_
  refine K_iadd (dt_at dtX12_wantsOf 63 rfl) ?_
  refine K_iald (dt_at dtX12_wantsOf 64 rfl) (show TT 18 = (1, 154) from rfl) (by omega) (by omega) ?_
  rw [show hA hu4 18 ((b + 63) + p) = (f (15 + p)) from RV_f du4.2.2.2 (p := p) (by omega) (by omega)]
  refine K_iast (dt_at dtX12_wantsOf 65 rfl) (show TT 20 = (1, 8) from rfl) (by omega) (by omega) ?_
  obtain ⟨hu5, eu5⟩ : ∃ z, z = sA hu4 20 4 (f (15 + p)) := ⟨_, rfl⟩
  rw [← eu5]
  obtain ⟨au5, fu5, iu5, ru5⟩ := sA_fx eu5
  have du5 : MD h0 hu5 b S f := MD_20 du4 (by first | assumption | exact ⟨by omega, by omega⟩) eu5
  rw [au4] at au5
  refine K_aload_n (dt_at dtX12_wantsOf 66 rfl) rfl rfl ?_
  refine K_get (a := 0) (ci := 12) (k := 45) (v := vr 20) (dt_at dtX12_wantsOf 67 rfl) (show TT 0 = (0, 12) from rfl) rfl (by decide) wF_X12_78 rfl ?_
  refine K_iconst (dt_at dtX12_wantsOf 68 rfl) ?_
  refine K_aload_n (dt_at dtX12_wantsOf 69 rfl) rfl rfl ?_
  refine K_get (a := 0) (ci := 12) (k := 42) (v := vr 18) (dt_at dtX12_wantsOf 70 rfl) (show TT 0 = (0, 12) from rfl) rfl (by decide) wF_X12_72 rfl ?_
  refine K_iload_n (dt_at dtX12_wantsOf 71 rfl) rfl rfl ?_
  refine K_iconst (dt_at dtX12_wantsOf 72 rfl) ?_
  refine K_iadd (dt_at dtX12_wantsOf 73 rfl) ?_
  refine K_iald (dt_at dtX12_wantsOf 74 rfl) (show TT 18 = (1, 154) from rfl) (by omega) (by omega) ?_
  rw [show hA hu5 18 (b + 0) = (f 0) from RV_d du5.2.2.2 (by omega)]
  refine K_iast (dt_at dtX12_wantsOf 75 rfl) (show TT 20 = (1, 8) from rfl) (by omega) (by omega) ?_
  obtain ⟨hu6, eu6⟩ : ∃ z, z = sA hu5 20 5 (f 0) := ⟨_, rfl⟩
  rw [← eu6]
  obtain ⟨au6, fu6, iu6, ru6⟩ := sA_fx eu6
  have du6 : MD h0 hu6 b S f := MD_20 du5 (by first | assumption | exact ⟨by omega, by omega⟩) eu6
  rw [au5] at au6
  refine K_aload_n (dt_at dtX12_wantsOf 76 rfl) rfl rfl ?_
  refine K_aload_n (dt_at dtX12_wantsOf 77 rfl) rfl rfl ?_
  refine K_get (a := 0) (ci := 12) (k := 3) (v := vi a) (dt_at dtX12_wantsOf 78 rfl) (show TT 0 = (0, 12) from rfl) rfl (by decide) wF_X12_9 (by show vi (hI hu6 0 3) = vi a; rw [iu6, iu5, iu4, iu3, iu2, iu1, e3h]) ?_
  refine K_callV (M' := mX12_reckons) (a := 0) (ci := 12) (As := [vi a]) (st := []) (dt_at dtX12_wantsOf 79 rfl) (sX12_reckons (L := L) (by rw [MD_6 du6]; exact cd) wf (fun i _ _ => du6.2.2.1.2 i)) (show TT 0 = (0, 12) from rfl) rfl wL_X12_294 vX12_reckons rfl npX12_reckons (by decide) (by decide) (Nat.le_of_ble_eq_true rfl) (by decide) (by decide) GK_E (fun v9 hc7 hq => ?_) (fun E h9 hq => by cases hq.1)
  have hqq8 := hq
  obtain ⟨e9q8, Fq8⟩ := hqq8
  have dq8 := MD_FP du6 Fq8
  cases e9q8
  show K mX12_wantsOf _ _ 0 0 122 [(0, vr 0), (1, vi b), (2, vi p), (3, vi t), (4, vi x)] [vi (ruF L (vT (hA hu6 20)))] hc7
  rw [show ruF L (vT (hA hu6 20)) = F (vP S f p t x) by rw [← hF (vT (hA hu6 20)) (fun i => du6.2.2.1.2 _), ← vP_mk (S := S) (f := f) (p := p) (t := t) (room := x) (g := hA hu6 20) (by rw [au6]; simp [upI]) (by rw [au6]; simp [upI]) (by rw [au6]; simp [upI]) (by rw [au6]; simp [upI]) (by rw [au6]; simp [upI]) (by rw [au6]; simp [upI])]]
  refine K_iconst (dt_at dtX12_wantsOf 80 rfl) ?_
  refine K_bipush (dt_at dtX12_wantsOf 81 rfl) (by decide) ?_
  refine K_callS (M' := mX12_bounded) (As := [vi (F (vP S f p t x)), vi 0, vi 9]) (st := []) (dt_at dtX12_wantsOf 82 rfl) (sX12_bounded (by assumption)) wL_X12_297 vX12_bounded rfl npX12_bounded (by decide) (by decide) (Nat.le_of_ble_eq_true rfl) (by decide) (by decide) GK_E (fun v9 h9 hq => ?_) (fun E h9 hq => by cases hq.1)
  obtain ⟨e9, e8⟩ := hq
  cases e9
  rw [e8]
  show K mX12_wantsOf _ _ 0 0 128 [(0, vr 0), (1, vi b), (2, vi p), (3, vi t), (4, vi x)] [vi (max 0 (min 9 (F (vP S f p t x))))] hc7
  exact K_iret (dt_at dtX12_wantsOf 83 rfl) rfl rfl (by decide) (by decide) ⟨by rw [ew, show max 0 (min 9 (F (vP S f p t x))) = max 0 (min (F (vP S f p t x)) 9) by omega], dq8, by rw [Fq8.2.1, iu6, iu5, iu4, iu3, iu2, iu1]⟩
theorem sX12_wantsOf {h0 h : HP} {b B : Int} {S : HS} {f : Int → Int} {p t x : Int} (d : MD h0 h b S f) (hT : rT B f) (hp : 0 ≤ p ∧ p < sNp S) (ht : 0 ≤ t ∧ t < sNt S) (hx : i32 x) : SpecK mX12_wantsOf [vr 0, vi b, vi p, vi t, vi x] h (fun o h' => o = .inl (some (vi (max 0 (wantF S f p t x)))) ∧ MD h0 h' b S f ∧ hI h' = hI h) := by
  cases hpu : sPu S with
  | none => exact sX12_wantsOf_n d hT hp ht hx hpu
  | some F => exact sX12_wantsOf_s d hT hp ht hx hpu
def mX12_feels : MI := (yX12_feels, cX12_feels, 4, (some .int), rmK 3 0)
def tX12_feels : List (Nat × Instr × Nat) := [(0, .aload_n 0, 1), (1, .iload_n 1, 1), (2, .iload_n 2, 1), (3, .invokevirtual 319, 3), (6, .istore_n 3, 1), (7, .aload_n 0, 1), (8, .getfield 13, 3), (11, .iconst (-1), 1), (12, .if_icmp .ne 27, 3), (15, .aload_n 0, 1), (16, .getfield 72, 3), (19, .iload_n 1, 1), (20, .bipush 63, 2), (22, .iadd, 1), (23, .iload_n 2, 1), (24, .iadd, 1), (25, .iaload, 1), (26, .iload_n 3, 1), (27, .bipush 10, 2), (29, .if_icmp .lt 7, 3), (32, .iconst 1, 1), (33, .goto 4, 3), (36, .iconst (-1), 1), (37, .iadd, 1), (38, .ireturn, 1), (39, .aload_n 0, 1), (40, .getfield 78, 3), (43, .iconst 4, 1), (44, .aload_n 0, 1), (45, .getfield 72, 3), (48, .iload_n 1, 1), (49, .bipush 63, 2), (51, .iadd, 1), (52, .iload_n 2, 1), (53, .iadd, 1), (54, .iaload, 1), (55, .iastore, 1), (56, .aload_n 0, 1), (57, .getfield 78, 3), (60, .bipush 6, 2), (62, .iload_n 3, 1), (63, .iastore, 1), (64, .aload_n 0, 1), (65, .getfield 78, 3), (68, .bipush 7, 2), (70, .aload_n 0, 1), (71, .getfield 29, 3), (74, .iload_n 2, 1), (75, .iaload, 1), (76, .iastore, 1), (77, .aload_n 0, 1), (78, .getfield 78, 3), (81, .iconst 5, 1), (82, .aload_n 0, 1), (83, .getfield 72, 3), (86, .iload_n 1, 1), (87, .iconst 0, 1), (88, .iadd, 1), (89, .iaload, 1), (90, .iastore, 1), (91, .aload_n 0, 1), (92, .aload_n 0, 1), (93, .getfield 13, 3), (96, .invokevirtual 294, 3), (99, .ireturn, 1)]
theorem dtX12_feels : tX12_feels.all (fun q => decide (decode cX12_feels q.1 = .ok (q.2.1, q.2.2))) = true := by decide +kernel
theorem npX12_feels : (parseMethodDescriptor (mY mX12_feels).desc).map (fun d => d.parameters.length) = some 2 := by decide +kernel
theorem vX12_feels : mV mX12_feels := ⟨wI_X12_feels, wS_X12_feels, wN_X12, wC_X12_feels, by decide +kernel, by decide +kernel⟩
set_option maxHeartbeats 4000000 in
set_option maxRecDepth 100000 in
theorem sX12_feels_n {h0 h : HP} {b B : Int} {S : HS} {f : Int → Int} {p : Int} (d : MD h0 h b S f) (hT : rT B f) (hp : 0 ≤ p ∧ p < sNp S) (hfe : sFe S = none) : SpecK mX12_feels [vr 0, vi b, vi p] h (fun o h' => o = .inl (some (vi (fondB S f p))) ∧ MD h0 h' b S f ∧ hI h' = hI h) := by
  refine Spec_of (by decide +kernel) (Nat.le_of_ble_eq_true rfl) ?_
  have hB := d.1.1
  have hNt := hB.1
  have hNp := hB.2.1
  have hb := d.2.1
  have hW := hT.1
  have wp := hW.2 p (by omega) (by omega)
  have w0 := hW.1 0 (by omega) (by omega)
  have wh := sumF_rT (us := sU S) (p := p) (n := sNt S) hT ⟨by omega, by omega⟩ hNt (fun i a b => by have := (hB.2.2.1 i a b).2; constructor <;> omega)
  have wa := (hB.2.2.2.1 p hp.1 hp.2).2.2
  have e4 : hI h 0 4 = -1 := by rw [MD_4 d]; have := d.1.2.2.2.2.2; rw [hfe] at this; exact this
  have ew : fondB S f p = if (sumF (sU S) f p (sNt S)) < 10 then f (15 + p) - 1 else f (15 + p) + 1 := by unfold fondB; rw [hfe]
  refine K_aload_n (dt_at dtX12_feels 0 rfl) rfl rfl ?_
  refine K_iload_n (dt_at dtX12_feels 1 rfl) rfl rfl ?_
  refine K_iload_n (dt_at dtX12_feels 2 rfl) rfl rfl ?_
  refine K_callV (M' := mX12_useIn) (a := 0) (ci := 12) (As := [vi b, vi p]) (st := []) (dt_at dtX12_feels 3 rfl) (sX12_useIn d hW ⟨by omega, by omega⟩) (show TT 0 = (0, 12) from rfl) rfl wL_X12_319 vX12_useIn rfl npX12_useIn (by decide) (by decide) (Nat.le_of_ble_eq_true rfl) (by decide) (by decide) GK_E (fun v9 h9 hq => ?_) (fun E h9 hq => by cases hq.1)
  obtain ⟨e9, e8⟩ := hq
  cases e9
  rw [e8]
  show K mX12_feels _ _ 0 0 6 [(0, vr 0), (1, vi b), (2, vi p)] [vi (sumF (sU S) f p (sNt S))] h
  refine K_istore_n (ls' := [(3, vi (sumF (sU S) f p (sNt S))), (0, vr 0), (1, vi b), (2, vi p)]) (dt_at dtX12_feels 4 rfl) rfl (by decide) rfl ?_
  refine K_aload_n (dt_at dtX12_feels 5 rfl) rfl rfl ?_
  refine K_get (a := 0) (ci := 12) (k := 4) (v := vi (-1)) (dt_at dtX12_feels 6 rfl) (show TT 0 = (0, 12) from rfl) rfl (by decide) wF_X12_13 (by show vi (hI h 0 4) = vi (-1); rw [e4]) ?_
  refine K_iconst (dt_at dtX12_feels 7 rfl) ?_
  refine K_icmp_ne (tgt := 39) (dt_at dtX12_feels 8 rfl) (by decide) (by first | assumption | exact ⟨by omega, by omega⟩) (by first | assumption | exact ⟨by omega, by omega⟩) (fun c1 => absurd c1 (by omega)) (fun c1 => ?_)
  refine K_aload_n (dt_at dtX12_feels 9 rfl) rfl rfl ?_
  refine K_get (a := 0) (ci := 12) (k := 42) (v := vr 18) (dt_at dtX12_feels 10 rfl) (show TT 0 = (0, 12) from rfl) rfl (by decide) wF_X12_72 rfl ?_
  refine K_iload_n (dt_at dtX12_feels 11 rfl) rfl rfl ?_
  refine K_bipush (dt_at dtX12_feels 12 rfl) (by decide) ?_
  refine K_iadd (dt_at dtX12_feels 13 rfl) ?_
  refine K_iload_n (dt_at dtX12_feels 14 rfl) rfl rfl ?_
  refine K_iadd (dt_at dtX12_feels 15 rfl) ?_
  refine K_iald (dt_at dtX12_feels 16 rfl) (show TT 18 = (1, 154) from rfl) (by omega) (by omega) ?_
  rw [show hA h 18 ((b + 63) + p) = (f (15 + p)) from RV_f d.2.2.2 (p := p) (by omega) (by omega)]
  refine K_iload_n (dt_at dtX12_feels 17 rfl) rfl rfl ?_
  refine K_bipush (dt_at dtX12_feels 18 rfl) (by decide) ?_
  refine K_icmp_lt (tgt := 36) (dt_at dtX12_feels 19 rfl) (by decide) (by first | assumption | exact ⟨by omega, by omega⟩) (by first | assumption | exact ⟨by omega, by omega⟩) (fun c2 => ?_) (fun c2 => ?_)
  · refine K_iconst (dt_at dtX12_feels 22 rfl) ?_
    refine K_iadd (dt_at dtX12_feels 23 rfl) ?_
    exact K_iret (dt_at dtX12_feels 24 rfl) rfl rfl (by decide) (by decide) ⟨by rw [ew, if_pos (by omega)]; rfl, d, rfl⟩
  · refine K_iconst (dt_at dtX12_feels 20 rfl) ?_
    refine K_goto (tgt := 37) (dt_at dtX12_feels 21 rfl) (by decide) ?_
    refine K_iadd (dt_at dtX12_feels 23 rfl) ?_
    exact K_iret (dt_at dtX12_feels 24 rfl) rfl rfl (by decide) (by decide) ⟨by rw [ew, if_neg (by omega)], d, rfl⟩
set_option maxHeartbeats 4000000 in
set_option maxRecDepth 100000 in
theorem sX12_feels_s {h0 h : HP} {b B : Int} {S : HS} {f : Int → Int} {p : Int} {F : (Int → Int) → Int} (d : MD h0 h b S f) (hT : rT B f) (hp : 0 ≤ p ∧ p < sNp S) (hfe : sFe S = some F) : SpecK mX12_feels [vr 0, vi b, vi p] h (fun o h' => o = .inl (some (vi (fondB S f p))) ∧ MD h0 h' b S f ∧ hI h' = hI h) := by
  refine Spec_of (by decide +kernel) (Nat.le_of_ble_eq_true rfl) ?_
  have hB := d.1.1
  have hNt := hB.1
  have hNp := hB.2.1
  have hb := d.2.1
  have hW := hT.1
  have wp := hW.2 p (by omega) (by omega)
  have w0 := hW.1 0 (by omega) (by omega)
  have wh := sumF_rT (us := sU S) (p := p) (n := sNt S) hT ⟨by omega, by omega⟩ hNt (fun i a b => by have := (hB.2.2.1 i a b).2; constructor <;> omega)
  have wa := (hB.2.2.2.1 p hp.1 hp.2).2.2
  obtain ⟨a, L, ha, e4, cd, wf, -, hF⟩ : mRl h0 4 mkF inFe (some F) := by have := d.1.2.2.2.2.2; rw [hfe] at this; exact this
  have e4h : hI h 0 4 = a := by rw [MD_4 d]; exact e4
  obtain ⟨had, eh⟩ : ∃ z, z = (sumF (sU S) f p (sNt S)) := ⟨_, rfl⟩
  rw [← eh] at wh
  have ew : fondB S f p = F (vF S f p had) := by unfold fondB; rw [hfe, eh]
  have ha32 : 0 ≤ a ∧ a < 1400 := by cases L with | nil => exact cd.1 | cons s r => exact ⟨cd.1.1, by have := cd.1.2; omega⟩
  refine K_aload_n (dt_at dtX12_feels 0 rfl) rfl rfl ?_
  refine K_iload_n (dt_at dtX12_feels 1 rfl) rfl rfl ?_
  refine K_iload_n (dt_at dtX12_feels 2 rfl) rfl rfl ?_
  refine K_callV (M' := mX12_useIn) (a := 0) (ci := 12) (As := [vi b, vi p]) (st := []) (dt_at dtX12_feels 3 rfl) (sX12_useIn d hW ⟨by omega, by omega⟩) (show TT 0 = (0, 12) from rfl) rfl wL_X12_319 vX12_useIn rfl npX12_useIn (by decide) (by decide) (Nat.le_of_ble_eq_true rfl) (by decide) (by decide) GK_E (fun v9 h9 hq => ?_) (fun E h9 hq => by cases hq.1)
  obtain ⟨e9, e8⟩ := hq
  cases e9
  rw [e8]
  show K mX12_feels _ _ 0 0 6 [(0, vr 0), (1, vi b), (2, vi p)] [vi (sumF (sU S) f p (sNt S))] h
  rw [← eh]
  refine K_istore_n (ls' := [(3, vi had), (0, vr 0), (1, vi b), (2, vi p)]) (dt_at dtX12_feels 4 rfl) rfl (by decide) rfl ?_
  refine K_aload_n (dt_at dtX12_feels 5 rfl) rfl rfl ?_
  refine K_get (a := 0) (ci := 12) (k := 4) (v := vi a) (dt_at dtX12_feels 6 rfl) (show TT 0 = (0, 12) from rfl) rfl (by decide) wF_X12_13 (by show vi (hI h 0 4) = vi a; rw [e4h]) ?_
  refine K_iconst (dt_at dtX12_feels 7 rfl) ?_
  refine K_icmp_ne (tgt := 39) (dt_at dtX12_feels 8 rfl) (by decide) (by first | assumption | exact ⟨by omega, by omega⟩) (by first | assumption | exact ⟨by omega, by omega⟩) (fun c1 => ?_) (fun c1 => absurd c1 (by omega))
  refine K_aload_n (dt_at dtX12_feels 25 rfl) rfl rfl ?_
  refine K_get (a := 0) (ci := 12) (k := 45) (v := vr 20) (dt_at dtX12_feels 26 rfl) (show TT 0 = (0, 12) from rfl) rfl (by decide) wF_X12_78 rfl ?_
  refine K_iconst (dt_at dtX12_feels 27 rfl) ?_
  refine K_aload_n (dt_at dtX12_feels 28 rfl) rfl rfl ?_
  refine K_get (a := 0) (ci := 12) (k := 42) (v := vr 18) (dt_at dtX12_feels 29 rfl) (show TT 0 = (0, 12) from rfl) rfl (by decide) wF_X12_72 rfl ?_
  refine K_iload_n (dt_at dtX12_feels 30 rfl) rfl rfl ?_
  refine K_bipush (dt_at dtX12_feels 31 rfl) (by decide) ?_
  refine K_iadd (dt_at dtX12_feels 32 rfl) ?_
  refine K_iload_n (dt_at dtX12_feels 33 rfl) rfl rfl ?_
  refine K_iadd (dt_at dtX12_feels 34 rfl) ?_
  refine K_iald (dt_at dtX12_feels 35 rfl) (show TT 18 = (1, 154) from rfl) (by omega) (by omega) ?_
  rw [show hA h 18 ((b + 63) + p) = (f (15 + p)) from RV_f d.2.2.2 (p := p) (by omega) (by omega)]
  refine K_iast (dt_at dtX12_feels 36 rfl) (show TT 20 = (1, 8) from rfl) (by omega) (by omega) ?_
  obtain ⟨hu1, eu1⟩ : ∃ z, z = sA h 20 4 (f (15 + p)) := ⟨_, rfl⟩
  rw [← eu1]
  obtain ⟨au1, fu1, iu1, ru1⟩ := sA_fx eu1
  have du1 : MD h0 hu1 b S f := MD_20 d (by first | assumption | exact ⟨by omega, by omega⟩) eu1
  refine K_aload_n (dt_at dtX12_feels 37 rfl) rfl rfl ?_
  refine K_get (a := 0) (ci := 12) (k := 45) (v := vr 20) (dt_at dtX12_feels 38 rfl) (show TT 0 = (0, 12) from rfl) rfl (by decide) wF_X12_78 rfl ?_
  refine K_bipush (dt_at dtX12_feels 39 rfl) (by decide) ?_
  refine K_iload_n (dt_at dtX12_feels 40 rfl) rfl rfl ?_
  refine K_iast (dt_at dtX12_feels 41 rfl) (show TT 20 = (1, 8) from rfl) (by omega) (by omega) ?_
  obtain ⟨hu2, eu2⟩ : ∃ z, z = sA hu1 20 6 had := ⟨_, rfl⟩
  rw [← eu2]
  obtain ⟨au2, fu2, iu2, ru2⟩ := sA_fx eu2
  have du2 : MD h0 hu2 b S f := MD_20 du1 (by first | assumption | exact ⟨by omega, by omega⟩) eu2
  rw [au1] at au2
  refine K_aload_n (dt_at dtX12_feels 42 rfl) rfl rfl ?_
  refine K_get (a := 0) (ci := 12) (k := 45) (v := vr 20) (dt_at dtX12_feels 43 rfl) (show TT 0 = (0, 12) from rfl) rfl (by decide) wF_X12_78 rfl ?_
  refine K_bipush (dt_at dtX12_feels 44 rfl) (by decide) ?_
  refine K_aload_n (dt_at dtX12_feels 45 rfl) rfl rfl ?_
  refine K_get (a := 0) (ci := 12) (k := 9) (v := vr 5) (dt_at dtX12_feels 46 rfl) (show TT 0 = (0, 12) from rfl) rfl (by decide) wF_X12_29 rfl ?_
  refine K_iload_n (dt_at dtX12_feels 47 rfl) rfl rfl ?_
  refine K_iald (dt_at dtX12_feels 48 rfl) (show TT 5 = (1, 7) from rfl) (by omega) (by omega) ?_
  rw [show hA hu2 5 p = sAw S p from MD_a du2 (by omega)]
  refine K_iast (dt_at dtX12_feels 49 rfl) (show TT 20 = (1, 8) from rfl) (by omega) (by omega) ?_
  obtain ⟨hu3, eu3⟩ : ∃ z, z = sA hu2 20 7 (sAw S p) := ⟨_, rfl⟩
  rw [← eu3]
  obtain ⟨au3, fu3, iu3, ru3⟩ := sA_fx eu3
  have du3 : MD h0 hu3 b S f := MD_20 du2 (by first | assumption | exact ⟨by omega, by omega⟩) eu3
  rw [au2] at au3
  refine K_aload_n (dt_at dtX12_feels 50 rfl) rfl rfl ?_
  refine K_get (a := 0) (ci := 12) (k := 45) (v := vr 20) (dt_at dtX12_feels 51 rfl) (show TT 0 = (0, 12) from rfl) rfl (by decide) wF_X12_78 rfl ?_
  refine K_iconst (dt_at dtX12_feels 52 rfl) ?_
  refine K_aload_n (dt_at dtX12_feels 53 rfl) rfl rfl ?_
  refine K_get (a := 0) (ci := 12) (k := 42) (v := vr 18) (dt_at dtX12_feels 54 rfl) (show TT 0 = (0, 12) from rfl) rfl (by decide) wF_X12_72 rfl ?_
  refine K_iload_n (dt_at dtX12_feels 55 rfl) rfl rfl ?_
  refine K_iconst (dt_at dtX12_feels 56 rfl) ?_
  refine K_iadd (dt_at dtX12_feels 57 rfl) ?_
  refine K_iald (dt_at dtX12_feels 58 rfl) (show TT 18 = (1, 154) from rfl) (by omega) (by omega) ?_
  rw [show hA hu3 18 (b + 0) = (f 0) from RV_d du3.2.2.2 (by omega)]
  refine K_iast (dt_at dtX12_feels 59 rfl) (show TT 20 = (1, 8) from rfl) (by omega) (by omega) ?_
  obtain ⟨hu4, eu4⟩ : ∃ z, z = sA hu3 20 5 (f 0) := ⟨_, rfl⟩
  rw [← eu4]
  obtain ⟨au4, fu4, iu4, ru4⟩ := sA_fx eu4
  have du4 : MD h0 hu4 b S f := MD_20 du3 (by first | assumption | exact ⟨by omega, by omega⟩) eu4
  rw [au3] at au4
  refine K_aload_n (dt_at dtX12_feels 60 rfl) rfl rfl ?_
  refine K_aload_n (dt_at dtX12_feels 61 rfl) rfl rfl ?_
  refine K_get (a := 0) (ci := 12) (k := 4) (v := vi a) (dt_at dtX12_feels 62 rfl) (show TT 0 = (0, 12) from rfl) rfl (by decide) wF_X12_13 (by show vi (hI hu4 0 4) = vi a; rw [iu4, iu3, iu2, iu1, e4h]) ?_
  refine K_callV (M' := mX12_reckons) (a := 0) (ci := 12) (As := [vi a]) (st := []) (dt_at dtX12_feels 63 rfl) (sX12_reckons (L := L) (by rw [MD_6 du4]; exact cd) wf (fun i _ _ => du4.2.2.1.2 i)) (show TT 0 = (0, 12) from rfl) rfl wL_X12_294 vX12_reckons rfl npX12_reckons (by decide) (by decide) (Nat.le_of_ble_eq_true rfl) (by decide) (by decide) GK_E (fun v9 hc5 hq => ?_) (fun E h9 hq => by cases hq.1)
  have hqq6 := hq
  obtain ⟨e9q6, Fq6⟩ := hqq6
  have dq6 := MD_FP du4 Fq6
  cases e9q6
  show K mX12_feels _ _ 0 0 99 [(3, vi had), (0, vr 0), (1, vi b), (2, vi p)] [vi (ruF L (vT (hA hu4 20)))] hc5
  rw [show ruF L (vT (hA hu4 20)) = F (vF S f p had) by rw [← hF (vT (hA hu4 20)) (fun i => du4.2.2.1.2 _), ← vF_mk (S := S) (f := f) (p := p) (had := had) (g := hA hu4 20) (by rw [au4]; simp [upI]) (by rw [au4]; simp [upI]) (by rw [au4]; simp [upI]) (by rw [au4]; simp [upI])]]
  exact K_iret (dt_at dtX12_feels 64 rfl) rfl rfl (by decide) (by decide) ⟨by rw [ew], dq6, by rw [Fq6.2.1, iu4, iu3, iu2, iu1]⟩
theorem sX12_feels {h0 h : HP} {b B : Int} {S : HS} {f : Int → Int} {p : Int} (d : MD h0 h b S f) (hT : rT B f) (hp : 0 ≤ p ∧ p < sNp S) : SpecK mX12_feels [vr 0, vi b, vi p] h (fun o h' => o = .inl (some (vi (fondB S f p))) ∧ MD h0 h' b S f ∧ hI h' = hI h) := by
  cases hfe : sFe S with
  | none => exact sX12_feels_n d hT hp hfe
  | some F => exact sX12_feels_s d hT hp hfe
def mX12_packs : MI := (yX12_packs, cX12_packs, 6, none, rmK 4 0)
def tX12_packs : List (Nat × Instr × Nat) := [(0, .iconst 0, 1), (1, .istore_n 3, 1), (2, .iload_n 3, 1), (3, .aload_n 0, 1), (4, .getfield 267, 3), (7, .if_icmp .ge 104, 3), (10, .aload_n 0, 1), (11, .getfield 23, 3), (14, .aload_n 0, 1), (15, .getfield 72, 3), (18, .iload_n 1, 1), (19, .bipush 8, 2), (21, .iadd, 1), (22, .iload_n 2, 1), (23, .iadd, 1), (24, .iaload, 1), (25, .iaload, 1), (26, .aload_n 0, 1), (27, .iload_n 1, 1), (28, .iload_n 2, 1), (29, .invokevirtual 300, 3), (32, .isub, 1), (33, .istore 4, 2), (35, .aload_n 0, 1), (36, .iload_n 1, 1), (37, .iload_n 2, 1), (38, .iload_n 3, 1), (39, .iload 4, 2), (41, .invokevirtual 303, 3), (44, .aload_n 0, 1), (45, .getfield 72, 3), (48, .iload_n 1, 1), (49, .bipush 57, 2), (51, .iadd, 1), (52, .iload_n 3, 1), (53, .iadd, 1), (54, .iaload, 1), (55, .iload 4, 2), (57, .aload_n 0, 1), (58, .getfield 16, 3), (61, .iload_n 3, 1), (62, .iaload, 1), (63, .idiv, 1), (64, .invokestatic 307, 3), (67, .invokestatic 307, 3), (70, .istore 5, 2), (72, .aload_n 0, 1), (73, .getfield 72, 3), (76, .aload_n 0, 1), (77, .iload_n 1, 1), (78, .iload_n 2, 1), (79, .iload_n 3, 1), (80, .invokevirtual 291, 3), (83, .dup2, 1), (84, .iaload, 1), (85, .iload 5, 2), (87, .iadd, 1), (88, .iastore, 1), (89, .aload_n 0, 1), (90, .getfield 72, 3), (93, .iload_n 1, 1), (94, .bipush 57, 2), (96, .iadd, 1), (97, .iload_n 3, 1), (98, .iadd, 1), (99, .dup2, 1), (100, .iaload, 1), (101, .iload 5, 2), (103, .isub, 1), (104, .iastore, 1), (105, .iinc 3 1, 3), (108, .goto (-106), 3), (111, .return_, 1)]
theorem dtX12_packs : tX12_packs.all (fun q => decide (decode cX12_packs q.1 = .ok (q.2.1, q.2.2))) = true := by decide +kernel
theorem npX12_packs : (parseMethodDescriptor (mY mX12_packs).desc).map (fun d => d.parameters.length) = some 2 := by decide +kernel
theorem vX12_packs : mV mX12_packs := ⟨wI_X12_packs, wS_X12_packs, wN_X12, wC_X12_packs, by decide +kernel, by decide +kernel⟩
set_option maxHeartbeats 4000000 in
set_option maxRecDepth 100000 in
theorem lp_X12_packs {Q : AO → HP → Prop} {h0 h : HP} {b B : Int} {S : HS} {f : Int → Int} {p : Int} (d : MD h0 h b S f) (hT : rT B f) (hp : 0 ≤ p ∧ p < sNp S) (hC : f (8 + p) < sNp S) (hr : 0 ≤ sH S (f (8 + p)) - sumF (sW S) f p (sNt S)) (hQ : ∀ h2, MD h0 h2 b S (packF S f p) → hI h2 = hI h → Q (.inl none) h2) : ∀ (dd k : Nat) (hh : HP), k + dd = sNt S → MD h0 hh b S (pkI S p f k).1 → hI hh = hI h → K mX12_packs GK (ZK Q 0 0) 0 0 2 [(3, vi (k : Int)), (0, vr 0), (1, vi b), (2, vi p)] [] hh := by
  intro dd
  induction dd with
  | zero =>
    intro k hh hk dh ii
    have hB := dh.1.1
    have hNt := hB.1
    have hNp := hB.2.1
    have hb := dh.2.1
    have hW := hT.1
    obtain ⟨hTk, hlo, rk1, rk2⟩ := pkI_ok hB hT hp hC k (by omega)
    have hWk := hTk.1
    have wc := (hW.2 p (by omega) (by omega)).2.1
    have ec : (pkI S p f k).1 (8 + p) = f (8 + p) := hlo (8 + p) (by omega)
    have er := pk_room hB hT hp hC k (by omega)
    have rp := pk_pos hB hT hp hC hr k (by omega)
    have ek : k = sNt S := by omega
    refine K_iload_n (dt_at dtX12_packs 2 rfl) rfl rfl ?_
    refine K_aload_n (dt_at dtX12_packs 3 rfl) rfl rfl ?_
    refine K_get (a := 0) (ci := 12) (k := 1) (v := vi (sNt S : Int)) (dt_at dtX12_packs 4 rfl) (show TT 0 = (0, 12) from rfl) rfl (by decide) wF_X12_267 (by show vi (hI hh 0 1) = vi (sNt S : Int); rw [(MD_nt dh)]) ?_
    refine K_icmp_ge (tgt := 111) (dt_at dtX12_packs 5 rfl) (by decide) (by first | assumption | exact ⟨by omega, by omega⟩) (by first | assumption | exact ⟨by omega, by omega⟩) (fun c1 => ?_) (fun c1 => absurd c1 (by omega))
    exact K_vret (dt_at dtX12_packs 72 rfl) rfl (by decide) (by decide) (hQ hh (by rw [ek] at dh; exact dh) ii)
  | succ dd ih =>
    intro k hh hk dh ii
    have hB := dh.1.1
    have hNt := hB.1
    have hNp := hB.2.1
    have hb := dh.2.1
    have hW := hT.1
    obtain ⟨hTk, hlo, rk1, rk2⟩ := pkI_ok hB hT hp hC k (by omega)
    have hWk := hTk.1
    have wc := (hW.2 p (by omega) (by omega)).2.1
    have ec : (pkI S p f k).1 (8 + p) = f (8 + p) := hlo (8 + p) (by omega)
    have er := pk_room hB hT hp hC k (by omega)
    have rp := pk_pos hB hT hp hC hr k (by omega)
    have wk := (hB.2.2.1 (k : Int) (by omega) (by omega)).1
    have ws := hTk.2.1 (29 + (k : Int)) (by omega) (by omega)
    have ws2 := hWk.1 (29 + (k : Int)) (by omega) (by omega)
    have wd := tdiv_b wk.1 ⟨rk1, rk2⟩
    have wd0 : 0 ≤ (pkI S p f k).2.tdiv (sW S (k : Int)) := by rw [Int.tdiv_eq_ediv_of_nonneg rp]; exact Int.ediv_nonneg rp (by omega)
    have ww := wantF32 hB (pkI S p f k).1 p (k : Int) ((pkI S p f k).2)
    refine K_iload_n (dt_at dtX12_packs 2 rfl) rfl rfl ?_
    refine K_aload_n (dt_at dtX12_packs 3 rfl) rfl rfl ?_
    refine K_get (a := 0) (ci := 12) (k := 1) (v := vi (sNt S : Int)) (dt_at dtX12_packs 4 rfl) (show TT 0 = (0, 12) from rfl) rfl (by decide) wF_X12_267 (by show vi (hI hh 0 1) = vi (sNt S : Int); rw [(MD_nt dh)]) ?_
    refine K_icmp_ge (tgt := 111) (dt_at dtX12_packs 5 rfl) (by decide) (by first | assumption | exact ⟨by omega, by omega⟩) (by first | assumption | exact ⟨by omega, by omega⟩) (fun c1 => absurd c1 (by omega)) (fun c1 => ?_)
    refine K_aload_n (dt_at dtX12_packs 6 rfl) rfl rfl ?_
    refine K_get (a := 0) (ci := 12) (k := 7) (v := vr 3) (dt_at dtX12_packs 7 rfl) (show TT 0 = (0, 12) from rfl) rfl (by decide) wF_X12_23 rfl ?_
    refine K_aload_n (dt_at dtX12_packs 8 rfl) rfl rfl ?_
    refine K_get (a := 0) (ci := 12) (k := 42) (v := vr 18) (dt_at dtX12_packs 9 rfl) (show TT 0 = (0, 12) from rfl) rfl (by decide) wF_X12_72 rfl ?_
    refine K_iload_n (dt_at dtX12_packs 10 rfl) rfl rfl ?_
    refine K_bipush (dt_at dtX12_packs 11 rfl) (by decide) ?_
    refine K_iadd (dt_at dtX12_packs 12 rfl) ?_
    refine K_iload_n (dt_at dtX12_packs 13 rfl) rfl rfl ?_
    refine K_iadd (dt_at dtX12_packs 14 rfl) ?_
    refine K_iald (dt_at dtX12_packs 15 rfl) (show TT 18 = (1, 154) from rfl) (by omega) (by omega) ?_
    rw [show hA hh 18 ((b + 8) + p) = (((pkI S p f k).1) (8 + p)) from RV_c dh.2.2.2 (p := p) (by omega) (by omega)]
    refine K_iald (dt_at dtX12_packs 16 rfl) (show TT 3 = (1, 7) from rfl) (by omega) (by omega) ?_
    rw [show hA hh 3 (((pkI S p f k).1) (8 + p)) = sH S (((pkI S p f k).1) (8 + p)) from MD_h dh (by omega)]
    refine K_aload_n (dt_at dtX12_packs 17 rfl) rfl rfl ?_
    refine K_iload_n (dt_at dtX12_packs 18 rfl) rfl rfl ?_
    refine K_iload_n (dt_at dtX12_packs 19 rfl) rfl rfl ?_
    refine K_callV (M' := mX12_weightIn) (a := 0) (ci := 12) (As := [vi b, vi p]) (st := [vi (sH S (((pkI S p f k).1) (8 + p)))]) (dt_at dtX12_packs 20 rfl) (sX12_weightIn dh hWk ⟨by omega, by omega⟩) (show TT 0 = (0, 12) from rfl) rfl wL_X12_300 vX12_weightIn rfl npX12_weightIn (by decide) (by decide) (Nat.le_of_ble_eq_true rfl) (by decide) (by decide) GK_E (fun v9 h9 hq => ?_) (fun E h9 hq => by cases hq.1)
    obtain ⟨e9, e8⟩ := hq
    cases e9
    rw [e8]
    show K mX12_packs _ _ 0 0 32 [(3, vi (k : Int)), (0, vr 0), (1, vi b), (2, vi p)] [vi (sumF (sW S) (pkI S p f k).1 p (sNt S)), vi (sH S (((pkI S p f k).1) (8 + p)))] hh
    refine K_isub (dt_at dtX12_packs 21 rfl) ?_
    rw [show ((sH S (((pkI S p f k).1) (8 + p))) - (sumF (sW S) (pkI S p f k).1 p (sNt S))) = (pkI S p f k).2 by rw [er, ec, sumF_wg, ec]]
    refine K_istore (ls' := [(4, vi ((pkI S p f k).2)), (3, vi (k : Int)), (0, vr 0), (1, vi b), (2, vi p)]) (dt_at dtX12_packs 22 rfl) (by decide) rfl ?_
    refine K_aload_n (dt_at dtX12_packs 23 rfl) rfl rfl ?_
    refine K_iload_n (dt_at dtX12_packs 24 rfl) rfl rfl ?_
    refine K_iload_n (dt_at dtX12_packs 25 rfl) rfl rfl ?_
    refine K_iload_n (dt_at dtX12_packs 26 rfl) rfl rfl ?_
    refine K_iload (dt_at dtX12_packs 27 rfl) rfl ?_
    refine K_callV (M' := mX12_wantsOf) (a := 0) (ci := 12) (As := [vi b, vi p, vi (k : Int), vi ((pkI S p f k).2)]) (st := []) (dt_at dtX12_packs 28 rfl) (sX12_wantsOf dh hTk hp ⟨by omega, by omega⟩ ⟨by omega, by omega⟩) (show TT 0 = (0, 12) from rfl) rfl wL_X12_303 vX12_wantsOf rfl npX12_wantsOf (by decide) (by decide) (Nat.le_of_ble_eq_true rfl) (by decide) (by decide) GK_E (fun v9 hc1 hq => ?_) (fun E h9 hq => by cases hq.1)
    have hqq2 := hq
    obtain ⟨e9q2, dq2, iq2⟩ := hqq2
    cases e9q2
    show K mX12_packs _ _ 0 0 44 [(4, vi ((pkI S p f k).2)), (3, vi (k : Int)), (0, vr 0), (1, vi b), (2, vi p)] [vi (max 0 (wantF S (pkI S p f k).1 p (k : Int) ((pkI S p f k).2)))] hc1
    refine K_aload_n (dt_at dtX12_packs 29 rfl) rfl rfl ?_
    refine K_get (a := 0) (ci := 12) (k := 42) (v := vr 18) (dt_at dtX12_packs 30 rfl) (show TT 0 = (0, 12) from rfl) rfl (by decide) wF_X12_72 rfl ?_
    refine K_iload_n (dt_at dtX12_packs 31 rfl) rfl rfl ?_
    refine K_bipush (dt_at dtX12_packs 32 rfl) (by decide) ?_
    refine K_iadd (dt_at dtX12_packs 33 rfl) ?_
    refine K_iload_n (dt_at dtX12_packs 34 rfl) rfl rfl ?_
    refine K_iadd (dt_at dtX12_packs 35 rfl) ?_
    refine K_iald (dt_at dtX12_packs 36 rfl) (show TT 18 = (1, 154) from rfl) (by omega) (by omega) ?_
    rw [show hA hc1 18 ((b + 57) + (k : Int)) = (((pkI S p f k).1) (29 + (k : Int))) from RV_s dq2.2.2.2 (p := (k : Int)) (by omega) (by omega)]
    refine K_iload (dt_at dtX12_packs 37 rfl) rfl ?_
    refine K_aload_n (dt_at dtX12_packs 38 rfl) rfl rfl ?_
    refine K_get (a := 0) (ci := 12) (k := 5) (v := vr 1) (dt_at dtX12_packs 39 rfl) (show TT 0 = (0, 12) from rfl) rfl (by decide) wF_X12_16 rfl ?_
    refine K_iload_n (dt_at dtX12_packs 40 rfl) rfl rfl ?_
    refine K_iald (dt_at dtX12_packs 41 rfl) (show TT 1 = (1, 6) from rfl) (by omega) (by omega) ?_
    rw [show hA hc1 1 (k : Int) = sW S (k : Int) from MD_w dq2 (by omega)]
    refine K_idiv (dt_at dtX12_packs 42 rfl) (by first | assumption | exact ⟨by omega, by omega⟩) (by first | assumption | exact ⟨by omega, by omega⟩) (by omega) ?_
    refine K_callS (M' := mX12_lesser) (As := [vi (((pkI S p f k).1) (29 + (k : Int))), vi (((pkI S p f k).2).tdiv (sW S (k : Int)))]) (st := [vi (max 0 (wantF S (pkI S p f k).1 p (k : Int) ((pkI S p f k).2)))]) (dt_at dtX12_packs 43 rfl) (sX12_lesser ⟨by omega, by omega⟩ ⟨by omega, by omega⟩) wL_X12_307 vX12_lesser rfl npX12_lesser (by decide) (by decide) (Nat.le_of_ble_eq_true rfl) (by decide) (by decide) GK_E (fun v9 h9 hq => ?_) (fun E h9 hq => by cases hq.1)
    obtain ⟨e9, e8⟩ := hq
    cases e9
    rw [e8]
    show K mX12_packs _ _ 0 0 67 [(4, vi ((pkI S p f k).2)), (3, vi (k : Int)), (0, vr 0), (1, vi b), (2, vi p)] [vi (min (((pkI S p f k).1) (29 + (k : Int))) (((pkI S p f k).2).tdiv (sW S (k : Int)))), vi (max 0 (wantF S (pkI S p f k).1 p (k : Int) ((pkI S p f k).2)))] hc1
    refine K_callS (M' := mX12_lesser) (As := [vi (max 0 (wantF S (pkI S p f k).1 p (k : Int) ((pkI S p f k).2))), vi (min (((pkI S p f k).1) (29 + (k : Int))) (((pkI S p f k).2).tdiv (sW S (k : Int))))]) (st := []) (dt_at dtX12_packs 44 rfl) (sX12_lesser ⟨by omega, by omega⟩ ⟨by omega, by omega⟩) wL_X12_307 vX12_lesser rfl npX12_lesser (by decide) (by decide) (Nat.le_of_ble_eq_true rfl) (by decide) (by decide) GK_E (fun v9 h9 hq => ?_) (fun E h9 hq => by cases hq.1)
    obtain ⟨e9, e8⟩ := hq
    cases e9
    rw [e8]
    show K mX12_packs _ _ 0 0 70 [(4, vi ((pkI S p f k).2)), (3, vi (k : Int)), (0, vr 0), (1, vi b), (2, vi p)] [vi (min (max 0 (wantF S (pkI S p f k).1 p (k : Int) ((pkI S p f k).2))) (min (((pkI S p f k).1) (29 + (k : Int))) (((pkI S p f k).2).tdiv (sW S (k : Int)))))] hc1
    obtain ⟨n, en⟩ : ∃ z, z = (min (max 0 (wantF S (pkI S p f k).1 p (k : Int) ((pkI S p f k).2))) (min ((pkI S p f k).1 (29 + (k : Int))) (((pkI S p f k).2).tdiv (sW S (k : Int))))) := ⟨_, rfl⟩
    rw [← en]
    have nb : 0 ≤ n := by omega
    refine K_istore (ls' := [(5, vi n), (4, vi ((pkI S p f k).2)), (3, vi (k : Int)), (0, vr 0), (1, vi b), (2, vi p)]) (dt_at dtX12_packs 45 rfl) (by decide) rfl ?_
    refine K_aload_n (dt_at dtX12_packs 46 rfl) rfl rfl ?_
    refine K_get (a := 0) (ci := 12) (k := 42) (v := vr 18) (dt_at dtX12_packs 47 rfl) (show TT 0 = (0, 12) from rfl) rfl (by decide) wF_X12_72 rfl ?_
    refine K_aload_n (dt_at dtX12_packs 48 rfl) rfl rfl ?_
    refine K_iload_n (dt_at dtX12_packs 49 rfl) rfl rfl ?_
    refine K_iload_n (dt_at dtX12_packs 50 rfl) rfl rfl ?_
    refine K_iload_n (dt_at dtX12_packs 51 rfl) rfl rfl ?_
    refine K_callV (M' := mX12_pieceAt) (a := 0) (ci := 12) (As := [vi b, vi p, vi (k : Int)]) (st := [vr 18]) (dt_at dtX12_packs 52 rfl) (sX12_pieceAt dq2 hWk ⟨by omega, by omega⟩) (show TT 0 = (0, 12) from rfl) rfl wL_X12_291 vX12_pieceAt rfl npX12_pieceAt (by decide) (by decide) (Nat.le_of_ble_eq_true rfl) (by decide) (by decide) GK_E (fun v9 h9 hq => ?_) (fun E h9 hq => by cases hq.1)
    obtain ⟨e9, e8⟩ := hq
    cases e9
    rw [e8]
    show K mX12_packs _ _ 0 0 83 [(5, vi n), (4, vi ((pkI S p f k).2)), (3, vi (k : Int)), (0, vr 0), (1, vi b), (2, vi p)] [vi (b + 15 + 6 * ((pkI S p f k).1) (8 + p) + (k : Int)), vr 18] hc1
    rw [ec]
    refine K_dup2 (dt_at dtX12_packs 53 rfl) rfl rfl ?_
    refine K_iald (dt_at dtX12_packs 54 rfl) (show TT 18 = (1, 154) from rfl) (by omega) (by omega) ?_
    rw [show hA hc1 18 (b + 15 + 6 * f (8 + p) + (k : Int)) = (((pkI S p f k).1) (35 + f (8 + p) * 6 + (k : Int))) from RV_i dq2.2.2.2 (c := f (8 + p)) (t := (k : Int)) (by omega) (by omega) (by omega)]
    refine K_iload (dt_at dtX12_packs 55 rfl) rfl ?_
    refine K_iadd (dt_at dtX12_packs 56 rfl) ?_
    refine K_iast (dt_at dtX12_packs 57 rfl) (show TT 18 = (1, 154) from rfl) (by omega) (by omega) ?_
    obtain ⟨hu3, eu3⟩ : ∃ z, z = sA hc1 18 (b + 15 + 6 * f (8 + p) + (k : Int)) ((((pkI S p f k).1) (35 + f (8 + p) * 6 + (k : Int))) + n) := ⟨_, rfl⟩
    rw [← eu3]
    obtain ⟨au3, fu3, iu3, ru3⟩ := sA_fx eu3
    have du3 : MD h0 hu3 b S (upI ((pkI S p f k).1) (35 + f (8 + p) * 6 + (k : Int)) ((((pkI S p f k).1) (35 + f (8 + p) * 6 + (k : Int))) + n)) := MD_up dq2 (j := 35 + f (8 + p) * 6 + (k : Int)) (by omega) (by omega) (by rw [pm_i (by omega) (by omega)]; omega) eu3
    refine K_aload_n (dt_at dtX12_packs 58 rfl) rfl rfl ?_
    refine K_get (a := 0) (ci := 12) (k := 42) (v := vr 18) (dt_at dtX12_packs 59 rfl) (show TT 0 = (0, 12) from rfl) rfl (by decide) wF_X12_72 rfl ?_
    refine K_iload_n (dt_at dtX12_packs 60 rfl) rfl rfl ?_
    refine K_bipush (dt_at dtX12_packs 61 rfl) (by decide) ?_
    refine K_iadd (dt_at dtX12_packs 62 rfl) ?_
    refine K_iload_n (dt_at dtX12_packs 63 rfl) rfl rfl ?_
    refine K_iadd (dt_at dtX12_packs 64 rfl) ?_
    refine K_dup2 (dt_at dtX12_packs 65 rfl) rfl rfl ?_
    refine K_iald (dt_at dtX12_packs 66 rfl) (show TT 18 = (1, 154) from rfl) (by omega) (by omega) ?_
    rw [show hA hu3 18 ((b + 57) + (k : Int)) = ((upI ((pkI S p f k).1) (35 + f (8 + p) * 6 + (k : Int)) ((((pkI S p f k).1) (35 + f (8 + p) * 6 + (k : Int))) + n)) (29 + (k : Int))) from RV_s du3.2.2.2 (p := (k : Int)) (by omega) (by omega)]
    refine K_iload (dt_at dtX12_packs 67 rfl) rfl ?_
    refine K_isub (dt_at dtX12_packs 68 rfl) ?_
    refine K_iast (dt_at dtX12_packs 69 rfl) (show TT 18 = (1, 154) from rfl) (by omega) (by omega) ?_
    obtain ⟨hu4, eu4⟩ : ∃ z, z = sA hu3 18 ((b + 57) + (k : Int)) (((upI ((pkI S p f k).1) (35 + f (8 + p) * 6 + (k : Int)) ((((pkI S p f k).1) (35 + f (8 + p) * 6 + (k : Int))) + n)) (29 + (k : Int))) - n) := ⟨_, rfl⟩
    rw [← eu4]
    obtain ⟨au4, fu4, iu4, ru4⟩ := sA_fx eu4
    have du4 : MD h0 hu4 b S (upI (upI ((pkI S p f k).1) (35 + f (8 + p) * 6 + (k : Int)) ((((pkI S p f k).1) (35 + f (8 + p) * 6 + (k : Int))) + n)) (29 + (k : Int)) (((upI ((pkI S p f k).1) (35 + f (8 + p) * 6 + (k : Int)) ((((pkI S p f k).1) (35 + f (8 + p) * 6 + (k : Int))) + n)) (29 + (k : Int))) - n)) := MD_up du3 (j := 29 + (k : Int)) (by omega) (by omega) (by rw [pm_s (by omega)]; omega) eu4
    refine K_iinc (ls' := [(3, vi ((k : Int) + 1)), (5, vi n), (4, vi ((pkI S p f k).2)), (0, vr 0), (1, vi b), (2, vi p)]) (dt_at dtX12_packs 70 rfl) rfl (by decide) rfl ?_
    refine K_goto (tgt := 2) (dt_at dtX12_packs 71 rfl) (by decide) ?_
    have en2 : mvC (pkI S p f k).1 (f (8 + p)) k n = (pkI S p f (k + 1)).1 := by
      by_cases z : 0 < putF S (pkI S p f k).1 p k ((pkI S p f k).2)
      · rw [show pkI S p f (k + 1) = (mvC (pkI S p f k).1 (f (8 + p)) k (putF S (pkI S p f k).1 p k (pkI S p f k).2), (pkI S p f k).2 - putF S (pkI S p f k).1 p k (pkI S p f k).2 * sW S k) from if_pos z, show n = putF S (pkI S p f k).1 p k (pkI S p f k).2 by unfold putF at z ⊢; omega]
      · rw [show pkI S p f (k + 1) = pkI S p f k from if_neg z, show n = 0 by unfold putF at z; omega, mvC_0]
    have dn : MD h0 hu4 b S (pkI S p f (k + 1)).1 := by rw [← en2]; unfold mvC; have := du4; rw [upI_n (show (29 + (k : Int)) ≠ 35 + f (8 + p) * 6 + (k : Int) by omega)] at this; exact this
    exact K_pk [0, 3, 4, 5] rfl (ih (k + 1) hu4 (by omega) dn (by rw [iu4, iu3, iq2, ii]))
set_option maxHeartbeats 4000000 in
set_option maxRecDepth 100000 in
theorem sX12_packs {h0 h : HP} {b B : Int} {S : HS} {f : Int → Int} {p : Int} (d : MD h0 h b S f) (hT : rT B f) (hp : 0 ≤ p ∧ p < sNp S) (hC : f (8 + p) < sNp S) (hr : 0 ≤ sH S (f (8 + p)) - sumF (sW S) f p (sNt S)) : SpecK mX12_packs [vr 0, vi b, vi p] h (fun o h' => o = .inl (none) ∧ MD h0 h' b S (packF S f p) ∧ hI h' = hI h) := by
  refine Spec_of (by decide +kernel) (Nat.le_of_ble_eq_true rfl) ?_
  have hb := d.2.1
  refine K_iconst (dt_at dtX12_packs 0 rfl) ?_
  refine K_istore_n (ls' := [(3, vi 0), (0, vr 0), (1, vi b), (2, vi p)]) (dt_at dtX12_packs 1 rfl) rfl (by decide) rfl ?_
  exact K_pk [0, 1, 2, 3] rfl (lp_X12_packs d hT hp hC hr (fun h2 q1 q2 => ⟨rfl, q1, q2⟩) (sNt S) 0 h (by omega) d rfl)
