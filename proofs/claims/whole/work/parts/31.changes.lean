/-! the class's parts under frames -/
def hsA (a : Nat) : Bool := (decide (33 ≤ a) && decide (a < 63)) || a == 87 || a == 104
def hsI (a : Nat) : Bool := decide (33 ≤ a) && decide (a < 63)
theorem cHS_FL {la : List Nat} {li lr : List (Nat × Nat)} {h h' : HP} {t : Nat} {S : HS} (ht : t = 33 ∨ t = 48) (F : FL la li lr h h') (h1 : la.all (fun x => !hsA x) = true) (h2 : li.all (fun x => !hsI x.1) = true) (c3 : cHS h t S) : cHS h' t S := by
  have x1 : ∀ a, hsA a = true → hA h' a = hA h a := fun a ha => F.1 a (ncon (q := hsA) h1 ha)
  have x2 : ∀ a k, hsI a = true → hI h' a k = hI h a k := fun a k ha => F.2.1 a k (ncon (q := fun x : Nat × Nat => hsI x.1) h2 ha)
  obtain ⟨⟨k1, k2, k3, k4, k5⟩, ⟨k6, k7⟩, k8, k9⟩ := c3
  rcases ht with rfl | rfl
  · exact ⟨⟨by rw [x1 _ rfl]; exact k1, by rw [x1 _ rfl]; exact k2, by rw [x1 _ rfl]; exact k3, by rw [x1 _ rfl]; exact k4, by rw [x1 _ rfl]; exact k5⟩, ⟨by rw [x2 _ _ rfl]; exact k6, by rw [x2 _ _ rfl]; exact k7⟩, rlR_FS k8 (x2 _ _ rfl) (x2 _ _ rfl) (x1 _ rfl), rlR_FS k9 (x2 _ _ rfl) (x2 _ _ rfl) (x1 _ rfl)⟩
  · exact ⟨⟨by rw [x1 _ rfl]; exact k1, by rw [x1 _ rfl]; exact k2, by rw [x1 _ rfl]; exact k3, by rw [x1 _ rfl]; exact k4, by rw [x1 _ rfl]; exact k5⟩, ⟨by rw [x2 _ _ rfl]; exact k6, by rw [x2 _ _ rfl]; exact k7⟩, rlR_FS k8 (x2 _ _ rfl) (x2 _ _ rfl) (x1 _ rfl), rlR_FS k9 (x2 _ _ rfl) (x2 _ _ rfl) (x1 _ rfl)⟩
def cn32 (rf : Int × Int × Int) (i : Nat) : Int × Int × Int := match i with
  | 0 => (rf.1 + 1, rf.2.1, rf.2.2)
  | 1 => (rf.1, rf.2.1 + 1, rf.2.2)
  | _ => (rf.1, rf.2.1, rf.2.2 + 1)
theorem CI_ref {h : HP} {S : HS} {v : SV} {im : Option SV} {tp : Int → Int} {nt : Nat} {rf : Int × Int × Int} {fl : Int} (J : CI h (S, v, im, tp, nt, rf, fl)) (i : Nat) (hi : i < 3) {h' : HP} (e : h' = sA h 32 (i : Int) (hA h 32 (i : Int) + 1)) : CI h' (S, v, im, tp, nt, cn32 rf i, fl) ∧ FM h h' := by
  have F : FL [32] [] [] h h' := by rw [e]; exact FL_sA rfl
  obtain ⟨a1, f1, i1, r1⟩ := sA_fx e
  obtain ⟨t, ht, i2, i3, i4, i5, i6, i7, i8, i9, i10⟩ := J
  refine ⟨⟨t, ht, by rw [r1]; exact i2, by rw [r1]; exact i3, cHS_FL ht F rfl rfl i4, i5, G32_FL F i6 rfl rfl,
    svR_fr i7 (F.1 _ rfl) (F.2.1 _ _ rfl) (F.2.1 _ _ rfl) (F.1 _ rfl) (F.2.1 _ _ rfl) (F.1 _ rfl) (F.1 _ rfl) (F.1 _ rfl) (F.1 _ rfl), i8,
    imR_fr i9 (F.2.1 _ _ rfl) (F.1 _ rfl) (F.2.1 _ _ rfl) (F.2.1 _ _ rfl) (F.1 _ rfl) (F.2.1 _ _ rfl) (F.1 _ rfl) (F.1 _ rfl) (F.1 _ rfl) (F.1 _ rfl), ?_⟩, FM_FL F rfl rfl rfl⟩
  obtain ⟨k1, k2, k3, ⟨k4, k5, k6⟩, k7⟩ := i10
  refine ⟨by rw [i1]; exact k1, k2, by rw [f1 31 (by decide)]; exact k3, ?_, by rw [i1]; exact k7⟩
  rw [a1]
  rcases (show i = 0 ∨ i = 1 ∨ i = 2 by omega) with rfl | rfl | rfl
  · exact ⟨by show upI _ _ _ 0 = rf.1 + 1; rw [show (0 : Int) = ((0 : Nat) : Int) from rfl, upI_s]; rw [show hA h 32 ((0 : Nat) : Int) = rf.1 from k4], by rw [upI_n (by decide)]; exact k5, by rw [upI_n (by decide)]; exact k6⟩
  · exact ⟨by rw [upI_n (by decide)]; exact k4, by show upI _ _ _ 1 = rf.2.1 + 1; rw [show (1 : Int) = ((1 : Nat) : Int) from rfl, upI_s]; rw [show hA h 32 ((1 : Nat) : Int) = rf.2.1 from k5], by rw [upI_n (by decide)]; exact k6⟩
  · exact ⟨by rw [upI_n (by decide)]; exact k4, by rw [upI_n (by decide)]; exact k5, by show upI _ _ _ 2 = rf.2.2 + 1; rw [show (2 : Int) = ((2 : Nat) : Int) from rfl, upI_s]; rw [show hA h 32 ((2 : Nat) : Int) = rf.2.2 from k6]⟩
theorem CI_image {h h' : HP} {S : HS} {v : SV} {im : Option SV} {tp : Int → Int} {nt : Nat} {rf : Int × Int × Int} {fl : Int} (J : CI h (S, v, im, tp, nt, rf, fl)) (F : FL [76, 78, 80, 81, 82, 83] [(77, 1), (77, 2), (79, 4), (30, 17)] [] h h') (hv : svR h' 75 77 79 v) (h1 : hI h' 30 17 = 1) : CI h' (S, v, some v, tp, nt, rf, fl) ∧ FM h h' := by
  obtain ⟨t, ht, i2, i3, i4, i5, i6, i7, i8, i9, i10⟩ := J
  exact ⟨⟨t, ht, by rw [F.2.2 _ _ rfl]; exact i2, by rw [F.2.2 _ _ rfl]; exact i3, cHS_FL ht F rfl rfl i4, i5, G32_FL F i6 rfl rfl,
    svR_fr i7 (F.1 _ rfl) (F.2.1 _ _ rfl) (F.2.1 _ _ rfl) (F.1 _ rfl) (F.2.1 _ _ rfl) (F.1 _ rfl) (F.1 _ rfl) (F.1 _ rfl) (F.1 _ rfl), i8,
    ⟨h1, hv, i8⟩, tpR_fr i10 (F.2.1 _ _ rfl) (F.2.1 _ _ rfl) (F.1 _ rfl) (F.1 _ rfl)⟩, FM_FL F rfl rfl rfl⟩
theorem CI_rest {h h' : HP} {S : HS} {v w : SV} {tp : Int → Int} {nt : Nat} {rf : Int × Int × Int} {fl : Int} (J : CI h (S, v, some w, tp, nt, rf, fl)) (F : FL [67, 69, 71, 72, 73, 74] [(68, 1), (68, 2), (70, 4)] [] h h') (hv : svR h' 66 68 70 w) : CI h' (S, w, some w, tp, nt, rf, fl) ∧ FM h h' := by
  obtain ⟨t, ht, i2, i3, i4, i5, i6, i7, i8, i9, i10⟩ := J
  exact ⟨⟨t, ht, by rw [F.2.2 _ _ rfl]; exact i2, by rw [F.2.2 _ _ rfl]; exact i3, cHS_FL ht F rfl rfl i4, i5, G32_FL F i6 rfl rfl,
    hv, i9.2.2, imR_fr i9 (F.2.1 _ _ rfl) (F.1 _ rfl) (F.2.1 _ _ rfl) (F.2.1 _ _ rfl) (F.1 _ rfl) (F.2.1 _ _ rfl) (F.1 _ rfl) (F.1 _ rfl) (F.1 _ rfl) (F.1 _ rfl), tpR_fr i10 (F.2.1 _ _ rfl) (F.2.1 _ _ rfl) (F.1 _ rfl) (F.1 _ rfl)⟩, FM_FL F rfl rfl rfl⟩
theorem CI_seen {h h' : HP} {S : HS} {f : Int → Int} {C : AC} {N N' : SN} {im : Option SV} {tp : Int → Int} {nt : Nat} {rf : Int × Int × Int} {fl : Int} (J : CI h (S, (f, C, N), im, tp, nt, rf, fl)) (F : FL [71, 72, 73, 74] [(70, 4)] [] h h') (hv : seR h' 70 N') (hO : seO S N') : CI h' (S, (f, C, N'), im, tp, nt, rf, fl) ∧ FM h h' := by
  obtain ⟨t, ht, i2, i3, i4, i5, i6, i7, i8, i9, i10⟩ := J
  exact ⟨⟨t, ht, by rw [F.2.2 _ _ rfl]; exact i2, by rw [F.2.2 _ _ rfl]; exact i3, cHS_FL ht F rfl rfl i4, i5, G32_FL F i6 rfl rfl,
    ⟨by rw [F.1 67 rfl]; exact i7.1, acR_fr i7.2.1 (F.2.1 _ _ rfl) (F.2.1 _ _ rfl) (F.1 _ rfl), hv⟩, ⟨i8.1, i8.2.1, hO⟩, imR_fr i9 (F.2.1 _ _ rfl) (F.1 _ rfl) (F.2.1 _ _ rfl) (F.2.1 _ _ rfl) (F.1 _ rfl) (F.2.1 _ _ rfl) (F.1 _ rfl) (F.1 _ rfl) (F.1 _ rfl) (F.1 _ rfl), tpR_fr i10 (F.2.1 _ _ rfl) (F.2.1 _ _ rfl) (F.1 _ rfl) (F.1 _ rfl)⟩, FM_FL F rfl rfl rfl⟩
theorem acR_le {h : HP} {a : Nat} {c : AC} (k : acR h a c) : c.1 ≤ 40 := by
  obtain ⟨o, -, -, -, z, -⟩ := k
  exact z
def swF (f : Int → Int) (p q : Int) : Int → Int := upI (upI f (8 + p) (f (8 + q))) (8 + q) (f (8 + p))
theorem sw_fx {g h : HP} {c : Nat} {p q : Int} (e : g = sA (sA h c (8 + p) (hA h c (8 + q))) c (8 + q) (hA h c (8 + p))) : hA g c = swF (hA h c) p q ∧ (∀ b, b ≠ c → hA g b = hA h b) ∧ hI g = hI h ∧ hR g = hR h := by
  rw [sA_F, sA_F, hA_F, sF_F] at e
  exact sF_fx e

def mX11_days : MI := (yX11_days, cX11_days, 2, (some .int), rmK 8 0)
def tX11_days : List (Nat × Instr × Nat) := [(0, .iload_n 1, 1), (1, .iconst 1, 1), (2, .if_icmp .lt 24, 3), (5, .iload_n 1, 1), (6, .bipush 20, 2), (8, .if_icmp .gt 18, 3), (11, .aload_n 0, 1), (12, .getfield 39, 3), (15, .invokevirtual 143, 3), (18, .iload_n 1, 1), (19, .iadd, 1), (20, .sipush 9999, 3), (23, .if_icmp .le 9, 3), (26, .aload_n 0, 1), (27, .iconst 1, 1), (28, .invokevirtual 227, 3), (31, .ireturn, 1), (32, .aload_n 0, 1), (33, .getfield 46, 3), (36, .aload_n 0, 1), (37, .getfield 39, 3), (40, .invokevirtual 230, 3), (43, .aload_n 0, 1), (44, .getfield 39, 3), (47, .aload_n 0, 1), (48, .iload_n 1, 1), (49, .invokevirtual 234, 3), (52, .invokevirtual 238, 3), (55, .aload_n 0, 1), (56, .getfield 39, 3), (59, .invokevirtual 143, 3), (62, .ireturn, 1)]
theorem dtX11_days : tX11_days.all (fun q => decide (decode cX11_days q.1 = .ok (q.2.1, q.2.2))) = true := by decide +kernel
theorem npX11_days : (parseMethodDescriptor (mY mX11_days).desc).map (fun d => d.parameters.length) = some 1 := by decide +kernel
theorem vX11_days : mV mX11_days := ⟨wI_X11_days, wS_X11_days, wN_X11, wC_X11_days, by decide +kernel, by decide +kernel⟩
set_option maxHeartbeats 4000000 in
set_option maxRecDepth 100000 in
theorem sX11_days_no {h : HP} {S : HS} {f : Int → Int} {C : AC} {N : SN} {im : Option SV} {tp : Int → Int} {nt : Nat} {rf : Int × Int × Int} {fl : Int} {d : Int} (J : CI h (S, (f, C, N), im, tp, nt, rf, fl)) (hd : i32 d) (no : ¬ (1 ≤ d ∧ d ≤ 20 ∧ f 0 + d ≤ 9999)) : SpecK mX11_days [vr 30, vi d] h (fun o h' => o = .inl (some (vi (-1))) ∧ CI h' (S, (f, C, N), im, tp, nt, (cn32 rf 1), fl) ∧ FM h h') := by
  refine Spec_of (by decide +kernel) (Nat.le_of_ble_eq_true rfl) ?_
  obtain ⟨t, ht_, i2, i3, i4, i5, i6, i7, i8, i9, i10⟩ := id J
  have c : CQ h t S 600 f := CI_CQ ht_ i2 i4 i5 i6 i7 i8
  have ht := c.1
  have hH := TTt ht
  have hB := c.2.2.2.1
  have hNt := hB.1
  have hNp := hB.2.1
  have hT := c.2.2.2.2.2.1
  have hC := c.2.2.2.2.2.2.1
  have h99 := c.2.2.2.2.2.2.2.1
  have G := c.2.2.2.2.2.2.2.2
  have hf0 := hT.2.2.2.1
  refine K_iload_n (dt_at dtX11_days 0 rfl) rfl rfl ?_
  refine K_iconst (dt_at dtX11_days 1 rfl) ?_
  refine K_icmp_lt (tgt := 26) (dt_at dtX11_days 2 rfl) (by decide) (by first | assumption | exact ⟨by omega, by omega⟩) (by first | assumption | exact ⟨by omega, by omega⟩) (fun c1 => ?_) (fun c1 => ?_)
  · refine K_aload_n (dt_at dtX11_days 13 rfl) rfl rfl ?_
    refine K_iconst (dt_at dtX11_days 14 rfl) ?_
    refine K_callV (M' := mX11_refuse) (a := 30) (ci := 11) (As := [vi 1]) (st := []) (dt_at dtX11_days 15 rfl) (sX11_refuse (by omega)) (by decide) rfl wL_X11_227 vX11_refuse rfl npX11_refuse (by decide) (by decide) (Nat.le_of_ble_eq_true rfl) (by decide) (by decide) GK_E (fun v9 hc1 hq => ?_) (fun E h9 hq => by cases hq.1)
    have hqq2 := hq
    obtain ⟨e9q2, e8q2⟩ := hqq2
    have CR := CI_ref J 1 (by decide) e8q2
    cases e9q2
    show K mX11_days _ _ 0 0 31 [(0, vr 30), (1, vi d)] [vi (-1)] hc1
    exact K_iret (dt_at dtX11_days 16 rfl) rfl rfl (by decide) (by decide) ⟨rfl, CR⟩
  · refine K_iload_n (dt_at dtX11_days 3 rfl) rfl rfl ?_
    refine K_bipush (dt_at dtX11_days 4 rfl) (by decide) ?_
    refine K_icmp_gt (tgt := 26) (dt_at dtX11_days 5 rfl) (by decide) (by first | assumption | exact ⟨by omega, by omega⟩) (by first | assumption | exact ⟨by omega, by omega⟩) (fun c2 => ?_) (fun c2 => ?_)
    · refine K_aload_n (dt_at dtX11_days 13 rfl) rfl rfl ?_
      refine K_iconst (dt_at dtX11_days 14 rfl) ?_
      refine K_callV (M' := mX11_refuse) (a := 30) (ci := 11) (As := [vi 1]) (st := []) (dt_at dtX11_days 15 rfl) (sX11_refuse (by omega)) (by decide) rfl wL_X11_227 vX11_refuse rfl npX11_refuse (by decide) (by decide) (Nat.le_of_ble_eq_true rfl) (by decide) (by decide) GK_E (fun v9 hc3 hq => ?_) (fun E h9 hq => by cases hq.1)
      have hqq4 := hq
      obtain ⟨e9q4, e8q4⟩ := hqq4
      have CR := CI_ref J 1 (by decide) e8q4
      cases e9q4
      show K mX11_days _ _ 0 0 31 [(0, vr 30), (1, vi d)] [vi (-1)] hc3
      exact K_iret (dt_at dtX11_days 16 rfl) rfl rfl (by decide) (by decide) ⟨rfl, CR⟩
    · refine K_aload_n (dt_at dtX11_days 6 rfl) rfl rfl ?_
      refine K_get (a := 30) (ci := 11) (k := 5) (v := vr 66) (dt_at dtX11_days 7 rfl) (by decide) rfl (by decide) wF_X11_39 rfl ?_
      refine K_callV (M' := mX8_day) (a := 66) (ci := 8) (As := []) (st := []) (dt_at dtX11_days 8 rfl) (sX8_day (a := 66) (by decide)) (show TT 66 = (0, 8) from rfl) rfl wL_X11_143 vX8_day rfl npX8_day (by decide) (by decide) (Nat.le_of_ble_eq_true rfl) (by decide) (by decide) GK_E (fun v9 h9 hq => ?_) (fun E h9 hq => by cases hq.1)
      obtain ⟨e9, e8⟩ := hq
      cases e9
      rw [e8]
      show K mX11_days _ _ 0 0 18 [(0, vr 30), (1, vi d)] [vi (hA h (66 + 1) 0)] h
      rw [show hA h (66 + 1) = f from c.2.2.2.2.1]
      refine K_iload_n (dt_at dtX11_days 9 rfl) rfl rfl ?_
      refine K_iadd (dt_at dtX11_days 10 rfl) ?_
      refine K_sipush (dt_at dtX11_days 11 rfl) (by decide) ?_
      refine K_icmp_le (tgt := 32) (dt_at dtX11_days 12 rfl) (by decide) (by first | assumption | exact ⟨by omega, by omega⟩) (by first | assumption | exact ⟨by omega, by omega⟩) (fun c3 => ?_) (fun c3 => ?_)
      · exfalso; omega
      · refine K_aload_n (dt_at dtX11_days 13 rfl) rfl rfl ?_
        refine K_iconst (dt_at dtX11_days 14 rfl) ?_
        refine K_callV (M' := mX11_refuse) (a := 30) (ci := 11) (As := [vi 1]) (st := []) (dt_at dtX11_days 15 rfl) (sX11_refuse (by omega)) (by decide) rfl wL_X11_227 vX11_refuse rfl npX11_refuse (by decide) (by decide) (Nat.le_of_ble_eq_true rfl) (by decide) (by decide) GK_E (fun v9 hc5 hq => ?_) (fun E h9 hq => by cases hq.1)
        have hqq6 := hq
        obtain ⟨e9q6, e8q6⟩ := hqq6
        have CR := CI_ref J 1 (by decide) e8q6
        cases e9q6
        show K mX11_days _ _ 0 0 31 [(0, vr 30), (1, vi d)] [vi (-1)] hc5
        exact K_iret (dt_at dtX11_days 16 rfl) rfl rfl (by decide) (by decide) ⟨rfl, CR⟩
set_option maxHeartbeats 4000000 in
set_option maxRecDepth 100000 in
theorem sX11_days {h : HP} {S : HS} {f : Int → Int} {C : AC} {N : SN} {im : Option SV} {tp : Int → Int} {nt : Nat} {rf : Int × Int × Int} {fl : Int} {n : Nat} (J : CI h (S, (f, C, N), im, tp, nt, rf, fl)) (hn : 1 ≤ n ∧ n ≤ 20) (hd : f 0 + n ≤ 9999) (hO : rowOK S (dysF S f n)) : SpecK mX11_days [vr 30, vi (n : Int)] h (fun o h' => o = .inl (some (vi (dysF S f n 0))) ∧ CI h' (S, (dysF S f n, acP C f, N), im, tp, nt, rf, fl) ∧ FM h h') := by
  refine Spec_of (by decide +kernel) (Nat.le_of_ble_eq_true rfl) ?_
  obtain ⟨t, ht_, i2, i3, i4, i5, i6, i7, i8, i9, i10⟩ := id J
  have c : CQ h t S 600 f := CI_CQ ht_ i2 i4 i5 i6 i7 i8
  have ht := c.1
  have hH := TTt ht
  have hB := c.2.2.2.1
  have hNt := hB.1
  have hNp := hB.2.1
  have hT := c.2.2.2.2.2.1
  have hC := c.2.2.2.2.2.2.1
  have h99 := c.2.2.2.2.2.2.2.1
  have G := c.2.2.2.2.2.2.2.2
  have hf0 := hT.2.2.2.1
  refine K_iload_n (dt_at dtX11_days 0 rfl) rfl rfl ?_
  refine K_iconst (dt_at dtX11_days 1 rfl) ?_
  refine K_icmp_lt (tgt := 26) (dt_at dtX11_days 2 rfl) (by decide) (by first | assumption | exact ⟨by omega, by omega⟩) (by first | assumption | exact ⟨by omega, by omega⟩) (fun c1 => absurd c1 (by omega)) (fun c1 => ?_)
  refine K_iload_n (dt_at dtX11_days 3 rfl) rfl rfl ?_
  refine K_bipush (dt_at dtX11_days 4 rfl) (by decide) ?_
  refine K_icmp_gt (tgt := 26) (dt_at dtX11_days 5 rfl) (by decide) (by first | assumption | exact ⟨by omega, by omega⟩) (by first | assumption | exact ⟨by omega, by omega⟩) (fun c2 => absurd c2 (by omega)) (fun c2 => ?_)
  refine K_aload_n (dt_at dtX11_days 6 rfl) rfl rfl ?_
  refine K_get (a := 30) (ci := 11) (k := 5) (v := vr 66) (dt_at dtX11_days 7 rfl) (by decide) rfl (by decide) wF_X11_39 rfl ?_
  refine K_callV (M' := mX8_day) (a := 66) (ci := 8) (As := []) (st := []) (dt_at dtX11_days 8 rfl) (sX8_day (a := 66) (by decide)) (show TT 66 = (0, 8) from rfl) rfl wL_X11_143 vX8_day rfl npX8_day (by decide) (by decide) (Nat.le_of_ble_eq_true rfl) (by decide) (by decide) GK_E (fun v9 h9 hq => ?_) (fun E h9 hq => by cases hq.1)
  obtain ⟨e9, e8⟩ := hq
  cases e9
  rw [e8]
  show K mX11_days _ _ 0 0 18 [(0, vr 30), (1, vi (n : Int))] [vi (hA h (66 + 1) 0)] h
  rw [show hA h (66 + 1) = f from c.2.2.2.2.1]
  refine K_iload_n (dt_at dtX11_days 9 rfl) rfl rfl ?_
  refine K_iadd (dt_at dtX11_days 10 rfl) ?_
  refine K_sipush (dt_at dtX11_days 11 rfl) (by decide) ?_
  refine K_icmp_le (tgt := 32) (dt_at dtX11_days 12 rfl) (by decide) (by first | assumption | exact ⟨by omega, by omega⟩) (by first | assumption | exact ⟨by omega, by omega⟩) (fun c3 => ?_) (fun c3 => absurd c3 (by omega))
  refine K_aload_n (dt_at dtX11_days 17 rfl) rfl rfl ?_
  refine K_get (a := 30) (ci := 11) (k := 6) (v := vr 68) (dt_at dtX11_days 18 rfl) (by decide) rfl (by decide) wF_X11_46 rfl ?_
  refine K_aload_n (dt_at dtX11_days 19 rfl) rfl rfl ?_
  refine K_get (a := 30) (ci := 11) (k := 5) (v := vr 66) (dt_at dtX11_days 20 rfl) (by decide) rfl (by decide) wF_X11_39 rfl ?_
  refine K_callV (M' := mX0_keep) (a := 68) (ci := 0) (As := [vr 66]) (st := []) (dt_at dtX11_days 21 rfl) (sX0_keep i7.2.1 i7.1) (show TT 68 = (0, 0) from rfl) rfl wL_X11_230 vX0_keep rfl npX0_keep (by decide) (by decide) (Nat.le_of_ble_eq_true rfl) (by decide) (by decide) GK_E (fun v9 hc1 hq => ?_) (fun E h9 hq => by cases hq.1)
  have hqq2 := hq
  obtain ⟨e9q2, Kk, Fk, fk⟩ := hqq2
  have Xk := FX_FL Fk i6
  have ck := CQ_FX c Xk fk
  cases e9q2
  show K mX11_days _ _ 0 0 43 [(0, vr 30), (1, vi (n : Int))] [] hc1
  refine K_aload_n (dt_at dtX11_days 22 rfl) rfl rfl ?_
  refine K_get (a := 30) (ci := 11) (k := 5) (v := vr 66) (dt_at dtX11_days 23 rfl) (by decide) rfl (by decide) wF_X11_39 rfl ?_
  refine K_aload_n (dt_at dtX11_days 24 rfl) rfl rfl ?_
  refine K_iload_n (dt_at dtX11_days 25 rfl) rfl rfl ?_
  refine K_callV (M' := mX11_ahead) (a := 30) (ci := 11) (As := [vi (n : Int)]) (st := [vr 66]) (dt_at dtX11_days 26 rfl) (sX11_ahead ck (by omega)) (by decide) rfl wL_X11_234 vX11_ahead rfl npX11_ahead (by decide) (by decide) (Nat.le_of_ble_eq_true rfl) (by decide) (by decide) GK_E (fun v9 hc3 hq => ?_) (fun E h9 hq => by cases hq.1)
  have hqq4 := hq
  obtain ⟨e9q4, Aq4⟩ := hqq4
  have cq4 := CQ_FS ck Aq4.1
  cases e9q4
  show K mX11_days _ _ 0 0 52 [(0, vr 30), (1, vi (n : Int))] [vr 85, vr 66] hc3
  refine K_callV (M' := mX8_copyFrom) (a := 66) (ci := 8) (As := [vr 85]) (st := []) (dt_at dtX11_days 27 rfl) (sX8_copyFromX (a := 66) (b := 85) (by decide) (by decide)) (show TT 66 = (0, 8) from rfl) rfl wL_X11_238 vX8_copyFrom rfl npX8_copyFrom (by decide) (by decide) (Nat.le_of_ble_eq_true rfl) (by decide) (by decide) GK_E (fun v9 hc5 hq => ?_) (fun E h9 hq => by cases hq.1)
  have hqq6 := hq
  obtain ⟨e9q6, e8q6⟩ := hqq6
  obtain ⟨az, fz, iz, rz⟩ := sF_fx e8q6
  rw [show hA hc3 (85 + 1) = dysF S f n from Aq4.2.1] at az
  have Fz : FL [67, 69] [(68, 1), (68, 2)] [] hc3 hc5 := ⟨fun a_ ha => fz a_ (fun z => by rw [z] at ha; cases ha), fun a_ k ha => by rw [iz], fun a_ k ha => by rw [rz]⟩
  have XX := FX_tr Xk (FX_tr (FX_FS Aq4.1) (FX_FL Fz Aq4.1.2.2.2))
  have KK := acR_fr Kk (by rw [iz]; exact Aq4.1.2.1 68 1 rfl) (by rw [iz]; exact Aq4.1.2.1 68 2 rfl) (by rw [fz 69 (by decide)]; exact Aq4.1.1 69 rfl)
  cases e9q6
  show K mX11_days _ _ 0 0 55 [(0, vr 30), (1, vi (n : Int))] [] hc5
  refine K_aload_n (dt_at dtX11_days 28 rfl) rfl rfl ?_
  refine K_get (a := 30) (ci := 11) (k := 5) (v := vr 66) (dt_at dtX11_days 29 rfl) (by decide) rfl (by decide) wF_X11_39 rfl ?_
  refine K_callV (M' := mX8_day) (a := 66) (ci := 8) (As := []) (st := []) (dt_at dtX11_days 30 rfl) (sX8_day (a := 66) (by decide)) (show TT 66 = (0, 8) from rfl) rfl wL_X11_143 vX8_day rfl npX8_day (by decide) (by decide) (Nat.le_of_ble_eq_true rfl) (by decide) (by decide) GK_E (fun v9 h9 hq => ?_) (fun E h9 hq => by cases hq.1)
  obtain ⟨e9, e8⟩ := hq
  cases e9
  rw [e8]
  show K mX11_days _ _ 0 0 62 [(0, vr 30), (1, vi (n : Int))] [vi (hA hc5 (66 + 1) 0)] hc5
  rw [show hA hc5 (66 + 1) = (dysF S f n) from az]
  exact K_iret (dt_at dtX11_days 31 rfl) rfl rfl (by decide) (by decide) ⟨rfl, CI_act J XX az KK hO (acP_ok i8.1 i8.2.1 (acR_le i7.2.1))⟩
def mX11_swap : MI := (yX11_swap, cX11_swap, 3, (some .boolean), rmK 8 2)
def tX11_swap : List (Nat × Instr × Nat) := [(0, .aload_n 0, 1), (1, .iload_n 1, 1), (2, .invokevirtual 184, 3), (5, .aload_n 0, 1), (6, .iload_n 2, 1), (7, .invokevirtual 184, 3), (10, .iload_n 1, 1), (11, .iload_n 2, 1), (12, .if_icmp .ne 11, 3), (15, .aload_n 0, 1), (16, .iconst 1, 1), (17, .invokevirtual 227, 3), (20, .pop, 1), (21, .iconst 0, 1), (22, .ireturn, 1), (23, .aload_n 0, 1), (24, .getfield 46, 3), (27, .aload_n 0, 1), (28, .getfield 39, 3), (31, .invokevirtual 230, 3), (34, .aload_n 0, 1), (35, .getfield 39, 3), (38, .iload_n 1, 1), (39, .iload_n 2, 1), (40, .invokevirtual 241, 3), (43, .iconst 1, 1), (44, .ireturn, 1)]
theorem dtX11_swap : tX11_swap.all (fun q => decide (decode cX11_swap q.1 = .ok (q.2.1, q.2.2))) = true := by decide +kernel
theorem npX11_swap : (parseMethodDescriptor (mY mX11_swap).desc).map (fun d => d.parameters.length) = some 2 := by decide +kernel
theorem vX11_swap : mV mX11_swap := ⟨wI_X11_swap, wS_X11_swap, wN_X11, wC_X11_swap, by decide +kernel, by decide +kernel⟩
set_option maxHeartbeats 4000000 in
set_option maxRecDepth 100000 in
theorem sX11_swap_x1 {h : HP} {t : Nat} {S : HS} {B : Int} {f : Int → Int} {p : Int} {q : Int} (c : CQ h t S B f) (hp : i32 p) (hq : i32 q) (kn : ¬ (0 ≤ p ∧ p < sNp S)) : SpecK mX11_swap [vr 30, vi p, vi q] h (fun o h' => o = .inr eNS ∧ FS h h') := by
  refine Spec_of (by decide +kernel) (Nat.le_of_ble_eq_true rfl) ?_
  have ht := c.1
  have hH := TTt ht
  have hB := c.2.2.2.1
  have hNt := hB.1
  have hNp := hB.2.1
  have hT := c.2.2.2.2.2.1
  have hC := c.2.2.2.2.2.2.1
  have h99 := c.2.2.2.2.2.2.2.1
  have G := c.2.2.2.2.2.2.2.2
  have hf0 := hT.2.2.2.1
  refine K_aload_n (dt_at dtX11_swap 0 rfl) rfl rfl ?_
  refine K_iload_n (dt_at dtX11_swap 1 rfl) rfl rfl ?_
  exact K_callV (M' := mX11_needPerson) (a := 30) (ci := 11) (As := [vi p]) (st := []) (dt_at dtX11_swap 2 rfl) (sX11_needPerson_no hH c.2.1 c.2.2.1.2.1.2 hNp (by assumption) (by omega)) (by decide) rfl wL_X11_184 vX11_needPerson rfl npX11_needPerson (by decide) (by decide) (Nat.le_of_ble_eq_true rfl) (by decide) (by decide) GK_E (fun v9 h9 hq => by cases hq.1) (fun E h9 hq => by obtain ⟨e9, e8⟩ := hq; cases e9; rw [e8]; exact KX_out (by decide) (by decide) ⟨rfl, FS_rf G⟩)
set_option maxHeartbeats 4000000 in
set_option maxRecDepth 100000 in
theorem sX11_swap_x2 {h : HP} {t : Nat} {S : HS} {B : Int} {f : Int → Int} {p : Int} {q : Int} (c : CQ h t S B f) (hp : i32 p) (hq : i32 q) (k0 : 0 ≤ p ∧ p < sNp S) (kn : ¬ (0 ≤ q ∧ q < sNp S)) : SpecK mX11_swap [vr 30, vi p, vi q] h (fun o h' => o = .inr eNS ∧ FS h h') := by
  refine Spec_of (by decide +kernel) (Nat.le_of_ble_eq_true rfl) ?_
  have ht := c.1
  have hH := TTt ht
  have hB := c.2.2.2.1
  have hNt := hB.1
  have hNp := hB.2.1
  have hT := c.2.2.2.2.2.1
  have hC := c.2.2.2.2.2.2.1
  have h99 := c.2.2.2.2.2.2.2.1
  have G := c.2.2.2.2.2.2.2.2
  have hf0 := hT.2.2.2.1
  refine K_aload_n (dt_at dtX11_swap 0 rfl) rfl rfl ?_
  refine K_iload_n (dt_at dtX11_swap 1 rfl) rfl rfl ?_
  refine K_callV (M' := mX11_needPerson) (a := 30) (ci := 11) (As := [vi p]) (st := []) (dt_at dtX11_swap 2 rfl) (sX11_needPerson hH c.2.1 c.2.2.1.2.1.2 hNp (by first | assumption | exact ⟨by omega, by omega⟩) (by omega)) (by decide) rfl wL_X11_184 vX11_needPerson rfl npX11_needPerson (by decide) (by decide) (Nat.le_of_ble_eq_true rfl) (by decide) (by decide) GK_E (fun v9 h9 hq => ?_) (fun E h9 hq => by cases hq.1)
  obtain ⟨e9, e8⟩ := hq
  cases e9
  rw [e8]
  show K mX11_swap _ _ 1 6 5 [(0, vr 30), (1, vi p), (2, vi q)] [] h
  refine K_aload_n (dt_at dtX11_swap 3 rfl) rfl rfl ?_
  refine K_iload_n (dt_at dtX11_swap 4 rfl) rfl rfl ?_
  exact K_callV (M' := mX11_needPerson) (a := 30) (ci := 11) (As := [vi q]) (st := []) (dt_at dtX11_swap 5 rfl) (sX11_needPerson_no hH c.2.1 c.2.2.1.2.1.2 hNp (by assumption) (by omega)) (by decide) rfl wL_X11_184 vX11_needPerson rfl npX11_needPerson (by decide) (by decide) (Nat.le_of_ble_eq_true rfl) (by decide) (by decide) GK_E (fun v9 h9 hq => by cases hq.1) (fun E h9 hq => by obtain ⟨e9, e8⟩ := hq; cases e9; rw [e8]; exact KX_out (by decide) (by decide) ⟨rfl, FS_rf G⟩)
set_option maxHeartbeats 4000000 in
set_option maxRecDepth 100000 in
theorem sX11_swap_no {h : HP} {S : HS} {f : Int → Int} {C : AC} {N : SN} {im : Option SV} {tp : Int → Int} {nt : Nat} {rf : Int × Int × Int} {fl : Int} {p q : Int} (J : CI h (S, (f, C, N), im, tp, nt, rf, fl)) (hp : 0 ≤ p ∧ p < sNp S) (hqt : 0 ≤ q ∧ q < sNp S) (no : p = q) : SpecK mX11_swap [vr 30, vi p, vi q] h (fun o h' => o = .inl (some (vi 0)) ∧ CI h' (S, (f, C, N), im, tp, nt, (cn32 rf 1), fl) ∧ FM h h') := by
  refine Spec_of (by decide +kernel) (Nat.le_of_ble_eq_true rfl) ?_
  obtain ⟨t, ht_, i2, i3, i4, i5, i6, i7, i8, i9, i10⟩ := id J
  have c : CQ h t S 600 f := CI_CQ ht_ i2 i4 i5 i6 i7 i8
  have ht := c.1
  have hH := TTt ht
  have hB := c.2.2.2.1
  have hNt := hB.1
  have hNp := hB.2.1
  have hT := c.2.2.2.2.2.1
  have hC := c.2.2.2.2.2.2.1
  have h99 := c.2.2.2.2.2.2.2.1
  have G := c.2.2.2.2.2.2.2.2
  have hf0 := hT.2.2.2.1
  refine K_aload_n (dt_at dtX11_swap 0 rfl) rfl rfl ?_
  refine K_iload_n (dt_at dtX11_swap 1 rfl) rfl rfl ?_
  refine K_callV (M' := mX11_needPerson) (a := 30) (ci := 11) (As := [vi p]) (st := []) (dt_at dtX11_swap 2 rfl) (sX11_needPerson hH c.2.1 c.2.2.1.2.1.2 hNp (by first | assumption | exact ⟨by omega, by omega⟩) (by omega)) (by decide) rfl wL_X11_184 vX11_needPerson rfl npX11_needPerson (by decide) (by decide) (Nat.le_of_ble_eq_true rfl) (by decide) (by decide) GK_E (fun v9 h9 hq => ?_) (fun E h9 hq => by cases hq.1)
  obtain ⟨e9, e8⟩ := hq
  cases e9
  rw [e8]
  show K mX11_swap _ _ 1 6 5 [(0, vr 30), (1, vi p), (2, vi q)] [] h
  refine K_aload_n (dt_at dtX11_swap 3 rfl) rfl rfl ?_
  refine K_iload_n (dt_at dtX11_swap 4 rfl) rfl rfl ?_
  refine K_callV (M' := mX11_needPerson) (a := 30) (ci := 11) (As := [vi q]) (st := []) (dt_at dtX11_swap 5 rfl) (sX11_needPerson hH c.2.1 c.2.2.1.2.1.2 hNp (by first | assumption | exact ⟨by omega, by omega⟩) (by omega)) (by decide) rfl wL_X11_184 vX11_needPerson rfl npX11_needPerson (by decide) (by decide) (Nat.le_of_ble_eq_true rfl) (by decide) (by decide) GK_E (fun v9 h9 hq => ?_) (fun E h9 hq => by cases hq.1)
  obtain ⟨e9, e8⟩ := hq
  cases e9
  rw [e8]
  show K mX11_swap _ _ 2 12 10 [(0, vr 30), (1, vi p), (2, vi q)] [] h
  refine K_iload_n (dt_at dtX11_swap 6 rfl) rfl rfl ?_
  refine K_iload_n (dt_at dtX11_swap 7 rfl) rfl rfl ?_
  refine K_icmp_ne (tgt := 23) (dt_at dtX11_swap 8 rfl) (by decide) (by first | assumption | exact ⟨by omega, by omega⟩) (by first | assumption | exact ⟨by omega, by omega⟩) (fun c1 => absurd c1 (by omega)) (fun c1 => ?_)
  refine K_aload_n (dt_at dtX11_swap 9 rfl) rfl rfl ?_
  refine K_iconst (dt_at dtX11_swap 10 rfl) ?_
  refine K_callV (M' := mX11_refuse) (a := 30) (ci := 11) (As := [vi 1]) (st := []) (dt_at dtX11_swap 11 rfl) (sX11_refuse (by omega)) (by decide) rfl wL_X11_227 vX11_refuse rfl npX11_refuse (by decide) (by decide) (Nat.le_of_ble_eq_true rfl) (by decide) (by decide) GK_E (fun v9 hc1 hq => ?_) (fun E h9 hq => by cases hq.1)
  have hqq2 := hq
  obtain ⟨e9q2, e8q2⟩ := hqq2
  have CR := CI_ref J 1 (by decide) e8q2
  cases e9q2
  show K mX11_swap _ _ 2 12 20 [(0, vr 30), (1, vi p), (2, vi q)] [vi (-1)] hc1
  refine K_pop (dt_at dtX11_swap 12 rfl) rfl ?_
  refine K_iconst (dt_at dtX11_swap 13 rfl) ?_
  exact K_iret (dt_at dtX11_swap 14 rfl) rfl (by decide) (by decide) (by decide) ⟨rfl, CR⟩
set_option maxHeartbeats 4000000 in
set_option maxRecDepth 100000 in
theorem sX11_swap {h : HP} {S : HS} {f : Int → Int} {C : AC} {N : SN} {im : Option SV} {tp : Int → Int} {nt : Nat} {rf : Int × Int × Int} {fl : Int} {p q : Int} (J : CI h (S, (f, C, N), im, tp, nt, rf, fl)) (hp : 0 ≤ p ∧ p < sNp S) (hqt : 0 ≤ q ∧ q < sNp S) (no : p ≠ q) (hO : rowOK S (swF f p q)) : SpecK mX11_swap [vr 30, vi p, vi q] h (fun o h' => o = .inl (some (vi 1)) ∧ CI h' (S, (swF f p q, acP C f, N), im, tp, nt, rf, fl) ∧ FM h h') := by
  refine Spec_of (by decide +kernel) (Nat.le_of_ble_eq_true rfl) ?_
  obtain ⟨t, ht_, i2, i3, i4, i5, i6, i7, i8, i9, i10⟩ := id J
  have c : CQ h t S 600 f := CI_CQ ht_ i2 i4 i5 i6 i7 i8
  have ht := c.1
  have hH := TTt ht
  have hB := c.2.2.2.1
  have hNt := hB.1
  have hNp := hB.2.1
  have hT := c.2.2.2.2.2.1
  have hC := c.2.2.2.2.2.2.1
  have h99 := c.2.2.2.2.2.2.2.1
  have G := c.2.2.2.2.2.2.2.2
  have hf0 := hT.2.2.2.1
  refine K_aload_n (dt_at dtX11_swap 0 rfl) rfl rfl ?_
  refine K_iload_n (dt_at dtX11_swap 1 rfl) rfl rfl ?_
  refine K_callV (M' := mX11_needPerson) (a := 30) (ci := 11) (As := [vi p]) (st := []) (dt_at dtX11_swap 2 rfl) (sX11_needPerson hH c.2.1 c.2.2.1.2.1.2 hNp (by first | assumption | exact ⟨by omega, by omega⟩) (by omega)) (by decide) rfl wL_X11_184 vX11_needPerson rfl npX11_needPerson (by decide) (by decide) (Nat.le_of_ble_eq_true rfl) (by decide) (by decide) GK_E (fun v9 h9 hq => ?_) (fun E h9 hq => by cases hq.1)
  obtain ⟨e9, e8⟩ := hq
  cases e9
  rw [e8]
  show K mX11_swap _ _ 1 6 5 [(0, vr 30), (1, vi p), (2, vi q)] [] h
  refine K_aload_n (dt_at dtX11_swap 3 rfl) rfl rfl ?_
  refine K_iload_n (dt_at dtX11_swap 4 rfl) rfl rfl ?_
  refine K_callV (M' := mX11_needPerson) (a := 30) (ci := 11) (As := [vi q]) (st := []) (dt_at dtX11_swap 5 rfl) (sX11_needPerson hH c.2.1 c.2.2.1.2.1.2 hNp (by first | assumption | exact ⟨by omega, by omega⟩) (by omega)) (by decide) rfl wL_X11_184 vX11_needPerson rfl npX11_needPerson (by decide) (by decide) (Nat.le_of_ble_eq_true rfl) (by decide) (by decide) GK_E (fun v9 h9 hq => ?_) (fun E h9 hq => by cases hq.1)
  obtain ⟨e9, e8⟩ := hq
  cases e9
  rw [e8]
  show K mX11_swap _ _ 2 12 10 [(0, vr 30), (1, vi p), (2, vi q)] [] h
  refine K_iload_n (dt_at dtX11_swap 6 rfl) rfl rfl ?_
  refine K_iload_n (dt_at dtX11_swap 7 rfl) rfl rfl ?_
  refine K_icmp_ne (tgt := 23) (dt_at dtX11_swap 8 rfl) (by decide) (by first | assumption | exact ⟨by omega, by omega⟩) (by first | assumption | exact ⟨by omega, by omega⟩) (fun c1 => ?_) (fun c1 => absurd c1 (by omega))
  refine K_aload_n (dt_at dtX11_swap 15 rfl) rfl rfl ?_
  refine K_get (a := 30) (ci := 11) (k := 6) (v := vr 68) (dt_at dtX11_swap 16 rfl) (by decide) rfl (by decide) wF_X11_46 rfl ?_
  refine K_aload_n (dt_at dtX11_swap 17 rfl) rfl rfl ?_
  refine K_get (a := 30) (ci := 11) (k := 5) (v := vr 66) (dt_at dtX11_swap 18 rfl) (by decide) rfl (by decide) wF_X11_39 rfl ?_
  refine K_callV (M' := mX0_keep) (a := 68) (ci := 0) (As := [vr 66]) (st := []) (dt_at dtX11_swap 19 rfl) (sX0_keep i7.2.1 i7.1) (show TT 68 = (0, 0) from rfl) rfl wL_X11_230 vX0_keep rfl npX0_keep (by decide) (by decide) (Nat.le_of_ble_eq_true rfl) (by decide) (by decide) GK_E (fun v9 hc1 hq => ?_) (fun E h9 hq => by cases hq.1)
  have hqq2 := hq
  obtain ⟨e9q2, Kk, Fk, fk⟩ := hqq2
  have Xk := FX_FL Fk i6
  have ck := CQ_FX c Xk fk
  cases e9q2
  show K mX11_swap _ _ 2 12 34 [(0, vr 30), (1, vi p), (2, vi q)] [] hc1
  refine K_aload_n (dt_at dtX11_swap 20 rfl) rfl rfl ?_
  refine K_get (a := 30) (ci := 11) (k := 5) (v := vr 66) (dt_at dtX11_swap 21 rfl) (by decide) rfl (by decide) wF_X11_39 rfl ?_
  refine K_iload_n (dt_at dtX11_swap 22 rfl) rfl rfl ?_
  refine K_iload_n (dt_at dtX11_swap 23 rfl) rfl rfl ?_
  refine K_callV (M' := mX8_changeCases) (a := 66) (ci := 8) (As := [vi p, vi q]) (st := []) (dt_at dtX11_swap 24 rfl) (sX8_changeCases (a := 66) (by decide) ⟨by omega, by omega⟩ ⟨by omega, by omega⟩) (show TT 66 = (0, 8) from rfl) rfl wL_X11_241 vX8_changeCases rfl npX8_changeCases (by decide) (by decide) (Nat.le_of_ble_eq_true rfl) (by decide) (by decide) GK_E (fun v9 hc3 hq => ?_) (fun E h9 hq => by cases hq.1)
  have hqq4 := hq
  obtain ⟨e9q4, e8q4⟩ := hqq4
  obtain ⟨az, fz, iz, rz⟩ := sw_fx e8q4
  rw [show hA hc1 (66 + 1) = f from ck.2.2.2.2.1] at az
  have Fz : FL [67, 69] [(68, 1), (68, 2)] [] hc1 hc3 := ⟨fun a_ ha => fz a_ (fun z => by rw [z] at ha; cases ha), fun a_ k ha => by rw [iz], fun a_ k ha => by rw [rz]⟩
  have XX := FX_tr Xk (FX_FL Fz Xk.2.2.2)
  have KK := acR_fr Kk (by rw [iz]) (by rw [iz]) (fz 69 (by decide))
  cases e9q4
  show K mX11_swap _ _ 2 12 43 [(0, vr 30), (1, vi p), (2, vi q)] [] hc3
  refine K_iconst (dt_at dtX11_swap 25 rfl) ?_
  exact K_iret (dt_at dtX11_swap 26 rfl) rfl (by decide) (by decide) (by decide) ⟨rfl, CI_act J XX az KK hO (acP_ok i8.1 i8.2.1 (acR_le i7.2.1))⟩
def mX11_buy : MI := (yX11_buy, cX11_buy, 3, (some .int), rmK 8 1)
def tX11_buy : List (Nat × Instr × Nat) := [(0, .aload_n 0, 1), (1, .iload_n 1, 1), (2, .invokevirtual 172, 3), (5, .iload_n 2, 1), (6, .iconst 1, 1), (7, .if_icmp .lt 24, 3), (10, .iload_n 2, 1), (11, .bipush 9, 2), (13, .if_icmp .gt 18, 3), (16, .aload_n 0, 1), (17, .getfield 39, 3), (20, .iload_n 1, 1), (21, .invokevirtual 181, 3), (24, .iload_n 2, 1), (25, .iadd, 1), (26, .bipush 99, 2), (28, .if_icmp .le 9, 3), (31, .aload_n 0, 1), (32, .iconst 1, 1), (33, .invokevirtual 227, 3), (36, .ireturn, 1), (37, .aload_n 0, 1), (38, .getfield 46, 3), (41, .aload_n 0, 1), (42, .getfield 39, 3), (45, .invokevirtual 230, 3), (48, .aload_n 0, 1), (49, .getfield 39, 3), (52, .iload_n 1, 1), (53, .iload_n 2, 1), (54, .invokevirtual 244, 3), (57, .aload_n 0, 1), (58, .getfield 39, 3), (61, .iload_n 1, 1), (62, .invokevirtual 181, 3), (65, .ireturn, 1)]
theorem dtX11_buy : tX11_buy.all (fun q => decide (decode cX11_buy q.1 = .ok (q.2.1, q.2.2))) = true := by decide +kernel
theorem npX11_buy : (parseMethodDescriptor (mY mX11_buy).desc).map (fun d => d.parameters.length) = some 2 := by decide +kernel
theorem vX11_buy : mV mX11_buy := ⟨wI_X11_buy, wS_X11_buy, wN_X11, wC_X11_buy, by decide +kernel, by decide +kernel⟩
set_option maxHeartbeats 4000000 in
set_option maxRecDepth 100000 in
theorem sX11_buy_x1 {h : HP} {t : Nat} {S : HS} {B : Int} {f : Int → Int} {q : Int} {d : Int} (c : CQ h t S B f) (hq : i32 q) (hd : i32 d) (kn : ¬ (0 ≤ q ∧ q < sNt S)) : SpecK mX11_buy [vr 30, vi q, vi d] h (fun o h' => o = .inr eNS ∧ FS h h') := by
  refine Spec_of (by decide +kernel) (Nat.le_of_ble_eq_true rfl) ?_
  have ht := c.1
  have hH := TTt ht
  have hB := c.2.2.2.1
  have hNt := hB.1
  have hNp := hB.2.1
  have hT := c.2.2.2.2.2.1
  have hC := c.2.2.2.2.2.2.1
  have h99 := c.2.2.2.2.2.2.2.1
  have G := c.2.2.2.2.2.2.2.2
  have hf0 := hT.2.2.2.1
  refine K_aload_n (dt_at dtX11_buy 0 rfl) rfl rfl ?_
  refine K_iload_n (dt_at dtX11_buy 1 rfl) rfl rfl ?_
  exact K_callV (M' := mX11_needThing) (a := 30) (ci := 11) (As := [vi q]) (st := []) (dt_at dtX11_buy 2 rfl) (sX11_needThing_no hH c.2.1 c.2.2.1.2.1.1 hNt (by assumption) (by omega)) (by decide) rfl wL_X11_172 vX11_needThing rfl npX11_needThing (by decide) (by decide) (Nat.le_of_ble_eq_true rfl) (by decide) (by decide) GK_E (fun v9 h9 hq => by cases hq.1) (fun E h9 hq => by obtain ⟨e9, e8⟩ := hq; cases e9; rw [e8]; exact KX_out (by decide) (by decide) ⟨rfl, FS_rf G⟩)
set_option maxHeartbeats 4000000 in
set_option maxRecDepth 100000 in
theorem sX11_buy_no {h : HP} {S : HS} {f : Int → Int} {C : AC} {N : SN} {im : Option SV} {tp : Int → Int} {nt : Nat} {rf : Int × Int × Int} {fl : Int} {q d : Int} (J : CI h (S, (f, C, N), im, tp, nt, rf, fl)) (hqt : 0 ≤ q ∧ q < sNt S) (hd : i32 d) (no : ¬ (1 ≤ d ∧ d ≤ 9 ∧ f (29 + q) + d ≤ 99)) : SpecK mX11_buy [vr 30, vi q, vi d] h (fun o h' => o = .inl (some (vi (-1))) ∧ CI h' (S, (f, C, N), im, tp, nt, (cn32 rf 1), fl) ∧ FM h h') := by
  refine Spec_of (by decide +kernel) (Nat.le_of_ble_eq_true rfl) ?_
  obtain ⟨t, ht_, i2, i3, i4, i5, i6, i7, i8, i9, i10⟩ := id J
  have c : CQ h t S 600 f := CI_CQ ht_ i2 i4 i5 i6 i7 i8
  have ht := c.1
  have hH := TTt ht
  have hB := c.2.2.2.1
  have hNt := hB.1
  have hNp := hB.2.1
  have hT := c.2.2.2.2.2.1
  have hC := c.2.2.2.2.2.2.1
  have h99 := c.2.2.2.2.2.2.2.1
  have G := c.2.2.2.2.2.2.2.2
  have hf0 := hT.2.2.2.1
  refine K_aload_n (dt_at dtX11_buy 0 rfl) rfl rfl ?_
  refine K_iload_n (dt_at dtX11_buy 1 rfl) rfl rfl ?_
  refine K_callV (M' := mX11_needThing) (a := 30) (ci := 11) (As := [vi q]) (st := []) (dt_at dtX11_buy 2 rfl) (sX11_needThing hH c.2.1 c.2.2.1.2.1.1 hNt (by first | assumption | exact ⟨by omega, by omega⟩) (by omega)) (by decide) rfl wL_X11_172 vX11_needThing rfl npX11_needThing (by decide) (by decide) (Nat.le_of_ble_eq_true rfl) (by decide) (by decide) GK_E (fun v9 h9 hq => ?_) (fun E h9 hq => by cases hq.1)
  obtain ⟨e9, e8⟩ := hq
  cases e9
  rw [e8]
  show K mX11_buy _ _ 1 6 5 [(0, vr 30), (1, vi q), (2, vi d)] [] h
  refine K_iload_n (dt_at dtX11_buy 3 rfl) rfl rfl ?_
  refine K_iconst (dt_at dtX11_buy 4 rfl) ?_
  refine K_icmp_lt (tgt := 31) (dt_at dtX11_buy 5 rfl) (by decide) (by first | assumption | exact ⟨by omega, by omega⟩) (by first | assumption | exact ⟨by omega, by omega⟩) (fun c1 => ?_) (fun c1 => ?_)
  · refine K_aload_n (dt_at dtX11_buy 17 rfl) rfl rfl ?_
    refine K_iconst (dt_at dtX11_buy 18 rfl) ?_
    refine K_callV (M' := mX11_refuse) (a := 30) (ci := 11) (As := [vi 1]) (st := []) (dt_at dtX11_buy 19 rfl) (sX11_refuse (by omega)) (by decide) rfl wL_X11_227 vX11_refuse rfl npX11_refuse (by decide) (by decide) (Nat.le_of_ble_eq_true rfl) (by decide) (by decide) GK_E (fun v9 hc1 hq => ?_) (fun E h9 hq => by cases hq.1)
    have hqq2 := hq
    obtain ⟨e9q2, e8q2⟩ := hqq2
    have CR := CI_ref J 1 (by decide) e8q2
    cases e9q2
    show K mX11_buy _ _ 1 6 36 [(0, vr 30), (1, vi q), (2, vi d)] [vi (-1)] hc1
    exact K_iret (dt_at dtX11_buy 20 rfl) rfl rfl (by decide) (by decide) ⟨rfl, CR⟩
  · refine K_iload_n (dt_at dtX11_buy 6 rfl) rfl rfl ?_
    refine K_bipush (dt_at dtX11_buy 7 rfl) (by decide) ?_
    refine K_icmp_gt (tgt := 31) (dt_at dtX11_buy 8 rfl) (by decide) (by first | assumption | exact ⟨by omega, by omega⟩) (by first | assumption | exact ⟨by omega, by omega⟩) (fun c2 => ?_) (fun c2 => ?_)
    · refine K_aload_n (dt_at dtX11_buy 17 rfl) rfl rfl ?_
      refine K_iconst (dt_at dtX11_buy 18 rfl) ?_
      refine K_callV (M' := mX11_refuse) (a := 30) (ci := 11) (As := [vi 1]) (st := []) (dt_at dtX11_buy 19 rfl) (sX11_refuse (by omega)) (by decide) rfl wL_X11_227 vX11_refuse rfl npX11_refuse (by decide) (by decide) (Nat.le_of_ble_eq_true rfl) (by decide) (by decide) GK_E (fun v9 hc3 hq => ?_) (fun E h9 hq => by cases hq.1)
      have hqq4 := hq
      obtain ⟨e9q4, e8q4⟩ := hqq4
      have CR := CI_ref J 1 (by decide) e8q4
      cases e9q4
      show K mX11_buy _ _ 1 6 36 [(0, vr 30), (1, vi q), (2, vi d)] [vi (-1)] hc3
      exact K_iret (dt_at dtX11_buy 20 rfl) rfl rfl (by decide) (by decide) ⟨rfl, CR⟩
    · refine K_aload_n (dt_at dtX11_buy 9 rfl) rfl rfl ?_
      refine K_get (a := 30) (ci := 11) (k := 5) (v := vr 66) (dt_at dtX11_buy 10 rfl) (by decide) rfl (by decide) wF_X11_39 rfl ?_
      refine K_iload_n (dt_at dtX11_buy 11 rfl) rfl rfl ?_
      refine K_callV (M' := mX8_stock) (a := 66) (ci := 8) (As := [vi q]) (st := []) (dt_at dtX11_buy 12 rfl) (sX8_stock (a := 66) (by decide) ⟨by omega, by omega⟩) (show TT 66 = (0, 8) from rfl) rfl wL_X11_181 vX8_stock rfl npX8_stock (by decide) (by decide) (Nat.le_of_ble_eq_true rfl) (by decide) (by decide) GK_E (fun v9 h9 hq => ?_) (fun E h9 hq => by cases hq.1)
      obtain ⟨e9, e8⟩ := hq
      cases e9
      rw [e8]
      show K mX11_buy _ _ 1 6 24 [(0, vr 30), (1, vi q), (2, vi d)] [vi (hA h (66 + 1) (29 + q))] h
      rw [show hA h (66 + 1) = f from c.2.2.2.2.1]
      refine K_iload_n (dt_at dtX11_buy 13 rfl) rfl rfl ?_
      refine K_iadd (dt_at dtX11_buy 14 rfl) ?_
      refine K_bipush (dt_at dtX11_buy 15 rfl) (by decide) ?_
      refine K_icmp_le (tgt := 37) (dt_at dtX11_buy 16 rfl) (by decide) (by have := hT.1.1 (29 + q) (by omega) (by omega); exact ⟨by omega, by omega⟩) (by first | assumption | exact ⟨by omega, by omega⟩) (fun c3 => ?_) (fun c3 => ?_)
      · exfalso; omega
      · refine K_aload_n (dt_at dtX11_buy 17 rfl) rfl rfl ?_
        refine K_iconst (dt_at dtX11_buy 18 rfl) ?_
        refine K_callV (M' := mX11_refuse) (a := 30) (ci := 11) (As := [vi 1]) (st := []) (dt_at dtX11_buy 19 rfl) (sX11_refuse (by omega)) (by decide) rfl wL_X11_227 vX11_refuse rfl npX11_refuse (by decide) (by decide) (Nat.le_of_ble_eq_true rfl) (by decide) (by decide) GK_E (fun v9 hc5 hq => ?_) (fun E h9 hq => by cases hq.1)
        have hqq6 := hq
        obtain ⟨e9q6, e8q6⟩ := hqq6
        have CR := CI_ref J 1 (by decide) e8q6
        cases e9q6
        show K mX11_buy _ _ 1 6 36 [(0, vr 30), (1, vi q), (2, vi d)] [vi (-1)] hc5
        exact K_iret (dt_at dtX11_buy 20 rfl) rfl rfl (by decide) (by decide) ⟨rfl, CR⟩
set_option maxHeartbeats 4000000 in
set_option maxRecDepth 100000 in
theorem sX11_buy {h : HP} {S : HS} {f : Int → Int} {C : AC} {N : SN} {im : Option SV} {tp : Int → Int} {nt : Nat} {rf : Int × Int × Int} {fl : Int} {q d : Int} (J : CI h (S, (f, C, N), im, tp, nt, rf, fl)) (hqt : 0 ≤ q ∧ q < sNt S) (hd : i32 d) (ok : 1 ≤ d ∧ d ≤ 9 ∧ f (29 + q) + d ≤ 99) (hO : rowOK S (upI f (29 + q) (f (29 + q) + d))) : SpecK mX11_buy [vr 30, vi q, vi d] h (fun o h' => o = .inl (some (vi ((upI f (29 + q) (f (29 + q) + d)) (29 + q)))) ∧ CI h' (S, (upI f (29 + q) (f (29 + q) + d), acP C f, N), im, tp, nt, rf, fl) ∧ FM h h') := by
  refine Spec_of (by decide +kernel) (Nat.le_of_ble_eq_true rfl) ?_
  obtain ⟨t, ht_, i2, i3, i4, i5, i6, i7, i8, i9, i10⟩ := id J
  have c : CQ h t S 600 f := CI_CQ ht_ i2 i4 i5 i6 i7 i8
  have ht := c.1
  have hH := TTt ht
  have hB := c.2.2.2.1
  have hNt := hB.1
  have hNp := hB.2.1
  have hT := c.2.2.2.2.2.1
  have hC := c.2.2.2.2.2.2.1
  have h99 := c.2.2.2.2.2.2.2.1
  have G := c.2.2.2.2.2.2.2.2
  have hf0 := hT.2.2.2.1
  refine K_aload_n (dt_at dtX11_buy 0 rfl) rfl rfl ?_
  refine K_iload_n (dt_at dtX11_buy 1 rfl) rfl rfl ?_
  refine K_callV (M' := mX11_needThing) (a := 30) (ci := 11) (As := [vi q]) (st := []) (dt_at dtX11_buy 2 rfl) (sX11_needThing hH c.2.1 c.2.2.1.2.1.1 hNt (by first | assumption | exact ⟨by omega, by omega⟩) (by omega)) (by decide) rfl wL_X11_172 vX11_needThing rfl npX11_needThing (by decide) (by decide) (Nat.le_of_ble_eq_true rfl) (by decide) (by decide) GK_E (fun v9 h9 hq => ?_) (fun E h9 hq => by cases hq.1)
  obtain ⟨e9, e8⟩ := hq
  cases e9
  rw [e8]
  show K mX11_buy _ _ 1 6 5 [(0, vr 30), (1, vi q), (2, vi d)] [] h
  refine K_iload_n (dt_at dtX11_buy 3 rfl) rfl rfl ?_
  refine K_iconst (dt_at dtX11_buy 4 rfl) ?_
  refine K_icmp_lt (tgt := 31) (dt_at dtX11_buy 5 rfl) (by decide) (by first | assumption | exact ⟨by omega, by omega⟩) (by first | assumption | exact ⟨by omega, by omega⟩) (fun c1 => absurd c1 (by omega)) (fun c1 => ?_)
  refine K_iload_n (dt_at dtX11_buy 6 rfl) rfl rfl ?_
  refine K_bipush (dt_at dtX11_buy 7 rfl) (by decide) ?_
  refine K_icmp_gt (tgt := 31) (dt_at dtX11_buy 8 rfl) (by decide) (by first | assumption | exact ⟨by omega, by omega⟩) (by first | assumption | exact ⟨by omega, by omega⟩) (fun c2 => absurd c2 (by omega)) (fun c2 => ?_)
  refine K_aload_n (dt_at dtX11_buy 9 rfl) rfl rfl ?_
  refine K_get (a := 30) (ci := 11) (k := 5) (v := vr 66) (dt_at dtX11_buy 10 rfl) (by decide) rfl (by decide) wF_X11_39 rfl ?_
  refine K_iload_n (dt_at dtX11_buy 11 rfl) rfl rfl ?_
  refine K_callV (M' := mX8_stock) (a := 66) (ci := 8) (As := [vi q]) (st := []) (dt_at dtX11_buy 12 rfl) (sX8_stock (a := 66) (by decide) ⟨by omega, by omega⟩) (show TT 66 = (0, 8) from rfl) rfl wL_X11_181 vX8_stock rfl npX8_stock (by decide) (by decide) (Nat.le_of_ble_eq_true rfl) (by decide) (by decide) GK_E (fun v9 h9 hq => ?_) (fun E h9 hq => by cases hq.1)
  obtain ⟨e9, e8⟩ := hq
  cases e9
  rw [e8]
  show K mX11_buy _ _ 1 6 24 [(0, vr 30), (1, vi q), (2, vi d)] [vi (hA h (66 + 1) (29 + q))] h
  rw [show hA h (66 + 1) = f from c.2.2.2.2.1]
  refine K_iload_n (dt_at dtX11_buy 13 rfl) rfl rfl ?_
  refine K_iadd (dt_at dtX11_buy 14 rfl) ?_
  refine K_bipush (dt_at dtX11_buy 15 rfl) (by decide) ?_
  refine K_icmp_le (tgt := 37) (dt_at dtX11_buy 16 rfl) (by decide) (by have := hT.1.1 (29 + q) (by omega) (by omega); exact ⟨by omega, by omega⟩) (by first | assumption | exact ⟨by omega, by omega⟩) (fun c3 => ?_) (fun c3 => absurd c3 (by omega))
  refine K_aload_n (dt_at dtX11_buy 21 rfl) rfl rfl ?_
  refine K_get (a := 30) (ci := 11) (k := 6) (v := vr 68) (dt_at dtX11_buy 22 rfl) (by decide) rfl (by decide) wF_X11_46 rfl ?_
  refine K_aload_n (dt_at dtX11_buy 23 rfl) rfl rfl ?_
  refine K_get (a := 30) (ci := 11) (k := 5) (v := vr 66) (dt_at dtX11_buy 24 rfl) (by decide) rfl (by decide) wF_X11_39 rfl ?_
  refine K_callV (M' := mX0_keep) (a := 68) (ci := 0) (As := [vr 66]) (st := []) (dt_at dtX11_buy 25 rfl) (sX0_keep i7.2.1 i7.1) (show TT 68 = (0, 0) from rfl) rfl wL_X11_230 vX0_keep rfl npX0_keep (by decide) (by decide) (Nat.le_of_ble_eq_true rfl) (by decide) (by decide) GK_E (fun v9 hc1 hq => ?_) (fun E h9 hq => by cases hq.1)
  have hqq2 := hq
  obtain ⟨e9q2, Kk, Fk, fk⟩ := hqq2
  have Xk := FX_FL Fk i6
  have ck := CQ_FX c Xk fk
  cases e9q2
  show K mX11_buy _ _ 1 6 48 [(0, vr 30), (1, vi q), (2, vi d)] [] hc1
  refine K_aload_n (dt_at dtX11_buy 26 rfl) rfl rfl ?_
  refine K_get (a := 30) (ci := 11) (k := 5) (v := vr 66) (dt_at dtX11_buy 27 rfl) (by decide) rfl (by decide) wF_X11_39 rfl ?_
  refine K_iload_n (dt_at dtX11_buy 28 rfl) rfl rfl ?_
  refine K_iload_n (dt_at dtX11_buy 29 rfl) rfl rfl ?_
  refine K_callV (M' := mX8_addStock) (a := 66) (ci := 8) (As := [vi q, vi d]) (st := []) (dt_at dtX11_buy 30 rfl) (sX8_addStock (a := 66) (by decide) ⟨by omega, by omega⟩) (show TT 66 = (0, 8) from rfl) rfl wL_X11_244 vX8_addStock rfl npX8_addStock (by decide) (by decide) (Nat.le_of_ble_eq_true rfl) (by decide) (by decide) GK_E (fun v9 hc3 hq => ?_) (fun E h9 hq => by cases hq.1)
  have hqq4 := hq
  obtain ⟨e9q4, e8q4⟩ := hqq4
  obtain ⟨az, fz, iz, rz⟩ := sA_fx e8q4
  rw [show hA hc1 (66 + 1) = f from ck.2.2.2.2.1] at az
  have Fz : FL [67, 69] [(68, 1), (68, 2)] [] hc1 hc3 := ⟨fun a_ ha => fz a_ (fun z => by rw [z] at ha; cases ha), fun a_ k ha => by rw [iz], fun a_ k ha => by rw [rz]⟩
  have XX := FX_tr Xk (FX_FL Fz Xk.2.2.2)
  have KK := acR_fr Kk (by rw [iz]) (by rw [iz]) (fz 69 (by decide))
  cases e9q4
  show K mX11_buy _ _ 1 6 57 [(0, vr 30), (1, vi q), (2, vi d)] [] hc3
  refine K_aload_n (dt_at dtX11_buy 31 rfl) rfl rfl ?_
  refine K_get (a := 30) (ci := 11) (k := 5) (v := vr 66) (dt_at dtX11_buy 32 rfl) (by decide) rfl (by decide) wF_X11_39 rfl ?_
  refine K_iload_n (dt_at dtX11_buy 33 rfl) rfl rfl ?_
  refine K_callV (M' := mX8_stock) (a := 66) (ci := 8) (As := [vi q]) (st := []) (dt_at dtX11_buy 34 rfl) (sX8_stock (a := 66) (by decide) ⟨by omega, by omega⟩) (show TT 66 = (0, 8) from rfl) rfl wL_X11_181 vX8_stock rfl npX8_stock (by decide) (by decide) (Nat.le_of_ble_eq_true rfl) (by decide) (by decide) GK_E (fun v9 h9 hq => ?_) (fun E h9 hq => by cases hq.1)
  obtain ⟨e9, e8⟩ := hq
  cases e9
  rw [e8]
  show K mX11_buy _ _ 1 6 65 [(0, vr 30), (1, vi q), (2, vi d)] [vi (hA hc3 (66 + 1) (29 + q))] hc3
  rw [show hA hc3 (66 + 1) = (upI f (29 + q) (f (29 + q) + d)) from az]
  exact K_iret (dt_at dtX11_buy 35 rfl) rfl rfl (by decide) (by decide) ⟨rfl, CI_act J XX az KK hO (acP_ok i8.1 i8.2.1 (acR_le i7.2.1))⟩
def mX11_packer : MI := (yX11_packer, cX11_packer, 4, (some .int), rmK 8 2)
def tX11_packer : List (Nat × Instr × Nat) := [(0, .aload_n 0, 1), (1, .iload_n 1, 1), (2, .invokevirtual 184, 3), (5, .iload_n 2, 1), (6, .iconst (-1), 1), (7, .if_icmp .eq 8, 3), (10, .aload_n 0, 1), (11, .iload_n 2, 1), (12, .invokevirtual 184, 3), (15, .aload_n 0, 1), (16, .getfield 39, 3), (19, .iload_n 1, 1), (20, .invokevirtual 199, 3), (23, .istore_n 3, 1), (24, .iload_n 2, 1), (25, .iload_n 3, 1), (26, .if_icmp .eq 8, 3), (29, .iload_n 2, 1), (30, .iload_n 1, 1), (31, .if_icmp .ne 12, 3), (34, .aload_n 0, 1), (35, .iconst 1, 1), (36, .invokevirtual 227, 3), (39, .pop, 1), (40, .bipush (-2), 2), (42, .ireturn, 1), (43, .aload_n 0, 1), (44, .getfield 46, 3), (47, .aload_n 0, 1), (48, .getfield 39, 3), (51, .invokevirtual 230, 3), (54, .aload_n 0, 1), (55, .getfield 39, 3), (58, .iload_n 1, 1), (59, .iload_n 2, 1), (60, .invokevirtual 247, 3), (63, .iload_n 3, 1), (64, .ireturn, 1)]
theorem dtX11_packer : tX11_packer.all (fun q => decide (decode cX11_packer q.1 = .ok (q.2.1, q.2.2))) = true := by decide +kernel
theorem npX11_packer : (parseMethodDescriptor (mY mX11_packer).desc).map (fun d => d.parameters.length) = some 2 := by decide +kernel
theorem vX11_packer : mV mX11_packer := ⟨wI_X11_packer, wS_X11_packer, wN_X11, wC_X11_packer, by decide +kernel, by decide +kernel⟩
set_option maxHeartbeats 4000000 in
set_option maxRecDepth 100000 in
theorem sX11_packer_x1 {h : HP} {t : Nat} {S : HS} {B : Int} {f : Int → Int} {p q : Int} (c : CQ h t S B f) (hp_ : i32 p) (hq_ : i32 q) (kn : ¬ (0 ≤ p ∧ p < sNp S)) : SpecK mX11_packer [vr 30, vi p, vi q] h (fun o h' => o = .inr eNS ∧ FS h h') := by
  refine Spec_of (by decide +kernel) (Nat.le_of_ble_eq_true rfl) ?_
  have ht := c.1
  have hH := TTt ht
  have hB := c.2.2.2.1
  have hNt := hB.1
  have hNp := hB.2.1
  have hT := c.2.2.2.2.2.1
  have hC := c.2.2.2.2.2.2.1
  have h99 := c.2.2.2.2.2.2.2.1
  have G := c.2.2.2.2.2.2.2.2
  have hf0 := hT.2.2.2.1
  refine K_aload_n (dt_at dtX11_packer 0 rfl) rfl rfl ?_
  refine K_iload_n (dt_at dtX11_packer 1 rfl) rfl rfl ?_
  exact K_callV (M' := mX11_needPerson) (a := 30) (ci := 11) (As := [vi p]) (st := []) (dt_at dtX11_packer 2 rfl) (sX11_needPerson_no hH c.2.1 c.2.2.1.2.1.2 hNp (by assumption) (by omega)) (by decide) rfl wL_X11_184 vX11_needPerson rfl npX11_needPerson (by decide) (by decide) (Nat.le_of_ble_eq_true rfl) (by decide) (by decide) GK_E (fun v9 h9 hq => by cases hq.1) (fun E h9 hq => by obtain ⟨e9, e8⟩ := hq; cases e9; rw [e8]; exact KX_out (by decide) (by decide) ⟨rfl, FS_rf G⟩)
set_option maxHeartbeats 4000000 in
set_option maxRecDepth 100000 in
theorem sX11_packer_x2 {h : HP} {t : Nat} {S : HS} {B : Int} {f : Int → Int} {p q : Int} (c : CQ h t S B f) (hp_ : i32 p) (hq_ : i32 q) (k0 : 0 ≤ p ∧ p < sNp S) (k1 : q ≠ -1) (kn : ¬ (0 ≤ q ∧ q < sNp S)) : SpecK mX11_packer [vr 30, vi p, vi q] h (fun o h' => o = .inr eNS ∧ FS h h') := by
  refine Spec_of (by decide +kernel) (Nat.le_of_ble_eq_true rfl) ?_
  have ht := c.1
  have hH := TTt ht
  have hB := c.2.2.2.1
  have hNt := hB.1
  have hNp := hB.2.1
  have hT := c.2.2.2.2.2.1
  have hC := c.2.2.2.2.2.2.1
  have h99 := c.2.2.2.2.2.2.2.1
  have G := c.2.2.2.2.2.2.2.2
  have hf0 := hT.2.2.2.1
  refine K_aload_n (dt_at dtX11_packer 0 rfl) rfl rfl ?_
  refine K_iload_n (dt_at dtX11_packer 1 rfl) rfl rfl ?_
  refine K_callV (M' := mX11_needPerson) (a := 30) (ci := 11) (As := [vi p]) (st := []) (dt_at dtX11_packer 2 rfl) (sX11_needPerson hH c.2.1 c.2.2.1.2.1.2 hNp (by first | assumption | exact ⟨by omega, by omega⟩) (by omega)) (by decide) rfl wL_X11_184 vX11_needPerson rfl npX11_needPerson (by decide) (by decide) (Nat.le_of_ble_eq_true rfl) (by decide) (by decide) GK_E (fun v9 h9 hq => ?_) (fun E h9 hq => by cases hq.1)
  obtain ⟨e9, e8⟩ := hq
  cases e9
  rw [e8]
  show K mX11_packer _ _ 1 6 5 [(0, vr 30), (1, vi p), (2, vi q)] [] h
  refine K_iload_n (dt_at dtX11_packer 3 rfl) rfl rfl ?_
  refine K_iconst (dt_at dtX11_packer 4 rfl) ?_
  refine K_icmp_eq (tgt := 15) (dt_at dtX11_packer 5 rfl) (by decide) (by first | assumption | exact ⟨by omega, by omega⟩) (by first | assumption | exact ⟨by omega, by omega⟩) (fun c1 => absurd c1 (by omega)) (fun c1 => ?_)
  refine K_aload_n (dt_at dtX11_packer 6 rfl) rfl rfl ?_
  refine K_iload_n (dt_at dtX11_packer 7 rfl) rfl rfl ?_
  exact K_callV (M' := mX11_needPerson) (a := 30) (ci := 11) (As := [vi q]) (st := []) (dt_at dtX11_packer 8 rfl) (sX11_needPerson_no hH c.2.1 c.2.2.1.2.1.2 hNp (by assumption) (by omega)) (by decide) rfl wL_X11_184 vX11_needPerson rfl npX11_needPerson (by decide) (by decide) (Nat.le_of_ble_eq_true rfl) (by decide) (by decide) GK_E (fun v9 h9 hq => by cases hq.1) (fun E h9 hq => by obtain ⟨e9, e8⟩ := hq; cases e9; rw [e8]; exact KX_out (by decide) (by decide) ⟨rfl, FS_rf G⟩)
set_option maxHeartbeats 4000000 in
set_option maxRecDepth 100000 in
theorem sX11_packer_no {h : HP} {S : HS} {f : Int → Int} {C : AC} {N : SN} {im : Option SV} {tp : Int → Int} {nt : Nat} {rf : Int × Int × Int} {fl : Int} {p q : Int} (J : CI h (S, (f, C, N), im, tp, nt, rf, fl)) (hp : 0 ≤ p ∧ p < sNp S) (hqt : -1 ≤ q ∧ q < sNp S) (no : q = f (22 + p) ∨ q = p) : SpecK mX11_packer [vr 30, vi p, vi q] h (fun o h' => o = .inl (some (vi (-2))) ∧ CI h' (S, (f, C, N), im, tp, nt, (cn32 rf 1), fl) ∧ FM h h') := by
  refine Spec_of (by decide +kernel) (Nat.le_of_ble_eq_true rfl) ?_
  obtain ⟨t, ht_, i2, i3, i4, i5, i6, i7, i8, i9, i10⟩ := id J
  have c : CQ h t S 600 f := CI_CQ ht_ i2 i4 i5 i6 i7 i8
  have ht := c.1
  have hH := TTt ht
  have hB := c.2.2.2.1
  have hNt := hB.1
  have hNp := hB.2.1
  have hT := c.2.2.2.2.2.1
  have hC := c.2.2.2.2.2.2.1
  have h99 := c.2.2.2.2.2.2.2.1
  have G := c.2.2.2.2.2.2.2.2
  have hf0 := hT.2.2.2.1
  refine K_aload_n (dt_at dtX11_packer 0 rfl) rfl rfl ?_
  refine K_iload_n (dt_at dtX11_packer 1 rfl) rfl rfl ?_
  refine K_callV (M' := mX11_needPerson) (a := 30) (ci := 11) (As := [vi p]) (st := []) (dt_at dtX11_packer 2 rfl) (sX11_needPerson hH c.2.1 c.2.2.1.2.1.2 hNp (by first | assumption | exact ⟨by omega, by omega⟩) (by omega)) (by decide) rfl wL_X11_184 vX11_needPerson rfl npX11_needPerson (by decide) (by decide) (Nat.le_of_ble_eq_true rfl) (by decide) (by decide) GK_E (fun v9 h9 hq => ?_) (fun E h9 hq => by cases hq.1)
  obtain ⟨e9, e8⟩ := hq
  cases e9
  rw [e8]
  show K mX11_packer _ _ 1 6 5 [(0, vr 30), (1, vi p), (2, vi q)] [] h
  refine K_iload_n (dt_at dtX11_packer 3 rfl) rfl rfl ?_
  refine K_iconst (dt_at dtX11_packer 4 rfl) ?_
  refine K_icmp_eq (tgt := 15) (dt_at dtX11_packer 5 rfl) (by decide) (by first | assumption | exact ⟨by omega, by omega⟩) (by first | assumption | exact ⟨by omega, by omega⟩) (fun c1 => ?_) (fun c1 => ?_)
  · refine K_aload_n (dt_at dtX11_packer 9 rfl) rfl rfl ?_
    refine K_get (a := 30) (ci := 11) (k := 5) (v := vr 66) (dt_at dtX11_packer 10 rfl) (by decide) rfl (by decide) wF_X11_39 rfl ?_
    refine K_iload_n (dt_at dtX11_packer 11 rfl) rfl rfl ?_
    refine K_callV (M' := mX8_packerOf) (a := 66) (ci := 8) (As := [vi p]) (st := []) (dt_at dtX11_packer 12 rfl) (sX8_packerOf (a := 66) (by decide) ⟨by omega, by omega⟩) (show TT 66 = (0, 8) from rfl) rfl wL_X11_199 vX8_packerOf rfl npX8_packerOf (by decide) (by decide) (Nat.le_of_ble_eq_true rfl) (by decide) (by decide) GK_E (fun v9 h9 hq => ?_) (fun E h9 hq => by cases hq.1)
    obtain ⟨e9, e8⟩ := hq
    cases e9
    rw [e8]
    show K mX11_packer _ _ 1 6 23 [(0, vr 30), (1, vi p), (2, vi q)] [vi (hA h (66 + 1) (22 + p))] h
    rw [show hA h (66 + 1) = f from c.2.2.2.2.1]
    refine K_istore_n (ls' := [(3, vi (f (22 + p))), (0, vr 30), (1, vi p), (2, vi q)]) (dt_at dtX11_packer 13 rfl) rfl (by decide) rfl ?_
    refine K_iload_n (dt_at dtX11_packer 14 rfl) rfl rfl ?_
    refine K_iload_n (dt_at dtX11_packer 15 rfl) rfl rfl ?_
    refine K_icmp_eq (tgt := 34) (dt_at dtX11_packer 16 rfl) (by decide) (by first | assumption | exact ⟨by omega, by omega⟩) (by have := (hT.1.2 p (by omega) (by omega)).2.2.2; exact ⟨by omega, by omega⟩) (fun c2 => ?_) (fun c2 => ?_)
    · refine K_aload_n (dt_at dtX11_packer 20 rfl) rfl rfl ?_
      refine K_iconst (dt_at dtX11_packer 21 rfl) ?_
      refine K_callV (M' := mX11_refuse) (a := 30) (ci := 11) (As := [vi 1]) (st := []) (dt_at dtX11_packer 22 rfl) (sX11_refuse (by omega)) (by decide) rfl wL_X11_227 vX11_refuse rfl npX11_refuse (by decide) (by decide) (Nat.le_of_ble_eq_true rfl) (by decide) (by decide) GK_E (fun v9 hc1 hq => ?_) (fun E h9 hq => by cases hq.1)
      have hqq2 := hq
      obtain ⟨e9q2, e8q2⟩ := hqq2
      have CR := CI_ref J 1 (by decide) e8q2
      cases e9q2
      show K mX11_packer _ _ 1 6 39 [(3, vi (f (22 + p))), (0, vr 30), (1, vi p), (2, vi q)] [vi (-1)] hc1
      refine K_pop (dt_at dtX11_packer 23 rfl) rfl ?_
      refine K_bipush (dt_at dtX11_packer 24 rfl) (by decide) ?_
      exact K_iret (dt_at dtX11_packer 25 rfl) rfl rfl (by decide) (by decide) ⟨rfl, CR⟩
    · refine K_iload_n (dt_at dtX11_packer 17 rfl) rfl rfl ?_
      refine K_iload_n (dt_at dtX11_packer 18 rfl) rfl rfl ?_
      refine K_icmp_ne (tgt := 43) (dt_at dtX11_packer 19 rfl) (by decide) (by first | assumption | exact ⟨by omega, by omega⟩) (by first | assumption | exact ⟨by omega, by omega⟩) (fun c3 => ?_) (fun c3 => ?_)
      · exfalso; omega
      · refine K_aload_n (dt_at dtX11_packer 20 rfl) rfl rfl ?_
        refine K_iconst (dt_at dtX11_packer 21 rfl) ?_
        refine K_callV (M' := mX11_refuse) (a := 30) (ci := 11) (As := [vi 1]) (st := []) (dt_at dtX11_packer 22 rfl) (sX11_refuse (by omega)) (by decide) rfl wL_X11_227 vX11_refuse rfl npX11_refuse (by decide) (by decide) (Nat.le_of_ble_eq_true rfl) (by decide) (by decide) GK_E (fun v9 hc3 hq => ?_) (fun E h9 hq => by cases hq.1)
        have hqq4 := hq
        obtain ⟨e9q4, e8q4⟩ := hqq4
        have CR := CI_ref J 1 (by decide) e8q4
        cases e9q4
        show K mX11_packer _ _ 1 6 39 [(3, vi (f (22 + p))), (0, vr 30), (1, vi p), (2, vi q)] [vi (-1)] hc3
        refine K_pop (dt_at dtX11_packer 23 rfl) rfl ?_
        refine K_bipush (dt_at dtX11_packer 24 rfl) (by decide) ?_
        exact K_iret (dt_at dtX11_packer 25 rfl) rfl rfl (by decide) (by decide) ⟨rfl, CR⟩
  · refine K_aload_n (dt_at dtX11_packer 6 rfl) rfl rfl ?_
    refine K_iload_n (dt_at dtX11_packer 7 rfl) rfl rfl ?_
    refine K_callV (M' := mX11_needPerson) (a := 30) (ci := 11) (As := [vi q]) (st := []) (dt_at dtX11_packer 8 rfl) (sX11_needPerson hH c.2.1 c.2.2.1.2.1.2 hNp (by first | assumption | exact ⟨by omega, by omega⟩) (by omega)) (by decide) rfl wL_X11_184 vX11_needPerson rfl npX11_needPerson (by decide) (by decide) (Nat.le_of_ble_eq_true rfl) (by decide) (by decide) GK_E (fun v9 h9 hq => ?_) (fun E h9 hq => by cases hq.1)
    obtain ⟨e9, e8⟩ := hq
    cases e9
    rw [e8]
    show K mX11_packer _ _ 2 12 15 [(0, vr 30), (1, vi p), (2, vi q)] [] h
    refine K_aload_n (dt_at dtX11_packer 9 rfl) rfl rfl ?_
    refine K_get (a := 30) (ci := 11) (k := 5) (v := vr 66) (dt_at dtX11_packer 10 rfl) (by decide) rfl (by decide) wF_X11_39 rfl ?_
    refine K_iload_n (dt_at dtX11_packer 11 rfl) rfl rfl ?_
    refine K_callV (M' := mX8_packerOf) (a := 66) (ci := 8) (As := [vi p]) (st := []) (dt_at dtX11_packer 12 rfl) (sX8_packerOf (a := 66) (by decide) ⟨by omega, by omega⟩) (show TT 66 = (0, 8) from rfl) rfl wL_X11_199 vX8_packerOf rfl npX8_packerOf (by decide) (by decide) (Nat.le_of_ble_eq_true rfl) (by decide) (by decide) GK_E (fun v9 h9 hq => ?_) (fun E h9 hq => by cases hq.1)
    obtain ⟨e9, e8⟩ := hq
    cases e9
    rw [e8]
    show K mX11_packer _ _ 2 12 23 [(0, vr 30), (1, vi p), (2, vi q)] [vi (hA h (66 + 1) (22 + p))] h
    rw [show hA h (66 + 1) = f from c.2.2.2.2.1]
    refine K_istore_n (ls' := [(3, vi (f (22 + p))), (0, vr 30), (1, vi p), (2, vi q)]) (dt_at dtX11_packer 13 rfl) rfl (by decide) rfl ?_
    refine K_iload_n (dt_at dtX11_packer 14 rfl) rfl rfl ?_
    refine K_iload_n (dt_at dtX11_packer 15 rfl) rfl rfl ?_
    refine K_icmp_eq (tgt := 34) (dt_at dtX11_packer 16 rfl) (by decide) (by first | assumption | exact ⟨by omega, by omega⟩) (by have := (hT.1.2 p (by omega) (by omega)).2.2.2; exact ⟨by omega, by omega⟩) (fun c4 => ?_) (fun c4 => ?_)
    · refine K_aload_n (dt_at dtX11_packer 20 rfl) rfl rfl ?_
      refine K_iconst (dt_at dtX11_packer 21 rfl) ?_
      refine K_callV (M' := mX11_refuse) (a := 30) (ci := 11) (As := [vi 1]) (st := []) (dt_at dtX11_packer 22 rfl) (sX11_refuse (by omega)) (by decide) rfl wL_X11_227 vX11_refuse rfl npX11_refuse (by decide) (by decide) (Nat.le_of_ble_eq_true rfl) (by decide) (by decide) GK_E (fun v9 hc5 hq => ?_) (fun E h9 hq => by cases hq.1)
      have hqq6 := hq
      obtain ⟨e9q6, e8q6⟩ := hqq6
      have CR := CI_ref J 1 (by decide) e8q6
      cases e9q6
      show K mX11_packer _ _ 2 12 39 [(3, vi (f (22 + p))), (0, vr 30), (1, vi p), (2, vi q)] [vi (-1)] hc5
      refine K_pop (dt_at dtX11_packer 23 rfl) rfl ?_
      refine K_bipush (dt_at dtX11_packer 24 rfl) (by decide) ?_
      exact K_iret (dt_at dtX11_packer 25 rfl) rfl rfl (by decide) (by decide) ⟨rfl, CR⟩
    · refine K_iload_n (dt_at dtX11_packer 17 rfl) rfl rfl ?_
      refine K_iload_n (dt_at dtX11_packer 18 rfl) rfl rfl ?_
      refine K_icmp_ne (tgt := 43) (dt_at dtX11_packer 19 rfl) (by decide) (by first | assumption | exact ⟨by omega, by omega⟩) (by first | assumption | exact ⟨by omega, by omega⟩) (fun c5 => ?_) (fun c5 => ?_)
      · exfalso; omega
      · refine K_aload_n (dt_at dtX11_packer 20 rfl) rfl rfl ?_
        refine K_iconst (dt_at dtX11_packer 21 rfl) ?_
        refine K_callV (M' := mX11_refuse) (a := 30) (ci := 11) (As := [vi 1]) (st := []) (dt_at dtX11_packer 22 rfl) (sX11_refuse (by omega)) (by decide) rfl wL_X11_227 vX11_refuse rfl npX11_refuse (by decide) (by decide) (Nat.le_of_ble_eq_true rfl) (by decide) (by decide) GK_E (fun v9 hc7 hq => ?_) (fun E h9 hq => by cases hq.1)
        have hqq8 := hq
        obtain ⟨e9q8, e8q8⟩ := hqq8
        have CR := CI_ref J 1 (by decide) e8q8
        cases e9q8
        show K mX11_packer _ _ 2 12 39 [(3, vi (f (22 + p))), (0, vr 30), (1, vi p), (2, vi q)] [vi (-1)] hc7
        refine K_pop (dt_at dtX11_packer 23 rfl) rfl ?_
        refine K_bipush (dt_at dtX11_packer 24 rfl) (by decide) ?_
        exact K_iret (dt_at dtX11_packer 25 rfl) rfl rfl (by decide) (by decide) ⟨rfl, CR⟩
set_option maxHeartbeats 4000000 in
set_option maxRecDepth 100000 in
theorem sX11_packer {h : HP} {S : HS} {f : Int → Int} {C : AC} {N : SN} {im : Option SV} {tp : Int → Int} {nt : Nat} {rf : Int × Int × Int} {fl : Int} {p q : Int} (J : CI h (S, (f, C, N), im, tp, nt, rf, fl)) (hp : 0 ≤ p ∧ p < sNp S) (hqt : -1 ≤ q ∧ q < sNp S) (no : ¬ (q = f (22 + p) ∨ q = p)) (hO : rowOK S (upI f (22 + p) q)) : SpecK mX11_packer [vr 30, vi p, vi q] h (fun o h' => o = .inl (some (vi (f (22 + p)))) ∧ CI h' (S, (upI f (22 + p) q, acP C f, N), im, tp, nt, rf, fl) ∧ FM h h') := by
  refine Spec_of (by decide +kernel) (Nat.le_of_ble_eq_true rfl) ?_
  obtain ⟨t, ht_, i2, i3, i4, i5, i6, i7, i8, i9, i10⟩ := id J
  have c : CQ h t S 600 f := CI_CQ ht_ i2 i4 i5 i6 i7 i8
  have ht := c.1
  have hH := TTt ht
  have hB := c.2.2.2.1
  have hNt := hB.1
  have hNp := hB.2.1
  have hT := c.2.2.2.2.2.1
  have hC := c.2.2.2.2.2.2.1
  have h99 := c.2.2.2.2.2.2.2.1
  have G := c.2.2.2.2.2.2.2.2
  have hf0 := hT.2.2.2.1
  refine K_aload_n (dt_at dtX11_packer 0 rfl) rfl rfl ?_
  refine K_iload_n (dt_at dtX11_packer 1 rfl) rfl rfl ?_
  refine K_callV (M' := mX11_needPerson) (a := 30) (ci := 11) (As := [vi p]) (st := []) (dt_at dtX11_packer 2 rfl) (sX11_needPerson hH c.2.1 c.2.2.1.2.1.2 hNp (by first | assumption | exact ⟨by omega, by omega⟩) (by omega)) (by decide) rfl wL_X11_184 vX11_needPerson rfl npX11_needPerson (by decide) (by decide) (Nat.le_of_ble_eq_true rfl) (by decide) (by decide) GK_E (fun v9 h9 hq => ?_) (fun E h9 hq => by cases hq.1)
  obtain ⟨e9, e8⟩ := hq
  cases e9
  rw [e8]
  show K mX11_packer _ _ 1 6 5 [(0, vr 30), (1, vi p), (2, vi q)] [] h
  refine K_iload_n (dt_at dtX11_packer 3 rfl) rfl rfl ?_
  refine K_iconst (dt_at dtX11_packer 4 rfl) ?_
  refine K_icmp_eq (tgt := 15) (dt_at dtX11_packer 5 rfl) (by decide) (by first | assumption | exact ⟨by omega, by omega⟩) (by first | assumption | exact ⟨by omega, by omega⟩) (fun c1 => ?_) (fun c1 => ?_)
  · refine K_aload_n (dt_at dtX11_packer 9 rfl) rfl rfl ?_
    refine K_get (a := 30) (ci := 11) (k := 5) (v := vr 66) (dt_at dtX11_packer 10 rfl) (by decide) rfl (by decide) wF_X11_39 rfl ?_
    refine K_iload_n (dt_at dtX11_packer 11 rfl) rfl rfl ?_
    refine K_callV (M' := mX8_packerOf) (a := 66) (ci := 8) (As := [vi p]) (st := []) (dt_at dtX11_packer 12 rfl) (sX8_packerOf (a := 66) (by decide) ⟨by omega, by omega⟩) (show TT 66 = (0, 8) from rfl) rfl wL_X11_199 vX8_packerOf rfl npX8_packerOf (by decide) (by decide) (Nat.le_of_ble_eq_true rfl) (by decide) (by decide) GK_E (fun v9 h9 hq => ?_) (fun E h9 hq => by cases hq.1)
    obtain ⟨e9, e8⟩ := hq
    cases e9
    rw [e8]
    show K mX11_packer _ _ 1 6 23 [(0, vr 30), (1, vi p), (2, vi q)] [vi (hA h (66 + 1) (22 + p))] h
    rw [show hA h (66 + 1) = f from c.2.2.2.2.1]
    refine K_istore_n (ls' := [(3, vi (f (22 + p))), (0, vr 30), (1, vi p), (2, vi q)]) (dt_at dtX11_packer 13 rfl) rfl (by decide) rfl ?_
    refine K_iload_n (dt_at dtX11_packer 14 rfl) rfl rfl ?_
    refine K_iload_n (dt_at dtX11_packer 15 rfl) rfl rfl ?_
    refine K_icmp_eq (tgt := 34) (dt_at dtX11_packer 16 rfl) (by decide) (by first | assumption | exact ⟨by omega, by omega⟩) (by have := (hT.1.2 p (by omega) (by omega)).2.2.2; exact ⟨by omega, by omega⟩) (fun c2 => ?_) (fun c2 => ?_)
    · exfalso; omega
    · refine K_iload_n (dt_at dtX11_packer 17 rfl) rfl rfl ?_
      refine K_iload_n (dt_at dtX11_packer 18 rfl) rfl rfl ?_
      refine K_icmp_ne (tgt := 43) (dt_at dtX11_packer 19 rfl) (by decide) (by first | assumption | exact ⟨by omega, by omega⟩) (by first | assumption | exact ⟨by omega, by omega⟩) (fun c3 => ?_) (fun c3 => ?_)
      · refine K_aload_n (dt_at dtX11_packer 26 rfl) rfl rfl ?_
        refine K_get (a := 30) (ci := 11) (k := 6) (v := vr 68) (dt_at dtX11_packer 27 rfl) (by decide) rfl (by decide) wF_X11_46 rfl ?_
        refine K_aload_n (dt_at dtX11_packer 28 rfl) rfl rfl ?_
        refine K_get (a := 30) (ci := 11) (k := 5) (v := vr 66) (dt_at dtX11_packer 29 rfl) (by decide) rfl (by decide) wF_X11_39 rfl ?_
        refine K_callV (M' := mX0_keep) (a := 68) (ci := 0) (As := [vr 66]) (st := []) (dt_at dtX11_packer 30 rfl) (sX0_keep i7.2.1 i7.1) (show TT 68 = (0, 0) from rfl) rfl wL_X11_230 vX0_keep rfl npX0_keep (by decide) (by decide) (Nat.le_of_ble_eq_true rfl) (by decide) (by decide) GK_E (fun v9 hc1 hq => ?_) (fun E h9 hq => by cases hq.1)
        have hqq2 := hq
        obtain ⟨e9q2, Kk, Fk, fk⟩ := hqq2
        have Xk := FX_FL Fk i6
        have ck := CQ_FX c Xk fk
        cases e9q2
        show K mX11_packer _ _ 1 6 54 [(3, vi (f (22 + p))), (0, vr 30), (1, vi p), (2, vi q)] [] hc1
        refine K_aload_n (dt_at dtX11_packer 31 rfl) rfl rfl ?_
        refine K_get (a := 30) (ci := 11) (k := 5) (v := vr 66) (dt_at dtX11_packer 32 rfl) (by decide) rfl (by decide) wF_X11_39 rfl ?_
        refine K_iload_n (dt_at dtX11_packer 33 rfl) rfl rfl ?_
        refine K_iload_n (dt_at dtX11_packer 34 rfl) rfl rfl ?_
        refine K_callV (M' := mX8_setPacker) (a := 66) (ci := 8) (As := [vi p, vi q]) (st := []) (dt_at dtX11_packer 35 rfl) (sX8_setPacker (a := 66) (by decide) ⟨by omega, by omega⟩) (show TT 66 = (0, 8) from rfl) rfl wL_X11_247 vX8_setPacker rfl npX8_setPacker (by decide) (by decide) (Nat.le_of_ble_eq_true rfl) (by decide) (by decide) GK_E (fun v9 hc3 hq => ?_) (fun E h9 hq => by cases hq.1)
        have hqq4 := hq
        obtain ⟨e9q4, e8q4⟩ := hqq4
        obtain ⟨az, fz, iz, rz⟩ := sA_fx e8q4
        rw [show hA hc1 (66 + 1) = f from ck.2.2.2.2.1] at az
        have Fz : FL [67, 69] [(68, 1), (68, 2)] [] hc1 hc3 := ⟨fun a_ ha => fz a_ (fun z => by rw [z] at ha; cases ha), fun a_ k ha => by rw [iz], fun a_ k ha => by rw [rz]⟩
        have XX := FX_tr Xk (FX_FL Fz Xk.2.2.2)
        have KK := acR_fr Kk (by rw [iz]) (by rw [iz]) (fz 69 (by decide))
        cases e9q4
        show K mX11_packer _ _ 1 6 63 [(3, vi (f (22 + p))), (0, vr 30), (1, vi p), (2, vi q)] [] hc3
        refine K_iload_n (dt_at dtX11_packer 36 rfl) rfl rfl ?_
        exact K_iret (dt_at dtX11_packer 37 rfl) rfl rfl (by decide) (by decide) ⟨rfl, CI_act J XX az KK hO (acP_ok i8.1 i8.2.1 (acR_le i7.2.1))⟩
      · exfalso; omega
  · refine K_aload_n (dt_at dtX11_packer 6 rfl) rfl rfl ?_
    refine K_iload_n (dt_at dtX11_packer 7 rfl) rfl rfl ?_
    refine K_callV (M' := mX11_needPerson) (a := 30) (ci := 11) (As := [vi q]) (st := []) (dt_at dtX11_packer 8 rfl) (sX11_needPerson hH c.2.1 c.2.2.1.2.1.2 hNp (by first | assumption | exact ⟨by omega, by omega⟩) (by omega)) (by decide) rfl wL_X11_184 vX11_needPerson rfl npX11_needPerson (by decide) (by decide) (Nat.le_of_ble_eq_true rfl) (by decide) (by decide) GK_E (fun v9 h9 hq => ?_) (fun E h9 hq => by cases hq.1)
    obtain ⟨e9, e8⟩ := hq
    cases e9
    rw [e8]
    show K mX11_packer _ _ 2 12 15 [(0, vr 30), (1, vi p), (2, vi q)] [] h
    refine K_aload_n (dt_at dtX11_packer 9 rfl) rfl rfl ?_
    refine K_get (a := 30) (ci := 11) (k := 5) (v := vr 66) (dt_at dtX11_packer 10 rfl) (by decide) rfl (by decide) wF_X11_39 rfl ?_
    refine K_iload_n (dt_at dtX11_packer 11 rfl) rfl rfl ?_
    refine K_callV (M' := mX8_packerOf) (a := 66) (ci := 8) (As := [vi p]) (st := []) (dt_at dtX11_packer 12 rfl) (sX8_packerOf (a := 66) (by decide) ⟨by omega, by omega⟩) (show TT 66 = (0, 8) from rfl) rfl wL_X11_199 vX8_packerOf rfl npX8_packerOf (by decide) (by decide) (Nat.le_of_ble_eq_true rfl) (by decide) (by decide) GK_E (fun v9 h9 hq => ?_) (fun E h9 hq => by cases hq.1)
    obtain ⟨e9, e8⟩ := hq
    cases e9
    rw [e8]
    show K mX11_packer _ _ 2 12 23 [(0, vr 30), (1, vi p), (2, vi q)] [vi (hA h (66 + 1) (22 + p))] h
    rw [show hA h (66 + 1) = f from c.2.2.2.2.1]
    refine K_istore_n (ls' := [(3, vi (f (22 + p))), (0, vr 30), (1, vi p), (2, vi q)]) (dt_at dtX11_packer 13 rfl) rfl (by decide) rfl ?_
    refine K_iload_n (dt_at dtX11_packer 14 rfl) rfl rfl ?_
    refine K_iload_n (dt_at dtX11_packer 15 rfl) rfl rfl ?_
    refine K_icmp_eq (tgt := 34) (dt_at dtX11_packer 16 rfl) (by decide) (by first | assumption | exact ⟨by omega, by omega⟩) (by have := (hT.1.2 p (by omega) (by omega)).2.2.2; exact ⟨by omega, by omega⟩) (fun c4 => ?_) (fun c4 => ?_)
    · exfalso; omega
    · refine K_iload_n (dt_at dtX11_packer 17 rfl) rfl rfl ?_
      refine K_iload_n (dt_at dtX11_packer 18 rfl) rfl rfl ?_
      refine K_icmp_ne (tgt := 43) (dt_at dtX11_packer 19 rfl) (by decide) (by first | assumption | exact ⟨by omega, by omega⟩) (by first | assumption | exact ⟨by omega, by omega⟩) (fun c5 => ?_) (fun c5 => ?_)
      · refine K_aload_n (dt_at dtX11_packer 26 rfl) rfl rfl ?_
        refine K_get (a := 30) (ci := 11) (k := 6) (v := vr 68) (dt_at dtX11_packer 27 rfl) (by decide) rfl (by decide) wF_X11_46 rfl ?_
        refine K_aload_n (dt_at dtX11_packer 28 rfl) rfl rfl ?_
        refine K_get (a := 30) (ci := 11) (k := 5) (v := vr 66) (dt_at dtX11_packer 29 rfl) (by decide) rfl (by decide) wF_X11_39 rfl ?_
        refine K_callV (M' := mX0_keep) (a := 68) (ci := 0) (As := [vr 66]) (st := []) (dt_at dtX11_packer 30 rfl) (sX0_keep i7.2.1 i7.1) (show TT 68 = (0, 0) from rfl) rfl wL_X11_230 vX0_keep rfl npX0_keep (by decide) (by decide) (Nat.le_of_ble_eq_true rfl) (by decide) (by decide) GK_E (fun v9 hc5 hq => ?_) (fun E h9 hq => by cases hq.1)
        have hqq6 := hq
        obtain ⟨e9q6, Kk, Fk, fk⟩ := hqq6
        have Xk := FX_FL Fk i6
        have ck := CQ_FX c Xk fk
        cases e9q6
        show K mX11_packer _ _ 2 12 54 [(3, vi (f (22 + p))), (0, vr 30), (1, vi p), (2, vi q)] [] hc5
        refine K_aload_n (dt_at dtX11_packer 31 rfl) rfl rfl ?_
        refine K_get (a := 30) (ci := 11) (k := 5) (v := vr 66) (dt_at dtX11_packer 32 rfl) (by decide) rfl (by decide) wF_X11_39 rfl ?_
        refine K_iload_n (dt_at dtX11_packer 33 rfl) rfl rfl ?_
        refine K_iload_n (dt_at dtX11_packer 34 rfl) rfl rfl ?_
        refine K_callV (M' := mX8_setPacker) (a := 66) (ci := 8) (As := [vi p, vi q]) (st := []) (dt_at dtX11_packer 35 rfl) (sX8_setPacker (a := 66) (by decide) ⟨by omega, by omega⟩) (show TT 66 = (0, 8) from rfl) rfl wL_X11_247 vX8_setPacker rfl npX8_setPacker (by decide) (by decide) (Nat.le_of_ble_eq_true rfl) (by decide) (by decide) GK_E (fun v9 hc7 hq => ?_) (fun E h9 hq => by cases hq.1)
        have hqq8 := hq
        obtain ⟨e9q8, e8q8⟩ := hqq8
        obtain ⟨az, fz, iz, rz⟩ := sA_fx e8q8
        rw [show hA hc5 (66 + 1) = f from ck.2.2.2.2.1] at az
        have Fz : FL [67, 69] [(68, 1), (68, 2)] [] hc5 hc7 := ⟨fun a_ ha => fz a_ (fun z => by rw [z] at ha; cases ha), fun a_ k ha => by rw [iz], fun a_ k ha => by rw [rz]⟩
        have XX := FX_tr Xk (FX_FL Fz Xk.2.2.2)
        have KK := acR_fr Kk (by rw [iz]) (by rw [iz]) (fz 69 (by decide))
        cases e9q8
        show K mX11_packer _ _ 2 12 63 [(3, vi (f (22 + p))), (0, vr 30), (1, vi p), (2, vi q)] [] hc7
        refine K_iload_n (dt_at dtX11_packer 36 rfl) rfl rfl ?_
        exact K_iret (dt_at dtX11_packer 37 rfl) rfl rfl (by decide) (by decide) ⟨rfl, CI_act J XX az KK hO (acP_ok i8.1 i8.2.1 (acR_le i7.2.1))⟩
      · exfalso; omega
def mX11_mend : MI := (yX11_mend, cX11_mend, 4, (some .int), rmK 8 1)
def tX11_mend : List (Nat × Instr × Nat) := [(0, .aload_n 0, 1), (1, .iload_n 1, 1), (2, .invokevirtual 184, 3), (5, .iload_n 2, 1), (6, .ifCond .lt 9, 3), (9, .iload_n 2, 1), (10, .bipush 9, 2), (12, .if_icmp .le 9, 3), (15, .aload_n 0, 1), (16, .iconst 1, 1), (17, .invokevirtual 227, 3), (20, .ireturn, 1), (21, .aload_n 0, 1), (22, .getfield 39, 3), (25, .iload_n 1, 1), (26, .invokevirtual 196, 3), (29, .istore_n 3, 1), (30, .aload_n 0, 1), (31, .getfield 46, 3), (34, .aload_n 0, 1), (35, .getfield 39, 3), (38, .invokevirtual 230, 3), (41, .aload_n 0, 1), (42, .getfield 39, 3), (45, .iload_n 1, 1), (46, .iload_n 2, 1), (47, .invokevirtual 250, 3), (50, .iload_n 3, 1), (51, .ireturn, 1)]
theorem dtX11_mend : tX11_mend.all (fun q => decide (decode cX11_mend q.1 = .ok (q.2.1, q.2.2))) = true := by decide +kernel
theorem npX11_mend : (parseMethodDescriptor (mY mX11_mend).desc).map (fun d => d.parameters.length) = some 2 := by decide +kernel
theorem vX11_mend : mV mX11_mend := ⟨wI_X11_mend, wS_X11_mend, wN_X11, wC_X11_mend, by decide +kernel, by decide +kernel⟩
set_option maxHeartbeats 4000000 in
set_option maxRecDepth 100000 in
theorem sX11_mend_x1 {h : HP} {t : Nat} {S : HS} {B : Int} {f : Int → Int} {p : Int} {d : Int} (c : CQ h t S B f) (hp : i32 p) (hd : i32 d) (kn : ¬ (0 ≤ p ∧ p < sNp S)) : SpecK mX11_mend [vr 30, vi p, vi d] h (fun o h' => o = .inr eNS ∧ FS h h') := by
  refine Spec_of (by decide +kernel) (Nat.le_of_ble_eq_true rfl) ?_
  have ht := c.1
  have hH := TTt ht
  have hB := c.2.2.2.1
  have hNt := hB.1
  have hNp := hB.2.1
  have hT := c.2.2.2.2.2.1
  have hC := c.2.2.2.2.2.2.1
  have h99 := c.2.2.2.2.2.2.2.1
  have G := c.2.2.2.2.2.2.2.2
  have hf0 := hT.2.2.2.1
  refine K_aload_n (dt_at dtX11_mend 0 rfl) rfl rfl ?_
  refine K_iload_n (dt_at dtX11_mend 1 rfl) rfl rfl ?_
  exact K_callV (M' := mX11_needPerson) (a := 30) (ci := 11) (As := [vi p]) (st := []) (dt_at dtX11_mend 2 rfl) (sX11_needPerson_no hH c.2.1 c.2.2.1.2.1.2 hNp (by assumption) (by omega)) (by decide) rfl wL_X11_184 vX11_needPerson rfl npX11_needPerson (by decide) (by decide) (Nat.le_of_ble_eq_true rfl) (by decide) (by decide) GK_E (fun v9 h9 hq => by cases hq.1) (fun E h9 hq => by obtain ⟨e9, e8⟩ := hq; cases e9; rw [e8]; exact KX_out (by decide) (by decide) ⟨rfl, FS_rf G⟩)
set_option maxHeartbeats 4000000 in
set_option maxRecDepth 100000 in
theorem sX11_mend_no {h : HP} {S : HS} {f : Int → Int} {C : AC} {N : SN} {im : Option SV} {tp : Int → Int} {nt : Nat} {rf : Int × Int × Int} {fl : Int} {p d : Int} (J : CI h (S, (f, C, N), im, tp, nt, rf, fl)) (hp : 0 ≤ p ∧ p < sNp S) (hd : i32 d) (no : ¬ (0 ≤ d ∧ d ≤ 9)) : SpecK mX11_mend [vr 30, vi p, vi d] h (fun o h' => o = .inl (some (vi (-1))) ∧ CI h' (S, (f, C, N), im, tp, nt, (cn32 rf 1), fl) ∧ FM h h') := by
  refine Spec_of (by decide +kernel) (Nat.le_of_ble_eq_true rfl) ?_
  obtain ⟨t, ht_, i2, i3, i4, i5, i6, i7, i8, i9, i10⟩ := id J
  have c : CQ h t S 600 f := CI_CQ ht_ i2 i4 i5 i6 i7 i8
  have ht := c.1
  have hH := TTt ht
  have hB := c.2.2.2.1
  have hNt := hB.1
  have hNp := hB.2.1
  have hT := c.2.2.2.2.2.1
  have hC := c.2.2.2.2.2.2.1
  have h99 := c.2.2.2.2.2.2.2.1
  have G := c.2.2.2.2.2.2.2.2
  have hf0 := hT.2.2.2.1
  refine K_aload_n (dt_at dtX11_mend 0 rfl) rfl rfl ?_
  refine K_iload_n (dt_at dtX11_mend 1 rfl) rfl rfl ?_
  refine K_callV (M' := mX11_needPerson) (a := 30) (ci := 11) (As := [vi p]) (st := []) (dt_at dtX11_mend 2 rfl) (sX11_needPerson hH c.2.1 c.2.2.1.2.1.2 hNp (by first | assumption | exact ⟨by omega, by omega⟩) (by omega)) (by decide) rfl wL_X11_184 vX11_needPerson rfl npX11_needPerson (by decide) (by decide) (Nat.le_of_ble_eq_true rfl) (by decide) (by decide) GK_E (fun v9 h9 hq => ?_) (fun E h9 hq => by cases hq.1)
  obtain ⟨e9, e8⟩ := hq
  cases e9
  rw [e8]
  show K mX11_mend _ _ 1 6 5 [(0, vr 30), (1, vi p), (2, vi d)] [] h
  refine K_iload_n (dt_at dtX11_mend 3 rfl) rfl rfl ?_
  refine K_if_lt (tgt := 15) (dt_at dtX11_mend 4 rfl) (by decide) (by first | assumption | exact ⟨by omega, by omega⟩) (fun c1 => ?_) (fun c1 => ?_)
  · refine K_aload_n (dt_at dtX11_mend 8 rfl) rfl rfl ?_
    refine K_iconst (dt_at dtX11_mend 9 rfl) ?_
    refine K_callV (M' := mX11_refuse) (a := 30) (ci := 11) (As := [vi 1]) (st := []) (dt_at dtX11_mend 10 rfl) (sX11_refuse (by omega)) (by decide) rfl wL_X11_227 vX11_refuse rfl npX11_refuse (by decide) (by decide) (Nat.le_of_ble_eq_true rfl) (by decide) (by decide) GK_E (fun v9 hc1 hq => ?_) (fun E h9 hq => by cases hq.1)
    have hqq2 := hq
    obtain ⟨e9q2, e8q2⟩ := hqq2
    have CR := CI_ref J 1 (by decide) e8q2
    cases e9q2
    show K mX11_mend _ _ 1 6 20 [(0, vr 30), (1, vi p), (2, vi d)] [vi (-1)] hc1
    exact K_iret (dt_at dtX11_mend 11 rfl) rfl rfl (by decide) (by decide) ⟨rfl, CR⟩
  · refine K_iload_n (dt_at dtX11_mend 5 rfl) rfl rfl ?_
    refine K_bipush (dt_at dtX11_mend 6 rfl) (by decide) ?_
    refine K_icmp_le (tgt := 21) (dt_at dtX11_mend 7 rfl) (by decide) (by first | assumption | exact ⟨by omega, by omega⟩) (by first | assumption | exact ⟨by omega, by omega⟩) (fun c2 => ?_) (fun c2 => ?_)
    · exfalso; omega
    · refine K_aload_n (dt_at dtX11_mend 8 rfl) rfl rfl ?_
      refine K_iconst (dt_at dtX11_mend 9 rfl) ?_
      refine K_callV (M' := mX11_refuse) (a := 30) (ci := 11) (As := [vi 1]) (st := []) (dt_at dtX11_mend 10 rfl) (sX11_refuse (by omega)) (by decide) rfl wL_X11_227 vX11_refuse rfl npX11_refuse (by decide) (by decide) (Nat.le_of_ble_eq_true rfl) (by decide) (by decide) GK_E (fun v9 hc3 hq => ?_) (fun E h9 hq => by cases hq.1)
      have hqq4 := hq
      obtain ⟨e9q4, e8q4⟩ := hqq4
      have CR := CI_ref J 1 (by decide) e8q4
      cases e9q4
      show K mX11_mend _ _ 1 6 20 [(0, vr 30), (1, vi p), (2, vi d)] [vi (-1)] hc3
      exact K_iret (dt_at dtX11_mend 11 rfl) rfl rfl (by decide) (by decide) ⟨rfl, CR⟩
set_option maxHeartbeats 4000000 in
set_option maxRecDepth 100000 in
theorem sX11_mend {h : HP} {S : HS} {f : Int → Int} {C : AC} {N : SN} {im : Option SV} {tp : Int → Int} {nt : Nat} {rf : Int × Int × Int} {fl : Int} {p d : Int} (J : CI h (S, (f, C, N), im, tp, nt, rf, fl)) (hp : 0 ≤ p ∧ p < sNp S) (hd : i32 d) (ok : 0 ≤ d ∧ d ≤ 9) (hO : rowOK S (upI f (15 + p) d)) : SpecK mX11_mend [vr 30, vi p, vi d] h (fun o h' => o = .inl (some (vi (f (15 + p)))) ∧ CI h' (S, (upI f (15 + p) d, acP C f, N), im, tp, nt, rf, fl) ∧ FM h h') := by
  refine Spec_of (by decide +kernel) (Nat.le_of_ble_eq_true rfl) ?_
  obtain ⟨t, ht_, i2, i3, i4, i5, i6, i7, i8, i9, i10⟩ := id J
  have c : CQ h t S 600 f := CI_CQ ht_ i2 i4 i5 i6 i7 i8
  have ht := c.1
  have hH := TTt ht
  have hB := c.2.2.2.1
  have hNt := hB.1
  have hNp := hB.2.1
  have hT := c.2.2.2.2.2.1
  have hC := c.2.2.2.2.2.2.1
  have h99 := c.2.2.2.2.2.2.2.1
  have G := c.2.2.2.2.2.2.2.2
  have hf0 := hT.2.2.2.1
  refine K_aload_n (dt_at dtX11_mend 0 rfl) rfl rfl ?_
  refine K_iload_n (dt_at dtX11_mend 1 rfl) rfl rfl ?_
  refine K_callV (M' := mX11_needPerson) (a := 30) (ci := 11) (As := [vi p]) (st := []) (dt_at dtX11_mend 2 rfl) (sX11_needPerson hH c.2.1 c.2.2.1.2.1.2 hNp (by first | assumption | exact ⟨by omega, by omega⟩) (by omega)) (by decide) rfl wL_X11_184 vX11_needPerson rfl npX11_needPerson (by decide) (by decide) (Nat.le_of_ble_eq_true rfl) (by decide) (by decide) GK_E (fun v9 h9 hq => ?_) (fun E h9 hq => by cases hq.1)
  obtain ⟨e9, e8⟩ := hq
  cases e9
  rw [e8]
  show K mX11_mend _ _ 1 6 5 [(0, vr 30), (1, vi p), (2, vi d)] [] h
  refine K_iload_n (dt_at dtX11_mend 3 rfl) rfl rfl ?_
  refine K_if_lt (tgt := 15) (dt_at dtX11_mend 4 rfl) (by decide) (by first | assumption | exact ⟨by omega, by omega⟩) (fun c1 => absurd c1 (by omega)) (fun c1 => ?_)
  refine K_iload_n (dt_at dtX11_mend 5 rfl) rfl rfl ?_
  refine K_bipush (dt_at dtX11_mend 6 rfl) (by decide) ?_
  refine K_icmp_le (tgt := 21) (dt_at dtX11_mend 7 rfl) (by decide) (by first | assumption | exact ⟨by omega, by omega⟩) (by first | assumption | exact ⟨by omega, by omega⟩) (fun c2 => ?_) (fun c2 => absurd c2 (by omega))
  refine K_aload_n (dt_at dtX11_mend 12 rfl) rfl rfl ?_
  refine K_get (a := 30) (ci := 11) (k := 5) (v := vr 66) (dt_at dtX11_mend 13 rfl) (by decide) rfl (by decide) wF_X11_39 rfl ?_
  refine K_iload_n (dt_at dtX11_mend 14 rfl) rfl rfl ?_
  refine K_callV (M' := mX8_fond) (a := 66) (ci := 8) (As := [vi p]) (st := []) (dt_at dtX11_mend 15 rfl) (sX8_fond (a := 66) (by decide) ⟨by omega, by omega⟩) (show TT 66 = (0, 8) from rfl) rfl wL_X11_196 vX8_fond rfl npX8_fond (by decide) (by decide) (Nat.le_of_ble_eq_true rfl) (by decide) (by decide) GK_E (fun v9 h9 hq => ?_) (fun E h9 hq => by cases hq.1)
  obtain ⟨e9, e8⟩ := hq
  cases e9
  rw [e8]
  show K mX11_mend _ _ 1 6 29 [(0, vr 30), (1, vi p), (2, vi d)] [vi (hA h (66 + 1) (15 + p))] h
  rw [show hA h (66 + 1) = f from c.2.2.2.2.1]
  refine K_istore_n (ls' := [(3, vi (f (15 + p))), (0, vr 30), (1, vi p), (2, vi d)]) (dt_at dtX11_mend 16 rfl) rfl (by decide) rfl ?_
  refine K_aload_n (dt_at dtX11_mend 17 rfl) rfl rfl ?_
  refine K_get (a := 30) (ci := 11) (k := 6) (v := vr 68) (dt_at dtX11_mend 18 rfl) (by decide) rfl (by decide) wF_X11_46 rfl ?_
  refine K_aload_n (dt_at dtX11_mend 19 rfl) rfl rfl ?_
  refine K_get (a := 30) (ci := 11) (k := 5) (v := vr 66) (dt_at dtX11_mend 20 rfl) (by decide) rfl (by decide) wF_X11_39 rfl ?_
  refine K_callV (M' := mX0_keep) (a := 68) (ci := 0) (As := [vr 66]) (st := []) (dt_at dtX11_mend 21 rfl) (sX0_keep i7.2.1 i7.1) (show TT 68 = (0, 0) from rfl) rfl wL_X11_230 vX0_keep rfl npX0_keep (by decide) (by decide) (Nat.le_of_ble_eq_true rfl) (by decide) (by decide) GK_E (fun v9 hc1 hq => ?_) (fun E h9 hq => by cases hq.1)
  have hqq2 := hq
  obtain ⟨e9q2, Kk, Fk, fk⟩ := hqq2
  have Xk := FX_FL Fk i6
  have ck := CQ_FX c Xk fk
  cases e9q2
  show K mX11_mend _ _ 1 6 41 [(3, vi (f (15 + p))), (0, vr 30), (1, vi p), (2, vi d)] [] hc1
  refine K_aload_n (dt_at dtX11_mend 22 rfl) rfl rfl ?_
  refine K_get (a := 30) (ci := 11) (k := 5) (v := vr 66) (dt_at dtX11_mend 23 rfl) (by decide) rfl (by decide) wF_X11_39 rfl ?_
  refine K_iload_n (dt_at dtX11_mend 24 rfl) rfl rfl ?_
  refine K_iload_n (dt_at dtX11_mend 25 rfl) rfl rfl ?_
  refine K_callV (M' := mX8_setFond) (a := 66) (ci := 8) (As := [vi p, vi d]) (st := []) (dt_at dtX11_mend 26 rfl) (sX8_setFond (a := 66) (by decide) ⟨by omega, by omega⟩ hd) (show TT 66 = (0, 8) from rfl) rfl wL_X11_250 vX8_setFond rfl npX8_setFond (by decide) (by decide) (Nat.le_of_ble_eq_true rfl) (by decide) (by decide) GK_E (fun v9 hc3 hq => ?_) (fun E h9 hq => by cases hq.1)
  have hqq4 := hq
  obtain ⟨e9q4, e8q4⟩ := hqq4
  rw [show max 0 (min 9 d) = d by omega] at e8q4
  obtain ⟨az, fz, iz, rz⟩ := sA_fx e8q4
  rw [show hA hc1 (66 + 1) = f from ck.2.2.2.2.1] at az
  have Fz : FL [67, 69] [(68, 1), (68, 2)] [] hc1 hc3 := ⟨fun a_ ha => fz a_ (fun z => by rw [z] at ha; cases ha), fun a_ k ha => by rw [iz], fun a_ k ha => by rw [rz]⟩
  have XX := FX_tr Xk (FX_FL Fz Xk.2.2.2)
  have KK := acR_fr Kk (by rw [iz]) (by rw [iz]) (fz 69 (by decide))
  cases e9q4
  show K mX11_mend _ _ 1 6 50 [(3, vi (f (15 + p))), (0, vr 30), (1, vi p), (2, vi d)] [] hc3
  refine K_iload_n (dt_at dtX11_mend 27 rfl) rfl rfl ?_
  exact K_iret (dt_at dtX11_mend 28 rfl) rfl rfl (by decide) (by decide) ⟨rfl, CI_act J XX az KK hO (acP_ok i8.1 i8.2.1 (acR_le i7.2.1))⟩
def mX11_undo : MI := (yX11_undo, cX11_undo, 1, (some .int), rmK 5 0)
def tX11_undo : List (Nat × Instr × Nat) := [(0, .aload_n 0, 1), (1, .getfield 46, 3), (4, .aload_n 0, 1), (5, .getfield 39, 3), (8, .invokevirtual 253, 3), (11, .ifCond .eq 13, 3), (14, .aload_n 0, 1), (15, .getfield 46, 3), (18, .invokevirtual 166, 3), (21, .goto 4, 3), (24, .iconst (-1), 1), (25, .ireturn, 1)]
theorem dtX11_undo : tX11_undo.all (fun q => decide (decode cX11_undo q.1 = .ok (q.2.1, q.2.2))) = true := by decide +kernel
theorem npX11_undo : (parseMethodDescriptor (mY mX11_undo).desc).map (fun d => d.parameters.length) = some 0 := by decide +kernel
theorem vX11_undo : mV mX11_undo := ⟨wI_X11_undo, wS_X11_undo, wN_X11, wC_X11_undo, by decide +kernel, by decide +kernel⟩
set_option maxHeartbeats 4000000 in
set_option maxRecDepth 100000 in
theorem sX11_undo_no {h : HP} {S : HS} {f : Int → Int} {C : AC} {N : SN} {im : Option SV} {tp : Int → Int} {nt : Nat} {rf : Int × Int × Int} {fl : Int} (J : CI h (S, (f, C, N), im, tp, nt, rf, fl)) (h0 : C.1 = 0) : SpecK mX11_undo [vr 30] h (fun o h' => o = .inl (some (vi (-1))) ∧ CI h' (S, (f, C, N), im, tp, nt, rf, fl) ∧ FM h h') := by
  refine Spec_of (by decide +kernel) (Nat.le_of_ble_eq_true rfl) ?_
  obtain ⟨t, ht_, i2, i3, i4, i5, i6, i7, i8, i9, i10⟩ := id J
  have c : CQ h t S 600 f := CI_CQ ht_ i2 i4 i5 i6 i7 i8
  have ht := c.1
  have hH := TTt ht
  have hB := c.2.2.2.1
  have hNt := hB.1
  have hNp := hB.2.1
  have hT := c.2.2.2.2.2.1
  have hC := c.2.2.2.2.2.2.1
  have h99 := c.2.2.2.2.2.2.2.1
  have G := c.2.2.2.2.2.2.2.2
  have hf0 := hT.2.2.2.1
  refine K_aload_n (dt_at dtX11_undo 0 rfl) rfl rfl ?_
  refine K_get (a := 30) (ci := 11) (k := 6) (v := vr 68) (dt_at dtX11_undo 1 rfl) (by decide) rfl (by decide) wF_X11_46 rfl ?_
  refine K_aload_n (dt_at dtX11_undo 2 rfl) rfl rfl ?_
  refine K_get (a := 30) (ci := 11) (k := 5) (v := vr 66) (dt_at dtX11_undo 3 rfl) (by decide) rfl (by decide) wF_X11_39 rfl ?_
  refine K_callV (M' := mX0_takeBack) (a := 68) (ci := 0) (As := [vr 66]) (st := []) (dt_at dtX11_undo 4 rfl) (sX0_takeBack_0 i7.2.1 h0) (show TT 68 = (0, 0) from rfl) rfl wL_X11_253 vX0_takeBack rfl npX0_takeBack (by decide) (by decide) (Nat.le_of_ble_eq_true rfl) (by decide) (by decide) GK_E (fun v9 h9 hq => ?_) (fun E h9 hq => by cases hq.1)
  obtain ⟨e9, e8⟩ := hq
  cases e9
  rw [e8]
  show K mX11_undo _ _ 0 0 11 [(0, vr 30)] [vi 0] h
  refine K_if_eq (tgt := 24) (dt_at dtX11_undo 5 rfl) (by decide) (by first | assumption | exact ⟨by omega, by omega⟩) (fun c1 => ?_) (fun c1 => absurd c1 (by omega))
  refine K_iconst (dt_at dtX11_undo 10 rfl) ?_
  exact K_iret (dt_at dtX11_undo 11 rfl) rfl rfl (by decide) (by decide) ⟨rfl, J, FM_rf⟩
set_option maxHeartbeats 4000000 in
set_option maxRecDepth 100000 in
theorem sX11_undo {h : HP} {S : HS} {f : Int → Int} {C : AC} {N : SN} {im : Option SV} {tp : Int → Int} {nt : Nat} {rf : Int × Int × Int} {fl : Int} (J : CI h (S, (f, C, N), im, tp, nt, rf, fl)) (h0 : 0 < C.1) : SpecK mX11_undo [vr 30] h (fun o h' => o = .inl (some (vi ((C.1 - 1 : Nat) : Int))) ∧ CI h' (S, (C.2 (C.1 - 1), (C.1 - 1, C.2), N), im, tp, nt, rf, fl) ∧ FM h h') := by
  refine Spec_of (by decide +kernel) (Nat.le_of_ble_eq_true rfl) ?_
  obtain ⟨t, ht_, i2, i3, i4, i5, i6, i7, i8, i9, i10⟩ := id J
  have c : CQ h t S 600 f := CI_CQ ht_ i2 i4 i5 i6 i7 i8
  have ht := c.1
  have hH := TTt ht
  have hB := c.2.2.2.1
  have hNt := hB.1
  have hNp := hB.2.1
  have hT := c.2.2.2.2.2.1
  have hC := c.2.2.2.2.2.2.1
  have h99 := c.2.2.2.2.2.2.2.1
  have G := c.2.2.2.2.2.2.2.2
  have hf0 := hT.2.2.2.1
  refine K_aload_n (dt_at dtX11_undo 0 rfl) rfl rfl ?_
  refine K_get (a := 30) (ci := 11) (k := 6) (v := vr 68) (dt_at dtX11_undo 1 rfl) (by decide) rfl (by decide) wF_X11_46 rfl ?_
  refine K_aload_n (dt_at dtX11_undo 2 rfl) rfl rfl ?_
  refine K_get (a := 30) (ci := 11) (k := 5) (v := vr 66) (dt_at dtX11_undo 3 rfl) (by decide) rfl (by decide) wF_X11_39 rfl ?_
  refine K_callV (M' := mX0_takeBack) (a := 68) (ci := 0) (As := [vr 66]) (st := []) (dt_at dtX11_undo 4 rfl) (sX0_takeBack_1 i7.2.1 h0) (show TT 68 = (0, 0) from rfl) rfl wL_X11_253 vX0_takeBack rfl npX0_takeBack (by decide) (by decide) (Nat.le_of_ble_eq_true rfl) (by decide) (by decide) GK_E (fun v9 hc1 hq => ?_) (fun E h9 hq => by cases hq.1)
  have hqq2 := hq
  obtain ⟨e9q2, K1, r1, F1⟩ := hqq2
  have kp : hI hc1 68 2 = ((C.1 - 1 : Nat) : Int) := by obtain ⟨o, _, _, z, _⟩ := id K1; exact z
  cases e9q2
  show K mX11_undo _ _ 0 0 11 [(0, vr 30)] [vi 1] hc1
  refine K_if_eq (tgt := 24) (dt_at dtX11_undo 5 rfl) (by decide) (by first | assumption | exact ⟨by omega, by omega⟩) (fun c1 => absurd c1 (by omega)) (fun c1 => ?_)
  refine K_aload_n (dt_at dtX11_undo 6 rfl) rfl rfl ?_
  refine K_get (a := 30) (ci := 11) (k := 6) (v := vr 68) (dt_at dtX11_undo 7 rfl) (by decide) rfl (by decide) wF_X11_46 rfl ?_
  refine K_callV (M' := mX0_kept) (a := 68) (ci := 0) (As := []) (st := []) (dt_at dtX11_undo 8 rfl) (sX0_kept (a := 68) rfl) (show TT 68 = (0, 0) from rfl) rfl wL_X11_166 vX0_kept rfl npX0_kept (by decide) (by decide) (Nat.le_of_ble_eq_true rfl) (by decide) (by decide) GK_E (fun v9 h9 hq => ?_) (fun E h9 hq => by cases hq.1)
  obtain ⟨e9, e8⟩ := hq
  cases e9
  rw [e8]
  show K mX11_undo _ _ 0 0 21 [(0, vr 30)] [vi (hI hc1 68 2)] hc1
  rw [kp]
  refine K_goto (tgt := 25) (dt_at dtX11_undo 9 rfl) (by decide) ?_
  exact K_iret (dt_at dtX11_undo 11 rfl) rfl rfl (by decide) (by decide) ⟨rfl, CI_act J (FX_FL F1 i6) r1 K1 (i8.2.1 _ (by show C.1 - 1 < C.1; omega)) (fun i hi => i8.2.1 i (by have : i < C.1 - 1 := hi; show i < C.1; omega))⟩
def mX11_image : MI := (yX11_image, cX11_image, 1, none, rmK 4 0)
def tX11_image : List (Nat × Instr × Nat) := [(0, .aload_n 0, 1), (1, .getfield 57, 3), (4, .aload_n 0, 1), (5, .getfield 39, 3), (8, .invokevirtual 238, 3), (11, .aload_n 0, 1), (12, .getfield 60, 3), (15, .aload_n 0, 1), (16, .getfield 46, 3), (19, .invokevirtual 257, 3), (22, .aload_n 0, 1), (23, .getfield 63, 3), (26, .aload_n 0, 1), (27, .getfield 53, 3), (30, .invokevirtual 260, 3), (33, .aload_n 0, 1), (34, .iconst 1, 1), (35, .putfield 103, 3), (38, .return_, 1)]
theorem dtX11_image : tX11_image.all (fun q => decide (decode cX11_image q.1 = .ok (q.2.1, q.2.2))) = true := by decide +kernel
theorem npX11_image : (parseMethodDescriptor (mY mX11_image).desc).map (fun d => d.parameters.length) = some 0 := by decide +kernel
theorem vX11_image : mV mX11_image := ⟨wI_X11_image, wS_X11_image, wN_X11, wC_X11_image, by decide +kernel, by decide +kernel⟩
set_option maxHeartbeats 4000000 in
set_option maxRecDepth 100000 in
theorem sX11_image {h : HP} {S : HS} {f : Int → Int} {C : AC} {N : SN} {im : Option SV} {tp : Int → Int} {nt : Nat} {rf : Int × Int × Int} {fl : Int} (J : CI h (S, (f, C, N), im, tp, nt, rf, fl)) : SpecK mX11_image [vr 30] h (fun o h' => o = .inl (none) ∧ CI h' (S, (f, C, N), some (f, C, N), tp, nt, rf, fl) ∧ FM h h') := by
  refine Spec_of (by decide +kernel) (Nat.le_of_ble_eq_true rfl) ?_
  obtain ⟨t, ht_, i2, i3, i4, i5, i6, i7, i8, i9, i10⟩ := id J
  have c : CQ h t S 600 f := CI_CQ ht_ i2 i4 i5 i6 i7 i8
  have ht := c.1
  have hH := TTt ht
  have hB := c.2.2.2.1
  have hNt := hB.1
  have hNp := hB.2.1
  have hT := c.2.2.2.2.2.1
  have hC := c.2.2.2.2.2.2.1
  have h99 := c.2.2.2.2.2.2.2.1
  have G := c.2.2.2.2.2.2.2.2
  have hf0 := hT.2.2.2.1
  refine K_aload_n (dt_at dtX11_image 0 rfl) rfl rfl ?_
  refine K_get (a := 30) (ci := 11) (k := 8) (v := vr 75) (dt_at dtX11_image 1 rfl) (by decide) rfl (by decide) wF_X11_57 rfl ?_
  refine K_aload_n (dt_at dtX11_image 2 rfl) rfl rfl ?_
  refine K_get (a := 30) (ci := 11) (k := 5) (v := vr 66) (dt_at dtX11_image 3 rfl) (by decide) rfl (by decide) wF_X11_39 rfl ?_
  refine K_callV (M' := mX8_copyFrom) (a := 75) (ci := 8) (As := [vr 66]) (st := []) (dt_at dtX11_image 4 rfl) (sX8_copyFromX (a := 75) (b := 66) (by decide) (by decide)) (show TT 75 = (0, 8) from rfl) rfl wL_X11_238 vX8_copyFrom rfl npX8_copyFrom (by decide) (by decide) (Nat.le_of_ble_eq_true rfl) (by decide) (by decide) GK_E (fun v9 hc1 hq => ?_) (fun E h9 hq => by cases hq.1)
  have hqq2 := hq
  obtain ⟨e9q2, e8q2⟩ := hqq2
  have R1 : hA hc1 76 = f := by rw [e8q2]; exact (hA_F _ _ _).trans i7.1
  have F1 : FL [76, 78, 80, 81, 82, 83] [(77, 1), (77, 2), (79, 4), (30, 17)] [] h hc1 := by rw [e8q2]; exact FL_sF rfl
  cases e9q2
  show K mX11_image _ _ 0 0 11 [(0, vr 30)] [] hc1
  refine K_aload_n (dt_at dtX11_image 5 rfl) rfl rfl ?_
  refine K_get (a := 30) (ci := 11) (k := 9) (v := vr 77) (dt_at dtX11_image 6 rfl) (by decide) rfl (by decide) wF_X11_60 rfl ?_
  refine K_aload_n (dt_at dtX11_image 7 rfl) rfl rfl ?_
  refine K_get (a := 30) (ci := 11) (k := 6) (v := vr 68) (dt_at dtX11_image 8 rfl) (by decide) rfl (by decide) wF_X11_46 rfl ?_
  refine K_callV (M' := mX0_copyFrom) (a := 77) (ci := 0) (As := [vr 68]) (st := []) (dt_at dtX11_image 9 rfl) (sX0_copyFrom_77 (acR_fr i7.2.1 (F1.2.1 _ _ rfl) (F1.2.1 _ _ rfl) (F1.1 _ rfl))) (show TT 77 = (0, 0) from rfl) rfl wL_X11_257 vX0_copyFrom rfl npX0_copyFrom (by decide) (by decide) (Nat.le_of_ble_eq_true rfl) (by decide) (by decide) GK_E (fun v9 hc3 hq => ?_) (fun E h9 hq => by cases hq.1)
  have hqq4 := hq
  obtain ⟨e9q4, K2, G2⟩ := hqq4
  have R2 : hA hc3 76 = f := by rw [G2.1 _ rfl]; exact R1
  have F2 : FL [76, 78, 80, 81, 82, 83] [(77, 1), (77, 2), (79, 4), (30, 17)] [] h hc3 := FL_tr F1 (FL_up G2 rfl rfl rfl)
  cases e9q4
  show K mX11_image _ _ 0 0 22 [(0, vr 30)] [] hc3
  refine K_aload_n (dt_at dtX11_image 10 rfl) rfl rfl ?_
  refine K_get (a := 30) (ci := 11) (k := 10) (v := vr 79) (dt_at dtX11_image 11 rfl) (by decide) rfl (by decide) wF_X11_63 rfl ?_
  refine K_aload_n (dt_at dtX11_image 12 rfl) rfl rfl ?_
  refine K_get (a := 30) (ci := 11) (k := 7) (v := vr 70) (dt_at dtX11_image 13 rfl) (by decide) rfl (by decide) wF_X11_53 rfl ?_
  refine K_callV (M' := mX7_copyFrom) (a := 79) (ci := 7) (As := [vr 70]) (st := []) (dt_at dtX11_image 14 rfl) (sX7_copyFrom_79 (seR_fr i7.2.2 (F2.2.1 _ _ rfl) (F2.1 _ rfl) (F2.1 _ rfl) (F2.1 _ rfl) (F2.1 _ rfl))) (show TT 79 = (0, 7) from rfl) rfl wL_X11_260 vX7_copyFrom rfl npX7_copyFrom (by decide) (by decide) (Nat.le_of_ble_eq_true rfl) (by decide) (by decide) GK_E (fun v9 hc5 hq => ?_) (fun E h9 hq => by cases hq.1)
  have hqq6 := hq
  obtain ⟨e9q6, K3, G3⟩ := hqq6
  have R3 : hA hc5 76 = f := by rw [G3.1 _ rfl]; exact R2
  have L2 := acR_fr K2 (G3.2.1 _ _ rfl) (G3.2.1 _ _ rfl) (G3.1 _ rfl)
  have F3 : FL [76, 78, 80, 81, 82, 83] [(77, 1), (77, 2), (79, 4), (30, 17)] [] h hc5 := FL_tr F2 (FL_up G3 rfl rfl rfl)
  cases e9q6
  show K mX11_image _ _ 0 0 33 [(0, vr 30)] [] hc5
  refine K_aload_n (dt_at dtX11_image 15 rfl) rfl rfl ?_
  refine K_iconst (dt_at dtX11_image 16 rfl) ?_
  refine K_putI (a := 30) (ci := 11) (k := 17) (dt_at dtX11_image 17 rfl) (by decide) rfl (by decide) wF_X11_103 rfl (Or.inr rfl) (by decide) (by decide) ?_
  obtain ⟨hq7, eq7⟩ : ∃ z, z = sI hc5 30 17 1 := ⟨_, rfl⟩
  rw [← eq7]
  obtain ⟨iq7, fq7, aq7, rq7⟩ := sI_fx eq7
  have F4 : FL [76, 78, 80, 81, 82, 83] [(77, 1), (77, 2), (79, 4), (30, 17)] [] h hq7 := FL_tr F3 (by rw [eq7]; exact FL_sI rfl)
  exact K_vret (dt_at dtX11_image 18 rfl) rfl (by decide) (by decide) ⟨rfl, CI_image J F4 ⟨by show hA hq7 76 = f; rw [aq7]; exact R3, acR_fr L2 (fq7 _ _ (by decide)) (fq7 _ _ (by decide)) (by rw [aq7]), seR_fr K3 (fq7 _ _ (by decide)) (by rw [aq7]) (by rw [aq7]) (by rw [aq7]) (by rw [aq7])⟩ iq7⟩
def mX11_restore : MI := (yX11_restore, cX11_restore, 1, (some .boolean), rmK 4 0)
def tX11_restore : List (Nat × Instr × Nat) := [(0, .aload_n 0, 1), (1, .getfield 103, 3), (4, .ifCond .ne 5, 3), (7, .iconst 0, 1), (8, .ireturn, 1), (9, .aload_n 0, 1), (10, .getfield 39, 3), (13, .aload_n 0, 1), (14, .getfield 57, 3), (17, .invokevirtual 238, 3), (20, .aload_n 0, 1), (21, .getfield 46, 3), (24, .aload_n 0, 1), (25, .getfield 60, 3), (28, .invokevirtual 257, 3), (31, .aload_n 0, 1), (32, .getfield 53, 3), (35, .aload_n 0, 1), (36, .getfield 63, 3), (39, .invokevirtual 260, 3), (42, .iconst 1, 1), (43, .ireturn, 1)]
theorem dtX11_restore : tX11_restore.all (fun q => decide (decode cX11_restore q.1 = .ok (q.2.1, q.2.2))) = true := by decide +kernel
theorem npX11_restore : (parseMethodDescriptor (mY mX11_restore).desc).map (fun d => d.parameters.length) = some 0 := by decide +kernel
theorem vX11_restore : mV mX11_restore := ⟨wI_X11_restore, wS_X11_restore, wN_X11, wC_X11_restore, by decide +kernel, by decide +kernel⟩
set_option maxHeartbeats 4000000 in
set_option maxRecDepth 100000 in
theorem sX11_restore_no {h : HP} {S : HS} {f : Int → Int} {C : AC} {N : SN} {im : Option SV} {tp : Int → Int} {nt : Nat} {rf : Int × Int × Int} {fl : Int} (J : CI h (S, (f, C, N), none, tp, nt, rf, fl)) : SpecK mX11_restore [vr 30] h (fun o h' => o = .inl (some (vi 0)) ∧ CI h' (S, (f, C, N), none, tp, nt, rf, fl) ∧ FM h h') := by
  refine Spec_of (by decide +kernel) (Nat.le_of_ble_eq_true rfl) ?_
  obtain ⟨t, ht_, i2, i3, i4, i5, i6, i7, i8, i9, i10⟩ := id J
  have c : CQ h t S 600 f := CI_CQ ht_ i2 i4 i5 i6 i7 i8
  have ht := c.1
  have hH := TTt ht
  have hB := c.2.2.2.1
  have hNt := hB.1
  have hNp := hB.2.1
  have hT := c.2.2.2.2.2.1
  have hC := c.2.2.2.2.2.2.1
  have h99 := c.2.2.2.2.2.2.2.1
  have G := c.2.2.2.2.2.2.2.2
  have hf0 := hT.2.2.2.1
  have i17 : hI h 30 17 = 0 := i9
  refine K_aload_n (dt_at dtX11_restore 0 rfl) rfl rfl ?_
  refine K_get (a := 30) (ci := 11) (k := 17) (v := vi 0) (dt_at dtX11_restore 1 rfl) (by decide) rfl (by decide) wF_X11_103 (by show vi (hI h 30 17) = vi 0; rw [i17]) ?_
  refine K_if_ne (tgt := 9) (dt_at dtX11_restore 2 rfl) (by decide) (by first | assumption | exact ⟨by omega, by omega⟩) (fun c1 => absurd c1 (by omega)) (fun c1 => ?_)
  refine K_iconst (dt_at dtX11_restore 3 rfl) ?_
  exact K_iret (dt_at dtX11_restore 4 rfl) rfl (by decide) (by decide) (by decide) ⟨rfl, J, FM_rf⟩
set_option maxHeartbeats 4000000 in
set_option maxRecDepth 100000 in
theorem sX11_restore {h : HP} {S : HS} {f : Int → Int} {C : AC} {N : SN} {im : Option SV} {tp : Int → Int} {nt : Nat} {rf : Int × Int × Int} {fl : Int} {w : SV} (J : CI h (S, (f, C, N), some w, tp, nt, rf, fl)) : SpecK mX11_restore [vr 30] h (fun o h' => o = .inl (some (vi 1)) ∧ CI h' (S, w, some w, tp, nt, rf, fl) ∧ FM h h') := by
  refine Spec_of (by decide +kernel) (Nat.le_of_ble_eq_true rfl) ?_
  obtain ⟨t, ht_, i2, i3, i4, i5, i6, i7, i8, i9, i10⟩ := id J
  have c : CQ h t S 600 f := CI_CQ ht_ i2 i4 i5 i6 i7 i8
  have ht := c.1
  have hH := TTt ht
  have hB := c.2.2.2.1
  have hNt := hB.1
  have hNp := hB.2.1
  have hT := c.2.2.2.2.2.1
  have hC := c.2.2.2.2.2.2.1
  have h99 := c.2.2.2.2.2.2.2.1
  have G := c.2.2.2.2.2.2.2.2
  have hf0 := hT.2.2.2.1
  have i17 : hI h 30 17 = 1 := i9.1
  refine K_aload_n (dt_at dtX11_restore 0 rfl) rfl rfl ?_
  refine K_get (a := 30) (ci := 11) (k := 17) (v := vi 1) (dt_at dtX11_restore 1 rfl) (by decide) rfl (by decide) wF_X11_103 (by show vi (hI h 30 17) = vi 1; rw [i17]) ?_
  refine K_if_ne (tgt := 9) (dt_at dtX11_restore 2 rfl) (by decide) (by first | assumption | exact ⟨by omega, by omega⟩) (fun c1 => ?_) (fun c1 => absurd c1 (by omega))
  refine K_aload_n (dt_at dtX11_restore 5 rfl) rfl rfl ?_
  refine K_get (a := 30) (ci := 11) (k := 5) (v := vr 66) (dt_at dtX11_restore 6 rfl) (by decide) rfl (by decide) wF_X11_39 rfl ?_
  refine K_aload_n (dt_at dtX11_restore 7 rfl) rfl rfl ?_
  refine K_get (a := 30) (ci := 11) (k := 8) (v := vr 75) (dt_at dtX11_restore 8 rfl) (by decide) rfl (by decide) wF_X11_57 rfl ?_
  refine K_callV (M' := mX8_copyFrom) (a := 66) (ci := 8) (As := [vr 75]) (st := []) (dt_at dtX11_restore 9 rfl) (sX8_copyFromX (a := 66) (b := 75) (by decide) (by decide)) (show TT 66 = (0, 8) from rfl) rfl wL_X11_238 vX8_copyFrom rfl npX8_copyFrom (by decide) (by decide) (Nat.le_of_ble_eq_true rfl) (by decide) (by decide) GK_E (fun v9 hc1 hq => ?_) (fun E h9 hq => by cases hq.1)
  have hqq2 := hq
  obtain ⟨e9q2, e8q2⟩ := hqq2
  have R1 : hA hc1 67 = w.1 := by rw [e8q2]; exact (hA_F _ _ _).trans i9.2.1.1
  have F1 : FL [67, 69, 71, 72, 73, 74] [(68, 1), (68, 2), (70, 4)] [] h hc1 := by rw [e8q2]; exact FL_sF rfl
  cases e9q2
  show K mX11_restore _ _ 0 0 20 [(0, vr 30)] [] hc1
  refine K_aload_n (dt_at dtX11_restore 10 rfl) rfl rfl ?_
  refine K_get (a := 30) (ci := 11) (k := 6) (v := vr 68) (dt_at dtX11_restore 11 rfl) (by decide) rfl (by decide) wF_X11_46 rfl ?_
  refine K_aload_n (dt_at dtX11_restore 12 rfl) rfl rfl ?_
  refine K_get (a := 30) (ci := 11) (k := 9) (v := vr 77) (dt_at dtX11_restore 13 rfl) (by decide) rfl (by decide) wF_X11_60 rfl ?_
  refine K_callV (M' := mX0_copyFrom) (a := 68) (ci := 0) (As := [vr 77]) (st := []) (dt_at dtX11_restore 14 rfl) (sX0_copyFrom_68 (acR_fr i9.2.1.2.1 (F1.2.1 _ _ rfl) (F1.2.1 _ _ rfl) (F1.1 _ rfl))) (show TT 68 = (0, 0) from rfl) rfl wL_X11_257 vX0_copyFrom rfl npX0_copyFrom (by decide) (by decide) (Nat.le_of_ble_eq_true rfl) (by decide) (by decide) GK_E (fun v9 hc3 hq => ?_) (fun E h9 hq => by cases hq.1)
  have hqq4 := hq
  obtain ⟨e9q4, K2, G2⟩ := hqq4
  have R2 : hA hc3 67 = w.1 := by rw [G2.1 _ rfl]; exact R1
  have F2 : FL [67, 69, 71, 72, 73, 74] [(68, 1), (68, 2), (70, 4)] [] h hc3 := FL_tr F1 (FL_up G2 rfl rfl rfl)
  cases e9q4
  show K mX11_restore _ _ 0 0 31 [(0, vr 30)] [] hc3
  refine K_aload_n (dt_at dtX11_restore 15 rfl) rfl rfl ?_
  refine K_get (a := 30) (ci := 11) (k := 7) (v := vr 70) (dt_at dtX11_restore 16 rfl) (by decide) rfl (by decide) wF_X11_53 rfl ?_
  refine K_aload_n (dt_at dtX11_restore 17 rfl) rfl rfl ?_
  refine K_get (a := 30) (ci := 11) (k := 10) (v := vr 79) (dt_at dtX11_restore 18 rfl) (by decide) rfl (by decide) wF_X11_63 rfl ?_
  refine K_callV (M' := mX7_copyFrom) (a := 70) (ci := 7) (As := [vr 79]) (st := []) (dt_at dtX11_restore 19 rfl) (sX7_copyFrom_70 (seR_fr i9.2.1.2.2 (F2.2.1 _ _ rfl) (F2.1 _ rfl) (F2.1 _ rfl) (F2.1 _ rfl) (F2.1 _ rfl))) (show TT 70 = (0, 7) from rfl) rfl wL_X11_260 vX7_copyFrom rfl npX7_copyFrom (by decide) (by decide) (Nat.le_of_ble_eq_true rfl) (by decide) (by decide) GK_E (fun v9 hc5 hq => ?_) (fun E h9 hq => by cases hq.1)
  have hqq6 := hq
  obtain ⟨e9q6, K3, G3⟩ := hqq6
  have R3 : hA hc5 67 = w.1 := by rw [G3.1 _ rfl]; exact R2
  have L2 := acR_fr K2 (G3.2.1 _ _ rfl) (G3.2.1 _ _ rfl) (G3.1 _ rfl)
  have F3 : FL [67, 69, 71, 72, 73, 74] [(68, 1), (68, 2), (70, 4)] [] h hc5 := FL_tr F2 (FL_up G3 rfl rfl rfl)
  cases e9q6
  show K mX11_restore _ _ 0 0 42 [(0, vr 30)] [] hc5
  refine K_iconst (dt_at dtX11_restore 20 rfl) ?_
  exact K_iret (dt_at dtX11_restore 21 rfl) rfl (by decide) (by decide) (by decide) ⟨rfl, CI_rest J F3 ⟨R3, L2, K3⟩⟩
def mX11_forget : MI := (yX11_forget, cX11_forget, 1, none, rmK 2 0)
def tX11_forget : List (Nat × Instr × Nat) := [(0, .aload_n 0, 1), (1, .getfield 53, 3), (4, .invokevirtual 132, 3), (7, .return_, 1)]
theorem dtX11_forget : tX11_forget.all (fun q => decide (decode cX11_forget q.1 = .ok (q.2.1, q.2.2))) = true := by decide +kernel
theorem npX11_forget : (parseMethodDescriptor (mY mX11_forget).desc).map (fun d => d.parameters.length) = some 0 := by decide +kernel
theorem vX11_forget : mV mX11_forget := ⟨wI_X11_forget, wS_X11_forget, wN_X11, wC_X11_forget, by decide +kernel, by decide +kernel⟩
set_option maxHeartbeats 4000000 in
set_option maxRecDepth 100000 in
theorem sX11_forget {h : HP} {S : HS} {f : Int → Int} {C : AC} {N : SN} {im : Option SV} {tp : Int → Int} {nt : Nat} {rf : Int × Int × Int} {fl : Int} (J : CI h (S, (f, C, N), im, tp, nt, rf, fl)) : SpecK mX11_forget [vr 30] h (fun o h' => o = .inl (none) ∧ CI h' (S, (f, C, (0, N.2)), im, tp, nt, rf, fl) ∧ FM h h') := by
  refine Spec_of (by decide +kernel) (Nat.le_of_ble_eq_true rfl) ?_
  obtain ⟨t, ht_, i2, i3, i4, i5, i6, i7, i8, i9, i10⟩ := id J
  have c : CQ h t S 600 f := CI_CQ ht_ i2 i4 i5 i6 i7 i8
  have ht := c.1
  have hH := TTt ht
  have hB := c.2.2.2.1
  have hNt := hB.1
  have hNp := hB.2.1
  have hT := c.2.2.2.2.2.1
  have hC := c.2.2.2.2.2.2.1
  have h99 := c.2.2.2.2.2.2.2.1
  have G := c.2.2.2.2.2.2.2.2
  have hf0 := hT.2.2.2.1
  refine K_aload_n (dt_at dtX11_forget 0 rfl) rfl rfl ?_
  refine K_get (a := 30) (ci := 11) (k := 7) (v := vr 70) (dt_at dtX11_forget 1 rfl) (by decide) rfl (by decide) wF_X11_53 rfl ?_
  refine K_callV (M' := mX7_clear) (a := 70) (ci := 7) (As := []) (st := []) (dt_at dtX11_forget 2 rfl) sX7_clear (show TT 70 = (0, 7) from rfl) rfl wL_X11_132 vX7_clear rfl npX7_clear (by decide) (by decide) (Nat.le_of_ble_eq_true rfl) (by decide) (by decide) GK_E (fun v9 hc1 hq => ?_) (fun E h9 hq => by cases hq.1)
  have hqq2 := hq
  obtain ⟨e9q2, e8q2⟩ := hqq2
  have F1 : FL [71, 72, 73, 74] [(70, 4)] [] h hc1 := by rw [e8q2]; exact FL_sI rfl
  have K1 : seR hc1 70 (0, N.2) := ⟨by show 0 ≤ 8; omega, by rw [e8q2]; exact hI_I _ _ _ _, fun i hi => absurd hi (Nat.not_lt_zero i)⟩
  cases e9q2
  show K mX11_forget _ _ 0 0 7 [(0, vr 30)] [] hc1
  exact K_vret (dt_at dtX11_forget 3 rfl) rfl (by decide) (by decide) ⟨rfl, CI_seen J F1 K1 (fun i hi => absurd hi (Nat.not_lt_zero i))⟩
def mX11_see : MI := (yX11_see, cX11_see, 6, (some .int), rmK 8 2)
def tX11_see : List (Nat × Instr × Nat) := [(0, .aload_n 0, 1), (1, .iload_n 1, 1), (2, .invokevirtual 184, 3), (5, .aload_n 0, 1), (6, .iload_n 2, 1), (7, .invokevirtual 172, 3), (10, .iload_n 3, 1), (11, .ifCond .lt 25, 3), (14, .iload_n 3, 1), (15, .bipush 30, 2), (17, .if_icmp .gt 19, 3), (20, .iload 4, 2), (22, .ifCond .lt 14, 3), (25, .iload 4, 2), (27, .bipush 9, 2), (29, .if_icmp .gt 7, 3), (32, .iconst 1, 1), (33, .goto 4, 3), (36, .iconst 0, 1), (37, .istore 5, 2), (39, .iload 5, 2), (41, .ifCond .eq 18, 3), (44, .aload_n 0, 1), (45, .getfield 53, 3), (48, .iload_n 1, 1), (49, .iload_n 2, 1), (50, .iload_n 3, 1), (51, .iload 4, 2), (53, .invokevirtual 339, 3), (56, .ifCond .ne 9, 3), (59, .aload_n 0, 1), (60, .iconst 2, 1), (61, .invokevirtual 227, 3), (64, .ireturn, 1), (65, .aload_n 0, 1), (66, .getfield 53, 3), (69, .invokevirtual 169, 3), (72, .ireturn, 1)]
theorem dtX11_see : tX11_see.all (fun q => decide (decode cX11_see q.1 = .ok (q.2.1, q.2.2))) = true := by decide +kernel
theorem npX11_see : (parseMethodDescriptor (mY mX11_see).desc).map (fun d => d.parameters.length) = some 4 := by decide +kernel
theorem vX11_see : mV mX11_see := ⟨wI_X11_see, wS_X11_see, wN_X11, wC_X11_see, by decide +kernel, by decide +kernel⟩
set_option maxHeartbeats 4000000 in
set_option maxRecDepth 100000 in
theorem sX11_see_x1 {h : HP} {t : Nat} {S : HS} {B : Int} {f : Int → Int} {p : Int} {q : Int} {d : Int} {n : Int} (c : CQ h t S B f) (hp : i32 p) (hq : i32 q) (hd : i32 d) (hn : i32 n) (kn : ¬ (0 ≤ p ∧ p < sNp S)) : SpecK mX11_see [vr 30, vi p, vi q, vi d, vi n] h (fun o h' => o = .inr eNS ∧ FS h h') := by
  refine Spec_of (by decide +kernel) (Nat.le_of_ble_eq_true rfl) ?_
  have ht := c.1
  have hH := TTt ht
  have hB := c.2.2.2.1
  have hNt := hB.1
  have hNp := hB.2.1
  have hT := c.2.2.2.2.2.1
  have hC := c.2.2.2.2.2.2.1
  have h99 := c.2.2.2.2.2.2.2.1
  have G := c.2.2.2.2.2.2.2.2
  have hf0 := hT.2.2.2.1
  refine K_aload_n (dt_at dtX11_see 0 rfl) rfl rfl ?_
  refine K_iload_n (dt_at dtX11_see 1 rfl) rfl rfl ?_
  exact K_callV (M' := mX11_needPerson) (a := 30) (ci := 11) (As := [vi p]) (st := []) (dt_at dtX11_see 2 rfl) (sX11_needPerson_no hH c.2.1 c.2.2.1.2.1.2 hNp (by assumption) (by omega)) (by decide) rfl wL_X11_184 vX11_needPerson rfl npX11_needPerson (by decide) (by decide) (Nat.le_of_ble_eq_true rfl) (by decide) (by decide) GK_E (fun v9 h9 hq => by cases hq.1) (fun E h9 hq => by obtain ⟨e9, e8⟩ := hq; cases e9; rw [e8]; exact KX_out (by decide) (by decide) ⟨rfl, FS_rf G⟩)
set_option maxHeartbeats 4000000 in
set_option maxRecDepth 100000 in
theorem sX11_see_x2 {h : HP} {t : Nat} {S : HS} {B : Int} {f : Int → Int} {p : Int} {q : Int} {d : Int} {n : Int} (c : CQ h t S B f) (hp : i32 p) (hq : i32 q) (hd : i32 d) (hn : i32 n) (k0 : 0 ≤ p ∧ p < sNp S) (kn : ¬ (0 ≤ q ∧ q < sNt S)) : SpecK mX11_see [vr 30, vi p, vi q, vi d, vi n] h (fun o h' => o = .inr eNS ∧ FS h h') := by
  refine Spec_of (by decide +kernel) (Nat.le_of_ble_eq_true rfl) ?_
  have ht := c.1
  have hH := TTt ht
  have hB := c.2.2.2.1
  have hNt := hB.1
  have hNp := hB.2.1
  have hT := c.2.2.2.2.2.1
  have hC := c.2.2.2.2.2.2.1
  have h99 := c.2.2.2.2.2.2.2.1
  have G := c.2.2.2.2.2.2.2.2
  have hf0 := hT.2.2.2.1
  refine K_aload_n (dt_at dtX11_see 0 rfl) rfl rfl ?_
  refine K_iload_n (dt_at dtX11_see 1 rfl) rfl rfl ?_
  refine K_callV (M' := mX11_needPerson) (a := 30) (ci := 11) (As := [vi p]) (st := []) (dt_at dtX11_see 2 rfl) (sX11_needPerson hH c.2.1 c.2.2.1.2.1.2 hNp (by first | assumption | exact ⟨by omega, by omega⟩) (by omega)) (by decide) rfl wL_X11_184 vX11_needPerson rfl npX11_needPerson (by decide) (by decide) (Nat.le_of_ble_eq_true rfl) (by decide) (by decide) GK_E (fun v9 h9 hq => ?_) (fun E h9 hq => by cases hq.1)
  obtain ⟨e9, e8⟩ := hq
  cases e9
  rw [e8]
  show K mX11_see _ _ 1 6 5 [(0, vr 30), (1, vi p), (2, vi q), (3, vi d), (4, vi n)] [] h
  refine K_aload_n (dt_at dtX11_see 3 rfl) rfl rfl ?_
  refine K_iload_n (dt_at dtX11_see 4 rfl) rfl rfl ?_
  exact K_callV (M' := mX11_needThing) (a := 30) (ci := 11) (As := [vi q]) (st := []) (dt_at dtX11_see 5 rfl) (sX11_needThing_no hH c.2.1 c.2.2.1.2.1.1 hNt (by assumption) (by omega)) (by decide) rfl wL_X11_172 vX11_needThing rfl npX11_needThing (by decide) (by decide) (Nat.le_of_ble_eq_true rfl) (by decide) (by decide) GK_E (fun v9 h9 hq => by cases hq.1) (fun E h9 hq => by obtain ⟨e9, e8⟩ := hq; cases e9; rw [e8]; exact KX_out (by decide) (by decide) ⟨rfl, FS_rf G⟩)
set_option maxHeartbeats 4000000 in
set_option maxRecDepth 100000 in
theorem sX11_see_no {h : HP} {S : HS} {f : Int → Int} {C : AC} {N : SN} {im : Option SV} {tp : Int → Int} {nt : Nat} {rf : Int × Int × Int} {fl : Int} {p q d n : Int} (J : CI h (S, (f, C, N), im, tp, nt, rf, fl)) (hp : 0 ≤ p ∧ p < sNp S) (hqt : 0 ≤ q ∧ q < sNt S) (hd : i32 d) (hn : i32 n) (no : ¬ ((0 ≤ d ∧ d ≤ 30 ∧ 0 ≤ n ∧ n ≤ 9) ∧ N.1 < 8)) : SpecK mX11_see [vr 30, vi p, vi q, vi d, vi n] h (fun o h' => o = .inl (some (vi (-1))) ∧ CI h' (S, (f, C, N), im, tp, nt, (cn32 rf 2), fl) ∧ FM h h') := by
  refine Spec_of (by decide +kernel) (Nat.le_of_ble_eq_true rfl) ?_
  obtain ⟨t, ht_, i2, i3, i4, i5, i6, i7, i8, i9, i10⟩ := id J
  have c : CQ h t S 600 f := CI_CQ ht_ i2 i4 i5 i6 i7 i8
  have ht := c.1
  have hH := TTt ht
  have hB := c.2.2.2.1
  have hNt := hB.1
  have hNp := hB.2.1
  have hT := c.2.2.2.2.2.1
  have hC := c.2.2.2.2.2.2.1
  have h99 := c.2.2.2.2.2.2.2.1
  have G := c.2.2.2.2.2.2.2.2
  have hf0 := hT.2.2.2.1
  refine K_aload_n (dt_at dtX11_see 0 rfl) rfl rfl ?_
  refine K_iload_n (dt_at dtX11_see 1 rfl) rfl rfl ?_
  refine K_callV (M' := mX11_needPerson) (a := 30) (ci := 11) (As := [vi p]) (st := []) (dt_at dtX11_see 2 rfl) (sX11_needPerson hH c.2.1 c.2.2.1.2.1.2 hNp (by first | assumption | exact ⟨by omega, by omega⟩) (by omega)) (by decide) rfl wL_X11_184 vX11_needPerson rfl npX11_needPerson (by decide) (by decide) (Nat.le_of_ble_eq_true rfl) (by decide) (by decide) GK_E (fun v9 h9 hq => ?_) (fun E h9 hq => by cases hq.1)
  obtain ⟨e9, e8⟩ := hq
  cases e9
  rw [e8]
  show K mX11_see _ _ 1 6 5 [(0, vr 30), (1, vi p), (2, vi q), (3, vi d), (4, vi n)] [] h
  refine K_aload_n (dt_at dtX11_see 3 rfl) rfl rfl ?_
  refine K_iload_n (dt_at dtX11_see 4 rfl) rfl rfl ?_
  refine K_callV (M' := mX11_needThing) (a := 30) (ci := 11) (As := [vi q]) (st := []) (dt_at dtX11_see 5 rfl) (sX11_needThing hH c.2.1 c.2.2.1.2.1.1 hNt (by first | assumption | exact ⟨by omega, by omega⟩) (by omega)) (by decide) rfl wL_X11_172 vX11_needThing rfl npX11_needThing (by decide) (by decide) (Nat.le_of_ble_eq_true rfl) (by decide) (by decide) GK_E (fun v9 h9 hq => ?_) (fun E h9 hq => by cases hq.1)
  obtain ⟨e9, e8⟩ := hq
  cases e9
  rw [e8]
  show K mX11_see _ _ 2 12 10 [(0, vr 30), (1, vi p), (2, vi q), (3, vi d), (4, vi n)] [] h
  refine K_iload_n (dt_at dtX11_see 6 rfl) rfl rfl ?_
  refine K_if_lt (tgt := 36) (dt_at dtX11_see 7 rfl) (by decide) (by first | assumption | exact ⟨by omega, by omega⟩) (fun c1 => ?_) (fun c1 => ?_)
  · refine K_iconst (dt_at dtX11_see 18 rfl) ?_
    refine K_istore (ls' := [(5, vi 0), (0, vr 30), (1, vi p), (2, vi q), (3, vi d), (4, vi n)]) (dt_at dtX11_see 19 rfl) (by decide) rfl ?_
    refine K_iload (dt_at dtX11_see 20 rfl) rfl ?_
    refine K_if_eq (tgt := 59) (dt_at dtX11_see 21 rfl) (by decide) (by first | assumption | exact ⟨by omega, by omega⟩) (fun c2 => ?_) (fun c2 => absurd c2 (by omega))
    refine K_aload_n (dt_at dtX11_see 30 rfl) rfl rfl ?_
    refine K_iconst (dt_at dtX11_see 31 rfl) ?_
    refine K_callV (M' := mX11_refuse) (a := 30) (ci := 11) (As := [vi 2]) (st := []) (dt_at dtX11_see 32 rfl) (sX11_refuse (by omega)) (by decide) rfl wL_X11_227 vX11_refuse rfl npX11_refuse (by decide) (by decide) (Nat.le_of_ble_eq_true rfl) (by decide) (by decide) GK_E (fun v9 hc1 hq => ?_) (fun E h9 hq => by cases hq.1)
    have hqq2 := hq
    obtain ⟨e9q2, e8q2⟩ := hqq2
    have CR := CI_ref J 2 (by decide) e8q2
    cases e9q2
    show K mX11_see _ _ 2 12 64 [(5, vi 0), (0, vr 30), (1, vi p), (2, vi q), (3, vi d), (4, vi n)] [vi (-1)] hc1
    exact K_iret (dt_at dtX11_see 33 rfl) rfl rfl (by decide) (by decide) ⟨rfl, CR⟩
  · refine K_iload_n (dt_at dtX11_see 8 rfl) rfl rfl ?_
    refine K_bipush (dt_at dtX11_see 9 rfl) (by decide) ?_
    refine K_icmp_gt (tgt := 36) (dt_at dtX11_see 10 rfl) (by decide) (by first | assumption | exact ⟨by omega, by omega⟩) (by first | assumption | exact ⟨by omega, by omega⟩) (fun c3 => ?_) (fun c3 => ?_)
    · refine K_iconst (dt_at dtX11_see 18 rfl) ?_
      refine K_istore (ls' := [(5, vi 0), (0, vr 30), (1, vi p), (2, vi q), (3, vi d), (4, vi n)]) (dt_at dtX11_see 19 rfl) (by decide) rfl ?_
      refine K_iload (dt_at dtX11_see 20 rfl) rfl ?_
      refine K_if_eq (tgt := 59) (dt_at dtX11_see 21 rfl) (by decide) (by first | assumption | exact ⟨by omega, by omega⟩) (fun c4 => ?_) (fun c4 => absurd c4 (by omega))
      refine K_aload_n (dt_at dtX11_see 30 rfl) rfl rfl ?_
      refine K_iconst (dt_at dtX11_see 31 rfl) ?_
      refine K_callV (M' := mX11_refuse) (a := 30) (ci := 11) (As := [vi 2]) (st := []) (dt_at dtX11_see 32 rfl) (sX11_refuse (by omega)) (by decide) rfl wL_X11_227 vX11_refuse rfl npX11_refuse (by decide) (by decide) (Nat.le_of_ble_eq_true rfl) (by decide) (by decide) GK_E (fun v9 hc3 hq => ?_) (fun E h9 hq => by cases hq.1)
      have hqq4 := hq
      obtain ⟨e9q4, e8q4⟩ := hqq4
      have CR := CI_ref J 2 (by decide) e8q4
      cases e9q4
      show K mX11_see _ _ 2 12 64 [(5, vi 0), (0, vr 30), (1, vi p), (2, vi q), (3, vi d), (4, vi n)] [vi (-1)] hc3
      exact K_iret (dt_at dtX11_see 33 rfl) rfl rfl (by decide) (by decide) ⟨rfl, CR⟩
    · refine K_iload (dt_at dtX11_see 11 rfl) rfl ?_
      refine K_if_lt (tgt := 36) (dt_at dtX11_see 12 rfl) (by decide) (by first | assumption | exact ⟨by omega, by omega⟩) (fun c5 => ?_) (fun c5 => ?_)
      · refine K_iconst (dt_at dtX11_see 18 rfl) ?_
        refine K_istore (ls' := [(5, vi 0), (0, vr 30), (1, vi p), (2, vi q), (3, vi d), (4, vi n)]) (dt_at dtX11_see 19 rfl) (by decide) rfl ?_
        refine K_iload (dt_at dtX11_see 20 rfl) rfl ?_
        refine K_if_eq (tgt := 59) (dt_at dtX11_see 21 rfl) (by decide) (by first | assumption | exact ⟨by omega, by omega⟩) (fun c6 => ?_) (fun c6 => absurd c6 (by omega))
        refine K_aload_n (dt_at dtX11_see 30 rfl) rfl rfl ?_
        refine K_iconst (dt_at dtX11_see 31 rfl) ?_
        refine K_callV (M' := mX11_refuse) (a := 30) (ci := 11) (As := [vi 2]) (st := []) (dt_at dtX11_see 32 rfl) (sX11_refuse (by omega)) (by decide) rfl wL_X11_227 vX11_refuse rfl npX11_refuse (by decide) (by decide) (Nat.le_of_ble_eq_true rfl) (by decide) (by decide) GK_E (fun v9 hc5 hq => ?_) (fun E h9 hq => by cases hq.1)
        have hqq6 := hq
        obtain ⟨e9q6, e8q6⟩ := hqq6
        have CR := CI_ref J 2 (by decide) e8q6
        cases e9q6
        show K mX11_see _ _ 2 12 64 [(5, vi 0), (0, vr 30), (1, vi p), (2, vi q), (3, vi d), (4, vi n)] [vi (-1)] hc5
        exact K_iret (dt_at dtX11_see 33 rfl) rfl rfl (by decide) (by decide) ⟨rfl, CR⟩
      · refine K_iload (dt_at dtX11_see 13 rfl) rfl ?_
        refine K_bipush (dt_at dtX11_see 14 rfl) (by decide) ?_
        refine K_icmp_gt (tgt := 36) (dt_at dtX11_see 15 rfl) (by decide) (by first | assumption | exact ⟨by omega, by omega⟩) (by first | assumption | exact ⟨by omega, by omega⟩) (fun c7 => ?_) (fun c7 => ?_)
        · refine K_iconst (dt_at dtX11_see 18 rfl) ?_
          refine K_istore (ls' := [(5, vi 0), (0, vr 30), (1, vi p), (2, vi q), (3, vi d), (4, vi n)]) (dt_at dtX11_see 19 rfl) (by decide) rfl ?_
          refine K_iload (dt_at dtX11_see 20 rfl) rfl ?_
          refine K_if_eq (tgt := 59) (dt_at dtX11_see 21 rfl) (by decide) (by first | assumption | exact ⟨by omega, by omega⟩) (fun c8 => ?_) (fun c8 => absurd c8 (by omega))
          refine K_aload_n (dt_at dtX11_see 30 rfl) rfl rfl ?_
          refine K_iconst (dt_at dtX11_see 31 rfl) ?_
          refine K_callV (M' := mX11_refuse) (a := 30) (ci := 11) (As := [vi 2]) (st := []) (dt_at dtX11_see 32 rfl) (sX11_refuse (by omega)) (by decide) rfl wL_X11_227 vX11_refuse rfl npX11_refuse (by decide) (by decide) (Nat.le_of_ble_eq_true rfl) (by decide) (by decide) GK_E (fun v9 hc7 hq => ?_) (fun E h9 hq => by cases hq.1)
          have hqq8 := hq
          obtain ⟨e9q8, e8q8⟩ := hqq8
          have CR := CI_ref J 2 (by decide) e8q8
          cases e9q8
          show K mX11_see _ _ 2 12 64 [(5, vi 0), (0, vr 30), (1, vi p), (2, vi q), (3, vi d), (4, vi n)] [vi (-1)] hc7
          exact K_iret (dt_at dtX11_see 33 rfl) rfl rfl (by decide) (by decide) ⟨rfl, CR⟩
        · refine K_iconst (dt_at dtX11_see 16 rfl) ?_
          refine K_goto (tgt := 37) (dt_at dtX11_see 17 rfl) (by decide) ?_
          refine K_istore (ls' := [(5, vi 1), (0, vr 30), (1, vi p), (2, vi q), (3, vi d), (4, vi n)]) (dt_at dtX11_see 19 rfl) (by decide) rfl ?_
          refine K_iload (dt_at dtX11_see 20 rfl) rfl ?_
          refine K_if_eq (tgt := 59) (dt_at dtX11_see 21 rfl) (by decide) (by first | assumption | exact ⟨by omega, by omega⟩) (fun c9 => absurd c9 (by omega)) (fun c9 => ?_)
          refine K_aload_n (dt_at dtX11_see 22 rfl) rfl rfl ?_
          refine K_get (a := 30) (ci := 11) (k := 7) (v := vr 70) (dt_at dtX11_see 23 rfl) (by decide) rfl (by decide) wF_X11_53 rfl ?_
          refine K_iload_n (dt_at dtX11_see 24 rfl) rfl rfl ?_
          refine K_iload_n (dt_at dtX11_see 25 rfl) rfl rfl ?_
          refine K_iload_n (dt_at dtX11_see 26 rfl) rfl rfl ?_
          refine K_iload (dt_at dtX11_see 27 rfl) rfl ?_
          refine K_callV (M' := mX7_add) (a := 70) (ci := 7) (As := [vi p, vi q, vi d, vi n]) (st := []) (dt_at dtX11_see 28 rfl) (sX7_add_70_0 i7.2.2 (show ¬ N.1 < 8 by omega)) (show TT 70 = (0, 7) from rfl) rfl wL_X11_339 vX7_add rfl npX7_add (by decide) (by decide) (Nat.le_of_ble_eq_true rfl) (by decide) (by decide) GK_E (fun v9 h9 hq => ?_) (fun E h9 hq => by cases hq.1)
          obtain ⟨e9, e8⟩ := hq
          cases e9
          rw [e8]
          show K mX11_see _ _ 2 12 56 [(5, vi 1), (0, vr 30), (1, vi p), (2, vi q), (3, vi d), (4, vi n)] [vi 0] h
          refine K_if_ne (tgt := 65) (dt_at dtX11_see 29 rfl) (by decide) (by first | assumption | exact ⟨by omega, by omega⟩) (fun c10 => absurd c10 (by omega)) (fun c10 => ?_)
          refine K_aload_n (dt_at dtX11_see 30 rfl) rfl rfl ?_
          refine K_iconst (dt_at dtX11_see 31 rfl) ?_
          refine K_callV (M' := mX11_refuse) (a := 30) (ci := 11) (As := [vi 2]) (st := []) (dt_at dtX11_see 32 rfl) (sX11_refuse (by omega)) (by decide) rfl wL_X11_227 vX11_refuse rfl npX11_refuse (by decide) (by decide) (Nat.le_of_ble_eq_true rfl) (by decide) (by decide) GK_E (fun v9 hc9 hq => ?_) (fun E h9 hq => by cases hq.1)
          have hqq10 := hq
          obtain ⟨e9q10, e8q10⟩ := hqq10
          have CR := CI_ref J 2 (by decide) e8q10
          cases e9q10
          show K mX11_see _ _ 2 12 64 [(5, vi 1), (0, vr 30), (1, vi p), (2, vi q), (3, vi d), (4, vi n)] [vi (-1)] hc9
          exact K_iret (dt_at dtX11_see 33 rfl) rfl rfl (by decide) (by decide) ⟨rfl, CR⟩
set_option maxHeartbeats 4000000 in
set_option maxRecDepth 100000 in
theorem sX11_see {h : HP} {S : HS} {f : Int → Int} {C : AC} {N : SN} {im : Option SV} {tp : Int → Int} {nt : Nat} {rf : Int × Int × Int} {fl : Int} {p q d n : Int} (J : CI h (S, (f, C, N), im, tp, nt, rf, fl)) (hp : 0 ≤ p ∧ p < sNp S) (hqt : 0 ≤ q ∧ q < sNt S) (hd : i32 d) (hn : i32 n) (ok : (0 ≤ d ∧ d ≤ 30 ∧ 0 ≤ n ∧ n ≤ 9) ∧ N.1 < 8) : SpecK mX11_see [vr 30, vi p, vi q, vi d, vi n] h (fun o h' => o = .inl (some (vi ((N.1 + 1 : Nat) : Int))) ∧ CI h' (S, (f, C, seP N p q d n), im, tp, nt, rf, fl) ∧ FM h h') := by
  refine Spec_of (by decide +kernel) (Nat.le_of_ble_eq_true rfl) ?_
  obtain ⟨t, ht_, i2, i3, i4, i5, i6, i7, i8, i9, i10⟩ := id J
  have c : CQ h t S 600 f := CI_CQ ht_ i2 i4 i5 i6 i7 i8
  have ht := c.1
  have hH := TTt ht
  have hB := c.2.2.2.1
  have hNt := hB.1
  have hNp := hB.2.1
  have hT := c.2.2.2.2.2.1
  have hC := c.2.2.2.2.2.2.1
  have h99 := c.2.2.2.2.2.2.2.1
  have G := c.2.2.2.2.2.2.2.2
  have hf0 := hT.2.2.2.1
  refine K_aload_n (dt_at dtX11_see 0 rfl) rfl rfl ?_
  refine K_iload_n (dt_at dtX11_see 1 rfl) rfl rfl ?_
  refine K_callV (M' := mX11_needPerson) (a := 30) (ci := 11) (As := [vi p]) (st := []) (dt_at dtX11_see 2 rfl) (sX11_needPerson hH c.2.1 c.2.2.1.2.1.2 hNp (by first | assumption | exact ⟨by omega, by omega⟩) (by omega)) (by decide) rfl wL_X11_184 vX11_needPerson rfl npX11_needPerson (by decide) (by decide) (Nat.le_of_ble_eq_true rfl) (by decide) (by decide) GK_E (fun v9 h9 hq => ?_) (fun E h9 hq => by cases hq.1)
  obtain ⟨e9, e8⟩ := hq
  cases e9
  rw [e8]
  show K mX11_see _ _ 1 6 5 [(0, vr 30), (1, vi p), (2, vi q), (3, vi d), (4, vi n)] [] h
  refine K_aload_n (dt_at dtX11_see 3 rfl) rfl rfl ?_
  refine K_iload_n (dt_at dtX11_see 4 rfl) rfl rfl ?_
  refine K_callV (M' := mX11_needThing) (a := 30) (ci := 11) (As := [vi q]) (st := []) (dt_at dtX11_see 5 rfl) (sX11_needThing hH c.2.1 c.2.2.1.2.1.1 hNt (by first | assumption | exact ⟨by omega, by omega⟩) (by omega)) (by decide) rfl wL_X11_172 vX11_needThing rfl npX11_needThing (by decide) (by decide) (Nat.le_of_ble_eq_true rfl) (by decide) (by decide) GK_E (fun v9 h9 hq => ?_) (fun E h9 hq => by cases hq.1)
  obtain ⟨e9, e8⟩ := hq
  cases e9
  rw [e8]
  show K mX11_see _ _ 2 12 10 [(0, vr 30), (1, vi p), (2, vi q), (3, vi d), (4, vi n)] [] h
  refine K_iload_n (dt_at dtX11_see 6 rfl) rfl rfl ?_
  refine K_if_lt (tgt := 36) (dt_at dtX11_see 7 rfl) (by decide) (by first | assumption | exact ⟨by omega, by omega⟩) (fun c1 => absurd c1 (by omega)) (fun c1 => ?_)
  refine K_iload_n (dt_at dtX11_see 8 rfl) rfl rfl ?_
  refine K_bipush (dt_at dtX11_see 9 rfl) (by decide) ?_
  refine K_icmp_gt (tgt := 36) (dt_at dtX11_see 10 rfl) (by decide) (by first | assumption | exact ⟨by omega, by omega⟩) (by first | assumption | exact ⟨by omega, by omega⟩) (fun c2 => absurd c2 (by omega)) (fun c2 => ?_)
  refine K_iload (dt_at dtX11_see 11 rfl) rfl ?_
  refine K_if_lt (tgt := 36) (dt_at dtX11_see 12 rfl) (by decide) (by first | assumption | exact ⟨by omega, by omega⟩) (fun c3 => absurd c3 (by omega)) (fun c3 => ?_)
  refine K_iload (dt_at dtX11_see 13 rfl) rfl ?_
  refine K_bipush (dt_at dtX11_see 14 rfl) (by decide) ?_
  refine K_icmp_gt (tgt := 36) (dt_at dtX11_see 15 rfl) (by decide) (by first | assumption | exact ⟨by omega, by omega⟩) (by first | assumption | exact ⟨by omega, by omega⟩) (fun c4 => absurd c4 (by omega)) (fun c4 => ?_)
  refine K_iconst (dt_at dtX11_see 16 rfl) ?_
  refine K_goto (tgt := 37) (dt_at dtX11_see 17 rfl) (by decide) ?_
  refine K_istore (ls' := [(5, vi 1), (0, vr 30), (1, vi p), (2, vi q), (3, vi d), (4, vi n)]) (dt_at dtX11_see 19 rfl) (by decide) rfl ?_
  refine K_iload (dt_at dtX11_see 20 rfl) rfl ?_
  refine K_if_eq (tgt := 59) (dt_at dtX11_see 21 rfl) (by decide) (by first | assumption | exact ⟨by omega, by omega⟩) (fun c5 => absurd c5 (by omega)) (fun c5 => ?_)
  refine K_aload_n (dt_at dtX11_see 22 rfl) rfl rfl ?_
  refine K_get (a := 30) (ci := 11) (k := 7) (v := vr 70) (dt_at dtX11_see 23 rfl) (by decide) rfl (by decide) wF_X11_53 rfl ?_
  refine K_iload_n (dt_at dtX11_see 24 rfl) rfl rfl ?_
  refine K_iload_n (dt_at dtX11_see 25 rfl) rfl rfl ?_
  refine K_iload_n (dt_at dtX11_see 26 rfl) rfl rfl ?_
  refine K_iload (dt_at dtX11_see 27 rfl) rfl ?_
  refine K_callV (M' := mX7_add) (a := 70) (ci := 7) (As := [vi p, vi q, vi d, vi n]) (st := []) (dt_at dtX11_see 28 rfl) (sX7_add_70_1 i7.2.2 (show N.1 < 8 by omega)) (show TT 70 = (0, 7) from rfl) rfl wL_X11_339 vX7_add rfl npX7_add (by decide) (by decide) (Nat.le_of_ble_eq_true rfl) (by decide) (by decide) GK_E (fun v9 hc1 hq => ?_) (fun E h9 hq => by cases hq.1)
  have hqq2 := hq
  obtain ⟨e9q2, K1, F1⟩ := hqq2
  have mk : hI hc1 70 4 = ((N.1 + 1 : Nat) : Int) := K1.2.1
  cases e9q2
  show K mX11_see _ _ 2 12 56 [(5, vi 1), (0, vr 30), (1, vi p), (2, vi q), (3, vi d), (4, vi n)] [vi 1] hc1
  refine K_if_ne (tgt := 65) (dt_at dtX11_see 29 rfl) (by decide) (by first | assumption | exact ⟨by omega, by omega⟩) (fun c6 => ?_) (fun c6 => absurd c6 (by omega))
  refine K_aload_n (dt_at dtX11_see 34 rfl) rfl rfl ?_
  refine K_get (a := 30) (ci := 11) (k := 7) (v := vr 70) (dt_at dtX11_see 35 rfl) (by decide) rfl (by decide) wF_X11_53 rfl ?_
  refine K_callV (M' := mX7_many) (a := 70) (ci := 7) (As := []) (st := []) (dt_at dtX11_see 36 rfl) (sX7_many (a := 70) rfl) (show TT 70 = (0, 7) from rfl) rfl wL_X11_169 vX7_many rfl npX7_many (by decide) (by decide) (Nat.le_of_ble_eq_true rfl) (by decide) (by decide) GK_E (fun v9 h9 hq => ?_) (fun E h9 hq => by cases hq.1)
  obtain ⟨e9, e8⟩ := hq
  cases e9
  rw [e8]
  show K mX11_see _ _ 2 12 72 [(5, vi 1), (0, vr 30), (1, vi p), (2, vi q), (3, vi d), (4, vi n)] [vi (hI hc1 70 4)] hc1
  rw [mk]
  refine K_iret (dt_at dtX11_see 37 rfl) rfl rfl (by decide) (by decide) ⟨rfl, CI_seen J F1 K1 (fun i hi => ?_)⟩
  have hi : i < N.1 + 1 := hi
  unfold seP; dsimp only
  by_cases z : i = N.1
  · rw [if_pos z, if_pos z, if_pos z, if_pos z]; omega
  · rw [if_neg z, if_neg z, if_neg z, if_neg z]; exact i8.2.2 i (by show i < N.1; omega)
