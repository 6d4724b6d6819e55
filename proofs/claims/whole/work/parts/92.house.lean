/-! house of the class -/
theorem bg_rw {D : DR} (hD : DOK D) {g : Int → Int} (j : Int) (j0 : 0 ≤ j) (j1 : j < 77) : bg3 (bg2 (bg1 g 77) D.2.1.2.2 D.1.1) D.2.2.1.2.2.2.1 D.2.2.1.2.2.2.2 D.1.2 D.1.2 j = rwD D j := by
  have h6 := hD.1.1
  have h7 := hD.1.2
  have e1 : bg1 g 77 j = 0 := by unfold bg1; rw [if_pos ⟨j0, by omega⟩]
  unfold bg3
  by_cases c1 : j < 22
  · rw [rwD_n hD (Or.inl c1)]
    by_cases a : j < 8
    · rw [if_neg (by omega), if_neg (by omega), if_neg (by omega), drR_lo a]
      unfold bg2
      rw [if_neg (by omega), e1]
    · by_cases b : j < 15
      · have := drR_c (nt := D.1.1) (np := D.1.2) (st := D.2.1.2.2) (fo := D.2.2.1.2.2.2.1) (bw := D.2.2.1.2.2.2.2) (p := j - 8) (by omega)
        rw [show 8 + (j - 8) = j by omega] at this
        rw [this]
        by_cases z : j - 8 < (D.1.2 : Int)
        · rw [if_pos z, if_pos (by omega)]
        · rw [if_neg z, if_neg (by omega), if_neg (by omega), if_neg (by omega)]
          unfold bg2
          rw [if_neg (by omega), e1]
      · have := drR_f (nt := D.1.1) (np := D.1.2) (st := D.2.1.2.2) (fo := D.2.2.1.2.2.2.1) (bw := D.2.2.1.2.2.2.2) (p := j - 15) (by omega)
        rw [show 15 + (j - 15) = j by omega] at this
        rw [this, if_neg (by omega)]
        by_cases z : j - 15 < (D.1.2 : Int)
        · rw [if_pos z, if_pos (by omega)]
        · rw [if_neg z, if_neg (by omega), if_neg (by omega)]
          unfold bg2
          rw [if_neg (by omega), e1]
  · by_cases c2 : j < 29
    · have := rwD_k hD (p := j - 22) (by omega)
      rw [show 22 + (j - 22) = j by omega] at this
      rw [this, if_neg (by omega), if_neg (by omega)]
      by_cases z : j - 22 < (D.1.2 : Int)
      · rw [if_pos z, if_pos (by omega)]
      · rw [if_neg z, if_neg (by omega)]
        unfold bg2
        rw [if_neg (by omega), e1]
    · rw [rwD_n hD (Or.inr (by omega)), if_neg (by omega), if_neg (by omega), if_neg (by omega)]
      unfold bg2
      by_cases c3 : j < 35
      · have := drR_s (nt := D.1.1) (np := D.1.2) (st := D.2.1.2.2) (fo := D.2.2.1.2.2.2.1) (bw := D.2.2.1.2.2.2.2) (t := j - 29) (by omega)
        rw [show 29 + (j - 29) = j by omega] at this
        rw [this]
        by_cases z : j - 29 < (D.1.1 : Int)
        · rw [if_pos z, if_pos (by omega)]
        · rw [if_neg z, if_neg (by omega), e1]
      · rw [drR_hi (by omega), if_neg (by omega), e1]
theorem rlD_R {h : HP} {r : Nat} {o : Option (List Int)} {mk : (Int → Int) → Int → Int} {P : Int → Prop} (k : rlD h r o) (hw : ∀ L, o = some L → wfL 0 L ∧ vaL P L) (hr : ∀ L, wfL 0 L → vaL P L → ∀ v, (∀ i, i32 (v i)) → rF L (mk v) = ruF L v) : rlR h r mk (o.map rF) := by
  cases o with
  | none => exact k.1
  | some L =>
    obtain ⟨k1, k2, k3, k4⟩ := k
    obtain ⟨y1, y2⟩ := hw L rfl
    refine ⟨k1, L.length, k3, k2, fun i i0 i1 => ?_, fun v g hv => ?_⟩
    · obtain ⟨j, rfl⟩ : ∃ j : Nat, i = (j : Int) := ⟨i.toNat, by omega⟩
      have hj : j < L.length := by omega
      rw [k4 j hj, List.getD_eq_getElem?_getD, List.getElem?_eq_getElem hj]
      exact wfL_rng 0 L y1 _ (List.getElem_mem hj)
    · rw [evR_ruF k4 y1]
      exact (hr L y1 y2 v hv).symm
def HOc (h' : HP) (o : AO) (S : HS) (v : SV) (im : Option SV) (tp : Int → Int) (rf : Int × Int × Int) : (Int × Nat) ⊕ (DR × Nat) → Prop
  | .inl e => o = .inl (some (vi e.1)) ∧ CI h' (S, v, im, tp, 0, cn32 rf 0, (e.2 : Int))
  | .inr (D, _) => o = .inl (some (vi 0)) ∧ ∃ f, (∀ j : Int, 0 ≤ j → j < 77 → f j = rwD D j) ∧ CI h' (ASd D f tp rf)
theorem CI_rd {h h' : HP} {T : Nat} {S : HS} {v : SV} {im : Option SV} {tp : Int → Int} {nt : Nat} {rf rf' : Int × Int × Int} {fl fl' : Int} (J : CI h (S, v, im, tp, nt, rf, fl)) (hT : hR h 30 3 = T) (fa : ∀ a, ¬ (T < a ∧ a ≤ T + 8) → a ≠ T + 10 → a ≠ T + 13 → a ≠ 32 → hA h' a = hA h a) (fi : ∀ a k, a ≠ T → a ≠ T + 9 → a ≠ T + 12 → a ≠ 63 → a ≠ 64 → (a ≠ 30 ∨ (k ≠ 15 ∧ k ≠ 16)) → hI h' a k = hI h a k) (fr : ∀ a k, a ≠ 63 → a ≠ 64 → hR h' a k = hR h a k) (e15 : hI h' 30 15 = 0) (e16 : hI h' 30 16 = fl') (r : hA h' 32 0 = rf'.1 ∧ hA h' 32 1 = rf'.2.1 ∧ hA h' 32 2 = rf'.2.2) : CI h' (S, v, im, tp, 0, rf', fl') := by
  obtain ⟨t, ht, i2, i3, i4, i5, i6, i7, i8, i9, i10⟩ := J
  have hTt : T = 81 - t := hT.symm.trans i3
  have fA : ∀ a, (a < 30 ∨ (t ≤ a ∧ a ≤ t + 14) ∨ a = T + 11 ∨ a = T + 14 ∨ 62 < a ∨ a = 31) → hA h' a = hA h a := fun a ha => fa a (by omega) (by omega) (by omega) (by omega)
  have fI : ∀ a k, ((t ≤ a ∧ a ≤ t + 14) ∨ 64 < a) → hI h' a k = hI h a k := fun a k ha => fi a k (by omega) (by omega) (by omega) (by omega) (by omega) (by omega)
  have hS : cHS h' t S := by
    obtain ⟨⟨k1, k2, k3, k4, k5⟩, ⟨k6, k7⟩, k8, k9⟩ := i4
    exact ⟨⟨by rw [fA _ (by omega)]; exact k1, by rw [fA _ (by omega)]; exact k2, by rw [fA _ (by omega)]; exact k3, by rw [fA _ (by omega)]; exact k4, by rw [fA _ (by omega)]; exact k5⟩, ⟨by rw [fI _ _ (by omega)]; exact k6, by rw [fI _ _ (by omega)]; exact k7⟩, rlR_FS k8 (fI _ _ (by omega)) (fI _ _ (by omega)) (fA _ (by omega)), rlR_FS k9 (fI _ _ (by omega)) (fI _ _ (by omega)) (fA _ (by omega))⟩
  have hG : G32 h' := by
    obtain ⟨g1, g2, g3, g4, g5, g6, g7⟩ := i6
    exact ⟨by rw [fA 44 (by omega)]; exact g1, by rw [fA 47 (by omega)]; exact g2, by rw [fA 59 (by omega)]; exact g3, by rw [fA 62 (by omega)]; exact g4, by rw [fA 87 (by omega)]; exact g5, by rw [fA 104 (by omega)]; exact g6, by rw [fr 84 3 (by decide) (by decide), fr 84 4 (by decide) (by decide)]; exact g7⟩
  exact ⟨t, ht, by rw [fr 30 2 (by decide) (by decide)]; exact i2, by rw [fr 30 3 (by decide) (by decide)]; exact i3, hS, i5, hG, svR_fr i7 (fA _ (by omega)) (fI _ _ (by omega)) (fI _ _ (by omega)) (fA _ (by omega)) (fI _ _ (by omega)) (fA _ (by omega)) (fA _ (by omega)) (fA _ (by omega)) (fA _ (by omega)), i8,
    imR_fr i9 (fi 30 17 (by omega) (by omega) (by omega) (by decide) (by decide) (by omega)) (fA _ (by omega)) (fI _ _ (by omega)) (fI _ _ (by omega)) (fA _ (by omega)) (fI _ _ (by omega)) (fA _ (by omega)) (fA _ (by omega)) (fA _ (by omega)) (fA _ (by omega)), e15, Nat.zero_le _, fun i i0 i1 => absurd (show i < ((0 : Nat) : Int) from i1) (by omega), r, e16⟩
theorem CI_new {h h' : HP} {T : Nat} {S : HS} {v : SV} {im : Option SV} {tp f : Int → Int} {nt : Nat} {rf : Int × Int × Int} {fl : Int} {D : DR} (J : CI h (S, v, im, tp, nt, rf, fl)) (hT : hR h 30 3 = T) (hD : DOK D) (d : DRf h' T D) (fa : ∀ a, ¬ (T < a ∧ a ≤ T + 8) → a ≠ T + 10 → a ≠ T + 13 → a ≠ 67 → hA h' a = hA h a) (fr : ∀ a k, a ≠ 63 → a ≠ 64 → a ≠ 30 → hR h' a k = hR h a k) (r2 : hR h' 30 2 = T) (r3 : hR h' 30 3 = 81 - T) (a67 : hA h' 67 = f) (hf : ∀ j : Int, 0 ≤ j → j < 77 → f j = rwD D j) (z : hI h' 68 1 = 0 ∧ hI h' 68 2 = 0 ∧ hI h' 70 4 = 0 ∧ hI h' 30 17 = 0) (e15 : hI h' 30 15 = 0) (e16 : hI h' 30 16 = -1) : CI h' (ASd D f tp rf) := by
  obtain ⟨t, ht, i2, i3, i4, i5, i6, i7, i8, i9, i10⟩ := J
  have hTt : T = 81 - t := hT.symm.trans i3
  have hT2 : T = 33 ∨ T = 48 := by omega
  obtain ⟨⟨d1, d2⟩, ⟨d3, d4⟩, ⟨w1, w2, w3⟩, ⟨p1, p2, p3, p4, p5⟩, rr1, rr2⟩ := d
  obtain ⟨-, -, -, hp5, hp6⟩ := id hD
  have hG : G32 h' := by
    obtain ⟨g1, g2, g3, g4, g5, g6, g7⟩ := i6
    have fA : ∀ a, a = 44 ∨ a = 47 ∨ a = 59 ∨ a = 62 ∨ a = 87 ∨ a = 104 → hA h' a = hA h a := fun a ha => fa a (by omega) (by omega) (by omega) (by omega)
    exact ⟨by rw [fA 44 (by omega)]; exact g1, by rw [fA 47 (by omega)]; exact g2, by rw [fA 59 (by omega)]; exact g3, by rw [fA 62 (by omega)]; exact g4, by rw [fA 87 (by omega)]; exact g5, by rw [fA 104 (by omega)]; exact g6, by rw [fr 84 3 (by decide) (by decide) (by decide), fr 84 4 (by decide) (by decide) (by decide)]; exact g7⟩
  refine ⟨T, hT2, r2, r3, ⟨⟨w1, w2, p1, p2, p3⟩, ⟨d1, d3⟩, rlD_R rr1 hp5 (fun L y1 y2 v hv => rF_P y1 y2 hv), rlD_R rr2 hp6 (fun L y1 y2 v hv => rF_F y1 y2 hv)⟩, HSd_W hD, hG, ⟨a67, ⟨0, by decide, z.1, z.2.1, Nat.zero_le _, fun i hi => absurd hi (Nat.not_lt_zero i)⟩, Nat.zero_le _, z.2.2.1, fun i hi => absurd hi (Nat.not_lt_zero i)⟩, ⟨rwD_OK hD hf, fun i hi => absurd hi (Nat.not_lt_zero i), fun i hi => absurd hi (Nat.not_lt_zero i)⟩, z.2.2.2, e15, Nat.zero_le _, fun i i0 i1 => absurd (show i < ((0 : Nat) : Int) from i1) (by omega), ?_, e16⟩
  rw [fa 32 (by omega) (by omega) (by omega) (by decide)]
  exact i10.2.2.2.1
def mX11_house : MI := (yX11_house, cX11_house, 3, (some .int), rmK 68 1)
def tX11_house : List (Nat × Instr × Nat) := [(0, .iload_n 1, 1), (1, .iconst 0, 1), (2, .aload_n 0, 1), (3, .getfield 96, 3), (6, .invokestatic 111, 3), (9, .aload_n 0, 1), (10, .iconst 0, 1), (11, .putfield 96, 3), (14, .aload_n 0, 1), (15, .getfield 32, 3), (18, .aload_n 0, 1), (19, .getfield 9, 3), (22, .iload_n 1, 1), (23, .aload_n 0, 1), (24, .getfield 24, 3), (27, .invokevirtual 115, 3), (30, .istore_n 2, 1), (31, .iload_n 2, 1), (32, .ifCond .eq 26, 3), (35, .aload_n 0, 1), (36, .aload_n 0, 1), (37, .getfield 32, 3), (40, .invokevirtual 119, 3), (43, .putfield 100, 3), (46, .aload_n 0, 1), (47, .getfield 13, 3), (50, .iconst 0, 1), (51, .dup2, 1), (52, .iaload, 1), (53, .iconst 1, 1), (54, .iadd, 1), (55, .iastore, 1), (56, .iload_n 2, 1), (57, .ireturn, 1), (58, .aload_n 0, 1), (59, .iconst (-1), 1), (60, .putfield 100, 3), (63, .aload_n 0, 1), (64, .invokevirtual 123, 3), (67, .iconst 0, 1), (68, .ireturn, 1)]
theorem dtX11_house : tX11_house.all (fun q => decide (decode cX11_house q.1 = .ok (q.2.1, q.2.2))) = true := by decide +kernel
theorem npX11_house : (parseMethodDescriptor (mY mX11_house).desc).map (fun d => d.parameters.length) = some 1 := by decide +kernel
theorem vX11_house : mV mX11_house := ⟨wI_X11_house, wS_X11_house, wN_X11, wC_X11_house, by decide +kernel, by decide +kernel⟩
set_option maxHeartbeats 4000000 in
set_option maxRecDepth 100000 in
theorem houseC_x {h : HP} {S : HS} {v : SV} {im : Option SV} {tp : Int → Int} {nt : Nat} {rf : Int × Int × Int} {fl : Int} {x : Int} (J : CI h (S, v, im, tp, nt, rf, fl)) (hx : i32 x) (kn : ¬ (0 ≤ x ∧ x ≤ nt)) : SpecK mX11_house [vr 30, vi x] h (fun o h' => o = .inr eIA ∧ h' = h) := by
  refine Spec_of (by decide +kernel) (Nat.le_of_ble_eq_true rfl) ?_
  obtain ⟨t, ht, i2, i3, i4, i5, i6, i7, i8, i9, i10⟩ := id J
  have h7 : nt ≤ 700 := i10.2.1
  refine K_iload_n (dt_at dtX11_house 0 rfl) rfl rfl ?_
  refine K_iconst (dt_at dtX11_house 1 rfl) ?_
  refine K_aload_n (dt_at dtX11_house 2 rfl) rfl rfl ?_
  refine K_get (a := 30) (ci := 11) (k := 15) (v := vi (nt : Int)) (dt_at dtX11_house 3 rfl) (show TT 30 = (0, 11) from rfl) rfl (by decide) wF_X11_96 (by show vi (hI h 30 15) = vi (nt : Int); rw [i10.1]) ?_
  exact K_callS (M' := mX11_needBetween) (As := [vi x, vi 0, vi (nt : Int)]) (st := []) (dt_at dtX11_house 4 rfl) (sX11_needBetween_no hx ⟨by decide, by decide⟩ ⟨by omega, by omega⟩ kn) wL_X11_111 vX11_needBetween rfl npX11_needBetween (by decide) (by decide) (Nat.le_of_ble_eq_true rfl) (by decide) (by decide) GK_E (fun v9 h9 hq => by cases hq.1) (fun E h9 hq => by obtain ⟨e9, e8⟩ := hq; cases e9; rw [e8]; exact KX_out (by decide) (by decide) ⟨rfl, rfl⟩)
set_option maxHeartbeats 4000000 in
set_option maxRecDepth 100000 in
theorem houseC_33 {h : HP} {S : HS} {v : SV} {im : Option SV} {tp : Int → Int} {nt : Nat} {rf : Int × Int × Int} {fl : Int} {n : Nat} (J : CI h (S, v, im, tp, nt, rf, fl)) (t2 : hR h 30 2 = 48) (t3 : hR h 30 3 = 33) (hn : n ≤ nt) : SpecK mX11_house [vr 30, vi (n : Int)] h (fun o h' => HOc h' o S v im tp rf (hsP tp n 701 (D0 (hA h 34) (hA h 35) (hA h 36) (hA h 37) (hA h 38) (hA h 39) (hA h 40) (hA h 41)) 0) ∧ FM h h') := by
  refine Spec_of (by decide +kernel) (Nat.le_of_ble_eq_true rfl) ?_
  obtain ⟨t, ht, i2, i3, i4, i5, i6, i7, i8, i9, i10⟩ := id J
  have h7 : nt ≤ 700 := i10.2.1
  refine K_iload_n (dt_at dtX11_house 0 rfl) rfl rfl ?_
  refine K_iconst (dt_at dtX11_house 1 rfl) ?_
  refine K_aload_n (dt_at dtX11_house 2 rfl) rfl rfl ?_
  refine K_get (a := 30) (ci := 11) (k := 15) (v := vi (nt : Int)) (dt_at dtX11_house 3 rfl) (show TT 30 = (0, 11) from rfl) rfl (by decide) wF_X11_96 (by show vi (hI h 30 15) = vi (nt : Int); rw [i10.1]) ?_
  refine K_callS (M' := mX11_needBetween) (As := [vi (n : Int), vi 0, vi (nt : Int)]) (st := []) (dt_at dtX11_house 4 rfl) (sX11_needBetween ⟨by omega, by omega⟩ ⟨by decide, by decide⟩ ⟨by omega, by omega⟩ (by omega)) wL_X11_111 vX11_needBetween rfl npX11_needBetween (by decide) (by decide) (Nat.le_of_ble_eq_true rfl) (by decide) (by decide) GK_E (fun v9 h9 hq => ?_) (fun E h9 hq => by cases hq.1)
  obtain ⟨e9, e8⟩ := hq
  cases e9
  rw [e8]
  show K mX11_house _ _ 1 6 9 [(0, vr 30), (1, vi (n : Int))] [] h
  refine K_aload_n (dt_at dtX11_house 5 rfl) rfl rfl ?_
  refine K_iconst (dt_at dtX11_house 6 rfl) ?_
  refine K_putI (a := 30) (ci := 11) (k := 15) (dt_at dtX11_house 7 rfl) (show TT 30 = (0, 11) from rfl) rfl (by decide) wF_X11_96 rfl (Or.inl rfl) rfl rfl ?_
  obtain ⟨hq1, eq1⟩ : ∃ z, z = sI h 30 15 0 := ⟨_, rfl⟩
  rw [← eq1]
  obtain ⟨iq1, fq1, aq1, rq1⟩ := sI_fx eq1
  refine K_aload_n (dt_at dtX11_house 8 rfl) rfl rfl ?_
  refine K_get (a := 30) (ci := 11) (k := 4) (v := vr 63) (dt_at dtX11_house 9 rfl) (show TT 30 = (0, 11) from rfl) rfl (by decide) wF_X11_32 rfl ?_
  refine K_aload_n (dt_at dtX11_house 10 rfl) rfl rfl ?_
  refine K_get (a := 30) (ci := 11) (k := 0) (v := vr 31) (dt_at dtX11_house 11 rfl) (show TT 30 = (0, 11) from rfl) rfl (by decide) wF_X11_9 rfl ?_
  refine K_iload_n (dt_at dtX11_house 12 rfl) rfl rfl ?_
  refine K_aload_n (dt_at dtX11_house 13 rfl) rfl rfl ?_
  refine K_get (a := 30) (ci := 11) (k := 3) (v := vr 33) (dt_at dtX11_house 14 rfl) (show TT 30 = (0, 11) from rfl) rfl (by decide) wF_X11_24 (by show vr (hR hq1 30 3) = vr 33; rw [rq1, t3]) ?_
  refine K_callV (M' := mX5_read) (a := 63) (ci := 5) (As := [vr 31, vi (n : Int), vr 33]) (st := []) (dt_at dtX11_house 15 rfl) (sX5_read_33 (n := n) (by omega) (fun i i0 i1 => by rw [aq1]; exact i10.2.2.1 i i0 (show i < (nt : Int) by omega))) (show TT 63 = (0, 5) from rfl) rfl wL_X11_115 vX5_read rfl npX5_read (by decide) (by decide) (Nat.le_of_ble_eq_true rfl) (by decide) (by decide) GK_E (fun v9 h2 hq => ?_) (fun E h9 hq => by obtain ⟨⟨_, e9⟩, _⟩ := hq; cases e9)
  obtain ⟨⟨x, ex⟩, R, G⟩ := hq
  cases ex
  have G0 : HQ 33 hq1 h2 := G
  rw [aq1] at R
  have R : RDr h2 33 (.inl (some (vi x))) (hsP tp n 701 (D0 (hA h 34) (hA h 35) (hA h 36) (hA h 37) (hA h 38) (hA h 39) (hA h 40) (hA h 41)) 0) := R
  show K mX11_house _ _ 1 6 30 [(0, vr 30), (1, vi (n : Int))] [vi x] h2
  have fA : ∀ a, ¬ (33 < a ∧ a ≤ 41) → a ≠ 43 → a ≠ 46 → hA h2 a = hA h a := fun a z1 z2 z3 => by rw [G0.1 a (by omega) (by omega) (by omega), aq1]
  have fI : ∀ a k, a ≠ 33 → a ≠ 42 → a ≠ 45 → a ≠ 63 → a ≠ 64 → (a ≠ 30 ∨ k ≠ 15) → hI h2 a k = hI h a k := fun a k z1 z2 z3 z4 z5 z6 => by rw [G0.2.1 a k (by omega) (by omega) (by omega) z4 z5, fq1 a k (by omega)]
  have fR : ∀ a k, a ≠ 63 → a ≠ 64 → hR h2 a k = hR h a k := fun a k z1 z2 => by rw [G0.2.2 a k z1 z2, rq1]
  have k15 : hI h2 30 15 = 0 := by rw [G0.2.1 30 15 (by decide) (by decide) (by decide) (by decide) (by decide), iq1]
  have hok : ∀ D q, hsP tp n 701 (D0 (hA h 34) (hA h 35) (hA h 36) (hA h 37) (hA h 38) (hA h 39) (hA h 40) (hA h 41)) 0 = .inr (D, q) → DOK D := fun D q z => DOK_hs 701 0 q _ D DOK_0 (Nat.zero_le _) z
  rcases u : hsP tp n 701 (D0 (hA h 34) (hA h 35) (hA h 36) (hA h 37) (hA h 38) (hA h 39) (hA h 40) (hA h 41)) 0 with e | ⟨D, q9⟩
  · rw [u] at R
    obtain ⟨ee, eb, e5⟩ := R
    have ez : x = e.1 := by injection ee with z; injection z with z; injection z
    rw [ez]
    refine K_istore_n (ls' := [(2, vi (e.1)), (0, vr 30), (1, vi (n : Int))]) (dt_at dtX11_house 16 rfl) rfl (by decide) rfl ?_
    refine K_iload_n (dt_at dtX11_house 17 rfl) rfl rfl ?_
    refine K_if_eq (tgt := 58) (dt_at dtX11_house 18 rfl) (by decide) ⟨by omega, by omega⟩ (fun c1 => absurd c1 (by omega)) (fun c1 => ?_)
    refine K_aload_n (dt_at dtX11_house 19 rfl) rfl rfl ?_
    refine K_aload_n (dt_at dtX11_house 20 rfl) rfl rfl ?_
    refine K_get (a := 30) (ci := 11) (k := 4) (v := vr 63) (dt_at dtX11_house 21 rfl) (show TT 30 = (0, 11) from rfl) rfl (by decide) wF_X11_32 rfl ?_
    refine K_callV (M' := mX5_place) (a := 63) (ci := 5) (As := []) (st := [vr 30]) (dt_at dtX11_house 22 rfl) sX5_place (show TT 63 = (0, 5) from rfl) rfl wL_X11_119 vX5_place rfl npX5_place (by decide) (by decide) (Nat.le_of_ble_eq_true rfl) (by decide) (by decide) GK_E (fun v9 h9 hq => ?_) (fun E h9 hq => by cases hq.1)
    obtain ⟨e9, e8⟩ := hq
    cases e9
    rw [e8]
    show K mX11_house _ _ 1 6 43 [(2, vi (e.1)), (0, vr 30), (1, vi (n : Int))] [vi (hI h2 63 5), vr 30] h2
    rw [e5]
    refine K_putI (a := 30) (ci := 11) (k := 16) (dt_at dtX11_house 23 rfl) (show TT 30 = (0, 11) from rfl) rfl (by decide) wF_X11_100 rfl (Or.inl rfl) rfl rfl ?_
    obtain ⟨hq2, eq2⟩ : ∃ z, z = sI h2 30 16 (e.2 : Int) := ⟨_, rfl⟩
    rw [← eq2]
    obtain ⟨iq2, fq2, aq2, rq2⟩ := sI_fx eq2
    refine K_aload_n (dt_at dtX11_house 24 rfl) rfl rfl ?_
    refine K_get (a := 30) (ci := 11) (k := 1) (v := vr 32) (dt_at dtX11_house 25 rfl) (show TT 30 = (0, 11) from rfl) rfl (by decide) wF_X11_13 rfl ?_
    refine K_iconst (dt_at dtX11_house 26 rfl) ?_
    refine K_dup2 (dt_at dtX11_house 27 rfl) rfl rfl ?_
    refine K_iald (dt_at dtX11_house 28 rfl) (show TT 32 = (1, 3) from rfl) (by omega) (by omega) ?_
    rw [aq2]
    refine K_iconst (dt_at dtX11_house 29 rfl) ?_
    refine K_iadd (dt_at dtX11_house 30 rfl) ?_
    refine K_iast (dt_at dtX11_house 31 rfl) (show TT 32 = (1, 3) from rfl) (by omega) (by omega) ?_
    obtain ⟨hq3, eq3⟩ : ∃ z, z = sA hq2 32 0 ((hA h2 32 0) + 1) := ⟨_, rfl⟩
    rw [← eq3]
    obtain ⟨aq3, fq3, iq3, rq3⟩ := sA_fx eq3
    rw [aq2] at aq3
    refine K_iload_n (dt_at dtX11_house 32 rfl) rfl rfl ?_
    exact K_iret (dt_at dtX11_house 33 rfl) rfl rfl (by decide) (by decide) ⟨⟨rfl, CI_rd J t3 (fun a z1 z2 z3 z4 => by rw [fq3 a z4, aq2]; exact fA a z1 z2 z3) (fun a k z1 z2 z3 z4 z5 z6 => by rw [iq3, fq2 a k (by omega)]; exact fI a k z1 z2 z3 z4 z5 (by omega)) (fun a k z1 z2 => by rw [rq3, rq2]; exact fR a k z1 z2) (by rw [iq3, fq2 30 15 (by omega)]; exact k15) (by rw [iq3, iq2]) ⟨by rw [aq3, upI_s, fA 32 (by omega) (by omega) (by omega)]; exact congrArg (· + 1) i10.2.2.2.1.1, by rw [aq3, upI_n (by decide), fA 32 (by omega) (by omega) (by omega)]; exact i10.2.2.2.1.2.1, by rw [aq3, upI_n (by decide), fA 32 (by omega) (by omega) (by omega)]; exact i10.2.2.2.1.2.2⟩⟩, ⟨fun a ha => by rw [fq3 a (by omega), aq2]; exact fA a (by omega) (by omega) (by omega), fun k => by rw [iq3, fq2 0 k (by omega)]; exact fI 0 k (by decide) (by decide) (by decide) (by decide) (by decide) (by omega), fun k => by rw [rq3, rq2]; exact fR 0 k (by decide) (by decide)⟩⟩
  · rw [u] at R
    obtain ⟨ee, dd⟩ := R
    have ez : x = 0 := by injection ee with z; injection z with z; injection z
    rw [ez]
    have hD := hok D q9 u
    refine K_istore_n (ls' := [(2, vi 0), (0, vr 30), (1, vi (n : Int))]) (dt_at dtX11_house 16 rfl) rfl (by decide) rfl ?_
    refine K_iload_n (dt_at dtX11_house 17 rfl) rfl rfl ?_
    refine K_if_eq (tgt := 58) (dt_at dtX11_house 18 rfl) (by decide) (by first | assumption | exact ⟨by omega, by omega⟩) (fun c2 => ?_) (fun c2 => absurd c2 (by omega))
    refine K_aload_n (dt_at dtX11_house 34 rfl) rfl rfl ?_
    refine K_iconst (dt_at dtX11_house 35 rfl) ?_
    refine K_putI (a := 30) (ci := 11) (k := 16) (dt_at dtX11_house 36 rfl) (show TT 30 = (0, 11) from rfl) rfl (by decide) wF_X11_100 rfl (Or.inl rfl) rfl rfl ?_
    obtain ⟨hq4, eq4⟩ : ∃ z, z = sI h2 30 16 (-1) := ⟨_, rfl⟩
    rw [← eq4]
    obtain ⟨iq4, fq4, aq4, rq4⟩ := sI_fx eq4
    refine K_aload_n (dt_at dtX11_house 37 rfl) rfl rfl ?_
    have m1 : DRf hq4 33 D := by
      obtain ⟨⟨d1, d2⟩, ⟨d3, d4⟩, ⟨w1, w2, w3⟩, ⟨p1, p2, p3, p4, p5⟩, r1, r2⟩ := dd
      exact ⟨⟨by rw [fq4 _ _ (by omega)]; exact d1, d2⟩, ⟨by rw [fq4 _ _ (by omega)]; exact d3, d4⟩, ⟨by rw [aq4]; exact w1, by rw [aq4]; exact w2, by rw [aq4]; exact w3⟩, ⟨by rw [aq4]; exact p1, by rw [aq4]; exact p2, by rw [aq4]; exact p3, by rw [aq4]; exact p4, by rw [aq4]; exact p5⟩, rlD_fr r1 (fq4 _ _ (by omega)) (fq4 _ _ (by omega)) (by rw [aq4]), rlD_fr r2 (fq4 _ _ (by omega)) (fq4 _ _ (by omega)) (by rw [aq4])⟩
    refine K_callV (M' := mX11_moveIn) (a := 30) (ci := 11) (As := []) (st := []) (dt_at dtX11_house 38 rfl) (sX11_moveIn_33 (nt := D.1.1) (np := D.1.2) (by rw [rq4, fR 30 2 (by decide) (by decide)]; exact t2) (by rw [rq4, fR 30 3 (by decide) (by decide)]; exact t3) m1.1.1 m1.2.1.1 hD.1.1 hD.1.2 (fun i i0 i1 => by have e8 := m1.2.2.2.1.2.2.2.2; have b8 := (hD.2.2.1 i i0 i1).2.2.2.2.1; rw [show hA hq4 41 = D.2.2.1.2.2.2.2 from e8]; exact ⟨by omega, by omega⟩)) (show TT 30 = (0, 11) from rfl) rfl wL_X11_123 vX11_moveIn rfl npX11_moveIn (by decide) (by decide) (Nat.le_of_ble_eq_true rfl) (by decide) (by decide) GK_E (fun v9 hc5 hq => ?_) (fun E h9 hq => by cases hq.1)
    have hqq6 := hq
    obtain ⟨e9q6, ⟨R2, R3⟩, A67, Z9, F9⟩ := hqq6
    cases e9q6
    show K mX11_house _ _ 1 6 67 [(2, vi 0), (0, vr 30), (1, vi (n : Int))] [] hc5
    refine K_iconst (dt_at dtX11_house 39 rfl) ?_
    have FT : FL [67] [(68, 1), (68, 2), (70, 4), (30, 17)] [(30, 2), (30, 3)] hq4 hc5 := F9
    have m2 : DRf hc5 33 D := by
      obtain ⟨⟨d1, d2⟩, ⟨d3, d4⟩, ⟨w1, w2, w3⟩, ⟨p1, p2, p3, p4, p5⟩, r1, r2⟩ := m1
      exact ⟨⟨by rw [FT.2.1 _ _ rfl]; exact d1, d2⟩, ⟨by rw [FT.2.1 _ _ rfl]; exact d3, d4⟩, ⟨by rw [FT.1 _ rfl]; exact w1, by rw [FT.1 _ rfl]; exact w2, by rw [FT.1 _ rfl]; exact w3⟩, ⟨by rw [FT.1 _ rfl]; exact p1, by rw [FT.1 _ rfl]; exact p2, by rw [FT.1 _ rfl]; exact p3, by rw [FT.1 _ rfl]; exact p4, by rw [FT.1 _ rfl]; exact p5⟩, rlD_fr r1 (FT.2.1 _ _ rfl) (FT.2.1 _ _ rfl) (FT.1 _ rfl), rlD_fr r2 (FT.2.1 _ _ rfl) (FT.2.1 _ _ rfl) (FT.1 _ rfl)⟩
    have e3 : hA hq4 36 = D.2.1.2.2 := m1.2.2.1.2.2
    have e7 : hA hq4 40 = D.2.2.1.2.2.2.1 := m1.2.2.2.1.2.2.2.1
    have e8 : hA hq4 41 = D.2.2.1.2.2.2.2 := m1.2.2.2.1.2.2.2.2
    rw [e3, e7, e8] at A67
    exact K_iret (dt_at dtX11_house 40 rfl) rfl rfl (by decide) (by decide) ⟨⟨rfl, _, fun j j0 j1 => bg_rw hD j j0 j1, CI_new J t3 hD m2 (fun a z1 z2 z3 z4 => by rw [FT.1 a (by simp; omega), aq4]; exact fA a z1 z2 z3) (fun a k z1 z2 z3 => by rw [FT.2.2 a k (by simp; omega), rq4]; exact fR a k z1 z2) R2 R3 A67 (fun j j0 j1 => bg_rw hD j j0 j1) Z9 (by rw [FT.2.1 30 15 rfl, fq4 30 15 (by omega)]; exact k15) (by rw [FT.2.1 30 16 rfl, iq4])⟩, ⟨fun a ha => by rw [FT.1 a (by simp; omega), aq4]; exact fA a (by omega) (by omega) (by omega), fun k => by rw [FT.2.1 0 k (by simp), fq4 0 k (by omega)]; exact fI 0 k (by decide) (by decide) (by decide) (by decide) (by decide) (by omega), fun k => by rw [FT.2.2 0 k (by simp), rq4]; exact fR 0 k (by decide) (by decide)⟩⟩
set_option maxHeartbeats 4000000 in
set_option maxRecDepth 100000 in
theorem houseC_48 {h : HP} {S : HS} {v : SV} {im : Option SV} {tp : Int → Int} {nt : Nat} {rf : Int × Int × Int} {fl : Int} {n : Nat} (J : CI h (S, v, im, tp, nt, rf, fl)) (t2 : hR h 30 2 = 33) (t3 : hR h 30 3 = 48) (hn : n ≤ nt) : SpecK mX11_house [vr 30, vi (n : Int)] h (fun o h' => HOc h' o S v im tp rf (hsP tp n 701 (D0 (hA h 49) (hA h 50) (hA h 51) (hA h 52) (hA h 53) (hA h 54) (hA h 55) (hA h 56)) 0) ∧ FM h h') := by
  refine Spec_of (by decide +kernel) (Nat.le_of_ble_eq_true rfl) ?_
  obtain ⟨t, ht, i2, i3, i4, i5, i6, i7, i8, i9, i10⟩ := id J
  have h7 : nt ≤ 700 := i10.2.1
  refine K_iload_n (dt_at dtX11_house 0 rfl) rfl rfl ?_
  refine K_iconst (dt_at dtX11_house 1 rfl) ?_
  refine K_aload_n (dt_at dtX11_house 2 rfl) rfl rfl ?_
  refine K_get (a := 30) (ci := 11) (k := 15) (v := vi (nt : Int)) (dt_at dtX11_house 3 rfl) (show TT 30 = (0, 11) from rfl) rfl (by decide) wF_X11_96 (by show vi (hI h 30 15) = vi (nt : Int); rw [i10.1]) ?_
  refine K_callS (M' := mX11_needBetween) (As := [vi (n : Int), vi 0, vi (nt : Int)]) (st := []) (dt_at dtX11_house 4 rfl) (sX11_needBetween ⟨by omega, by omega⟩ ⟨by decide, by decide⟩ ⟨by omega, by omega⟩ (by omega)) wL_X11_111 vX11_needBetween rfl npX11_needBetween (by decide) (by decide) (Nat.le_of_ble_eq_true rfl) (by decide) (by decide) GK_E (fun v9 h9 hq => ?_) (fun E h9 hq => by cases hq.1)
  obtain ⟨e9, e8⟩ := hq
  cases e9
  rw [e8]
  show K mX11_house _ _ 1 6 9 [(0, vr 30), (1, vi (n : Int))] [] h
  refine K_aload_n (dt_at dtX11_house 5 rfl) rfl rfl ?_
  refine K_iconst (dt_at dtX11_house 6 rfl) ?_
  refine K_putI (a := 30) (ci := 11) (k := 15) (dt_at dtX11_house 7 rfl) (show TT 30 = (0, 11) from rfl) rfl (by decide) wF_X11_96 rfl (Or.inl rfl) rfl rfl ?_
  obtain ⟨hq1, eq1⟩ : ∃ z, z = sI h 30 15 0 := ⟨_, rfl⟩
  rw [← eq1]
  obtain ⟨iq1, fq1, aq1, rq1⟩ := sI_fx eq1
  refine K_aload_n (dt_at dtX11_house 8 rfl) rfl rfl ?_
  refine K_get (a := 30) (ci := 11) (k := 4) (v := vr 63) (dt_at dtX11_house 9 rfl) (show TT 30 = (0, 11) from rfl) rfl (by decide) wF_X11_32 rfl ?_
  refine K_aload_n (dt_at dtX11_house 10 rfl) rfl rfl ?_
  refine K_get (a := 30) (ci := 11) (k := 0) (v := vr 31) (dt_at dtX11_house 11 rfl) (show TT 30 = (0, 11) from rfl) rfl (by decide) wF_X11_9 rfl ?_
  refine K_iload_n (dt_at dtX11_house 12 rfl) rfl rfl ?_
  refine K_aload_n (dt_at dtX11_house 13 rfl) rfl rfl ?_
  refine K_get (a := 30) (ci := 11) (k := 3) (v := vr 48) (dt_at dtX11_house 14 rfl) (show TT 30 = (0, 11) from rfl) rfl (by decide) wF_X11_24 (by show vr (hR hq1 30 3) = vr 48; rw [rq1, t3]) ?_
  refine K_callV (M' := mX5_read) (a := 63) (ci := 5) (As := [vr 31, vi (n : Int), vr 48]) (st := []) (dt_at dtX11_house 15 rfl) (sX5_read_48 (n := n) (by omega) (fun i i0 i1 => by rw [aq1]; exact i10.2.2.1 i i0 (show i < (nt : Int) by omega))) (show TT 63 = (0, 5) from rfl) rfl wL_X11_115 vX5_read rfl npX5_read (by decide) (by decide) (Nat.le_of_ble_eq_true rfl) (by decide) (by decide) GK_E (fun v9 h2 hq => ?_) (fun E h9 hq => by obtain ⟨⟨_, e9⟩, _⟩ := hq; cases e9)
  obtain ⟨⟨x, ex⟩, R, G⟩ := hq
  cases ex
  have G0 : HQ 48 hq1 h2 := G
  rw [aq1] at R
  have R : RDr h2 48 (.inl (some (vi x))) (hsP tp n 701 (D0 (hA h 49) (hA h 50) (hA h 51) (hA h 52) (hA h 53) (hA h 54) (hA h 55) (hA h 56)) 0) := R
  show K mX11_house _ _ 1 6 30 [(0, vr 30), (1, vi (n : Int))] [vi x] h2
  have fA : ∀ a, ¬ (48 < a ∧ a ≤ 56) → a ≠ 58 → a ≠ 61 → hA h2 a = hA h a := fun a z1 z2 z3 => by rw [G0.1 a (by omega) (by omega) (by omega), aq1]
  have fI : ∀ a k, a ≠ 48 → a ≠ 57 → a ≠ 60 → a ≠ 63 → a ≠ 64 → (a ≠ 30 ∨ k ≠ 15) → hI h2 a k = hI h a k := fun a k z1 z2 z3 z4 z5 z6 => by rw [G0.2.1 a k (by omega) (by omega) (by omega) z4 z5, fq1 a k (by omega)]
  have fR : ∀ a k, a ≠ 63 → a ≠ 64 → hR h2 a k = hR h a k := fun a k z1 z2 => by rw [G0.2.2 a k z1 z2, rq1]
  have k15 : hI h2 30 15 = 0 := by rw [G0.2.1 30 15 (by decide) (by decide) (by decide) (by decide) (by decide), iq1]
  have hok : ∀ D q, hsP tp n 701 (D0 (hA h 49) (hA h 50) (hA h 51) (hA h 52) (hA h 53) (hA h 54) (hA h 55) (hA h 56)) 0 = .inr (D, q) → DOK D := fun D q z => DOK_hs 701 0 q _ D DOK_0 (Nat.zero_le _) z
  rcases u : hsP tp n 701 (D0 (hA h 49) (hA h 50) (hA h 51) (hA h 52) (hA h 53) (hA h 54) (hA h 55) (hA h 56)) 0 with e | ⟨D, q9⟩
  · rw [u] at R
    obtain ⟨ee, eb, e5⟩ := R
    have ez : x = e.1 := by injection ee with z; injection z with z; injection z
    rw [ez]
    refine K_istore_n (ls' := [(2, vi (e.1)), (0, vr 30), (1, vi (n : Int))]) (dt_at dtX11_house 16 rfl) rfl (by decide) rfl ?_
    refine K_iload_n (dt_at dtX11_house 17 rfl) rfl rfl ?_
    refine K_if_eq (tgt := 58) (dt_at dtX11_house 18 rfl) (by decide) ⟨by omega, by omega⟩ (fun c1 => absurd c1 (by omega)) (fun c1 => ?_)
    refine K_aload_n (dt_at dtX11_house 19 rfl) rfl rfl ?_
    refine K_aload_n (dt_at dtX11_house 20 rfl) rfl rfl ?_
    refine K_get (a := 30) (ci := 11) (k := 4) (v := vr 63) (dt_at dtX11_house 21 rfl) (show TT 30 = (0, 11) from rfl) rfl (by decide) wF_X11_32 rfl ?_
    refine K_callV (M' := mX5_place) (a := 63) (ci := 5) (As := []) (st := [vr 30]) (dt_at dtX11_house 22 rfl) sX5_place (show TT 63 = (0, 5) from rfl) rfl wL_X11_119 vX5_place rfl npX5_place (by decide) (by decide) (Nat.le_of_ble_eq_true rfl) (by decide) (by decide) GK_E (fun v9 h9 hq => ?_) (fun E h9 hq => by cases hq.1)
    obtain ⟨e9, e8⟩ := hq
    cases e9
    rw [e8]
    show K mX11_house _ _ 1 6 43 [(2, vi (e.1)), (0, vr 30), (1, vi (n : Int))] [vi (hI h2 63 5), vr 30] h2
    rw [e5]
    refine K_putI (a := 30) (ci := 11) (k := 16) (dt_at dtX11_house 23 rfl) (show TT 30 = (0, 11) from rfl) rfl (by decide) wF_X11_100 rfl (Or.inl rfl) rfl rfl ?_
    obtain ⟨hq2, eq2⟩ : ∃ z, z = sI h2 30 16 (e.2 : Int) := ⟨_, rfl⟩
    rw [← eq2]
    obtain ⟨iq2, fq2, aq2, rq2⟩ := sI_fx eq2
    refine K_aload_n (dt_at dtX11_house 24 rfl) rfl rfl ?_
    refine K_get (a := 30) (ci := 11) (k := 1) (v := vr 32) (dt_at dtX11_house 25 rfl) (show TT 30 = (0, 11) from rfl) rfl (by decide) wF_X11_13 rfl ?_
    refine K_iconst (dt_at dtX11_house 26 rfl) ?_
    refine K_dup2 (dt_at dtX11_house 27 rfl) rfl rfl ?_
    refine K_iald (dt_at dtX11_house 28 rfl) (show TT 32 = (1, 3) from rfl) (by omega) (by omega) ?_
    rw [aq2]
    refine K_iconst (dt_at dtX11_house 29 rfl) ?_
    refine K_iadd (dt_at dtX11_house 30 rfl) ?_
    refine K_iast (dt_at dtX11_house 31 rfl) (show TT 32 = (1, 3) from rfl) (by omega) (by omega) ?_
    obtain ⟨hq3, eq3⟩ : ∃ z, z = sA hq2 32 0 ((hA h2 32 0) + 1) := ⟨_, rfl⟩
    rw [← eq3]
    obtain ⟨aq3, fq3, iq3, rq3⟩ := sA_fx eq3
    rw [aq2] at aq3
    refine K_iload_n (dt_at dtX11_house 32 rfl) rfl rfl ?_
    exact K_iret (dt_at dtX11_house 33 rfl) rfl rfl (by decide) (by decide) ⟨⟨rfl, CI_rd J t3 (fun a z1 z2 z3 z4 => by rw [fq3 a z4, aq2]; exact fA a z1 z2 z3) (fun a k z1 z2 z3 z4 z5 z6 => by rw [iq3, fq2 a k (by omega)]; exact fI a k z1 z2 z3 z4 z5 (by omega)) (fun a k z1 z2 => by rw [rq3, rq2]; exact fR a k z1 z2) (by rw [iq3, fq2 30 15 (by omega)]; exact k15) (by rw [iq3, iq2]) ⟨by rw [aq3, upI_s, fA 32 (by omega) (by omega) (by omega)]; exact congrArg (· + 1) i10.2.2.2.1.1, by rw [aq3, upI_n (by decide), fA 32 (by omega) (by omega) (by omega)]; exact i10.2.2.2.1.2.1, by rw [aq3, upI_n (by decide), fA 32 (by omega) (by omega) (by omega)]; exact i10.2.2.2.1.2.2⟩⟩, ⟨fun a ha => by rw [fq3 a (by omega), aq2]; exact fA a (by omega) (by omega) (by omega), fun k => by rw [iq3, fq2 0 k (by omega)]; exact fI 0 k (by decide) (by decide) (by decide) (by decide) (by decide) (by omega), fun k => by rw [rq3, rq2]; exact fR 0 k (by decide) (by decide)⟩⟩
  · rw [u] at R
    obtain ⟨ee, dd⟩ := R
    have ez : x = 0 := by injection ee with z; injection z with z; injection z
    rw [ez]
    have hD := hok D q9 u
    refine K_istore_n (ls' := [(2, vi 0), (0, vr 30), (1, vi (n : Int))]) (dt_at dtX11_house 16 rfl) rfl (by decide) rfl ?_
    refine K_iload_n (dt_at dtX11_house 17 rfl) rfl rfl ?_
    refine K_if_eq (tgt := 58) (dt_at dtX11_house 18 rfl) (by decide) (by first | assumption | exact ⟨by omega, by omega⟩) (fun c2 => ?_) (fun c2 => absurd c2 (by omega))
    refine K_aload_n (dt_at dtX11_house 34 rfl) rfl rfl ?_
    refine K_iconst (dt_at dtX11_house 35 rfl) ?_
    refine K_putI (a := 30) (ci := 11) (k := 16) (dt_at dtX11_house 36 rfl) (show TT 30 = (0, 11) from rfl) rfl (by decide) wF_X11_100 rfl (Or.inl rfl) rfl rfl ?_
    obtain ⟨hq4, eq4⟩ : ∃ z, z = sI h2 30 16 (-1) := ⟨_, rfl⟩
    rw [← eq4]
    obtain ⟨iq4, fq4, aq4, rq4⟩ := sI_fx eq4
    refine K_aload_n (dt_at dtX11_house 37 rfl) rfl rfl ?_
    have m1 : DRf hq4 48 D := by
      obtain ⟨⟨d1, d2⟩, ⟨d3, d4⟩, ⟨w1, w2, w3⟩, ⟨p1, p2, p3, p4, p5⟩, r1, r2⟩ := dd
      exact ⟨⟨by rw [fq4 _ _ (by omega)]; exact d1, d2⟩, ⟨by rw [fq4 _ _ (by omega)]; exact d3, d4⟩, ⟨by rw [aq4]; exact w1, by rw [aq4]; exact w2, by rw [aq4]; exact w3⟩, ⟨by rw [aq4]; exact p1, by rw [aq4]; exact p2, by rw [aq4]; exact p3, by rw [aq4]; exact p4, by rw [aq4]; exact p5⟩, rlD_fr r1 (fq4 _ _ (by omega)) (fq4 _ _ (by omega)) (by rw [aq4]), rlD_fr r2 (fq4 _ _ (by omega)) (fq4 _ _ (by omega)) (by rw [aq4])⟩
    refine K_callV (M' := mX11_moveIn) (a := 30) (ci := 11) (As := []) (st := []) (dt_at dtX11_house 38 rfl) (sX11_moveIn_48 (nt := D.1.1) (np := D.1.2) (by rw [rq4, fR 30 2 (by decide) (by decide)]; exact t2) (by rw [rq4, fR 30 3 (by decide) (by decide)]; exact t3) m1.1.1 m1.2.1.1 hD.1.1 hD.1.2 (fun i i0 i1 => by have e8 := m1.2.2.2.1.2.2.2.2; have b8 := (hD.2.2.1 i i0 i1).2.2.2.2.1; rw [show hA hq4 56 = D.2.2.1.2.2.2.2 from e8]; exact ⟨by omega, by omega⟩)) (show TT 30 = (0, 11) from rfl) rfl wL_X11_123 vX11_moveIn rfl npX11_moveIn (by decide) (by decide) (Nat.le_of_ble_eq_true rfl) (by decide) (by decide) GK_E (fun v9 hc5 hq => ?_) (fun E h9 hq => by cases hq.1)
    have hqq6 := hq
    obtain ⟨e9q6, ⟨R2, R3⟩, A67, Z9, F9⟩ := hqq6
    cases e9q6
    show K mX11_house _ _ 1 6 67 [(2, vi 0), (0, vr 30), (1, vi (n : Int))] [] hc5
    refine K_iconst (dt_at dtX11_house 39 rfl) ?_
    have FT : FL [67] [(68, 1), (68, 2), (70, 4), (30, 17)] [(30, 2), (30, 3)] hq4 hc5 := F9
    have m2 : DRf hc5 48 D := by
      obtain ⟨⟨d1, d2⟩, ⟨d3, d4⟩, ⟨w1, w2, w3⟩, ⟨p1, p2, p3, p4, p5⟩, r1, r2⟩ := m1
      exact ⟨⟨by rw [FT.2.1 _ _ rfl]; exact d1, d2⟩, ⟨by rw [FT.2.1 _ _ rfl]; exact d3, d4⟩, ⟨by rw [FT.1 _ rfl]; exact w1, by rw [FT.1 _ rfl]; exact w2, by rw [FT.1 _ rfl]; exact w3⟩, ⟨by rw [FT.1 _ rfl]; exact p1, by rw [FT.1 _ rfl]; exact p2, by rw [FT.1 _ rfl]; exact p3, by rw [FT.1 _ rfl]; exact p4, by rw [FT.1 _ rfl]; exact p5⟩, rlD_fr r1 (FT.2.1 _ _ rfl) (FT.2.1 _ _ rfl) (FT.1 _ rfl), rlD_fr r2 (FT.2.1 _ _ rfl) (FT.2.1 _ _ rfl) (FT.1 _ rfl)⟩
    have e3 : hA hq4 51 = D.2.1.2.2 := m1.2.2.1.2.2
    have e7 : hA hq4 55 = D.2.2.1.2.2.2.1 := m1.2.2.2.1.2.2.2.1
    have e8 : hA hq4 56 = D.2.2.1.2.2.2.2 := m1.2.2.2.1.2.2.2.2
    rw [e3, e7, e8] at A67
    exact K_iret (dt_at dtX11_house 40 rfl) rfl rfl (by decide) (by decide) ⟨⟨rfl, _, fun j j0 j1 => bg_rw hD j j0 j1, CI_new J t3 hD m2 (fun a z1 z2 z3 z4 => by rw [FT.1 a (by simp; omega), aq4]; exact fA a z1 z2 z3) (fun a k z1 z2 z3 => by rw [FT.2.2 a k (by simp; omega), rq4]; exact fR a k z1 z2) R2 R3 A67 (fun j j0 j1 => bg_rw hD j j0 j1) Z9 (by rw [FT.2.1 30 15 rfl, fq4 30 15 (by omega)]; exact k15) (by rw [FT.2.1 30 16 rfl, iq4])⟩, ⟨fun a ha => by rw [FT.1 a (by simp; omega), aq4]; exact fA a (by omega) (by omega) (by omega), fun k => by rw [FT.2.1 0 k (by simp), fq4 0 k (by omega)]; exact fI 0 k (by decide) (by decide) (by decide) (by decide) (by decide) (by omega), fun k => by rw [FT.2.2 0 k (by simp), rq4]; exact fR 0 k (by decide) (by decide)⟩⟩
/-- a text that can be read: both sides read it alike -/
theorem houseC {h : HP} {S : HS} {v : SV} {im : Option SV} {tp : Int → Int} {nt : Nat} {rf : Int × Int × Int} {fl : Int} {n : Nat} (J : CI h (S, v, im, tp, nt, rf, fl)) (hn : n ≤ nt) : ∃ w0 u0 s0 a0 b0 c0 f0 y0, SpecK mX11_house [vr 30, vi (n : Int)] h (fun o h' => HOc h' o S v im tp rf (hsP tp n 701 (D0 w0 u0 s0 a0 b0 c0 f0 y0) 0) ∧ FM h h') := by
  obtain ⟨t, ht, i2, i3, -⟩ := id J
  rcases ht with rfl | rfl
  · exact ⟨_, _, _, _, _, _, _, _, houseC_48 J i2 i3 hn⟩
  · exact ⟨_, _, _, _, _, _, _, _, houseC_33 J i2 i3 hn⟩
