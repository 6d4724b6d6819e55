def hsP (tp : Int → Int) (n : Nat) : Nat → DR → Nat → (Int × Nat) ⊕ (DR × Nat)
  | 0, D, p => .inr (D, p)
  | f + 1, D, p => if (tk tp n p).1 = 0 then .inr (D, p) else match lnP tp n D p with
    | .inl e => .inl e
    | .inr (D', q) => hsP tp n f D' q
theorem hsP_0 {tp : Int → Int} {n p : Nat} {D : DR} (h : (tk tp n p).1 = 0) : ∀ f : Nat, hsP tp n f D p = .inr (D, p)
  | 0 => rfl
  | _ + 1 => if_pos h
theorem hsP_e {tp : Int → Int} {n p f : Nat} {D : DR} {e : Int × Nat} (h : ¬ (tk tp n p).1 = 0) (hu : lnP tp n D p = .inl e) : hsP tp n (f + 1) D p = .inl e := by
  rw [hsP, if_neg h, hu]
theorem hsP_g {tp : Int → Int} {n p f q : Nat} {D D' : DR} (h : ¬ (tk tp n p).1 = 0) (hu : lnP tp n D p = .inr (D', q)) : hsP tp n (f + 1) D p = hsP tp n f D' q := by
  rw [hsP, if_neg h, hu]
def RDr (h : HP) (t : Nat) (o : AO) : (Int × Nat) ⊕ (DR × Nat) → Prop
  | .inl e => o = .inl (some (vi e.1)) ∧ (1 ≤ e.1 ∧ e.1 ≤ 5) ∧ hI h 63 5 = (e.2 : Int)
  | .inr (D, _) => o = .inl (some (vi 0)) ∧ DRf h t D
def HQ (t : Nat) (h h' : HP) : Prop := (∀ a, ¬ (t < a ∧ a ≤ t + 8) → a ≠ t + 10 → a ≠ t + 13 → hA h' a = hA h a) ∧ (∀ a k, a ≠ t → a ≠ t + 9 → a ≠ t + 12 → a ≠ 63 → a ≠ 64 → hI h' a k = hI h a k) ∧ (∀ a k, a ≠ 63 → a ≠ 64 → hR h' a k = hR h a k)
theorem HQ_HK {t : Nat} {h h1 h2 : HP} (a : HQ t h h1) (b : HK t h1 h2) : HQ t h h2 := ⟨fun x z1 z2 z3 => (b.1 x z1 z2 z3).trans (a.1 x z1 z2 z3), fun x k z1 z2 z3 z4 z5 => (b.2.1 x k z1 z2 z3 z4 z5).trans (a.2.1 x k z1 z2 z3 z4 z5), fun x k z1 z2 => (b.2.2.1 x k z1 z2).trans (a.2.2 x k z1 z2)⟩
def mX5_read : MI := (yX5_read, cX5_read, 5, (some .int), rmK 66 0)
def tX5_read : List (Nat × Instr × Nat) := [(0, .aload_n 0, 1), (1, .aload_n 3, 1), (2, .putfield 29, 3), (5, .aload_n 0, 1), (6, .getfield 29, 3), (9, .invokevirtual 42, 3), (12, .aload_n 0, 1), (13, .iconst 0, 1), (14, .putfield 22, 3), (17, .aload_n 0, 1), (18, .iconst (-1), 1), (19, .putfield 26, 3), (22, .aload_n 0, 1), (23, .getfield 12, 3), (26, .aload_n 1, 1), (27, .iload_n 2, 1), (28, .invokevirtual 45, 3), (31, .iconst 0, 1), (32, .istore 4, 2), (34, .iload 4, 2), (36, .sipush 700, 3), (39, .if_icmp .gt 30, 3), (42, .aload_n 0, 1), (43, .invokevirtual 49, 3), (46, .ifCond .eq 23, 3), (49, .aload_n 0, 1), (50, .getfield 12, 3), (53, .invokevirtual 53, 3), (56, .ifCond .ne 13, 3), (59, .aload_n 0, 1), (60, .invokevirtual 56, 3), (63, .iinc 4 1, 3), (66, .goto (-32), 3), (69, .aload_n 0, 1), (70, .getfield 22, 3), (73, .ireturn, 1)]
theorem dtX5_read : tX5_read.all (fun q => decide (decode cX5_read q.1 = .ok (q.2.1, q.2.2))) = true := by decide +kernel
theorem npX5_read : (parseMethodDescriptor (mY mX5_read).desc).map (fun d => d.parameters.length) = some 3 := by decide +kernel
theorem vX5_read : mV mX5_read := ⟨wI_X5_read, wS_X5_read, wN_X5, wC_X5_read, by decide +kernel, by decide +kernel⟩
set_option maxHeartbeats 4000000 in
set_option maxRecDepth 100000 in
theorem lp_X5_read_33 {h : HP} {tp : Int → Int} {n : Nat} {X : (Int × Nat) ⊕ (DR × Nat)}  : ∀ (d k : Nat) (hh : HP) (D : DR) (p : Nat), k + d = 701 → TG hh tp n p → hR hh 63 1 = 33 → DRf hh 33 D → HQ 33 h hh → hsP tp n d D p = X → K mX5_read GK (ZK (fun o h' => (∃ x, o = .inl (some (vi x))) ∧ RDr h' 33 o X ∧ HQ 33 h h') 0 0) 0 0 34 [(4, vi (k : Int)), (0, vr 63), (1, vr 31), (2, vi (n : Int)), (3, vr 33)] [] hh := by
  intro d
  induction d with
  | zero =>
    intro k hh D p hk A i1 Dd F hX
    refine K_iload (dt_at dtX5_read 19 rfl) rfl ?_
    refine K_sipush (dt_at dtX5_read 20 rfl) (by decide) ?_
    refine K_icmp_gt (tgt := 69) (dt_at dtX5_read 21 rfl) (by decide) (by first | assumption | exact ⟨by omega, by omega⟩) (by first | assumption | exact ⟨by omega, by omega⟩) (fun c1 => ?_) (fun c1 => absurd c1 (by omega))
    refine K_aload_n (dt_at dtX5_read 33 rfl) rfl rfl ?_
    refine K_get (a := 63) (ci := 5) (k := 4) (v := vi 0) (dt_at dtX5_read 34 rfl) (show TT 63 = (0, 5) from rfl) rfl (by decide) wF_X5_22 (by show vi (hI hh 63 4) = vi 0; rw [A.2.2.2]) ?_
    exact K_iret (dt_at dtX5_read 35 rfl) rfl rfl (by decide) (by decide) ⟨⟨_, rfl⟩, by rw [← hX]; exact ⟨rfl, Dd⟩, F⟩
  | succ d ih =>
    intro k hh D p hk A i1 Dd F hX
    refine K_iload (dt_at dtX5_read 19 rfl) rfl ?_
    refine K_sipush (dt_at dtX5_read 20 rfl) (by decide) ?_
    refine K_icmp_gt (tgt := 69) (dt_at dtX5_read 21 rfl) (by decide) (by first | assumption | exact ⟨by omega, by omega⟩) (by first | assumption | exact ⟨by omega, by omega⟩) (fun c1 => absurd c1 (by omega)) (fun c1 => ?_)
    refine K_aload_n (dt_at dtX5_read 22 rfl) rfl rfl ?_
    refine K_callV (M' := mX5_isGoing) (a := 63) (ci := 5) (As := []) (st := []) (dt_at dtX5_read 23 rfl) (sX5_isGoing_t A.2.2.2) (show TT 63 = (0, 5) from rfl) rfl wL_X5_49 vX5_isGoing rfl npX5_isGoing (by decide) (by decide) (Nat.le_of_ble_eq_true rfl) (by decide) (by decide) GK_E (fun v9 h9 hq => ?_) (fun E h9 hq => by cases hq.1)
    obtain ⟨e9, e8⟩ := hq
    cases e9
    rw [e8]
    show K mX5_read _ _ 0 0 46 [(4, vi (k : Int)), (0, vr 63), (1, vr 31), (2, vi (n : Int)), (3, vr 33)] [vi 1] hh
    refine K_if_eq (tgt := 69) (dt_at dtX5_read 24 rfl) (by decide) (by first | assumption | exact ⟨by omega, by omega⟩) (fun c2 => absurd c2 (by omega)) (fun c2 => ?_)
    refine K_aload_n (dt_at dtX5_read 25 rfl) rfl rfl ?_
    refine K_get (a := 63) (ci := 5) (k := 0) (v := vr 64) (dt_at dtX5_read 26 rfl) (show TT 63 = (0, 5) from rfl) rfl (by decide) wF_X5_12 rfl ?_
    refine K_callV (M' := mX9_isAtEnd) (a := 64) (ci := 9) (As := []) (st := []) (dt_at dtX5_read 27 rfl) (sX9_isAtEnd A.1 A.2.1 (tk_G A.2.2.1)) (show TT 64 = (0, 9) from rfl) rfl wL_X5_53 vX9_isAtEnd rfl npX9_isAtEnd (by decide) (by decide) (Nat.le_of_ble_eq_true rfl) (by decide) (by decide) GK_E (fun v9 h9 hq => ?_) (fun E h9 hq => by cases hq.1)
    obtain ⟨e9, e8⟩ := hq
    cases e9
    rw [e8]
    show K mX5_read _ _ 0 0 56 [(4, vi (k : Int)), (0, vr 63), (1, vr 31), (2, vi (n : Int)), (3, vr 33)] [vi (if (tk tp n p).1 = 0 then 1 else 0)] hh
    by_cases z3 : (tk tp n p).1 = 0
    · rw [if_pos z3]
      refine K_if_ne (tgt := 69) (dt_at dtX5_read 28 rfl) (by decide) (by first | assumption | exact ⟨by omega, by omega⟩) (fun c4 => ?_) (fun c4 => absurd c4 (by omega))
      refine K_aload_n (dt_at dtX5_read 33 rfl) rfl rfl ?_
      refine K_get (a := 63) (ci := 5) (k := 4) (v := vi 0) (dt_at dtX5_read 34 rfl) (show TT 63 = (0, 5) from rfl) rfl (by decide) wF_X5_22 (by show vi (hI hh 63 4) = vi 0; rw [A.2.2.2]) ?_
      exact K_iret (dt_at dtX5_read 35 rfl) rfl rfl (by decide) (by decide) ⟨⟨_, rfl⟩, by rw [← hX, hsP_0 (by assumption)]; exact ⟨rfl, Dd⟩, F⟩
    · rw [if_neg z3]
      refine K_if_ne (tgt := 69) (dt_at dtX5_read 28 rfl) (by decide) (by first | assumption | exact ⟨by omega, by omega⟩) (fun c5 => absurd c5 (by omega)) (fun c5 => ?_)
      refine K_aload_n (dt_at dtX5_read 29 rfl) rfl rfl ?_
      refine K_callV (M' := mX5_readLine) (a := 63) (ci := 5) (As := []) (st := []) (dt_at dtX5_read 30 rfl) (sX5_readLine_33 A i1 Dd) (show TT 63 = (0, 5) from rfl) rfl wL_X5_56 vX5_readLine rfl npX5_readLine (by decide) (by decide) (Nat.le_of_ble_eq_true rfl) (by decide) (by decide) GK_E (fun v9 hc1 hq => ?_) (fun E h9 hq => by cases hq.1)
      have hqq2 := hq
      obtain ⟨e9q2, Lq2, Gq2⟩ := hqq2
      have Fq2 := HQ_HK F Gq2
      cases e9q2
      show K mX5_read _ _ 0 0 63 [(4, vi (k : Int)), (0, vr 63), (1, vr 31), (2, vi (n : Int)), (3, vr 33)] [] hc1
      rcases uq2 : lnP tp n D p with ekq2 | ⟨Dq2, pq2⟩
      · rw [uq2] at Lq2
        have Aq2 : TE hc1 tp n ekq2 := Lq2
        have bq2 := Aq2.2.2.1
        refine K_iinc (ls' := [(4, vi ((k : Int) + 1)), (0, vr 63), (1, vr 31), (2, vi (n : Int)), (3, vr 33)]) (dt_at dtX5_read 31 rfl) rfl (by decide) rfl ?_
        refine K_goto (tgt := 34) (dt_at dtX5_read 32 rfl) (by decide) ?_
        refine K_iload (dt_at dtX5_read 19 rfl) rfl ?_
        refine K_sipush (dt_at dtX5_read 20 rfl) (by decide) ?_
        refine K_icmp_gt (tgt := 69) (dt_at dtX5_read 21 rfl) (by decide) (by first | assumption | exact ⟨by omega, by omega⟩) (by first | assumption | exact ⟨by omega, by omega⟩) (fun c6 => ?_) (fun c6 => ?_)
        · refine K_aload_n (dt_at dtX5_read 33 rfl) rfl rfl ?_
          refine K_get (a := 63) (ci := 5) (k := 4) (v := vi (ekq2.1)) (dt_at dtX5_read 34 rfl) (show TT 63 = (0, 5) from rfl) rfl (by decide) wF_X5_22 (by show vi (hI hc1 63 4) = vi (ekq2.1); rw [Aq2.2.2.2.1]) ?_
          exact K_iret (dt_at dtX5_read 35 rfl) rfl rfl (by decide) (by decide) ⟨⟨_, rfl⟩, by rw [← hX, hsP_e (by assumption) uq2]; exact ⟨rfl, bq2, Aq2.2.2.2.2⟩, Fq2⟩
        · refine K_aload_n (dt_at dtX5_read 22 rfl) rfl rfl ?_
          refine K_callV (M' := mX5_isGoing) (a := 63) (ci := 5) (As := []) (st := []) (dt_at dtX5_read 23 rfl) (sX5_isGoing_f Aq2.2.2.2.1 Aq2.2.2.1) (show TT 63 = (0, 5) from rfl) rfl wL_X5_49 vX5_isGoing rfl npX5_isGoing (by decide) (by decide) (Nat.le_of_ble_eq_true rfl) (by decide) (by decide) GK_E (fun v9 h9 hq => ?_) (fun E h9 hq => by cases hq.1)
          obtain ⟨e9, e8⟩ := hq
          cases e9
          rw [e8]
          show K mX5_read _ _ 0 0 46 [(4, vi ((k : Int) + 1)), (0, vr 63), (1, vr 31), (2, vi (n : Int)), (3, vr 33)] [vi 0] hc1
          refine K_if_eq (tgt := 69) (dt_at dtX5_read 24 rfl) (by decide) (by first | assumption | exact ⟨by omega, by omega⟩) (fun c7 => ?_) (fun c7 => absurd c7 (by omega))
          refine K_aload_n (dt_at dtX5_read 33 rfl) rfl rfl ?_
          refine K_get (a := 63) (ci := 5) (k := 4) (v := vi (ekq2.1)) (dt_at dtX5_read 34 rfl) (show TT 63 = (0, 5) from rfl) rfl (by decide) wF_X5_22 (by show vi (hI hc1 63 4) = vi (ekq2.1); rw [Aq2.2.2.2.1]) ?_
          exact K_iret (dt_at dtX5_read 35 rfl) rfl rfl (by decide) (by decide) ⟨⟨_, rfl⟩, by rw [← hX, hsP_e (by assumption) uq2]; exact ⟨rfl, bq2, Aq2.2.2.2.2⟩, Fq2⟩
      · rw [uq2] at Lq2
        obtain ⟨Aq2, jq2, dq2⟩ := Lq2
        refine K_iinc (ls' := [(4, vi ((k : Int) + 1)), (0, vr 63), (1, vr 31), (2, vi (n : Int)), (3, vr 33)]) (dt_at dtX5_read 31 rfl) rfl (by decide) rfl ?_
        refine K_goto (tgt := 34) (dt_at dtX5_read 32 rfl) (by decide) ?_
        refine K_pk [0, 1, 2, 3, 4] (ls' := [(4, vi ((k + 1 : Nat) : Int)), (0, vr 63), (1, vr 31), (2, vi (n : Int)), (3, vr 33)]) rfl ?_
        exact ih (k + 1) hc1 Dq2 pq2 (by omega) Aq2 jq2 dq2 Fq2 (by rw [← hX, hsP_g (by assumption) uq2])
set_option maxHeartbeats 4000000 in
set_option maxRecDepth 100000 in
theorem sX5_read_33 {h : HP} {tp : Int → Int} {n : Nat} (hn : n ≤ 700) (hb : ∀ i : Int, 0 ≤ i → i < n → (0 ≤ tp i ∧ tp i < 256) ∧ hA h 31 i = sb (tp i)) : SpecK mX5_read [vr 63, vr 31, vi (n : Int), vr 33] h (fun o h' => (∃ x, o = .inl (some (vi x))) ∧ RDr h' 33 o (hsP tp n 701 ((0, 0), (hA h 34, hA h 35, hA h 36), (hA h 37, hA h 38, hA h 39, hA h 40, hA h 41), none, none) 0) ∧ HQ 33 h h') := by
  refine Spec_of (by decide +kernel) (Nat.le_of_ble_eq_true rfl) ?_
  refine K_aload_n (dt_at dtX5_read 0 rfl) rfl rfl ?_
  refine K_aload_n (dt_at dtX5_read 1 rfl) rfl rfl ?_
  refine K_putR (a := 63) (ci := 5) (k := 1) (dt_at dtX5_read 2 rfl) (show TT 63 = (0, 5) from rfl) rfl (by decide) wF_X5_29 rfl rfl (fun _ => rfl) (fun _ => rfl) ?_
  obtain ⟨hq1, eq1⟩ : ∃ z, z = sR h 63 1 33 := ⟨_, rfl⟩
  rw [← eq1]
  obtain ⟨rq1, fq1, aq1, iq1⟩ := sR_fx eq1
  refine K_aload_n (dt_at dtX5_read 3 rfl) rfl rfl ?_
  refine K_get (a := 63) (ci := 5) (k := 1) (v := vr 33) (dt_at dtX5_read 4 rfl) (show TT 63 = (0, 5) from rfl) rfl (by decide) wF_X5_29 (by show vr (hR hq1 63 1) = vr 33; rw [rq1]) ?_
  refine K_callV (M' := mX3_clear) (a := 33) (ci := 3) (As := []) (st := []) (dt_at dtX5_read 5 rfl) sX3_clear_33 (show TT 33 = (0, 3) from rfl) rfl wL_X5_42 vX3_clear rfl npX3_clear (by decide) (by decide) (Nat.le_of_ble_eq_true rfl) (by decide) (by decide) GK_E (fun v9 h9 hq => ?_) (fun E h9 hq => by cases hq.1)
  obtain ⟨e9, e8⟩ := hq
  cases e9
  rw [e8]
  show K mX5_read _ _ 0 0 12 [(0, vr 63), (1, vr 31), (2, vi (n : Int)), (3, vr 33)] [] (sI (sI (sI (sI (sI (sI hq1 33 10 0) 33 11 0) 42 2 0) 42 3 0) 45 2 0) 45 3 0)
  obtain ⟨hq2, eq2⟩ : ∃ z, z = sI hq1 33 10 0 := ⟨_, rfl⟩
  rw [← eq2]
  obtain ⟨iq2, fq2, aq2, rq2⟩ := sI_fx eq2
  obtain ⟨hq3, eq3⟩ : ∃ z, z = sI hq2 33 11 0 := ⟨_, rfl⟩
  rw [← eq3]
  obtain ⟨iq3, fq3, aq3, rq3⟩ := sI_fx eq3
  obtain ⟨hq4, eq4⟩ : ∃ z, z = sI hq3 42 2 0 := ⟨_, rfl⟩
  rw [← eq4]
  obtain ⟨iq4, fq4, aq4, rq4⟩ := sI_fx eq4
  obtain ⟨hq5, eq5⟩ : ∃ z, z = sI hq4 42 3 0 := ⟨_, rfl⟩
  rw [← eq5]
  obtain ⟨iq5, fq5, aq5, rq5⟩ := sI_fx eq5
  obtain ⟨hq6, eq6⟩ : ∃ z, z = sI hq5 45 2 0 := ⟨_, rfl⟩
  rw [← eq6]
  obtain ⟨iq6, fq6, aq6, rq6⟩ := sI_fx eq6
  obtain ⟨hq7, eq7⟩ : ∃ z, z = sI hq6 45 3 0 := ⟨_, rfl⟩
  rw [← eq7]
  obtain ⟨iq7, fq7, aq7, rq7⟩ := sI_fx eq7
  refine K_aload_n (dt_at dtX5_read 6 rfl) rfl rfl ?_
  refine K_iconst (dt_at dtX5_read 7 rfl) ?_
  refine K_putI (a := 63) (ci := 5) (k := 4) (dt_at dtX5_read 8 rfl) (show TT 63 = (0, 5) from rfl) rfl (by decide) wF_X5_22 rfl (Or.inl rfl) rfl rfl ?_
  obtain ⟨hq8, eq8⟩ : ∃ z, z = sI hq7 63 4 0 := ⟨_, rfl⟩
  rw [← eq8]
  obtain ⟨iq8, fq8, aq8, rq8⟩ := sI_fx eq8
  refine K_aload_n (dt_at dtX5_read 9 rfl) rfl rfl ?_
  refine K_iconst (dt_at dtX5_read 10 rfl) ?_
  refine K_putI (a := 63) (ci := 5) (k := 5) (dt_at dtX5_read 11 rfl) (show TT 63 = (0, 5) from rfl) rfl (by decide) wF_X5_26 rfl (Or.inl rfl) rfl rfl ?_
  obtain ⟨hq9, eq9⟩ : ∃ z, z = sI hq8 63 5 (-1) := ⟨_, rfl⟩
  rw [← eq9]
  obtain ⟨iq9, fq9, aq9, rq9⟩ := sI_fx eq9
  refine K_aload_n (dt_at dtX5_read 12 rfl) rfl rfl ?_
  refine K_get (a := 63) (ci := 5) (k := 0) (v := vr 64) (dt_at dtX5_read 13 rfl) (show TT 63 = (0, 5) from rfl) rfl (by decide) wF_X5_12 rfl ?_
  refine K_aload_n (dt_at dtX5_read 14 rfl) rfl rfl ?_
  refine K_iload_n (dt_at dtX5_read 15 rfl) rfl rfl ?_
  have F0 : FL [] [(33, 10), (33, 11), (42, 2), (42, 3), (45, 2), (45, 3), (63, 4), (63, 5)] [(63, 1)] h hq9 := (FL_tr (FL_tr (FL_tr (FL_tr (FL_tr (FL_tr (FL_tr (FL_tr (FL_tr (FL_rf : FL [] [(33, 10), (33, 11), (42, 2), (42, 3), (45, 2), (45, 3), (63, 4), (63, 5)] [(63, 1)] h h) (FL_eR eq1 rfl)) (FL_eI eq2 rfl)) (FL_eI eq3 rfl)) (FL_eI eq4 rfl)) (FL_eI eq5 rfl)) (FL_eI eq6 rfl)) (FL_eI eq7 rfl)) (FL_eI eq8 rfl)) (FL_eI eq9 rfl))
  have t0 : hI hq9 33 10 = 0 := by rw [(fq9 33 10 (by omega)), (fq8 33 10 (by omega)), (fq7 33 10 (by omega)), (fq6 33 10 (by omega)), (fq5 33 10 (by omega)), (fq4 33 10 (by omega)), (fq3 33 10 (by omega)), iq2]
  have t1 : hI hq9 33 11 = 0 := by rw [(fq9 33 11 (by omega)), (fq8 33 11 (by omega)), (fq7 33 11 (by omega)), (fq6 33 11 (by omega)), (fq5 33 11 (by omega)), (fq4 33 11 (by omega)), iq3]
  have t2 : hI hq9 42 2 = 0 := by rw [(fq9 42 2 (by omega)), (fq8 42 2 (by omega)), (fq7 42 2 (by omega)), (fq6 42 2 (by omega)), (fq5 42 2 (by omega)), iq4]
  have t3 : hI hq9 42 3 = 0 := by rw [(fq9 42 3 (by omega)), (fq8 42 3 (by omega)), (fq7 42 3 (by omega)), (fq6 42 3 (by omega)), iq5]
  have t4 : hI hq9 45 2 = 0 := by rw [(fq9 45 2 (by omega)), (fq8 45 2 (by omega)), (fq7 45 2 (by omega)), iq6]
  have t5 : hI hq9 45 3 = 0 := by rw [(fq9 45 3 (by omega)), (fq8 45 3 (by omega)), iq7]
  have t6 : hI hq9 63 4 = 0 := by rw [(fq9 63 4 (by omega)), iq8]
  have t7 : hR hq9 63 1 = 33 := by rw [rq9, rq8, rq7, rq6, rq5, rq4, rq3, rq2, rq1]
  refine K_callV (M' := mX9_open) (a := 64) (ci := 9) (As := [vr 31, vi (n : Int)]) (st := []) (dt_at dtX5_read 16 rfl) (sX9_open hn (fun i z0 z1 => by rw [F0.1 31 rfl]; exact hb i z0 z1)) (show TT 64 = (0, 9) from rfl) rfl wL_X5_45 vX9_open rfl npX9_open (by decide) (by decide) (Nat.le_of_ble_eq_true rfl) (by decide) (by decide) GK_E (fun v9 hc10 hq => ?_) (fun E h9 hq => by cases hq.1)
  have hqq11 := hq
  obtain ⟨e9q11, Tq11, Eq11, Gq11⟩ := hqq11
  cases e9q11
  show K mX5_read _ _ 0 0 31 [(0, vr 63), (1, vr 31), (2, vi (n : Int)), (3, vr 33)] [] hc10
  refine K_iconst (dt_at dtX5_read 17 rfl) ?_
  refine K_istore (ls' := [(4, vi 0), (0, vr 63), (1, vr 31), (2, vi (n : Int)), (3, vr 33)]) (dt_at dtX5_read 18 rfl) (by decide) rfl ?_
  have fa : ∀ a, hA hc10 a = hA h a := fun a => (Gq11.1 a rfl).trans (F0.1 a rfl)
  have A9 : TG hc10 tp n 0 := ⟨Tq11, Eq11, Nat.zero_le _, by rw [(Gq11.2.1 63 4 rfl)]; exact t6⟩
  have j9 : hR hc10 63 1 = 33 := (Gq11.2.2 63 1 rfl).trans t7
  have d9 : DRf hc10 33 ((0, 0), (hA h 34, hA h 35, hA h 36), (hA h 37, hA h 38, hA h 39, hA h 40, hA h 41), none, none) := ⟨⟨by rw [(Gq11.2.1 33 10 rfl)]; exact t0, Nat.zero_le _⟩, ⟨by rw [(Gq11.2.1 33 11 rfl)]; exact t1, Nat.zero_le _⟩, ⟨fa _, fa _, fa _⟩, ⟨fa _, fa _, fa _, fa _, fa _⟩, ⟨by rw [(Gq11.2.1 42 3 rfl)]; exact t3, by rw [(Gq11.2.1 42 2 rfl)]; exact t2⟩, ⟨by rw [(Gq11.2.1 45 3 rfl)]; exact t5, by rw [(Gq11.2.1 45 2 rfl)]; exact t4⟩⟩
  have F9 : HQ 33 h hc10 := ⟨fun a _ _ _ => fa a, fun a k z1 z2 z3 z4 z5 => (Gq11.2.1 a k (by simp [TL]; omega)).trans (F0.2.1 a k (by simp; omega)), fun a k z1 z2 => (Gq11.2.2 a k (by simp; omega)).trans (F0.2.2 a k (by simp; omega))⟩
  exact K_pk [0, 1, 2, 3, 4] (ls' := [(4, vi ((0 : Nat) : Int)), (0, vr 63), (1, vr 31), (2, vi (n : Int)), (3, vr 33)]) rfl (lp_X5_read_33 701 0 hc10 _ 0 (by omega) A9 j9 d9 F9 rfl)
set_option maxHeartbeats 4000000 in
set_option maxRecDepth 100000 in
theorem lp_X5_read_48 {h : HP} {tp : Int → Int} {n : Nat} {X : (Int × Nat) ⊕ (DR × Nat)}  : ∀ (d k : Nat) (hh : HP) (D : DR) (p : Nat), k + d = 701 → TG hh tp n p → hR hh 63 1 = 48 → DRf hh 48 D → HQ 48 h hh → hsP tp n d D p = X → K mX5_read GK (ZK (fun o h' => (∃ x, o = .inl (some (vi x))) ∧ RDr h' 48 o X ∧ HQ 48 h h') 0 0) 0 0 34 [(4, vi (k : Int)), (0, vr 63), (1, vr 31), (2, vi (n : Int)), (3, vr 48)] [] hh := by
  intro d
  induction d with
  | zero =>
    intro k hh D p hk A i1 Dd F hX
    refine K_iload (dt_at dtX5_read 19 rfl) rfl ?_
    refine K_sipush (dt_at dtX5_read 20 rfl) (by decide) ?_
    refine K_icmp_gt (tgt := 69) (dt_at dtX5_read 21 rfl) (by decide) (by first | assumption | exact ⟨by omega, by omega⟩) (by first | assumption | exact ⟨by omega, by omega⟩) (fun c1 => ?_) (fun c1 => absurd c1 (by omega))
    refine K_aload_n (dt_at dtX5_read 33 rfl) rfl rfl ?_
    refine K_get (a := 63) (ci := 5) (k := 4) (v := vi 0) (dt_at dtX5_read 34 rfl) (show TT 63 = (0, 5) from rfl) rfl (by decide) wF_X5_22 (by show vi (hI hh 63 4) = vi 0; rw [A.2.2.2]) ?_
    exact K_iret (dt_at dtX5_read 35 rfl) rfl rfl (by decide) (by decide) ⟨⟨_, rfl⟩, by rw [← hX]; exact ⟨rfl, Dd⟩, F⟩
  | succ d ih =>
    intro k hh D p hk A i1 Dd F hX
    refine K_iload (dt_at dtX5_read 19 rfl) rfl ?_
    refine K_sipush (dt_at dtX5_read 20 rfl) (by decide) ?_
    refine K_icmp_gt (tgt := 69) (dt_at dtX5_read 21 rfl) (by decide) (by first | assumption | exact ⟨by omega, by omega⟩) (by first | assumption | exact ⟨by omega, by omega⟩) (fun c1 => absurd c1 (by omega)) (fun c1 => ?_)
    refine K_aload_n (dt_at dtX5_read 22 rfl) rfl rfl ?_
    refine K_callV (M' := mX5_isGoing) (a := 63) (ci := 5) (As := []) (st := []) (dt_at dtX5_read 23 rfl) (sX5_isGoing_t A.2.2.2) (show TT 63 = (0, 5) from rfl) rfl wL_X5_49 vX5_isGoing rfl npX5_isGoing (by decide) (by decide) (Nat.le_of_ble_eq_true rfl) (by decide) (by decide) GK_E (fun v9 h9 hq => ?_) (fun E h9 hq => by cases hq.1)
    obtain ⟨e9, e8⟩ := hq
    cases e9
    rw [e8]
    show K mX5_read _ _ 0 0 46 [(4, vi (k : Int)), (0, vr 63), (1, vr 31), (2, vi (n : Int)), (3, vr 48)] [vi 1] hh
    refine K_if_eq (tgt := 69) (dt_at dtX5_read 24 rfl) (by decide) (by first | assumption | exact ⟨by omega, by omega⟩) (fun c2 => absurd c2 (by omega)) (fun c2 => ?_)
    refine K_aload_n (dt_at dtX5_read 25 rfl) rfl rfl ?_
    refine K_get (a := 63) (ci := 5) (k := 0) (v := vr 64) (dt_at dtX5_read 26 rfl) (show TT 63 = (0, 5) from rfl) rfl (by decide) wF_X5_12 rfl ?_
    refine K_callV (M' := mX9_isAtEnd) (a := 64) (ci := 9) (As := []) (st := []) (dt_at dtX5_read 27 rfl) (sX9_isAtEnd A.1 A.2.1 (tk_G A.2.2.1)) (show TT 64 = (0, 9) from rfl) rfl wL_X5_53 vX9_isAtEnd rfl npX9_isAtEnd (by decide) (by decide) (Nat.le_of_ble_eq_true rfl) (by decide) (by decide) GK_E (fun v9 h9 hq => ?_) (fun E h9 hq => by cases hq.1)
    obtain ⟨e9, e8⟩ := hq
    cases e9
    rw [e8]
    show K mX5_read _ _ 0 0 56 [(4, vi (k : Int)), (0, vr 63), (1, vr 31), (2, vi (n : Int)), (3, vr 48)] [vi (if (tk tp n p).1 = 0 then 1 else 0)] hh
    by_cases z3 : (tk tp n p).1 = 0
    · rw [if_pos z3]
      refine K_if_ne (tgt := 69) (dt_at dtX5_read 28 rfl) (by decide) (by first | assumption | exact ⟨by omega, by omega⟩) (fun c4 => ?_) (fun c4 => absurd c4 (by omega))
      refine K_aload_n (dt_at dtX5_read 33 rfl) rfl rfl ?_
      refine K_get (a := 63) (ci := 5) (k := 4) (v := vi 0) (dt_at dtX5_read 34 rfl) (show TT 63 = (0, 5) from rfl) rfl (by decide) wF_X5_22 (by show vi (hI hh 63 4) = vi 0; rw [A.2.2.2]) ?_
      exact K_iret (dt_at dtX5_read 35 rfl) rfl rfl (by decide) (by decide) ⟨⟨_, rfl⟩, by rw [← hX, hsP_0 (by assumption)]; exact ⟨rfl, Dd⟩, F⟩
    · rw [if_neg z3]
      refine K_if_ne (tgt := 69) (dt_at dtX5_read 28 rfl) (by decide) (by first | assumption | exact ⟨by omega, by omega⟩) (fun c5 => absurd c5 (by omega)) (fun c5 => ?_)
      refine K_aload_n (dt_at dtX5_read 29 rfl) rfl rfl ?_
      refine K_callV (M' := mX5_readLine) (a := 63) (ci := 5) (As := []) (st := []) (dt_at dtX5_read 30 rfl) (sX5_readLine_48 A i1 Dd) (show TT 63 = (0, 5) from rfl) rfl wL_X5_56 vX5_readLine rfl npX5_readLine (by decide) (by decide) (Nat.le_of_ble_eq_true rfl) (by decide) (by decide) GK_E (fun v9 hc1 hq => ?_) (fun E h9 hq => by cases hq.1)
      have hqq2 := hq
      obtain ⟨e9q2, Lq2, Gq2⟩ := hqq2
      have Fq2 := HQ_HK F Gq2
      cases e9q2
      show K mX5_read _ _ 0 0 63 [(4, vi (k : Int)), (0, vr 63), (1, vr 31), (2, vi (n : Int)), (3, vr 48)] [] hc1
      rcases uq2 : lnP tp n D p with ekq2 | ⟨Dq2, pq2⟩
      · rw [uq2] at Lq2
        have Aq2 : TE hc1 tp n ekq2 := Lq2
        have bq2 := Aq2.2.2.1
        refine K_iinc (ls' := [(4, vi ((k : Int) + 1)), (0, vr 63), (1, vr 31), (2, vi (n : Int)), (3, vr 48)]) (dt_at dtX5_read 31 rfl) rfl (by decide) rfl ?_
        refine K_goto (tgt := 34) (dt_at dtX5_read 32 rfl) (by decide) ?_
        refine K_iload (dt_at dtX5_read 19 rfl) rfl ?_
        refine K_sipush (dt_at dtX5_read 20 rfl) (by decide) ?_
        refine K_icmp_gt (tgt := 69) (dt_at dtX5_read 21 rfl) (by decide) (by first | assumption | exact ⟨by omega, by omega⟩) (by first | assumption | exact ⟨by omega, by omega⟩) (fun c6 => ?_) (fun c6 => ?_)
        · refine K_aload_n (dt_at dtX5_read 33 rfl) rfl rfl ?_
          refine K_get (a := 63) (ci := 5) (k := 4) (v := vi (ekq2.1)) (dt_at dtX5_read 34 rfl) (show TT 63 = (0, 5) from rfl) rfl (by decide) wF_X5_22 (by show vi (hI hc1 63 4) = vi (ekq2.1); rw [Aq2.2.2.2.1]) ?_
          exact K_iret (dt_at dtX5_read 35 rfl) rfl rfl (by decide) (by decide) ⟨⟨_, rfl⟩, by rw [← hX, hsP_e (by assumption) uq2]; exact ⟨rfl, bq2, Aq2.2.2.2.2⟩, Fq2⟩
        · refine K_aload_n (dt_at dtX5_read 22 rfl) rfl rfl ?_
          refine K_callV (M' := mX5_isGoing) (a := 63) (ci := 5) (As := []) (st := []) (dt_at dtX5_read 23 rfl) (sX5_isGoing_f Aq2.2.2.2.1 Aq2.2.2.1) (show TT 63 = (0, 5) from rfl) rfl wL_X5_49 vX5_isGoing rfl npX5_isGoing (by decide) (by decide) (Nat.le_of_ble_eq_true rfl) (by decide) (by decide) GK_E (fun v9 h9 hq => ?_) (fun E h9 hq => by cases hq.1)
          obtain ⟨e9, e8⟩ := hq
          cases e9
          rw [e8]
          show K mX5_read _ _ 0 0 46 [(4, vi ((k : Int) + 1)), (0, vr 63), (1, vr 31), (2, vi (n : Int)), (3, vr 48)] [vi 0] hc1
          refine K_if_eq (tgt := 69) (dt_at dtX5_read 24 rfl) (by decide) (by first | assumption | exact ⟨by omega, by omega⟩) (fun c7 => ?_) (fun c7 => absurd c7 (by omega))
          refine K_aload_n (dt_at dtX5_read 33 rfl) rfl rfl ?_
          refine K_get (a := 63) (ci := 5) (k := 4) (v := vi (ekq2.1)) (dt_at dtX5_read 34 rfl) (show TT 63 = (0, 5) from rfl) rfl (by decide) wF_X5_22 (by show vi (hI hc1 63 4) = vi (ekq2.1); rw [Aq2.2.2.2.1]) ?_
          exact K_iret (dt_at dtX5_read 35 rfl) rfl rfl (by decide) (by decide) ⟨⟨_, rfl⟩, by rw [← hX, hsP_e (by assumption) uq2]; exact ⟨rfl, bq2, Aq2.2.2.2.2⟩, Fq2⟩
      · rw [uq2] at Lq2
        obtain ⟨Aq2, jq2, dq2⟩ := Lq2
        refine K_iinc (ls' := [(4, vi ((k : Int) + 1)), (0, vr 63), (1, vr 31), (2, vi (n : Int)), (3, vr 48)]) (dt_at dtX5_read 31 rfl) rfl (by decide) rfl ?_
        refine K_goto (tgt := 34) (dt_at dtX5_read 32 rfl) (by decide) ?_
        refine K_pk [0, 1, 2, 3, 4] (ls' := [(4, vi ((k + 1 : Nat) : Int)), (0, vr 63), (1, vr 31), (2, vi (n : Int)), (3, vr 48)]) rfl ?_
        exact ih (k + 1) hc1 Dq2 pq2 (by omega) Aq2 jq2 dq2 Fq2 (by rw [← hX, hsP_g (by assumption) uq2])
set_option maxHeartbeats 4000000 in
set_option maxRecDepth 100000 in
theorem sX5_read_48 {h : HP} {tp : Int → Int} {n : Nat} (hn : n ≤ 700) (hb : ∀ i : Int, 0 ≤ i → i < n → (0 ≤ tp i ∧ tp i < 256) ∧ hA h 31 i = sb (tp i)) : SpecK mX5_read [vr 63, vr 31, vi (n : Int), vr 48] h (fun o h' => (∃ x, o = .inl (some (vi x))) ∧ RDr h' 48 o (hsP tp n 701 ((0, 0), (hA h 49, hA h 50, hA h 51), (hA h 52, hA h 53, hA h 54, hA h 55, hA h 56), none, none) 0) ∧ HQ 48 h h') := by
  refine Spec_of (by decide +kernel) (Nat.le_of_ble_eq_true rfl) ?_
  refine K_aload_n (dt_at dtX5_read 0 rfl) rfl rfl ?_
  refine K_aload_n (dt_at dtX5_read 1 rfl) rfl rfl ?_
  refine K_putR (a := 63) (ci := 5) (k := 1) (dt_at dtX5_read 2 rfl) (show TT 63 = (0, 5) from rfl) rfl (by decide) wF_X5_29 rfl rfl (fun _ => rfl) (fun _ => rfl) ?_
  obtain ⟨hq1, eq1⟩ : ∃ z, z = sR h 63 1 48 := ⟨_, rfl⟩
  rw [← eq1]
  obtain ⟨rq1, fq1, aq1, iq1⟩ := sR_fx eq1
  refine K_aload_n (dt_at dtX5_read 3 rfl) rfl rfl ?_
  refine K_get (a := 63) (ci := 5) (k := 1) (v := vr 48) (dt_at dtX5_read 4 rfl) (show TT 63 = (0, 5) from rfl) rfl (by decide) wF_X5_29 (by show vr (hR hq1 63 1) = vr 48; rw [rq1]) ?_
  refine K_callV (M' := mX3_clear) (a := 48) (ci := 3) (As := []) (st := []) (dt_at dtX5_read 5 rfl) sX3_clear_48 (show TT 48 = (0, 3) from rfl) rfl wL_X5_42 vX3_clear rfl npX3_clear (by decide) (by decide) (Nat.le_of_ble_eq_true rfl) (by decide) (by decide) GK_E (fun v9 h9 hq => ?_) (fun E h9 hq => by cases hq.1)
  obtain ⟨e9, e8⟩ := hq
  cases e9
  rw [e8]
  show K mX5_read _ _ 0 0 12 [(0, vr 63), (1, vr 31), (2, vi (n : Int)), (3, vr 48)] [] (sI (sI (sI (sI (sI (sI hq1 48 10 0) 48 11 0) 57 2 0) 57 3 0) 60 2 0) 60 3 0)
  obtain ⟨hq2, eq2⟩ : ∃ z, z = sI hq1 48 10 0 := ⟨_, rfl⟩
  rw [← eq2]
  obtain ⟨iq2, fq2, aq2, rq2⟩ := sI_fx eq2
  obtain ⟨hq3, eq3⟩ : ∃ z, z = sI hq2 48 11 0 := ⟨_, rfl⟩
  rw [← eq3]
  obtain ⟨iq3, fq3, aq3, rq3⟩ := sI_fx eq3
  obtain ⟨hq4, eq4⟩ : ∃ z, z = sI hq3 57 2 0 := ⟨_, rfl⟩
  rw [← eq4]
  obtain ⟨iq4, fq4, aq4, rq4⟩ := sI_fx eq4
  obtain ⟨hq5, eq5⟩ : ∃ z, z = sI hq4 57 3 0 := ⟨_, rfl⟩
  rw [← eq5]
  obtain ⟨iq5, fq5, aq5, rq5⟩ := sI_fx eq5
  obtain ⟨hq6, eq6⟩ : ∃ z, z = sI hq5 60 2 0 := ⟨_, rfl⟩
  rw [← eq6]
  obtain ⟨iq6, fq6, aq6, rq6⟩ := sI_fx eq6
  obtain ⟨hq7, eq7⟩ : ∃ z, z = sI hq6 60 3 0 := ⟨_, rfl⟩
  rw [← eq7]
  obtain ⟨iq7, fq7, aq7, rq7⟩ := sI_fx eq7
  refine K_aload_n (dt_at dtX5_read 6 rfl) rfl rfl ?_
  refine K_iconst (dt_at dtX5_read 7 rfl) ?_
  refine K_putI (a := 63) (ci := 5) (k := 4) (dt_at dtX5_read 8 rfl) (show TT 63 = (0, 5) from rfl) rfl (by decide) wF_X5_22 rfl (Or.inl rfl) rfl rfl ?_
  obtain ⟨hq8, eq8⟩ : ∃ z, z = sI hq7 63 4 0 := ⟨_, rfl⟩
  rw [← eq8]
  obtain ⟨iq8, fq8, aq8, rq8⟩ := sI_fx eq8
  refine K_aload_n (dt_at dtX5_read 9 rfl) rfl rfl ?_
  refine K_iconst (dt_at dtX5_read 10 rfl) ?_
  refine K_putI (a := 63) (ci := 5) (k := 5) (dt_at dtX5_read 11 rfl) (show TT 63 = (0, 5) from rfl) rfl (by decide) wF_X5_26 rfl (Or.inl rfl) rfl rfl ?_
  obtain ⟨hq9, eq9⟩ : ∃ z, z = sI hq8 63 5 (-1) := ⟨_, rfl⟩
  rw [← eq9]
  obtain ⟨iq9, fq9, aq9, rq9⟩ := sI_fx eq9
  refine K_aload_n (dt_at dtX5_read 12 rfl) rfl rfl ?_
  refine K_get (a := 63) (ci := 5) (k := 0) (v := vr 64) (dt_at dtX5_read 13 rfl) (show TT 63 = (0, 5) from rfl) rfl (by decide) wF_X5_12 rfl ?_
  refine K_aload_n (dt_at dtX5_read 14 rfl) rfl rfl ?_
  refine K_iload_n (dt_at dtX5_read 15 rfl) rfl rfl ?_
  have F0 : FL [] [(48, 10), (48, 11), (57, 2), (57, 3), (60, 2), (60, 3), (63, 4), (63, 5)] [(63, 1)] h hq9 := (FL_tr (FL_tr (FL_tr (FL_tr (FL_tr (FL_tr (FL_tr (FL_tr (FL_tr (FL_rf : FL [] [(48, 10), (48, 11), (57, 2), (57, 3), (60, 2), (60, 3), (63, 4), (63, 5)] [(63, 1)] h h) (FL_eR eq1 rfl)) (FL_eI eq2 rfl)) (FL_eI eq3 rfl)) (FL_eI eq4 rfl)) (FL_eI eq5 rfl)) (FL_eI eq6 rfl)) (FL_eI eq7 rfl)) (FL_eI eq8 rfl)) (FL_eI eq9 rfl))
  have t0 : hI hq9 48 10 = 0 := by rw [(fq9 48 10 (by omega)), (fq8 48 10 (by omega)), (fq7 48 10 (by omega)), (fq6 48 10 (by omega)), (fq5 48 10 (by omega)), (fq4 48 10 (by omega)), (fq3 48 10 (by omega)), iq2]
  have t1 : hI hq9 48 11 = 0 := by rw [(fq9 48 11 (by omega)), (fq8 48 11 (by omega)), (fq7 48 11 (by omega)), (fq6 48 11 (by omega)), (fq5 48 11 (by omega)), (fq4 48 11 (by omega)), iq3]
  have t2 : hI hq9 57 2 = 0 := by rw [(fq9 57 2 (by omega)), (fq8 57 2 (by omega)), (fq7 57 2 (by omega)), (fq6 57 2 (by omega)), (fq5 57 2 (by omega)), iq4]
  have t3 : hI hq9 57 3 = 0 := by rw [(fq9 57 3 (by omega)), (fq8 57 3 (by omega)), (fq7 57 3 (by omega)), (fq6 57 3 (by omega)), iq5]
  have t4 : hI hq9 60 2 = 0 := by rw [(fq9 60 2 (by omega)), (fq8 60 2 (by omega)), (fq7 60 2 (by omega)), iq6]
  have t5 : hI hq9 60 3 = 0 := by rw [(fq9 60 3 (by omega)), (fq8 60 3 (by omega)), iq7]
  have t6 : hI hq9 63 4 = 0 := by rw [(fq9 63 4 (by omega)), iq8]
  have t7 : hR hq9 63 1 = 48 := by rw [rq9, rq8, rq7, rq6, rq5, rq4, rq3, rq2, rq1]
  refine K_callV (M' := mX9_open) (a := 64) (ci := 9) (As := [vr 31, vi (n : Int)]) (st := []) (dt_at dtX5_read 16 rfl) (sX9_open hn (fun i z0 z1 => by rw [F0.1 31 rfl]; exact hb i z0 z1)) (show TT 64 = (0, 9) from rfl) rfl wL_X5_45 vX9_open rfl npX9_open (by decide) (by decide) (Nat.le_of_ble_eq_true rfl) (by decide) (by decide) GK_E (fun v9 hc10 hq => ?_) (fun E h9 hq => by cases hq.1)
  have hqq11 := hq
  obtain ⟨e9q11, Tq11, Eq11, Gq11⟩ := hqq11
  cases e9q11
  show K mX5_read _ _ 0 0 31 [(0, vr 63), (1, vr 31), (2, vi (n : Int)), (3, vr 48)] [] hc10
  refine K_iconst (dt_at dtX5_read 17 rfl) ?_
  refine K_istore (ls' := [(4, vi 0), (0, vr 63), (1, vr 31), (2, vi (n : Int)), (3, vr 48)]) (dt_at dtX5_read 18 rfl) (by decide) rfl ?_
  have fa : ∀ a, hA hc10 a = hA h a := fun a => (Gq11.1 a rfl).trans (F0.1 a rfl)
  have A9 : TG hc10 tp n 0 := ⟨Tq11, Eq11, Nat.zero_le _, by rw [(Gq11.2.1 63 4 rfl)]; exact t6⟩
  have j9 : hR hc10 63 1 = 48 := (Gq11.2.2 63 1 rfl).trans t7
  have d9 : DRf hc10 48 ((0, 0), (hA h 49, hA h 50, hA h 51), (hA h 52, hA h 53, hA h 54, hA h 55, hA h 56), none, none) := ⟨⟨by rw [(Gq11.2.1 48 10 rfl)]; exact t0, Nat.zero_le _⟩, ⟨by rw [(Gq11.2.1 48 11 rfl)]; exact t1, Nat.zero_le _⟩, ⟨fa _, fa _, fa _⟩, ⟨fa _, fa _, fa _, fa _, fa _⟩, ⟨by rw [(Gq11.2.1 57 3 rfl)]; exact t3, by rw [(Gq11.2.1 57 2 rfl)]; exact t2⟩, ⟨by rw [(Gq11.2.1 60 3 rfl)]; exact t5, by rw [(Gq11.2.1 60 2 rfl)]; exact t4⟩⟩
  have F9 : HQ 48 h hc10 := ⟨fun a _ _ _ => fa a, fun a k z1 z2 z3 z4 z5 => (Gq11.2.1 a k (by simp [TL]; omega)).trans (F0.2.1 a k (by simp; omega)), fun a k z1 z2 => (Gq11.2.2 a k (by simp; omega)).trans (F0.2.2 a k (by simp; omega))⟩
  exact K_pk [0, 1, 2, 3, 4] (ls' := [(4, vi ((0 : Nat) : Int)), (0, vr 63), (1, vr 31), (2, vi (n : Int)), (3, vr 48)]) rfl (lp_X5_read_48 701 0 hc10 _ 0 (by omega) A9 j9 d9 F9 rfl)
def mX5_place : MI := (yX5_place, cX5_place, 1, (some .int), rmK 1 0)
def tX5_place : List (Nat × Instr × Nat) := [(0, .aload_n 0, 1), (1, .getfield 26, 3), (4, .ireturn, 1)]
theorem dtX5_place : tX5_place.all (fun q => decide (decode cX5_place q.1 = .ok (q.2.1, q.2.2))) = true := by decide +kernel
theorem npX5_place : (parseMethodDescriptor (mY mX5_place).desc).map (fun d => d.parameters.length) = some 0 := by decide +kernel
theorem vX5_place : mV mX5_place := ⟨wI_X5_place, wS_X5_place, wN_X5, wC_X5_place, by decide +kernel, by decide +kernel⟩
set_option maxHeartbeats 4000000 in
set_option maxRecDepth 100000 in
theorem sX5_place {h : HP}  : SpecK mX5_place [vr 63] h (fun o h' => o = .inl (some (vi (hI h 63 5))) ∧ h' = h) := by
  refine Spec_of (by decide +kernel) (Nat.le_of_ble_eq_true rfl) ?_
  refine K_aload_n (dt_at dtX5_place 0 rfl) rfl rfl ?_
  refine K_get (a := 63) (ci := 5) (k := 5) (v := vi (hI h 63 5)) (dt_at dtX5_place 1 rfl) (show TT 63 = (0, 5) from rfl) rfl (by decide) wF_X5_26 rfl ?_
  exact K_iret (dt_at dtX5_place 2 rfl) rfl rfl (by decide) (by decide) ⟨rfl, rfl⟩
