set_option maxHeartbeats 4000000 in
set_option maxRecDepth 100000 in
theorem sX8_copyFromX {h : HP} {a b : Nat} (hT : TT a = (0, 8)) (hB : TT b = (0, 8)) : SpecK mX8_copyFrom [vr a, vr b] h (fun o h' => o = .inl (none) ∧ h' = sF h (a + 1) (hA h (b + 1))) := by
  refine Spec_of (by decide +kernel) (Nat.le_of_ble_eq_true rfl) ?_
  refine K_aload_n (dt_at dtX8_copyFrom 0 rfl) rfl rfl ?_
  refine K_get (a := b) (ci := 8) (k := 0) (v := vr (b + 1)) (dt_at dtX8_copyFrom 1 rfl) hB rfl (by decide) wF_X8_11 rfl ?_
  refine K_iconst (dt_at dtX8_copyFrom 2 rfl) ?_
  refine K_aload_n (dt_at dtX8_copyFrom 3 rfl) rfl rfl ?_
  refine K_get (a := a) (ci := 8) (k := 0) (v := vr (a + 1)) (dt_at dtX8_copyFrom 4 rfl) hT rfl (by decide) wF_X8_11 rfl ?_
  refine K_iconst (dt_at dtX8_copyFrom 5 rfl) ?_
  refine K_bipush (dt_at dtX8_copyFrom 6 rfl) (by decide) ?_
  refine K_copy (dt_at dtX8_copyFrom 7 rfl) wA_X8_33 (lay_8_0 hB) (lay_8_0 hT) (by omega) (by omega) (by omega) (by omega) (by omega) (by decide) (Nat.le_of_ble_eq_true rfl) ?_
  refine K_rngF (g := (hA h (b + 1))) (lay_8_0 hT) (fun i h0 h1 => by unfold cpF; rw [if_pos (by omega)]; congr 1; omega) ?_
  exact K_vret (dt_at dtX8_copyFrom 8 rfl) rfl (by decide) (by decide) ⟨rfl, rfl⟩
set_option maxHeartbeats 4000000 in
set_option maxRecDepth 100000 in
theorem sX8_takeFromX {h : HP} {a c : Nat} {x : Int} (hT : TT a = (0, 8)) (hC : TT c = (1, 3080)) (hx : 0 ≤ x ∧ x < 40) : SpecK mX8_takeFrom [vr a, vr c, vi x] h (fun o h' => o = .inl (none) ∧ h' = sF h (a + 1) (fun i => hA h c (x * 77 + i))) := by
  refine Spec_of (by decide +kernel) (Nat.le_of_ble_eq_true rfl) ?_
  refine K_aload_n (dt_at dtX8_takeFrom 0 rfl) rfl rfl ?_
  refine K_iload_n (dt_at dtX8_takeFrom 1 rfl) rfl rfl ?_
  refine K_bipush (dt_at dtX8_takeFrom 2 rfl) (by decide) ?_
  refine K_imul (dt_at dtX8_takeFrom 3 rfl) ?_
  refine K_aload_n (dt_at dtX8_takeFrom 4 rfl) rfl rfl ?_
  refine K_get (a := a) (ci := 8) (k := 0) (v := vr (a + 1)) (dt_at dtX8_takeFrom 5 rfl) hT rfl (by decide) wF_X8_11 rfl ?_
  refine K_iconst (dt_at dtX8_takeFrom 6 rfl) ?_
  refine K_bipush (dt_at dtX8_takeFrom 7 rfl) (by decide) ?_
  refine K_copy (dt_at dtX8_takeFrom 8 rfl) wA_X8_33 hC (lay_8_0 hT) (by omega) (by omega) (by omega) (by omega) (by omega) (by decide) (Nat.le_of_ble_eq_true rfl) ?_
  refine K_rngF (g := (fun i => hA h c (x * 77 + i))) (lay_8_0 hT) (fun i h0 h1 => by unfold cpF; rw [if_pos (by omega)]; congr 1; omega) ?_
  exact K_vret (dt_at dtX8_takeFrom 9 rfl) rfl (by decide) (by decide) ⟨rfl, rfl⟩
def mX10_begin : MI := (yX10_begin, cX10_begin, 4, none, rmK 4 0)
def tX10_begin : List (Nat × Instr × Nat) := [(0, .aload_n 0, 1), (1, .aload_n 1, 1), (2, .putfield 40, 3), (5, .aload_n 0, 1), (6, .getfield 12, 3), (9, .aload_n 2, 1), (10, .invokevirtual 44, 3), (13, .aload_n 0, 1), (14, .iconst 0, 1), (15, .putfield 33, 3), (18, .iconst 0, 1), (19, .istore_n 3, 1), (20, .iload_n 3, 1), (21, .bipush 7, 2), (23, .if_icmp .ge 16, 3), (26, .aload_n 0, 1), (27, .getfield 24, 3), (30, .iload_n 3, 1), (31, .iconst 0, 1), (32, .iastore, 1), (33, .iinc 3 1, 3), (36, .goto (-16), 3), (39, .return_, 1)]
theorem dtX10_begin : tX10_begin.all (fun q => decide (decode cX10_begin q.1 = .ok (q.2.1, q.2.2))) = true := by decide +kernel
theorem npX10_begin : (parseMethodDescriptor (mY mX10_begin).desc).map (fun d => d.parameters.length) = some 2 := by decide +kernel
theorem vX10_begin : mV mX10_begin := ⟨wI_X10_begin, wS_X10_begin, wN_X10, wC_X10_begin, by decide +kernel, by decide +kernel⟩
set_option maxHeartbeats 4000000 in
set_option maxRecDepth 100000 in
theorem lp_X10_begin {Z : CT → State → Prop} {hb : HP} {w : Nat} (hW10 : TT w = (0, 10)) (kx : ∀ h1, hA h1 (w + 4) = (fun _ => 0) → (∀ b, b ≠ w + 4 → hA h1 b = hA hb b) → hI h1 = hI hb → hR h1 = hR hb → K mX10_begin GK Z 0 0 39 [(3, vi 7), (0, vr w)] [] h1) : ∀ (d k : Nat) (hh : HP), k + d = 7 → (∀ i : Int, 0 ≤ i → i < k → hA hh (w + 4) i = 0) → (∀ b, b ≠ w + 4 → hA hh b = hA hb b) → hI hh = hI hb → hR hh = hR hb → K mX10_begin GK Z 0 0 20 [(3, vi (k : Int)), (0, vr w)] [] hh := by
  intro d
  induction d with
  | zero =>
    intro k hh hk hz hf hi hRR
    obtain rfl : k = 7 := by omega
    refine K_iload_n (dt_at dtX10_begin 12 rfl) rfl rfl ?_
    refine K_bipush (dt_at dtX10_begin 13 rfl) (by decide) ?_
    refine K_icmp_ge (tgt := 39) (dt_at dtX10_begin 14 rfl) (by decide) (by first | assumption | exact ⟨by omega, by omega⟩) (by first | assumption | exact ⟨by omega, by omega⟩) (fun c1 => ?_) (fun c1 => absurd c1 (by omega))
    refine K_pk [0, 1] rfl ?_
    refine K_rng (h2 := sF hh (w + 4) (fun _ => 0)) rfl rfl (fun b i h0 h1 => ?_) ?_
    · by_cases e : b = w + 4
      · subst e
        rw [hA_F, lay_10_2 hW10] at *
        exact hz i h0 (by omega)
      · rw [hA_Fn e]
    · exact kx _ (hA_F _ _ _) (fun b z => by rw [hA_Fn z]; exact hf b z) (by rw [hI_F]; exact hi) (by rw [hR_F]; exact hRR)
  | succ d ih =>
    intro k hh hk hz hf hi hRR
    refine K_iload_n (dt_at dtX10_begin 12 rfl) rfl rfl ?_
    refine K_bipush (dt_at dtX10_begin 13 rfl) (by decide) ?_
    refine K_icmp_ge (tgt := 39) (dt_at dtX10_begin 14 rfl) (by decide) (by first | assumption | exact ⟨by omega, by omega⟩) (by first | assumption | exact ⟨by omega, by omega⟩) (fun c1 => absurd c1 (by omega)) (fun c1 => ?_)
    refine K_aload_n (dt_at dtX10_begin 15 rfl) rfl rfl ?_
    refine K_get (a := w) (ci := 10) (k := 2) (v := vr (w + 4)) (dt_at dtX10_begin 16 rfl) hW10 rfl (by decide) wF_X10_24 rfl ?_
    refine K_iload_n (dt_at dtX10_begin 17 rfl) rfl rfl ?_
    refine K_iconst (dt_at dtX10_begin 18 rfl) ?_
    refine K_iast (dt_at dtX10_begin 19 rfl) (lay_10_2 hW10) (by omega) (by omega) ?_
    obtain ⟨hq1, eq1⟩ : ∃ z, z = sA hh (w + 4) (k : Int) 0 := ⟨_, rfl⟩
    rw [← eq1]
    obtain ⟨aq1, fq1, iq1, rq1⟩ := sA_fx eq1
    refine K_iinc (ls' := [(3, vi ((k : Int) + 1)), (0, vr w)]) (dt_at dtX10_begin 20 rfl) rfl (by decide) rfl ?_
    refine K_goto (tgt := 20) (dt_at dtX10_begin 21 rfl) (by decide) ?_
    refine K_pk [0, 1] rfl ?_
    exact ih (k + 1) hq1 (by omega) (fun i a1 a2 => by rw [aq1]; unfold upI; exact if e : i = (k : Int) then if_pos e else (if_neg e).trans (hz i a1 (by omega))) (fun b z => by rw [fq1 b z]; exact hf b z) (by rw [iq1, hi]) (by rw [rq1, hRR])
set_option maxHeartbeats 4000000 in
set_option maxRecDepth 100000 in
theorem sX10_begin {h : HP} {w t a : Nat} (hw : w = 84 ∨ w = 101) (ht : t = 33 ∨ t = 48) (hT : TT a = (0, 8)) (hne : a ≠ w + 1) : SpecK mX10_begin [vr w, vr t, vr a] h (fun o h' => o = .inl none ∧ (∀ b, b ≠ w + 1 + 1 → b ≠ w + 4 → hA h' b = hA h b) ∧ hA h' (w + 1 + 1) = hA h (a + 1) ∧ hA h' (w + 4) = (fun _ => 0) ∧ hI h' w 6 = 0 ∧ (∀ b k, (b ≠ w ∨ k ≠ 6) → hI h' b k = hI h b k) ∧ hR h' w 5 = t ∧ (∀ b k, (b ≠ w ∨ k ≠ 5) → hR h' b k = hR h b k)) := by
  refine Spec_of (by decide +kernel) (Nat.le_of_ble_eq_true rfl) ?_
  have hW10 := TTw hw
  have hH := TTt ht
  refine K_aload_n (dt_at dtX10_begin 0 rfl) rfl rfl ?_
  refine K_aload_n (dt_at dtX10_begin 1 rfl) rfl rfl ?_
  refine K_putR (a := w) (ci := 10) (k := 5) (dt_at dtX10_begin 2 rfl) hW10 rfl (by decide) wF_X10_40 rfl rfl (fun _ => rfl) (fun _ => rfl) ?_
  obtain ⟨hq1, eq1⟩ : ∃ z, z = sR h w 5 t := ⟨_, rfl⟩
  rw [← eq1]
  obtain ⟨rq1, fq1, aq1, iq1⟩ := sR_fx eq1
  refine K_aload_n (dt_at dtX10_begin 3 rfl) rfl rfl ?_
  refine K_get (a := w) (ci := 10) (k := 0) (v := vr (w + 1)) (dt_at dtX10_begin 4 rfl) hW10 rfl (by decide) wF_X10_12 rfl ?_
  refine K_aload_n (dt_at dtX10_begin 5 rfl) rfl rfl ?_
  refine K_callV (M' := mX8_copyFrom) (a := (w + 1)) (ci := 8) (As := [vr a]) (st := []) (dt_at dtX10_begin 6 rfl) (sX8_copyFromX (lay_10_0 hW10) hT) (lay_10_0 hW10) rfl wL_X10_44 vX8_copyFrom rfl npX8_copyFrom (by decide) (by decide) (Nat.le_of_ble_eq_true rfl) (by decide) (by decide) GK_E (fun v9 hc2 hq => ?_) (fun E h9 hq => by cases hq.1)
  have hqq3 := hq
  obtain ⟨e9q3, eq3⟩ := hqq3
  obtain ⟨aq3, fq3, iq3, rq3⟩ := sF_fx eq3
  cases e9q3
  show K mX10_begin _ _ 0 0 13 [(0, vr w), (1, vr t), (2, vr a)] [] hc2
  refine K_aload_n (dt_at dtX10_begin 7 rfl) rfl rfl ?_
  refine K_iconst (dt_at dtX10_begin 8 rfl) ?_
  refine K_putI (a := w) (ci := 10) (k := 6) (dt_at dtX10_begin 9 rfl) hW10 rfl (by decide) wF_X10_33 rfl (Or.inl rfl) rfl rfl ?_
  obtain ⟨hq4, eq4⟩ : ∃ z, z = sI hc2 w 6 0 := ⟨_, rfl⟩
  rw [← eq4]
  obtain ⟨iq4, fq4, aq4, rq4⟩ := sI_fx eq4
  refine K_iconst (dt_at dtX10_begin 10 rfl) ?_
  refine K_istore_n (ls' := [(3, vi 0), (0, vr w), (1, vr t), (2, vr a)]) (dt_at dtX10_begin 11 rfl) rfl (by decide) rfl ?_
  refine K_pk [0, 1] rfl (lp_X10_begin hW10 (fun h1 z1 z2 z3 z4 => ?_) 7 0 hq4 (by omega) (fun i a1 a2 => by omega) (fun _ _ => rfl) rfl rfl)
  refine K_vret (dt_at dtX10_begin 22 rfl) rfl (by decide) (by decide) ⟨rfl, fun b y1 y2 => ?_, ?_, z1, ?_, fun b k y => ?_, ?_, fun b k y => ?_⟩
  · rw [z2 b y2, aq4, fq3 b y1, aq1]
  · rw [z2 _ (by omega), aq4, aq3, aq1]
  · rw [z3, iq4]
  · rw [z3, fq4 b k y, iq3, iq1]
  · rw [z4, rq4, rq3, rq1]
  · rw [z4, rq4, rq3, fq1 b k y]
def mX11_needThing : MI := (yX11_needThing, cX11_needThing, 2, none, rmK 7 1)
def tX11_needThing : List (Nat × Instr × Nat) := [(0, .iload_n 1, 1), (1, .ifCond .lt 14, 3), (4, .iload_n 1, 1), (5, .aload_n 0, 1), (6, .getfield 20, 3), (9, .getfield 137, 3), (12, .if_icmp .lt 14, 3), (15, .new 394, 3), (18, .dup, 1), (19, .ldc_w 396, 3), (22, .invokespecial 398, 3), (25, .athrow, 1), (26, .return_, 1)]
theorem dtX11_needThing : tX11_needThing.all (fun q => decide (decode cX11_needThing q.1 = .ok (q.2.1, q.2.2))) = true := by decide +kernel
theorem npX11_needThing : (parseMethodDescriptor (mY mX11_needThing).desc).map (fun d => d.parameters.length) = some 1 := by decide +kernel
theorem vX11_needThing : mV mX11_needThing := ⟨wI_X11_needThing, wS_X11_needThing, wN_X11, wC_X11_needThing, by decide +kernel, by decide +kernel⟩
set_option maxHeartbeats 4000000 in
set_option maxRecDepth 100000 in
theorem sX11_needThing {h : HP} {t n : Nat} {x : Int} (ht : TT t = (0, 3)) (ht2 : hR h 30 2 = t) (hn : hI h t 10 = (n : Int)) (hn2 : n ≤ 6) (hx : i32 x) (ok : 0 ≤ x ∧ x < n) : SpecK mX11_needThing [vr 30, vi x] h (fun o h' => o = .inl (none) ∧ h' = h) := by
  refine Spec_of (by decide +kernel) (Nat.le_of_ble_eq_true rfl) ?_
  refine K_iload_n (dt_at dtX11_needThing 0 rfl) rfl rfl ?_
  refine K_if_lt (tgt := 15) (dt_at dtX11_needThing 1 rfl) (by decide) (by first | assumption | exact ⟨by omega, by omega⟩) (fun c1 => ?_) (fun c1 => ?_)
  · exact K_throwN (si := 18) (dt_at dtX11_needThing 7 rfl) (dt_at dtX11_needThing 8 rfl) (dt_at dtX11_needThing 9 rfl) (dt_at dtX11_needThing 10 rfl) (dt_at dtX11_needThing 11 rfl) wk_NS wi_NS rfl at_NS ok_NS (by decide) (Nat.le_of_ble_eq_true rfl) (by decide) (by decide) (by decide) (by decide) (by exfalso; omega)
  · refine K_iload_n (dt_at dtX11_needThing 2 rfl) rfl rfl ?_
    refine K_aload_n (dt_at dtX11_needThing 3 rfl) rfl rfl ?_
    refine K_get (a := 30) (ci := 11) (k := 2) (v := vr t) (dt_at dtX11_needThing 4 rfl) (by decide) rfl (by decide) wF_X11_20 (by show vr (hR h 30 2) = vr t; rw [ht2]) ?_
    refine K_get (a := t) (ci := 3) (k := 10) (v := vi (n : Int)) (dt_at dtX11_needThing 5 rfl) ht rfl (by decide) wF_X11_137 (by show vi (hI h t 10) = vi (n : Int); rw [hn]) ?_
    refine K_icmp_lt (tgt := 26) (dt_at dtX11_needThing 6 rfl) (by decide) (by first | assumption | exact ⟨by omega, by omega⟩) (by first | assumption | exact ⟨by omega, by omega⟩) (fun c2 => ?_) (fun c2 => ?_)
    · exact K_vret (dt_at dtX11_needThing 12 rfl) rfl (by decide) (by decide) ⟨rfl, rfl⟩
    · exact K_throwN (si := 18) (dt_at dtX11_needThing 7 rfl) (dt_at dtX11_needThing 8 rfl) (dt_at dtX11_needThing 9 rfl) (dt_at dtX11_needThing 10 rfl) (dt_at dtX11_needThing 11 rfl) wk_NS wi_NS rfl at_NS ok_NS (by decide) (Nat.le_of_ble_eq_true rfl) (by decide) (by decide) (by decide) (by decide) (by exfalso; omega)
set_option maxHeartbeats 4000000 in
set_option maxRecDepth 100000 in
theorem sX11_needThing_no {h : HP} {t n : Nat} {x : Int} (ht : TT t = (0, 3)) (ht2 : hR h 30 2 = t) (hn : hI h t 10 = (n : Int)) (hn2 : n ≤ 6) (hx : i32 x) (no : ¬ (0 ≤ x ∧ x < n)) : SpecK mX11_needThing [vr 30, vi x] h (fun o h' => o = .inr eNS ∧ h' = h) := by
  refine Spec_of (by decide +kernel) (Nat.le_of_ble_eq_true rfl) ?_
  refine K_iload_n (dt_at dtX11_needThing 0 rfl) rfl rfl ?_
  refine K_if_lt (tgt := 15) (dt_at dtX11_needThing 1 rfl) (by decide) (by first | assumption | exact ⟨by omega, by omega⟩) (fun c1 => ?_) (fun c1 => ?_)
  · exact K_throwN (si := 18) (dt_at dtX11_needThing 7 rfl) (dt_at dtX11_needThing 8 rfl) (dt_at dtX11_needThing 9 rfl) (dt_at dtX11_needThing 10 rfl) (dt_at dtX11_needThing 11 rfl) wk_NS wi_NS rfl at_NS ok_NS (by decide) (Nat.le_of_ble_eq_true rfl) (by decide) (by decide) (by decide) (by decide) ⟨rfl, rfl⟩
  · refine K_iload_n (dt_at dtX11_needThing 2 rfl) rfl rfl ?_
    refine K_aload_n (dt_at dtX11_needThing 3 rfl) rfl rfl ?_
    refine K_get (a := 30) (ci := 11) (k := 2) (v := vr t) (dt_at dtX11_needThing 4 rfl) (by decide) rfl (by decide) wF_X11_20 (by show vr (hR h 30 2) = vr t; rw [ht2]) ?_
    refine K_get (a := t) (ci := 3) (k := 10) (v := vi (n : Int)) (dt_at dtX11_needThing 5 rfl) ht rfl (by decide) wF_X11_137 (by show vi (hI h t 10) = vi (n : Int); rw [hn]) ?_
    refine K_icmp_lt (tgt := 26) (dt_at dtX11_needThing 6 rfl) (by decide) (by first | assumption | exact ⟨by omega, by omega⟩) (by first | assumption | exact ⟨by omega, by omega⟩) (fun c2 => ?_) (fun c2 => ?_)
    · exact K_vret (dt_at dtX11_needThing 12 rfl) rfl (by decide) (by decide) (by exfalso; omega)
    · exact K_throwN (si := 18) (dt_at dtX11_needThing 7 rfl) (dt_at dtX11_needThing 8 rfl) (dt_at dtX11_needThing 9 rfl) (dt_at dtX11_needThing 10 rfl) (dt_at dtX11_needThing 11 rfl) wk_NS wi_NS rfl at_NS ok_NS (by decide) (Nat.le_of_ble_eq_true rfl) (by decide) (by decide) (by decide) (by decide) ⟨rfl, rfl⟩
def mX11_needPerson : MI := (yX11_needPerson, cX11_needPerson, 2, none, rmK 7 1)
def tX11_needPerson : List (Nat × Instr × Nat) := [(0, .iload_n 1, 1), (1, .ifCond .lt 14, 3), (4, .iload_n 1, 1), (5, .aload_n 0, 1), (6, .getfield 20, 3), (9, .getfield 140, 3), (12, .if_icmp .lt 14, 3), (15, .new 394, 3), (18, .dup, 1), (19, .ldc_w 399, 3), (22, .invokespecial 398, 3), (25, .athrow, 1), (26, .return_, 1)]
theorem dtX11_needPerson : tX11_needPerson.all (fun q => decide (decode cX11_needPerson q.1 = .ok (q.2.1, q.2.2))) = true := by decide +kernel
theorem npX11_needPerson : (parseMethodDescriptor (mY mX11_needPerson).desc).map (fun d => d.parameters.length) = some 1 := by decide +kernel
theorem vX11_needPerson : mV mX11_needPerson := ⟨wI_X11_needPerson, wS_X11_needPerson, wN_X11, wC_X11_needPerson, by decide +kernel, by decide +kernel⟩
set_option maxHeartbeats 4000000 in
set_option maxRecDepth 100000 in
theorem sX11_needPerson {h : HP} {t n : Nat} {x : Int} (ht : TT t = (0, 3)) (ht2 : hR h 30 2 = t) (hn : hI h t 11 = (n : Int)) (hn2 : n ≤ 7) (hx : i32 x) (ok : 0 ≤ x ∧ x < n) : SpecK mX11_needPerson [vr 30, vi x] h (fun o h' => o = .inl (none) ∧ h' = h) := by
  refine Spec_of (by decide +kernel) (Nat.le_of_ble_eq_true rfl) ?_
  refine K_iload_n (dt_at dtX11_needPerson 0 rfl) rfl rfl ?_
  refine K_if_lt (tgt := 15) (dt_at dtX11_needPerson 1 rfl) (by decide) (by first | assumption | exact ⟨by omega, by omega⟩) (fun c1 => ?_) (fun c1 => ?_)
  · exact K_throwN (si := 19) (dt_at dtX11_needPerson 7 rfl) (dt_at dtX11_needPerson 8 rfl) (dt_at dtX11_needPerson 9 rfl) (dt_at dtX11_needPerson 10 rfl) (dt_at dtX11_needPerson 11 rfl) wk_NS wi_NS rfl at_NS ok_NS (by decide) (Nat.le_of_ble_eq_true rfl) (by decide) (by decide) (by decide) (by decide) (by exfalso; omega)
  · refine K_iload_n (dt_at dtX11_needPerson 2 rfl) rfl rfl ?_
    refine K_aload_n (dt_at dtX11_needPerson 3 rfl) rfl rfl ?_
    refine K_get (a := 30) (ci := 11) (k := 2) (v := vr t) (dt_at dtX11_needPerson 4 rfl) (by decide) rfl (by decide) wF_X11_20 (by show vr (hR h 30 2) = vr t; rw [ht2]) ?_
    refine K_get (a := t) (ci := 3) (k := 11) (v := vi (n : Int)) (dt_at dtX11_needPerson 5 rfl) ht rfl (by decide) wF_X11_140 (by show vi (hI h t 11) = vi (n : Int); rw [hn]) ?_
    refine K_icmp_lt (tgt := 26) (dt_at dtX11_needPerson 6 rfl) (by decide) (by first | assumption | exact ⟨by omega, by omega⟩) (by first | assumption | exact ⟨by omega, by omega⟩) (fun c2 => ?_) (fun c2 => ?_)
    · exact K_vret (dt_at dtX11_needPerson 12 rfl) rfl (by decide) (by decide) ⟨rfl, rfl⟩
    · exact K_throwN (si := 19) (dt_at dtX11_needPerson 7 rfl) (dt_at dtX11_needPerson 8 rfl) (dt_at dtX11_needPerson 9 rfl) (dt_at dtX11_needPerson 10 rfl) (dt_at dtX11_needPerson 11 rfl) wk_NS wi_NS rfl at_NS ok_NS (by decide) (Nat.le_of_ble_eq_true rfl) (by decide) (by decide) (by decide) (by decide) (by exfalso; omega)
set_option maxHeartbeats 4000000 in
set_option maxRecDepth 100000 in
theorem sX11_needPerson_no {h : HP} {t n : Nat} {x : Int} (ht : TT t = (0, 3)) (ht2 : hR h 30 2 = t) (hn : hI h t 11 = (n : Int)) (hn2 : n ≤ 7) (hx : i32 x) (no : ¬ (0 ≤ x ∧ x < n)) : SpecK mX11_needPerson [vr 30, vi x] h (fun o h' => o = .inr eNS ∧ h' = h) := by
  refine Spec_of (by decide +kernel) (Nat.le_of_ble_eq_true rfl) ?_
  refine K_iload_n (dt_at dtX11_needPerson 0 rfl) rfl rfl ?_
  refine K_if_lt (tgt := 15) (dt_at dtX11_needPerson 1 rfl) (by decide) (by first | assumption | exact ⟨by omega, by omega⟩) (fun c1 => ?_) (fun c1 => ?_)
  · exact K_throwN (si := 19) (dt_at dtX11_needPerson 7 rfl) (dt_at dtX11_needPerson 8 rfl) (dt_at dtX11_needPerson 9 rfl) (dt_at dtX11_needPerson 10 rfl) (dt_at dtX11_needPerson 11 rfl) wk_NS wi_NS rfl at_NS ok_NS (by decide) (Nat.le_of_ble_eq_true rfl) (by decide) (by decide) (by decide) (by decide) ⟨rfl, rfl⟩
  · refine K_iload_n (dt_at dtX11_needPerson 2 rfl) rfl rfl ?_
    refine K_aload_n (dt_at dtX11_needPerson 3 rfl) rfl rfl ?_
    refine K_get (a := 30) (ci := 11) (k := 2) (v := vr t) (dt_at dtX11_needPerson 4 rfl) (by decide) rfl (by decide) wF_X11_20 (by show vr (hR h 30 2) = vr t; rw [ht2]) ?_
    refine K_get (a := t) (ci := 3) (k := 11) (v := vi (n : Int)) (dt_at dtX11_needPerson 5 rfl) ht rfl (by decide) wF_X11_140 (by show vi (hI h t 11) = vi (n : Int); rw [hn]) ?_
    refine K_icmp_lt (tgt := 26) (dt_at dtX11_needPerson 6 rfl) (by decide) (by first | assumption | exact ⟨by omega, by omega⟩) (by first | assumption | exact ⟨by omega, by omega⟩) (fun c2 => ?_) (fun c2 => ?_)
    · exact K_vret (dt_at dtX11_needPerson 12 rfl) rfl (by decide) (by decide) (by exfalso; omega)
    · exact K_throwN (si := 19) (dt_at dtX11_needPerson 7 rfl) (dt_at dtX11_needPerson 8 rfl) (dt_at dtX11_needPerson 9 rfl) (dt_at dtX11_needPerson 10 rfl) (dt_at dtX11_needPerson 11 rfl) wk_NS wi_NS rfl at_NS ok_NS (by decide) (Nat.le_of_ble_eq_true rfl) (by decide) (by decide) (by decide) (by decide) ⟨rfl, rfl⟩
def mX11_needWhat : MI := (yX11_needWhat, cX11_needWhat, 2, none, rmK 7 1)
def tX11_needWhat : List (Nat × Instr × Nat) := [(0, .iload_n 0, 1), (1, .ifCond .lt 8, 3), (4, .iload_n 0, 1), (5, .iload_n 1, 1), (6, .if_icmp .le 14, 3), (9, .new 394, 3), (12, .dup, 1), (13, .ldc_w 401, 3), (16, .invokespecial 398, 3), (19, .athrow, 1), (20, .return_, 1)]
theorem dtX11_needWhat : tX11_needWhat.all (fun q => decide (decode cX11_needWhat q.1 = .ok (q.2.1, q.2.2))) = true := by decide +kernel
theorem npX11_needWhat : (parseMethodDescriptor (mY mX11_needWhat).desc).map (fun d => d.parameters.length) = some 2 := by decide +kernel
theorem vX11_needWhat : mS mX11_needWhat := ⟨wT_X11_needWhat, wN_X11, wC_X11_needWhat, by decide +kernel, by decide +kernel⟩
set_option maxHeartbeats 4000000 in
set_option maxRecDepth 100000 in
theorem sX11_needWhat {h : HP} {x y : Int} (hx : i32 x) (hy : i32 y) (ok : 0 ≤ x ∧ x ≤ y) : SpecK mX11_needWhat [vi x, vi y] h (fun o h' => o = .inl (none) ∧ h' = h) := by
  refine Spec_of (by decide +kernel) (Nat.le_of_ble_eq_true rfl) ?_
  refine K_iload_n (dt_at dtX11_needWhat 0 rfl) rfl rfl ?_
  refine K_if_lt (tgt := 9) (dt_at dtX11_needWhat 1 rfl) (by decide) (by first | assumption | exact ⟨by omega, by omega⟩) (fun c1 => ?_) (fun c1 => ?_)
  · exact K_throwN (si := 17) (dt_at dtX11_needWhat 5 rfl) (dt_at dtX11_needWhat 6 rfl) (dt_at dtX11_needWhat 7 rfl) (dt_at dtX11_needWhat 8 rfl) (dt_at dtX11_needWhat 9 rfl) wk_NS wi_NS rfl at_NS ok_NS (by decide) (Nat.le_of_ble_eq_true rfl) (by decide) (by decide) (by decide) (by decide) (by exfalso; omega)
  · refine K_iload_n (dt_at dtX11_needWhat 2 rfl) rfl rfl ?_
    refine K_iload_n (dt_at dtX11_needWhat 3 rfl) rfl rfl ?_
    refine K_icmp_le (tgt := 20) (dt_at dtX11_needWhat 4 rfl) (by decide) (by first | assumption | exact ⟨by omega, by omega⟩) (by first | assumption | exact ⟨by omega, by omega⟩) (fun c2 => ?_) (fun c2 => ?_)
    · exact K_vret (dt_at dtX11_needWhat 10 rfl) rfl (by decide) (by decide) ⟨rfl, rfl⟩
    · exact K_throwN (si := 17) (dt_at dtX11_needWhat 5 rfl) (dt_at dtX11_needWhat 6 rfl) (dt_at dtX11_needWhat 7 rfl) (dt_at dtX11_needWhat 8 rfl) (dt_at dtX11_needWhat 9 rfl) wk_NS wi_NS rfl at_NS ok_NS (by decide) (Nat.le_of_ble_eq_true rfl) (by decide) (by decide) (by decide) (by decide) (by exfalso; omega)
set_option maxHeartbeats 4000000 in
set_option maxRecDepth 100000 in
theorem sX11_needWhat_no {h : HP} {x y : Int} (hx : i32 x) (hy : i32 y) (no : ¬ (0 ≤ x ∧ x ≤ y)) : SpecK mX11_needWhat [vi x, vi y] h (fun o h' => o = .inr eNS ∧ h' = h) := by
  refine Spec_of (by decide +kernel) (Nat.le_of_ble_eq_true rfl) ?_
  refine K_iload_n (dt_at dtX11_needWhat 0 rfl) rfl rfl ?_
  refine K_if_lt (tgt := 9) (dt_at dtX11_needWhat 1 rfl) (by decide) (by first | assumption | exact ⟨by omega, by omega⟩) (fun c1 => ?_) (fun c1 => ?_)
  · exact K_throwN (si := 17) (dt_at dtX11_needWhat 5 rfl) (dt_at dtX11_needWhat 6 rfl) (dt_at dtX11_needWhat 7 rfl) (dt_at dtX11_needWhat 8 rfl) (dt_at dtX11_needWhat 9 rfl) wk_NS wi_NS rfl at_NS ok_NS (by decide) (Nat.le_of_ble_eq_true rfl) (by decide) (by decide) (by decide) (by decide) ⟨rfl, rfl⟩
  · refine K_iload_n (dt_at dtX11_needWhat 2 rfl) rfl rfl ?_
    refine K_iload_n (dt_at dtX11_needWhat 3 rfl) rfl rfl ?_
    refine K_icmp_le (tgt := 20) (dt_at dtX11_needWhat 4 rfl) (by decide) (by first | assumption | exact ⟨by omega, by omega⟩) (by first | assumption | exact ⟨by omega, by omega⟩) (fun c2 => ?_) (fun c2 => ?_)
    · exact K_vret (dt_at dtX11_needWhat 10 rfl) rfl (by decide) (by decide) (by exfalso; omega)
    · exact K_throwN (si := 17) (dt_at dtX11_needWhat 5 rfl) (dt_at dtX11_needWhat 6 rfl) (dt_at dtX11_needWhat 7 rfl) (dt_at dtX11_needWhat 8 rfl) (dt_at dtX11_needWhat 9 rfl) wk_NS wi_NS rfl at_NS ok_NS (by decide) (Nat.le_of_ble_eq_true rfl) (by decide) (by decide) (by decide) (by decide) ⟨rfl, rfl⟩
def mX11_needBetween : MI := (yX11_needBetween, cX11_needBetween, 3, none, rmK 7 1)
def tX11_needBetween : List (Nat × Instr × Nat) := [(0, .iload_n 0, 1), (1, .iload_n 1, 1), (2, .if_icmp .lt 8, 3), (5, .iload_n 0, 1), (6, .iload_n 2, 1), (7, .if_icmp .le 14, 3), (10, .new 368, 3), (13, .dup, 1), (14, .ldc_w 403, 3), (17, .invokespecial 372, 3), (20, .athrow, 1), (21, .return_, 1)]
theorem dtX11_needBetween : tX11_needBetween.all (fun q => decide (decode cX11_needBetween q.1 = .ok (q.2.1, q.2.2))) = true := by decide +kernel
theorem npX11_needBetween : (parseMethodDescriptor (mY mX11_needBetween).desc).map (fun d => d.parameters.length) = some 3 := by decide +kernel
theorem vX11_needBetween : mS mX11_needBetween := ⟨wT_X11_needBetween, wN_X11, wC_X11_needBetween, by decide +kernel, by decide +kernel⟩
set_option maxHeartbeats 4000000 in
set_option maxRecDepth 100000 in
theorem sX11_needBetween {h : HP} {x y z : Int} (hx : i32 x) (hy : i32 y) (hz : i32 z) (ok : y ≤ x ∧ x ≤ z) : SpecK mX11_needBetween [vi x, vi y, vi z] h (fun o h' => o = .inl (none) ∧ h' = h) := by
  refine Spec_of (by decide +kernel) (Nat.le_of_ble_eq_true rfl) ?_
  refine K_iload_n (dt_at dtX11_needBetween 0 rfl) rfl rfl ?_
  refine K_iload_n (dt_at dtX11_needBetween 1 rfl) rfl rfl ?_
  refine K_icmp_lt (tgt := 10) (dt_at dtX11_needBetween 2 rfl) (by decide) (by first | assumption | exact ⟨by omega, by omega⟩) (by first | assumption | exact ⟨by omega, by omega⟩) (fun c1 => ?_) (fun c1 => ?_)
  · exact K_throwI (si := 16) (dt_at dtX11_needBetween 6 rfl) (dt_at dtX11_needBetween 7 rfl) (dt_at dtX11_needBetween 8 rfl) (dt_at dtX11_needBetween 9 rfl) (dt_at dtX11_needBetween 10 rfl) wk_IA wi_IA rfl at_IA ok_IA (by decide) (Nat.le_of_ble_eq_true rfl) (by decide) (by decide) (by decide) (by decide) (by exfalso; omega)
  · refine K_iload_n (dt_at dtX11_needBetween 3 rfl) rfl rfl ?_
    refine K_iload_n (dt_at dtX11_needBetween 4 rfl) rfl rfl ?_
    refine K_icmp_le (tgt := 21) (dt_at dtX11_needBetween 5 rfl) (by decide) (by first | assumption | exact ⟨by omega, by omega⟩) (by first | assumption | exact ⟨by omega, by omega⟩) (fun c2 => ?_) (fun c2 => ?_)
    · exact K_vret (dt_at dtX11_needBetween 11 rfl) rfl (by decide) (by decide) ⟨rfl, rfl⟩
    · exact K_throwI (si := 16) (dt_at dtX11_needBetween 6 rfl) (dt_at dtX11_needBetween 7 rfl) (dt_at dtX11_needBetween 8 rfl) (dt_at dtX11_needBetween 9 rfl) (dt_at dtX11_needBetween 10 rfl) wk_IA wi_IA rfl at_IA ok_IA (by decide) (Nat.le_of_ble_eq_true rfl) (by decide) (by decide) (by decide) (by decide) (by exfalso; omega)
set_option maxHeartbeats 4000000 in
set_option maxRecDepth 100000 in
theorem sX11_needBetween_no {h : HP} {x y z : Int} (hx : i32 x) (hy : i32 y) (hz : i32 z) (no : ¬ (y ≤ x ∧ x ≤ z)) : SpecK mX11_needBetween [vi x, vi y, vi z] h (fun o h' => o = .inr eIA ∧ h' = h) := by
  refine Spec_of (by decide +kernel) (Nat.le_of_ble_eq_true rfl) ?_
  refine K_iload_n (dt_at dtX11_needBetween 0 rfl) rfl rfl ?_
  refine K_iload_n (dt_at dtX11_needBetween 1 rfl) rfl rfl ?_
  refine K_icmp_lt (tgt := 10) (dt_at dtX11_needBetween 2 rfl) (by decide) (by first | assumption | exact ⟨by omega, by omega⟩) (by first | assumption | exact ⟨by omega, by omega⟩) (fun c1 => ?_) (fun c1 => ?_)
  · exact K_throwI (si := 16) (dt_at dtX11_needBetween 6 rfl) (dt_at dtX11_needBetween 7 rfl) (dt_at dtX11_needBetween 8 rfl) (dt_at dtX11_needBetween 9 rfl) (dt_at dtX11_needBetween 10 rfl) wk_IA wi_IA rfl at_IA ok_IA (by decide) (Nat.le_of_ble_eq_true rfl) (by decide) (by decide) (by decide) (by decide) ⟨rfl, rfl⟩
  · refine K_iload_n (dt_at dtX11_needBetween 3 rfl) rfl rfl ?_
    refine K_iload_n (dt_at dtX11_needBetween 4 rfl) rfl rfl ?_
    refine K_icmp_le (tgt := 21) (dt_at dtX11_needBetween 5 rfl) (by decide) (by first | assumption | exact ⟨by omega, by omega⟩) (by first | assumption | exact ⟨by omega, by omega⟩) (fun c2 => ?_) (fun c2 => ?_)
    · exact K_vret (dt_at dtX11_needBetween 11 rfl) rfl (by decide) (by decide) (by exfalso; omega)
    · exact K_throwI (si := 16) (dt_at dtX11_needBetween 6 rfl) (dt_at dtX11_needBetween 7 rfl) (dt_at dtX11_needBetween 8 rfl) (dt_at dtX11_needBetween 9 rfl) (dt_at dtX11_needBetween 10 rfl) wk_IA wi_IA rfl at_IA ok_IA (by decide) (Nat.le_of_ble_eq_true rfl) (by decide) (by decide) (by decide) (by decide) ⟨rfl, rfl⟩
