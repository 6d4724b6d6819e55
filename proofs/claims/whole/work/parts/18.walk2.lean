def mX10_unpack : MI := (yX10_unpack, cX10_unpack, 3, none, rmK 2 0)
def tX10_unpack : List (Nat × Instr × Nat) := [(0, .iconst 0, 1), (1, .istore_n 2, 1), (2, .iload_n 2, 1), (3, .aload_n 0, 1), (4, .getfield 40, 3), (7, .getfield 131, 3), (10, .if_icmp .ge 28, 3), (13, .aload_n 0, 1), (14, .getfield 12, 3), (17, .iload_n 1, 1), (18, .iload_n 2, 1), (19, .aload_n 0, 1), (20, .getfield 12, 3), (23, .iload_n 1, 1), (24, .iload_n 2, 1), (25, .invokevirtual 134, 3), (28, .ineg, 1), (29, .invokevirtual 138, 3), (32, .iinc 2 1, 3), (35, .goto (-33), 3), (38, .return_, 1)]
theorem dtX10_unpack : tX10_unpack.all (fun q => decide (decode cX10_unpack q.1 = .ok (q.2.1, q.2.2))) = true := by decide +kernel
theorem npX10_unpack : (parseMethodDescriptor (mY mX10_unpack).desc).map (fun d => d.parameters.length) = some 1 := by decide +kernel
theorem vX10_unpack : mV mX10_unpack := ⟨wI_X10_unpack, wS_X10_unpack, wN_X10, wC_X10_unpack, by decide +kernel, by decide +kernel⟩
set_option maxHeartbeats 4000000 in
set_option maxRecDepth 100000 in
theorem lp_X10_unpack {Q : AO → HP → Prop} {h0 h : HP} {w t : Nat} {S : HS} {B : Int} {f tr : Int → Int} {em : Int} {p : Int} (X : WX h0 w t S) (P0 : PW h0 h w t f tr em) (hT : rT B f) (hp : 0 ≤ p ∧ p < sNp S) (hQ : ∀ h1, PW h0 h1 w t (unI f (f (8 + p)) (sNt S)) tr em → Q (.inl none) h1) : ∀ (d k : Nat) (hh : HP), k + d = (sNt S) → PW h0 hh w t (unI f (f (8 + p)) k) tr em → K mX10_unpack GK (ZK Q 0 0) 0 0 2 [(2, vi (k : Int)), (0, vr w), (1, vi p)] [] hh := by
  intro d
  induction d with
  | zero =>
    intro k hh hk Ph
    obtain ⟨hw, ht, hR5, hS, hB⟩ := id X
    obtain ⟨Kwh, hfh, htrh, hemh⟩ := id Ph
    have hW10 := TTw hw
    have hH := TTt ht
    have hNt := hB.1
    have hNp := hB.2.1
    obtain rfl : k = (sNt S) := by omega
    refine K_iload_n (dt_at dtX10_unpack 2 rfl) rfl rfl ?_
    refine K_aload_n (dt_at dtX10_unpack 3 rfl) rfl rfl ?_
    refine K_get (a := w) (ci := 10) (k := 5) (v := vr t) (dt_at dtX10_unpack 4 rfl) hW10 rfl (by decide) wF_X10_40 (by show vr (hR hh w 5) = vr t; rw [Kwh.2.2.2, hR5]) ?_
    refine K_get (a := t) (ci := 3) (k := 10) (v := vi (sNt S : Int)) (dt_at dtX10_unpack 5 rfl) hH rfl (by decide) wF_X10_131 (by show vi (hI hh t 10) = vi (sNt S : Int); rw [(Kwh.2.2.1 t 10 (by omega)), hS.2.1.1]) ?_
    refine K_icmp_ge (tgt := 38) (dt_at dtX10_unpack 6 rfl) (by decide) (by first | assumption | exact ⟨by omega, by omega⟩) (by first | assumption | exact ⟨by omega, by omega⟩) (fun c1 => ?_) (fun c1 => absurd c1 (by omega))
    exact K_vret (dt_at dtX10_unpack 20 rfl) rfl (by decide) (by decide) (hQ _ ⟨Kwh, hfh, htrh, hemh⟩)
  | succ d ih =>
    intro k hh hk Ph
    obtain ⟨hw, ht, hR5, hS, hB⟩ := id X
    obtain ⟨Kwh, hfh, htrh, hemh⟩ := id Ph
    have hW10 := TTw hw
    have hH := TTt ht
    have hNt := hB.1
    have hNp := hB.2.1
    have w1 := hT.1.2 p (by omega) (by omega)
    obtain ⟨hTk, hlo⟩ := unI_ok hT w1.2.1 k (by omega)
    have ec : (unI f (f (8 + p)) k) (8 + p) = f (8 + p) := hlo _ (by omega)
    refine K_iload_n (dt_at dtX10_unpack 2 rfl) rfl rfl ?_
    refine K_aload_n (dt_at dtX10_unpack 3 rfl) rfl rfl ?_
    refine K_get (a := w) (ci := 10) (k := 5) (v := vr t) (dt_at dtX10_unpack 4 rfl) hW10 rfl (by decide) wF_X10_40 (by show vr (hR hh w 5) = vr t; rw [Kwh.2.2.2, hR5]) ?_
    refine K_get (a := t) (ci := 3) (k := 10) (v := vi (sNt S : Int)) (dt_at dtX10_unpack 5 rfl) hH rfl (by decide) wF_X10_131 (by show vi (hI hh t 10) = vi (sNt S : Int); rw [(Kwh.2.2.1 t 10 (by omega)), hS.2.1.1]) ?_
    refine K_icmp_ge (tgt := 38) (dt_at dtX10_unpack 6 rfl) (by decide) (by first | assumption | exact ⟨by omega, by omega⟩) (by first | assumption | exact ⟨by omega, by omega⟩) (fun c1 => absurd c1 (by omega)) (fun c1 => ?_)
    refine K_aload_n (dt_at dtX10_unpack 7 rfl) rfl rfl ?_
    refine K_get (a := w) (ci := 10) (k := 0) (v := vr (w + 1)) (dt_at dtX10_unpack 8 rfl) hW10 rfl (by decide) wF_X10_12 rfl ?_
    refine K_iload_n (dt_at dtX10_unpack 9 rfl) rfl rfl ?_
    refine K_iload_n (dt_at dtX10_unpack 10 rfl) rfl rfl ?_
    refine K_aload_n (dt_at dtX10_unpack 11 rfl) rfl rfl ?_
    refine K_get (a := w) (ci := 10) (k := 0) (v := vr (w + 1)) (dt_at dtX10_unpack 12 rfl) hW10 rfl (by decide) wF_X10_12 rfl ?_
    refine K_iload_n (dt_at dtX10_unpack 13 rfl) rfl rfl ?_
    refine K_iload_n (dt_at dtX10_unpack 14 rfl) rfl rfl ?_
    refine K_callV (M' := mX8_pieces) (a := (w + 1)) (ci := 8) (As := [vi p, vi (k : Int)]) (st := [vi (k : Int), vi p, vr (w + 1)]) (dt_at dtX10_unpack 15 rfl) (sX8_pieces (lay_10_0 hW10) ⟨by omega, by omega⟩ ⟨by omega, by omega⟩ (by rw [hfh, ec]; exact w1.2.1)) (lay_10_0 hW10) rfl wL_X10_134 vX8_pieces rfl npX8_pieces (by decide) (by decide) (Nat.le_of_ble_eq_true rfl) (by decide) (by decide) GK_E (fun v9 h9 hq => ?_) (fun E h9 hq => by cases hq.1)
    obtain ⟨e9, e8⟩ := hq
    cases e9
    rw [e8]
    show K mX10_unpack _ _ 0 0 28 [(2, vi (k : Int)), (0, vr w), (1, vi p)] [vi (hA hh (w + 1 + 1) (35 + (hA hh (w + 1 + 1) (8 + p)) * 6 + (k : Int))), vi (k : Int), vi p, vr (w + 1)] hh
    rw [hfh, ec]
    refine K_ineg (dt_at dtX10_unpack 16 rfl) ?_
    refine K_callV (M' := mX8_move) (a := (w + 1)) (ci := 8) (As := [vi p, vi (k : Int), vi (-((unI f (f (8 + p)) k) (35 + f (8 + p) * 6 + (k : Int))))]) (st := []) (dt_at dtX10_unpack 17 rfl) (sX8_move (lay_10_0 hW10) ⟨by omega, by omega⟩ ⟨by omega, by omega⟩ (by rw [hfh, ec]; exact w1.2.1)) (lay_10_0 hW10) rfl wL_X10_138 vX8_move rfl npX8_move (by decide) (by decide) (Nat.le_of_ble_eq_true rfl) (by decide) (by decide) GK_E (fun v9 hc1 hq => ?_) (fun E h9 hq => by cases hq.1)
    have hqq2 := hq
    obtain ⟨e9q2, e8q2⟩ := hqq2
    obtain ⟨hfq2, frq2, hiq2, hrq2⟩ := mv_fx e8q2 (by rw [hfh, ec]; exact w1.2.1) ⟨by omega, by omega⟩
    rw [hfh] at hfq2
    have Kwq2 := WK_A X Kwh (Or.inl rfl) frq2 hiq2 hrq2
    have htrq2 : hA hc1 (w + 4) = tr := by rw [frq2 _ (by omega)]; exact htrh
    have hemq2 : hI hc1 w 6 = em := by rw [hiq2]; exact hemh
    rw [ec] at hfq2
    cases e9q2
    show K mX10_unpack _ _ 0 0 32 [(2, vi (k : Int)), (0, vr w), (1, vi p)] [] hc1
    refine K_iinc (ls' := [(2, vi ((k : Int) + 1)), (0, vr w), (1, vi p)]) (dt_at dtX10_unpack 18 rfl) rfl (by decide) rfl ?_
    refine K_goto (tgt := 2) (dt_at dtX10_unpack 19 rfl) (by decide) ?_
    refine K_pk [0, 1, 2] rfl ?_
    exact ih (k + 1) hc1 (by omega) ⟨Kwq2, hfq2, htrq2, hemq2⟩
set_option maxHeartbeats 4000000 in
set_option maxRecDepth 100000 in
theorem sX10_unpack {h0 h : HP} {w t : Nat} {S : HS} {B : Int} {f tr : Int → Int} {em : Int} {p : Int} (X : WX h0 w t S) (P0 : PW h0 h w t f tr em) (hT : rT B f) (hp : 0 ≤ p ∧ p < sNp S) : SpecK mX10_unpack [vr w, vi p] h (fun o h' => o = .inl (none) ∧ PW h0 h' w t (unI f (f (8 + p)) (sNt S)) tr em) := by
  refine Spec_of (by decide +kernel) (Nat.le_of_ble_eq_true rfl) ?_
  obtain ⟨hw, ht, hR5, hS, hB⟩ := id X
  obtain ⟨Kw, hf, htr, hem⟩ := id P0
  have hW10 := TTw hw
  have hH := TTt ht
  have hNt := hB.1
  have hNp := hB.2.1
  refine K_iconst (dt_at dtX10_unpack 0 rfl) ?_
  refine K_istore_n (ls' := [(2, vi 0), (0, vr w), (1, vi p)]) (dt_at dtX10_unpack 1 rfl) rfl (by decide) rfl ?_
  exact K_pk [0, 1, 2] rfl (lp_X10_unpack X P0 hT hp (fun h1 q => ⟨rfl, q⟩) (sNt S) 0 h (by omega) P0)
def mX10_leave : MI := (yX10_leave, cX10_leave, 2, none, rmK 3 0)
def tX10_leave : List (Nat × Instr × Nat) := [(0, .aload_n 0, 1), (1, .getfield 24, 3), (4, .iload_n 1, 1), (5, .dup2, 1), (6, .iaload, 1), (7, .iconst 1, 1), (8, .iadd, 1), (9, .iastore, 1), (10, .aload_n 0, 1), (11, .getfield 40, 3), (14, .aload_n 0, 1), (15, .getfield 12, 3), (18, .iload_n 1, 1), (19, .invokevirtual 142, 3), (22, .ifCond .ne 13, 3), (25, .aload_n 0, 1), (26, .dup, 1), (27, .getfield 33, 3), (30, .iconst 1, 1), (31, .iadd, 1), (32, .putfield 33, 3), (35, .aload_n 0, 1), (36, .getfield 12, 3), (39, .iload_n 1, 1), (40, .aload_n 0, 1), (41, .getfield 40, 3), (44, .getfield 124, 3), (47, .iload_n 1, 1), (48, .iaload, 1), (49, .invokevirtual 94, 3), (52, .return_, 1)]
theorem dtX10_leave : tX10_leave.all (fun q => decide (decode cX10_leave q.1 = .ok (q.2.1, q.2.2))) = true := by decide +kernel
theorem npX10_leave : (parseMethodDescriptor (mY mX10_leave).desc).map (fun d => d.parameters.length) = some 1 := by decide +kernel
theorem vX10_leave : mV mX10_leave := ⟨wI_X10_leave, wS_X10_leave, wN_X10, wC_X10_leave, by decide +kernel, by decide +kernel⟩
set_option maxHeartbeats 4000000 in
set_option maxRecDepth 100000 in
theorem sX10_leave {h0 h : HP} {w t : Nat} {S : HS} {B : Int} {f tr : Int → Int} {em : Int} {p : Int} (X : WX h0 w t S) (P0 : PW h0 h w t f tr em) (hT : rT B f) (hp : 0 ≤ p ∧ p < sNp S) : SpecK mX10_leave [vr w, vi p] h (fun o h' => o = .inl (none) ∧ PW h0 h' w t (upI f (1 + p) (sAw S p)) (upI tr p (tr p + 1)) (if sumF (sW S) f p (sNt S) = 0 then em + 1 else em)) := by
  refine Spec_of (by decide +kernel) (Nat.le_of_ble_eq_true rfl) ?_
  obtain ⟨hw, ht, hR5, hS, hB⟩ := id X
  obtain ⟨Kw, hf, htr, hem⟩ := id P0
  have hW10 := TTw hw
  have hH := TTt ht
  have hNt := hB.1
  have hNp := hB.2.1
  have w1 := hT.1.2 p (by omega) (by omega)
  have wt := sumF_rT (us := sW S) (n := sNt S) hT ⟨hp.1, by omega⟩ hNt (fun i a b => by have := (hB.2.2.1 i a b).1; constructor <;> omega)
  refine K_aload_n (dt_at dtX10_leave 0 rfl) rfl rfl ?_
  refine K_get (a := w) (ci := 10) (k := 2) (v := vr (w + 4)) (dt_at dtX10_leave 1 rfl) hW10 rfl (by decide) wF_X10_24 rfl ?_
  refine K_iload_n (dt_at dtX10_leave 2 rfl) rfl rfl ?_
  refine K_dup2 (dt_at dtX10_leave 3 rfl) rfl rfl ?_
  refine K_iald (dt_at dtX10_leave 4 rfl) (lay_10_2 hW10) (by omega) (by omega) ?_
  rw [htr]
  refine K_iconst (dt_at dtX10_leave 5 rfl) ?_
  refine K_iadd (dt_at dtX10_leave 6 rfl) ?_
  refine K_iast (dt_at dtX10_leave 7 rfl) (lay_10_2 hW10) (by omega) (by omega) ?_
  obtain ⟨hhu1, eu1⟩ : ∃ z, z = sA h (w + 4) p ((tr p) + 1) := ⟨_, rfl⟩
  rw [← eu1]
  obtain ⟨htru1, fru1, hiu1, hru1⟩ := sA_fx eu1
  rw [htr] at htru1
  have Kwu1 := WK_A X Kw (Or.inr rfl) fru1 hiu1 hru1
  have hfu1 : hA hhu1 (w + 1 + 1) = f := by rw [fru1 _ (by omega)]; exact hf
  have hemu1 : hI hhu1 w 6 = em := by rw [hiu1]; exact hem
  refine K_aload_n (dt_at dtX10_leave 8 rfl) rfl rfl ?_
  refine K_get (a := w) (ci := 10) (k := 5) (v := vr t) (dt_at dtX10_leave 9 rfl) hW10 rfl (by decide) wF_X10_40 (by show vr (hR hhu1 w 5) = vr t; rw [Kwu1.2.2.2, hR5]) ?_
  refine K_aload_n (dt_at dtX10_leave 10 rfl) rfl rfl ?_
  refine K_get (a := w) (ci := 10) (k := 0) (v := vr (w + 1)) (dt_at dtX10_leave 11 rfl) hW10 rfl (by decide) wF_X10_12 rfl ?_
  refine K_iload_n (dt_at dtX10_leave 12 rfl) rfl rfl ?_
  refine K_callV (M' := mX3_weightWith) (a := t) (ci := 3) (As := [vr (w + 1), vi p]) (st := []) (dt_at dtX10_leave 13 rfl) (sX3_weightWith hH (lay_10_0 hW10) (by rw [hfu1]; exact hT.1) hNt (by rw [Kwu1.2.2.1 t 10 (by omega)]; exact hS.2.1.1) ⟨by omega, by omega⟩) hH rfl wL_X10_142 vX3_weightWith rfl npX3_weightWith (by decide) (by decide) (Nat.le_of_ble_eq_true rfl) (by decide) (by decide) GK_E (fun v9 h9 hq => ?_) (fun E h9 hq => by cases hq.1)
  obtain ⟨e9, e8⟩ := hq
  cases e9
  rw [e8]
  show K mX10_leave _ _ 0 0 22 [(0, vr w), (1, vi p)] [vi (sumF (hA hhu1 (t + 1)) (hA hhu1 (w + 1 + 1)) p (sNt S))] hhu1
  rw [hfu1, Kwu1.1 (t + 1) (by omega) (by omega) (by omega) (by omega) (by omega), hS.1.1]
  refine K_if_ne (tgt := 35) (dt_at dtX10_leave 14 rfl) (by decide) (by first | assumption | exact ⟨by omega, by omega⟩) (fun c1 => ?_) (fun c1 => ?_)
  · refine K_aload_n (dt_at dtX10_leave 21 rfl) rfl rfl ?_
    refine K_get (a := w) (ci := 10) (k := 0) (v := vr (w + 1)) (dt_at dtX10_leave 22 rfl) hW10 rfl (by decide) wF_X10_12 rfl ?_
    refine K_iload_n (dt_at dtX10_leave 23 rfl) rfl rfl ?_
    refine K_aload_n (dt_at dtX10_leave 24 rfl) rfl rfl ?_
    refine K_get (a := w) (ci := 10) (k := 5) (v := vr t) (dt_at dtX10_leave 25 rfl) hW10 rfl (by decide) wF_X10_40 (by show vr (hR hhu1 w 5) = vr t; rw [Kwu1.2.2.2, hR5]) ?_
    refine K_get (a := t) (ci := 3) (k := 5) (v := vr (t + 6)) (dt_at dtX10_leave 26 rfl) hH rfl (by decide) wF_X10_124 rfl ?_
    refine K_iload_n (dt_at dtX10_leave 27 rfl) rfl rfl ?_
    refine K_iald (dt_at dtX10_leave 28 rfl) (lay_3_5 hH) (by omega) (by omega) ?_
    rw [(Kwu1.1 (t + 6) (by omega) (by omega) (by omega) (by omega) (by omega)), hS.1.2.2.2.2]
    refine K_callV (M' := mX8_setOut) (a := (w + 1)) (ci := 8) (As := [vi p, vi ((sAw S) p)]) (st := []) (dt_at dtX10_leave 29 rfl) (sX8_setOut (lay_10_0 hW10) ⟨by omega, by omega⟩) (lay_10_0 hW10) rfl wL_X10_94 vX8_setOut rfl npX8_setOut (by decide) (by decide) (Nat.le_of_ble_eq_true rfl) (by decide) (by decide) GK_E (fun v9 hc2 hq => ?_) (fun E h9 hq => by cases hq.1)
    have hqq3 := hq
    obtain ⟨e9q3, e8q3⟩ := hqq3
    obtain ⟨hfq3, frq3, hiq3, hrq3⟩ := sA_fx e8q3
    rw [hfu1] at hfq3
    have Kwq3 := WK_A X Kwu1 (Or.inl rfl) frq3 hiq3 hrq3
    have htrq3 : hA hc2 (w + 4) = (upI tr p ((tr p) + 1)) := by rw [frq3 _ (by omega)]; exact htru1
    have hemq3 : hI hc2 w 6 = em := by rw [hiq3]; exact hemu1
    cases e9q3
    show K mX10_leave _ _ 0 0 52 [(0, vr w), (1, vi p)] [] hc2
    exact K_vret (dt_at dtX10_leave 30 rfl) rfl (by decide) (by decide) ⟨rfl, Kwq3, hfq3, htrq3, by rw [if_neg (by assumption)]; exact hemq3⟩
  · refine K_aload_n (dt_at dtX10_leave 15 rfl) rfl rfl ?_
    refine K_dup (dt_at dtX10_leave 16 rfl) rfl ?_
    refine K_get (a := w) (ci := 10) (k := 6) (v := vi em) (dt_at dtX10_leave 17 rfl) hW10 rfl (by decide) wF_X10_33 (by show vi (hI hhu1 w 6) = vi em; rw [hemu1]) ?_
    refine K_iconst (dt_at dtX10_leave 18 rfl) ?_
    refine K_iadd (dt_at dtX10_leave 19 rfl) ?_
    refine K_putI (a := w) (ci := 10) (k := 6) (dt_at dtX10_leave 20 rfl) hW10 rfl (by decide) wF_X10_33 rfl (Or.inl rfl) rfl rfl ?_
    obtain ⟨hhu4, eu4⟩ : ∃ z, z = sI hhu1 w 6 (em + 1) := ⟨_, rfl⟩
    rw [← eu4]
    obtain ⟨hemu4, fru4, hau4, hru4⟩ := sI_fx eu4
    have Kwu4 := WK_6 Kwu1 eu4
    have hfu4 : hA hhu4 (w + 1 + 1) = f := by rw [hau4]; exact hfu1
    have htru4 : hA hhu4 (w + 4) = (upI tr p ((tr p) + 1)) := by rw [hau4]; exact htru1
    refine K_aload_n (dt_at dtX10_leave 21 rfl) rfl rfl ?_
    refine K_get (a := w) (ci := 10) (k := 0) (v := vr (w + 1)) (dt_at dtX10_leave 22 rfl) hW10 rfl (by decide) wF_X10_12 rfl ?_
    refine K_iload_n (dt_at dtX10_leave 23 rfl) rfl rfl ?_
    refine K_aload_n (dt_at dtX10_leave 24 rfl) rfl rfl ?_
    refine K_get (a := w) (ci := 10) (k := 5) (v := vr t) (dt_at dtX10_leave 25 rfl) hW10 rfl (by decide) wF_X10_40 (by show vr (hR hhu4 w 5) = vr t; rw [Kwu4.2.2.2, hR5]) ?_
    refine K_get (a := t) (ci := 3) (k := 5) (v := vr (t + 6)) (dt_at dtX10_leave 26 rfl) hH rfl (by decide) wF_X10_124 rfl ?_
    refine K_iload_n (dt_at dtX10_leave 27 rfl) rfl rfl ?_
    refine K_iald (dt_at dtX10_leave 28 rfl) (lay_3_5 hH) (by omega) (by omega) ?_
    rw [(Kwu4.1 (t + 6) (by omega) (by omega) (by omega) (by omega) (by omega)), hS.1.2.2.2.2]
    refine K_callV (M' := mX8_setOut) (a := (w + 1)) (ci := 8) (As := [vi p, vi ((sAw S) p)]) (st := []) (dt_at dtX10_leave 29 rfl) (sX8_setOut (lay_10_0 hW10) ⟨by omega, by omega⟩) (lay_10_0 hW10) rfl wL_X10_94 vX8_setOut rfl npX8_setOut (by decide) (by decide) (Nat.le_of_ble_eq_true rfl) (by decide) (by decide) GK_E (fun v9 hc5 hq => ?_) (fun E h9 hq => by cases hq.1)
    have hqq6 := hq
    obtain ⟨e9q6, e8q6⟩ := hqq6
    obtain ⟨hfq6, frq6, hiq6, hrq6⟩ := sA_fx e8q6
    rw [hfu4] at hfq6
    have Kwq6 := WK_A X Kwu4 (Or.inl rfl) frq6 hiq6 hrq6
    have htrq6 : hA hc5 (w + 4) = (upI tr p ((tr p) + 1)) := by rw [frq6 _ (by omega)]; exact htru4
    have hemq6 : hI hc5 w 6 = (em + 1) := by rw [hiq6]; exact hemu4
    cases e9q6
    show K mX10_leave _ _ 0 0 52 [(0, vr w), (1, vi p)] [] hc5
    exact K_vret (dt_at dtX10_leave 30 rfl) rfl (by decide) (by decide) ⟨rfl, Kwq6, hfq6, htrq6, by rw [if_pos (by assumption)]; exact hemq6⟩
def mX10_packFor : MI := (yX10_packFor, cX10_packFor, 7, none, rmK 4 0)
def tX10_packFor : List (Nat × Instr × Nat) := [(0, .aload_n 0, 1), (1, .getfield 40, 3), (4, .getfield 145, 3), (7, .aload_n 0, 1), (8, .getfield 12, 3), (11, .iload_n 1, 1), (12, .invokevirtual 148, 3), (15, .iaload, 1), (16, .aload_n 0, 1), (17, .getfield 40, 3), (20, .aload_n 0, 1), (21, .getfield 12, 3), (24, .iload_n 1, 1), (25, .invokevirtual 142, 3), (28, .isub, 1), (29, .istore_n 2, 1), (30, .iconst 0, 1), (31, .istore_n 3, 1), (32, .iload_n 3, 1), (33, .aload_n 0, 1), (34, .getfield 40, 3), (37, .getfield 131, 3), (40, .if_icmp .ge 84, 3), (43, .aload_n 0, 1), (44, .getfield 40, 3), (47, .getfield 151, 3), (50, .iload_n 3, 1), (51, .iaload, 1), (52, .istore 4, 2), (54, .iload 4, 2), (56, .ifCond .le 10, 3), (59, .iload_n 2, 1), (60, .iload 4, 2), (62, .idiv, 1), (63, .goto 4, 3), (66, .iconst 0, 1), (67, .istore 5, 2), (69, .aload_n 0, 1), (70, .iload_n 1, 1), (71, .iload_n 3, 1), (72, .iload_n 2, 1), (73, .invokevirtual 154, 3), (76, .aload_n 0, 1), (77, .getfield 12, 3), (80, .iload_n 3, 1), (81, .invokevirtual 158, 3), (84, .iload 5, 2), (86, .invokestatic 161, 3), (89, .invokestatic 161, 3), (92, .istore 6, 2), (94, .iload 6, 2), (96, .ifCond .le 22, 3), (99, .aload_n 0, 1), (100, .getfield 12, 3), (103, .iload_n 1, 1), (104, .iload_n 3, 1), (105, .iload 6, 2), (107, .invokevirtual 138, 3), (110, .iload_n 2, 1), (111, .iload 6, 2), (113, .iload 4, 2), (115, .imul, 1), (116, .isub, 1), (117, .istore_n 2, 1), (118, .iinc 3 1, 3), (121, .goto (-89), 3), (124, .return_, 1)]
theorem dtX10_packFor : tX10_packFor.all (fun q => decide (decode cX10_packFor q.1 = .ok (q.2.1, q.2.2))) = true := by decide +kernel
theorem npX10_packFor : (parseMethodDescriptor (mY mX10_packFor).desc).map (fun d => d.parameters.length) = some 1 := by decide +kernel
theorem vX10_packFor : mV mX10_packFor := ⟨wI_X10_packFor, wS_X10_packFor, wN_X10, wC_X10_packFor, by decide +kernel, by decide +kernel⟩
set_option maxHeartbeats 4000000 in
set_option maxRecDepth 100000 in
theorem lp_X10_packFor {Q : AO → HP → Prop} {h0 h : HP} {w t : Nat} {S : HS} {B : Int} {f tr : Int → Int} {em : Int} {p : Int} (X : WX h0 w t S) (P0 : PW h0 h w t f tr em) (hT : rT B f) (hp : 0 ≤ p ∧ p < sNp S) (hC : f (8 + p) < sNp S) (hQ : ∀ h1, PW h0 h1 w t ((pkI S p f (sNt S)).1) tr em → Q (.inl none) h1) : ∀ (d k : Nat) (hh : HP), k + d = (sNt S) → PW h0 hh w t ((pkI S p f k).1) tr em → K mX10_packFor GK (ZK Q 0 0) 0 0 32 [(3, vi (k : Int)), (2, vi ((pkI S p f k).2)), (0, vr w), (1, vi p)] [] hh := by
  intro d
  induction d with
  | zero =>
    intro k hh hk Ph
    obtain ⟨hw, ht, hR5, hS, hB⟩ := id X
    obtain ⟨Kwh, hfh, htrh, hemh⟩ := id Ph
    have hW10 := TTw hw
    have hH := TTt ht
    have hNt := hB.1
    have hNp := hB.2.1
    obtain rfl : k = (sNt S) := by omega
    refine K_iload_n (dt_at dtX10_packFor 18 rfl) rfl rfl ?_
    refine K_aload_n (dt_at dtX10_packFor 19 rfl) rfl rfl ?_
    refine K_get (a := w) (ci := 10) (k := 5) (v := vr t) (dt_at dtX10_packFor 20 rfl) hW10 rfl (by decide) wF_X10_40 (by show vr (hR hh w 5) = vr t; rw [Kwh.2.2.2, hR5]) ?_
    refine K_get (a := t) (ci := 3) (k := 10) (v := vi (sNt S : Int)) (dt_at dtX10_packFor 21 rfl) hH rfl (by decide) wF_X10_131 (by show vi (hI hh t 10) = vi (sNt S : Int); rw [(Kwh.2.2.1 t 10 (by omega)), hS.2.1.1]) ?_
    refine K_icmp_ge (tgt := 124) (dt_at dtX10_packFor 22 rfl) (by decide) (by first | assumption | exact ⟨by omega, by omega⟩) (by first | assumption | exact ⟨by omega, by omega⟩) (fun c1 => ?_) (fun c1 => absurd c1 (by omega))
    exact K_vret (dt_at dtX10_packFor 66 rfl) rfl (by decide) (by decide) (hQ _ ⟨Kwh, hfh, htrh, hemh⟩)
  | succ d ih =>
    intro k hh hk Ph
    obtain ⟨hw, ht, hR5, hS, hB⟩ := id X
    obtain ⟨Kwh, hfh, htrh, hemh⟩ := id Ph
    have hW10 := TTw hw
    have hH := TTt ht
    have hNt := hB.1
    have hNp := hB.2.1
    have w1 := hT.1.2 p (by omega) (by omega)
    obtain ⟨hTk, hlo, w2, w3⟩ := pkI_ok hB hT hp hC k (by omega)
    have ec : (pkI S p f k).1 (8 + p) = f (8 + p) := hlo _ (by omega)
    have w4 := (hB.2.2.1 (k : Int) (by omega) (by omega)).1
    have w6 := rT_in hTk w1.2.1 (t := (k : Int)) ⟨by omega, by omega⟩
    have w8 := hTk.2.2.2.2.2
    have w7 := tdiv_b w4.1 ⟨w2, w3⟩
    refine K_iload_n (dt_at dtX10_packFor 18 rfl) rfl rfl ?_
    refine K_aload_n (dt_at dtX10_packFor 19 rfl) rfl rfl ?_
    refine K_get (a := w) (ci := 10) (k := 5) (v := vr t) (dt_at dtX10_packFor 20 rfl) hW10 rfl (by decide) wF_X10_40 (by show vr (hR hh w 5) = vr t; rw [Kwh.2.2.2, hR5]) ?_
    refine K_get (a := t) (ci := 3) (k := 10) (v := vi (sNt S : Int)) (dt_at dtX10_packFor 21 rfl) hH rfl (by decide) wF_X10_131 (by show vi (hI hh t 10) = vi (sNt S : Int); rw [(Kwh.2.2.1 t 10 (by omega)), hS.2.1.1]) ?_
    refine K_icmp_ge (tgt := 124) (dt_at dtX10_packFor 22 rfl) (by decide) (by first | assumption | exact ⟨by omega, by omega⟩) (by first | assumption | exact ⟨by omega, by omega⟩) (fun c1 => absurd c1 (by omega)) (fun c1 => ?_)
    refine K_aload_n (dt_at dtX10_packFor 23 rfl) rfl rfl ?_
    refine K_get (a := w) (ci := 10) (k := 5) (v := vr t) (dt_at dtX10_packFor 24 rfl) hW10 rfl (by decide) wF_X10_40 (by show vr (hR hh w 5) = vr t; rw [Kwh.2.2.2, hR5]) ?_
    refine K_get (a := t) (ci := 3) (k := 0) (v := vr (t + 1)) (dt_at dtX10_packFor 25 rfl) hH rfl (by decide) wF_X10_151 rfl ?_
    refine K_iload_n (dt_at dtX10_packFor 26 rfl) rfl rfl ?_
    refine K_iald (dt_at dtX10_packFor 27 rfl) (lay_3_0 hH) (by omega) (by omega) ?_
    rw [(Kwh.1 (t + 1) (by omega) (by omega) (by omega) (by omega) (by omega)), hS.1.1]
    refine K_istore (ls' := [(4, vi ((sW S) (k : Int))), (3, vi (k : Int)), (2, vi ((pkI S p f k).2)), (0, vr w), (1, vi p)]) (dt_at dtX10_packFor 28 rfl) (by decide) rfl ?_
    refine K_iload (dt_at dtX10_packFor 29 rfl) rfl ?_
    refine K_if_le (tgt := 66) (dt_at dtX10_packFor 30 rfl) (by decide) (by first | assumption | exact ⟨by omega, by omega⟩) (fun c2 => absurd c2 (by omega)) (fun c2 => ?_)
    refine K_iload_n (dt_at dtX10_packFor 31 rfl) rfl rfl ?_
    refine K_iload (dt_at dtX10_packFor 32 rfl) rfl ?_
    refine K_idiv (dt_at dtX10_packFor 33 rfl) (by first | assumption | exact ⟨by omega, by omega⟩) (by first | assumption | exact ⟨by omega, by omega⟩) (by omega) ?_
    refine K_goto (tgt := 67) (dt_at dtX10_packFor 34 rfl) (by decide) ?_
    refine K_istore (ls' := [(5, vi (((pkI S p f k).2).tdiv ((sW S) (k : Int)))), (4, vi ((sW S) (k : Int))), (3, vi (k : Int)), (2, vi ((pkI S p f k).2)), (0, vr w), (1, vi p)]) (dt_at dtX10_packFor 36 rfl) (by decide) rfl ?_
    refine K_aload_n (dt_at dtX10_packFor 37 rfl) rfl rfl ?_
    refine K_iload_n (dt_at dtX10_packFor 38 rfl) rfl rfl ?_
    refine K_iload_n (dt_at dtX10_packFor 39 rfl) rfl rfl ?_
    refine K_iload_n (dt_at dtX10_packFor 40 rfl) rfl rfl ?_
    refine K_callV (M' := mX10_wanted) (a := w) (ci := 10) (As := [vi p, vi (k : Int), vi ((pkI S p f k).2)]) (st := []) (dt_at dtX10_packFor 41 rfl) (sX10_wanted X ⟨Kwh, hfh, htrh, hemh⟩ hTk hp ⟨by omega, by omega⟩ ⟨by omega, by omega⟩) hW10 rfl wL_X10_154 vX10_wanted rfl npX10_wanted (by decide) (by decide) (Nat.le_of_ble_eq_true rfl) (by decide) (by decide) GK_E (fun v9 hc1 hq => ?_) (fun E h9 hq => by cases hq.1)
    have hqq2 := hq
    obtain ⟨e9q2, Pq2⟩ := hqq2
    obtain ⟨Kwq2, hfq2, htrq2, hemq2⟩ := id Pq2
    have w5 := wantF32 hB (pkI S p f k).1 p k (pkI S p f k).2
    cases e9q2
    show K mX10_packFor _ _ 0 0 76 [(5, vi (((pkI S p f k).2).tdiv ((sW S) (k : Int)))), (4, vi ((sW S) (k : Int))), (3, vi (k : Int)), (2, vi ((pkI S p f k).2)), (0, vr w), (1, vi p)] [vi (wantF S ((pkI S p f k).1) p (k : Int) (pkI S p f k).2)] hc1
    refine K_aload_n (dt_at dtX10_packFor 42 rfl) rfl rfl ?_
    refine K_get (a := w) (ci := 10) (k := 0) (v := vr (w + 1)) (dt_at dtX10_packFor 43 rfl) hW10 rfl (by decide) wF_X10_12 rfl ?_
    refine K_iload_n (dt_at dtX10_packFor 44 rfl) rfl rfl ?_
    refine K_callV (M' := mX8_stock) (a := (w + 1)) (ci := 8) (As := [vi (k : Int)]) (st := [vi (wantF S ((pkI S p f k).1) p (k : Int) (pkI S p f k).2)]) (dt_at dtX10_packFor 45 rfl) (sX8_stock (lay_10_0 hW10) ⟨by omega, by omega⟩) (lay_10_0 hW10) rfl wL_X10_158 vX8_stock rfl npX8_stock (by decide) (by decide) (Nat.le_of_ble_eq_true rfl) (by decide) (by decide) GK_E (fun v9 h9 hq => ?_) (fun E h9 hq => by cases hq.1)
    obtain ⟨e9, e8⟩ := hq
    cases e9
    rw [e8]
    show K mX10_packFor _ _ 0 0 84 [(5, vi (((pkI S p f k).2).tdiv ((sW S) (k : Int)))), (4, vi ((sW S) (k : Int))), (3, vi (k : Int)), (2, vi ((pkI S p f k).2)), (0, vr w), (1, vi p)] [vi (hA hc1 (w + 1 + 1) (29 + (k : Int))), vi (wantF S ((pkI S p f k).1) p (k : Int) (pkI S p f k).2)] hc1
    rw [hfq2]
    refine K_iload (dt_at dtX10_packFor 46 rfl) rfl ?_
    refine K_min (dt_at dtX10_packFor 47 rfl) wL_X10_161 (by first | assumption | exact ⟨by omega, by omega⟩) (by first | assumption | exact ⟨by omega, by omega⟩) (by decide) (Nat.le_of_ble_eq_true rfl) (by decide) (by decide) ?_
    refine K_min (dt_at dtX10_packFor 48 rfl) wL_X10_161 (by first | assumption | exact ⟨by omega, by omega⟩) (by first | assumption | exact ⟨by omega, by omega⟩) (by decide) (Nat.le_of_ble_eq_true rfl) (by decide) (by decide) ?_
    refine K_istore (ls' := [(6, vi (min (wantF S ((pkI S p f k).1) p (k : Int) (pkI S p f k).2) (min ((pkI S p f k).1 (29 + (k : Int))) (((pkI S p f k).2).tdiv ((sW S) (k : Int)))))), (5, vi (((pkI S p f k).2).tdiv ((sW S) (k : Int)))), (4, vi ((sW S) (k : Int))), (3, vi (k : Int)), (2, vi ((pkI S p f k).2)), (0, vr w), (1, vi p)]) (dt_at dtX10_packFor 49 rfl) (by decide) rfl ?_
    refine K_iload (dt_at dtX10_packFor 50 rfl) rfl ?_
    refine K_if_le (tgt := 118) (dt_at dtX10_packFor 51 rfl) (by decide) (by first | assumption | exact ⟨by omega, by omega⟩) (fun c3 => ?_) (fun c3 => ?_)
    · refine K_iinc (ls' := [(3, vi ((k : Int) + 1)), (6, vi (min (wantF S ((pkI S p f k).1) p (k : Int) (pkI S p f k).2) (min ((pkI S p f k).1 (29 + (k : Int))) (((pkI S p f k).2).tdiv ((sW S) (k : Int)))))), (5, vi (((pkI S p f k).2).tdiv ((sW S) (k : Int)))), (4, vi ((sW S) (k : Int))), (2, vi ((pkI S p f k).2)), (0, vr w), (1, vi p)]) (dt_at dtX10_packFor 64 rfl) rfl (by decide) rfl ?_
      refine K_goto (tgt := 32) (dt_at dtX10_packFor 65 rfl) (by decide) ?_
      refine K_pk [0, 4, 5, 6] rfl ?_
      have e7 : pkI S p f (k + 1) = pkI S p f k := if_neg (by unfold putF; omega)
      exact K_cg (ls' := [(3, vi ((k + 1 : Nat) : Int)), (2, vi (pkI S p f (k + 1)).2), (0, vr w), (1, vi p)]) (by rw [e7]; rfl) rfl (ih (k + 1) hc1 (by omega) (by rw [e7]; exact ⟨Kwq2, hfq2, htrq2, hemq2⟩))
    · refine K_aload_n (dt_at dtX10_packFor 52 rfl) rfl rfl ?_
      refine K_get (a := w) (ci := 10) (k := 0) (v := vr (w + 1)) (dt_at dtX10_packFor 53 rfl) hW10 rfl (by decide) wF_X10_12 rfl ?_
      refine K_iload_n (dt_at dtX10_packFor 54 rfl) rfl rfl ?_
      refine K_iload_n (dt_at dtX10_packFor 55 rfl) rfl rfl ?_
      refine K_iload (dt_at dtX10_packFor 56 rfl) rfl ?_
      refine K_callV (M' := mX8_move) (a := (w + 1)) (ci := 8) (As := [vi p, vi (k : Int), vi (min (wantF S ((pkI S p f k).1) p (k : Int) (pkI S p f k).2) (min ((pkI S p f k).1 (29 + (k : Int))) (((pkI S p f k).2).tdiv ((sW S) (k : Int)))))]) (st := []) (dt_at dtX10_packFor 57 rfl) (sX8_move (lay_10_0 hW10) ⟨by omega, by omega⟩ ⟨by omega, by omega⟩ (by rw [hfq2, ec]; exact w1.2.1)) (lay_10_0 hW10) rfl wL_X10_138 vX8_move rfl npX8_move (by decide) (by decide) (Nat.le_of_ble_eq_true rfl) (by decide) (by decide) GK_E (fun v9 hc3 hq => ?_) (fun E h9 hq => by cases hq.1)
      have hqq4 := hq
      obtain ⟨e9q4, e8q4⟩ := hqq4
      obtain ⟨hfq4, frq4, hiq4, hrq4⟩ := mv_fx e8q4 (by rw [hfq2, ec]; exact w1.2.1) ⟨by omega, by omega⟩
      rw [hfq2] at hfq4
      have Kwq4 := WK_A X Kwq2 (Or.inl rfl) frq4 hiq4 hrq4
      have htrq4 : hA hc3 (w + 4) = tr := by rw [frq4 _ (by omega)]; exact htrq2
      have hemq4 : hI hc3 w 6 = em := by rw [hiq4]; exact hemq2
      rw [ec] at hfq4
      cases e9q4
      show K mX10_packFor _ _ 0 0 110 [(6, vi (min (wantF S ((pkI S p f k).1) p (k : Int) (pkI S p f k).2) (min ((pkI S p f k).1 (29 + (k : Int))) (((pkI S p f k).2).tdiv ((sW S) (k : Int)))))), (5, vi (((pkI S p f k).2).tdiv ((sW S) (k : Int)))), (4, vi ((sW S) (k : Int))), (3, vi (k : Int)), (2, vi ((pkI S p f k).2)), (0, vr w), (1, vi p)] [] hc3
      refine K_iload_n (dt_at dtX10_packFor 58 rfl) rfl rfl ?_
      refine K_iload (dt_at dtX10_packFor 59 rfl) rfl ?_
      refine K_iload (dt_at dtX10_packFor 60 rfl) rfl ?_
      refine K_imul (dt_at dtX10_packFor 61 rfl) ?_
      refine K_isub (dt_at dtX10_packFor 62 rfl) ?_
      refine K_istore_n (ls' := [(2, vi ((pkI S p f k).2 - ((min (wantF S ((pkI S p f k).1) p (k : Int) (pkI S p f k).2) (min ((pkI S p f k).1 (29 + (k : Int))) (((pkI S p f k).2).tdiv ((sW S) (k : Int))))) * ((sW S) (k : Int))))), (6, vi (min (wantF S ((pkI S p f k).1) p (k : Int) (pkI S p f k).2) (min ((pkI S p f k).1 (29 + (k : Int))) (((pkI S p f k).2).tdiv ((sW S) (k : Int)))))), (5, vi (((pkI S p f k).2).tdiv ((sW S) (k : Int)))), (4, vi ((sW S) (k : Int))), (3, vi (k : Int)), (0, vr w), (1, vi p)]) (dt_at dtX10_packFor 63 rfl) rfl (by decide) rfl ?_
      refine K_iinc (ls' := [(3, vi ((k : Int) + 1)), (2, vi ((pkI S p f k).2 - ((min (wantF S ((pkI S p f k).1) p (k : Int) (pkI S p f k).2) (min ((pkI S p f k).1 (29 + (k : Int))) (((pkI S p f k).2).tdiv ((sW S) (k : Int))))) * ((sW S) (k : Int))))), (6, vi (min (wantF S ((pkI S p f k).1) p (k : Int) (pkI S p f k).2) (min ((pkI S p f k).1 (29 + (k : Int))) (((pkI S p f k).2).tdiv ((sW S) (k : Int)))))), (5, vi (((pkI S p f k).2).tdiv ((sW S) (k : Int)))), (4, vi ((sW S) (k : Int))), (0, vr w), (1, vi p)]) (dt_at dtX10_packFor 64 rfl) rfl (by decide) rfl ?_
      refine K_goto (tgt := 32) (dt_at dtX10_packFor 65 rfl) (by decide) ?_
      refine K_pk [0, 1, 5, 6] rfl ?_
      have e7 : pkI S p f (k + 1) = (mvC (pkI S p f k).1 (f (8 + p)) k (putF S (pkI S p f k).1 p k (pkI S p f k).2), (pkI S p f k).2 - putF S (pkI S p f k).1 p k (pkI S p f k).2 * sW S k) := if_pos (by unfold putF; omega)
      exact K_cg (ls' := [(3, vi ((k + 1 : Nat) : Int)), (2, vi (pkI S p f (k + 1)).2), (0, vr w), (1, vi p)]) (by rw [e7]; rfl) rfl (ih (k + 1) hc3 (by omega) (by rw [e7]; exact ⟨Kwq4, hfq4, htrq4, hemq4⟩))
set_option maxHeartbeats 4000000 in
set_option maxRecDepth 100000 in
theorem sX10_packFor {h0 h : HP} {w t : Nat} {S : HS} {B : Int} {f tr : Int → Int} {em : Int} {p : Int} (X : WX h0 w t S) (P0 : PW h0 h w t f tr em) (hT : rT B f) (hp : 0 ≤ p ∧ p < sNp S) (hC : f (8 + p) < sNp S) : SpecK mX10_packFor [vr w, vi p] h (fun o h' => o = .inl (none) ∧ PW h0 h' w t (packF S f p) tr em) := by
  refine Spec_of (by decide +kernel) (Nat.le_of_ble_eq_true rfl) ?_
  obtain ⟨hw, ht, hR5, hS, hB⟩ := id X
  obtain ⟨Kw, hf, htr, hem⟩ := id P0
  have hW10 := TTw hw
  have hH := TTt ht
  have hNt := hB.1
  have hNp := hB.2.1
  have w1 := hT.1.2 p (by omega) (by omega)
  have wt := sumF_rT (us := sW S) (n := sNt S) hT ⟨hp.1, by omega⟩ hNt (fun i a b => by have := (hB.2.2.1 i a b).1; constructor <;> omega)
  have w9 := (hB.2.2.2.1 (f (8 + p)) w1.2.1.1 hC).1
  refine K_aload_n (dt_at dtX10_packFor 0 rfl) rfl rfl ?_
  refine K_get (a := w) (ci := 10) (k := 5) (v := vr t) (dt_at dtX10_packFor 1 rfl) hW10 rfl (by decide) wF_X10_40 (by show vr (hR h w 5) = vr t; rw [Kw.2.2.2, hR5]) ?_
  refine K_get (a := t) (ci := 3) (k := 3) (v := vr (t + 4)) (dt_at dtX10_packFor 2 rfl) hH rfl (by decide) wF_X10_145 rfl ?_
  refine K_aload_n (dt_at dtX10_packFor 3 rfl) rfl rfl ?_
  refine K_get (a := w) (ci := 10) (k := 0) (v := vr (w + 1)) (dt_at dtX10_packFor 4 rfl) hW10 rfl (by decide) wF_X10_12 rfl ?_
  refine K_iload_n (dt_at dtX10_packFor 5 rfl) rfl rfl ?_
  refine K_callV (M' := mX8_caseOf) (a := (w + 1)) (ci := 8) (As := [vi p]) (st := [vr (t + 4)]) (dt_at dtX10_packFor 6 rfl) (sX8_caseOf (lay_10_0 hW10) ⟨by omega, by omega⟩) (lay_10_0 hW10) rfl wL_X10_148 vX8_caseOf rfl npX8_caseOf (by decide) (by decide) (Nat.le_of_ble_eq_true rfl) (by decide) (by decide) GK_E (fun v9 h9 hq => ?_) (fun E h9 hq => by cases hq.1)
  obtain ⟨e9, e8⟩ := hq
  cases e9
  rw [e8]
  show K mX10_packFor _ _ 0 0 15 [(0, vr w), (1, vi p)] [vi (hA h (w + 1 + 1) (8 + p)), vr (t + 4)] h
  rw [hf]
  refine K_iald (dt_at dtX10_packFor 7 rfl) (lay_3_3 hH) (by omega) (by omega) ?_
  rw [(Kw.1 (t + 4) (by omega) (by omega) (by omega) (by omega) (by omega)), hS.1.2.2.1]
  refine K_aload_n (dt_at dtX10_packFor 8 rfl) rfl rfl ?_
  refine K_get (a := w) (ci := 10) (k := 5) (v := vr t) (dt_at dtX10_packFor 9 rfl) hW10 rfl (by decide) wF_X10_40 (by show vr (hR h w 5) = vr t; rw [Kw.2.2.2, hR5]) ?_
  refine K_aload_n (dt_at dtX10_packFor 10 rfl) rfl rfl ?_
  refine K_get (a := w) (ci := 10) (k := 0) (v := vr (w + 1)) (dt_at dtX10_packFor 11 rfl) hW10 rfl (by decide) wF_X10_12 rfl ?_
  refine K_iload_n (dt_at dtX10_packFor 12 rfl) rfl rfl ?_
  refine K_callV (M' := mX3_weightWith) (a := t) (ci := 3) (As := [vr (w + 1), vi p]) (st := [vi ((sH S) (f (8 + p)))]) (dt_at dtX10_packFor 13 rfl) (sX3_weightWith hH (lay_10_0 hW10) (by rw [hf]; exact hT.1) hNt (by rw [Kw.2.2.1 t 10 (by omega)]; exact hS.2.1.1) ⟨by omega, by omega⟩) hH rfl wL_X10_142 vX3_weightWith rfl npX3_weightWith (by decide) (by decide) (Nat.le_of_ble_eq_true rfl) (by decide) (by decide) GK_E (fun v9 h9 hq => ?_) (fun E h9 hq => by cases hq.1)
  obtain ⟨e9, e8⟩ := hq
  cases e9
  rw [e8]
  show K mX10_packFor _ _ 0 0 28 [(0, vr w), (1, vi p)] [vi (sumF (hA h (t + 1)) (hA h (w + 1 + 1)) p (sNt S)), vi ((sH S) (f (8 + p)))] h
  rw [hf, Kw.1 (t + 1) (by omega) (by omega) (by omega) (by omega) (by omega), hS.1.1]
  refine K_isub (dt_at dtX10_packFor 14 rfl) ?_
  refine K_istore_n (ls' := [(2, vi (((sH S) (f (8 + p))) - (sumF (sW S) f p (sNt S)))), (0, vr w), (1, vi p)]) (dt_at dtX10_packFor 15 rfl) rfl (by decide) rfl ?_
  refine K_iconst (dt_at dtX10_packFor 16 rfl) ?_
  refine K_istore_n (ls' := [(3, vi 0), (2, vi (((sH S) (f (8 + p))) - (sumF (sW S) f p (sNt S)))), (0, vr w), (1, vi p)]) (dt_at dtX10_packFor 17 rfl) rfl (by decide) rfl ?_
  exact K_pk [0, 1, 2, 3] rfl (lp_X10_packFor X P0 hT hp hC (fun h1 q => ⟨rfl, q⟩) (sNt S) 0 h (by omega) P0)
theorem fondB32 {S : HS} {B : Int} {f : Int → Int} {p : Int} (hB : hsW S) (hT : rT B f) (hp : 0 ≤ p ∧ p < 7) : i32 (fondB S f p) := by
  unfold fondB
  have w1 := hT.1.2 p hp.1 hp.2
  cases hpu : sFe S with
  | none =>
    dsimp only
    by_cases e : sumF (sU S) f p (sNt S) < 10
    · rw [if_pos e]; exact ⟨by omega, by omega⟩
    · rw [if_neg e]; exact ⟨by omega, by omega⟩
  | some F => exact hB.2.2.2.2.2 F hpu _
def mX10_stayOut : MI := (yX10_stayOut, cX10_stayOut, 2, none, rmK 4 0)
def tX10_stayOut : List (Nat × Instr × Nat) := [(0, .aload_n 0, 1), (1, .getfield 12, 3), (4, .iload_n 1, 1), (5, .aload_n 0, 1), (6, .getfield 12, 3), (9, .iload_n 1, 1), (10, .invokevirtual 91, 3), (13, .iconst 1, 1), (14, .isub, 1), (15, .invokevirtual 94, 3), (18, .aload_n 0, 1), (19, .getfield 12, 3), (22, .iload_n 1, 1), (23, .invokevirtual 56, 3), (26, .ifCond .eq 21, 3), (29, .aload_n 0, 1), (30, .getfield 12, 3), (33, .iload_n 1, 1), (34, .aload_n 0, 1), (35, .iload_n 1, 1), (36, .invokevirtual 98, 3), (39, .invokevirtual 101, 3), (42, .aload_n 0, 1), (43, .iload_n 1, 1), (44, .invokevirtual 104, 3), (47, .return_, 1)]
theorem dtX10_stayOut : tX10_stayOut.all (fun q => decide (decode cX10_stayOut q.1 = .ok (q.2.1, q.2.2))) = true := by decide +kernel
theorem npX10_stayOut : (parseMethodDescriptor (mY mX10_stayOut).desc).map (fun d => d.parameters.length) = some 1 := by decide +kernel
theorem vX10_stayOut : mV mX10_stayOut := ⟨wI_X10_stayOut, wS_X10_stayOut, wN_X10, wC_X10_stayOut, by decide +kernel, by decide +kernel⟩
set_option maxHeartbeats 4000000 in
set_option maxRecDepth 100000 in
theorem sX10_stayOut {h0 h : HP} {w t : Nat} {S : HS} {B : Int} {f tr : Int → Int} {em : Int} {p : Int} (X : WX h0 w t S) (P0 : PW h0 h w t f tr em) (hT : rT B f) (hp : 0 ≤ p ∧ p < sNp S) (ho : f (1 + p) ≠ 0) : SpecK mX10_stayOut [vr w, vi p] h (fun o h' => o = .inl (none) ∧ PW h0 h' w t (soF S f p) tr em) := by
  refine Spec_of (by decide +kernel) (Nat.le_of_ble_eq_true rfl) ?_
  obtain ⟨hw, ht, hR5, hS, hB⟩ := id X
  obtain ⟨Kw, hf, htr, hem⟩ := id P0
  have hW10 := TTw hw
  have hH := TTt ht
  have hNt := hB.1
  have hNp := hB.2.1
  have w1 := hT.1.2 p (by omega) (by omega)
  have hT1 := out_rT (x := f (1 + p) - 1) hT ⟨hp.1, by omega⟩ (by omega)
  refine K_aload_n (dt_at dtX10_stayOut 0 rfl) rfl rfl ?_
  refine K_get (a := w) (ci := 10) (k := 0) (v := vr (w + 1)) (dt_at dtX10_stayOut 1 rfl) hW10 rfl (by decide) wF_X10_12 rfl ?_
  refine K_iload_n (dt_at dtX10_stayOut 2 rfl) rfl rfl ?_
  refine K_aload_n (dt_at dtX10_stayOut 3 rfl) rfl rfl ?_
  refine K_get (a := w) (ci := 10) (k := 0) (v := vr (w + 1)) (dt_at dtX10_stayOut 4 rfl) hW10 rfl (by decide) wF_X10_12 rfl ?_
  refine K_iload_n (dt_at dtX10_stayOut 5 rfl) rfl rfl ?_
  refine K_callV (M' := mX8_out) (a := (w + 1)) (ci := 8) (As := [vi p]) (st := [vi p, vr (w + 1)]) (dt_at dtX10_stayOut 6 rfl) (sX8_out (lay_10_0 hW10) ⟨by omega, by omega⟩) (lay_10_0 hW10) rfl wL_X10_91 vX8_out rfl npX8_out (by decide) (by decide) (Nat.le_of_ble_eq_true rfl) (by decide) (by decide) GK_E (fun v9 h9 hq => ?_) (fun E h9 hq => by cases hq.1)
  obtain ⟨e9, e8⟩ := hq
  cases e9
  rw [e8]
  show K mX10_stayOut _ _ 0 0 13 [(0, vr w), (1, vi p)] [vi (hA h (w + 1 + 1) (1 + p)), vi p, vr (w + 1)] h
  rw [hf]
  refine K_iconst (dt_at dtX10_stayOut 7 rfl) ?_
  refine K_isub (dt_at dtX10_stayOut 8 rfl) ?_
  refine K_callV (M' := mX8_setOut) (a := (w + 1)) (ci := 8) (As := [vi p, vi ((f (1 + p)) - 1)]) (st := []) (dt_at dtX10_stayOut 9 rfl) (sX8_setOut (lay_10_0 hW10) ⟨by omega, by omega⟩) (lay_10_0 hW10) rfl wL_X10_94 vX8_setOut rfl npX8_setOut (by decide) (by decide) (Nat.le_of_ble_eq_true rfl) (by decide) (by decide) GK_E (fun v9 hc1 hq => ?_) (fun E h9 hq => by cases hq.1)
  have hqq2 := hq
  obtain ⟨e9q2, e8q2⟩ := hqq2
  obtain ⟨hfq2, frq2, hiq2, hrq2⟩ := sA_fx e8q2
  rw [hf] at hfq2
  have Kwq2 := WK_A X Kw (Or.inl rfl) frq2 hiq2 hrq2
  have htrq2 : hA hc1 (w + 4) = tr := by rw [frq2 _ (by omega)]; exact htr
  have hemq2 : hI hc1 w 6 = em := by rw [hiq2]; exact hem
  cases e9q2
  show K mX10_stayOut _ _ 0 0 18 [(0, vr w), (1, vi p)] [] hc1
  refine K_aload_n (dt_at dtX10_stayOut 10 rfl) rfl rfl ?_
  refine K_get (a := w) (ci := 10) (k := 0) (v := vr (w + 1)) (dt_at dtX10_stayOut 11 rfl) hW10 rfl (by decide) wF_X10_12 rfl ?_
  refine K_iload_n (dt_at dtX10_stayOut 12 rfl) rfl rfl ?_
  refine K_callV (M' := mX8_isIn) (a := (w + 1)) (ci := 8) (As := [vi p]) (st := []) (dt_at dtX10_stayOut 13 rfl) (sX8_isIn (lay_10_0 hW10) ⟨by omega, by omega⟩ (by rw [hfq2, upI_s]; exact ⟨by omega, by omega⟩)) (lay_10_0 hW10) rfl wL_X10_56 vX8_isIn rfl npX8_isIn (by decide) (by decide) (Nat.le_of_ble_eq_true rfl) (by decide) (by decide) GK_E (fun v9 h9 hq => ?_) (fun E h9 hq => by cases hq.1)
  obtain ⟨e9, e8⟩ := hq
  cases e9
  rw [e8]
  show K mX10_stayOut _ _ 0 0 26 [(0, vr w), (1, vi p)] [vi (if hA hc1 (w + 1 + 1) (1 + p) = 0 then 1 else 0)] hc1
  rw [hfq2, upI_s]
  by_cases z1 : f (1 + p) - 1 = 0
  · rw [if_pos z1]
    refine K_if_eq (tgt := 47) (dt_at dtX10_stayOut 14 rfl) (by decide) (by first | assumption | exact ⟨by omega, by omega⟩) (fun c2 => absurd c2 (by omega)) (fun c2 => ?_)
    refine K_aload_n (dt_at dtX10_stayOut 15 rfl) rfl rfl ?_
    refine K_get (a := w) (ci := 10) (k := 0) (v := vr (w + 1)) (dt_at dtX10_stayOut 16 rfl) hW10 rfl (by decide) wF_X10_12 rfl ?_
    refine K_iload_n (dt_at dtX10_stayOut 17 rfl) rfl rfl ?_
    refine K_aload_n (dt_at dtX10_stayOut 18 rfl) rfl rfl ?_
    refine K_iload_n (dt_at dtX10_stayOut 19 rfl) rfl rfl ?_
    refine K_callV (M' := mX10_fondBehind) (a := w) (ci := 10) (As := [vi p]) (st := [vi p, vr (w + 1)]) (dt_at dtX10_stayOut 20 rfl) (sX10_fondBehind X ⟨Kwq2, hfq2, htrq2, hemq2⟩ hT1 hp) hW10 rfl wL_X10_98 vX10_fondBehind rfl npX10_fondBehind (by decide) (by decide) (Nat.le_of_ble_eq_true rfl) (by decide) (by decide) GK_E (fun v9 hc3 hq => ?_) (fun E h9 hq => by cases hq.1)
    have hqq4 := hq
    obtain ⟨e9q4, Pq4⟩ := hqq4
    obtain ⟨Kwq4, hfq4, htrq4, hemq4⟩ := id Pq4
    cases e9q4
    show K mX10_stayOut _ _ 0 0 39 [(0, vr w), (1, vi p)] [vi (fondB S (upI f (1 + p) (f (1 + p) - 1)) p), vi p, vr (w + 1)] hc3
    refine K_callV (M' := mX8_setFond) (a := (w + 1)) (ci := 8) (As := [vi p, vi (fondB S (upI f (1 + p) (f (1 + p) - 1)) p)]) (st := []) (dt_at dtX10_stayOut 21 rfl) (sX8_setFond (lay_10_0 hW10) ⟨by omega, by omega⟩ (fondB32 hB hT1 ⟨hp.1, by omega⟩)) (lay_10_0 hW10) rfl wL_X10_101 vX8_setFond rfl npX8_setFond (by decide) (by decide) (Nat.le_of_ble_eq_true rfl) (by decide) (by decide) GK_E (fun v9 hc5 hq => ?_) (fun E h9 hq => by cases hq.1)
    have hqq6 := hq
    obtain ⟨e9q6, e8q6⟩ := hqq6
    obtain ⟨hfq6, frq6, hiq6, hrq6⟩ := sA_fx e8q6
    rw [hfq4] at hfq6
    have Kwq6 := WK_A X Kwq4 (Or.inl rfl) frq6 hiq6 hrq6
    have htrq6 : hA hc5 (w + 4) = tr := by rw [frq6 _ (by omega)]; exact htrq4
    have hemq6 : hI hc5 w 6 = em := by rw [hiq6]; exact hemq4
    cases e9q6
    show K mX10_stayOut _ _ 0 0 42 [(0, vr w), (1, vi p)] [] hc5
    refine K_aload_n (dt_at dtX10_stayOut 22 rfl) rfl rfl ?_
    refine K_iload_n (dt_at dtX10_stayOut 23 rfl) rfl rfl ?_
    refine K_callV (M' := mX10_unpack) (a := w) (ci := 10) (As := [vi p]) (st := []) (dt_at dtX10_stayOut 24 rfl) (sX10_unpack X ⟨Kwq6, hfq6, htrq6, hemq6⟩ (fond_rT hT1 ⟨hp.1, by omega⟩ (by omega)) hp) hW10 rfl wL_X10_104 vX10_unpack rfl npX10_unpack (by decide) (by decide) (Nat.le_of_ble_eq_true rfl) (by decide) (by decide) GK_E (fun v9 hc7 hq => ?_) (fun E h9 hq => by cases hq.1)
    have hqq8 := hq
    obtain ⟨e9q8, Pq8⟩ := hqq8
    obtain ⟨Kwq8, hfq8, htrq8, hemq8⟩ := id Pq8
    cases e9q8
    show K mX10_stayOut _ _ 0 0 47 [(0, vr w), (1, vi p)] [] hc7
    exact K_vret (dt_at dtX10_stayOut 25 rfl) rfl (by decide) (by decide) ⟨rfl, Kwq8, by unfold soF; rw [if_pos (by assumption)]; rw [hfq8, upI_n (show (8 + p : Int) ≠ 15 + p by omega)]; rfl, htrq8, hemq8⟩
  · rw [if_neg z1]
    refine K_if_eq (tgt := 47) (dt_at dtX10_stayOut 14 rfl) (by decide) (by first | assumption | exact ⟨by omega, by omega⟩) (fun c3 => ?_) (fun c3 => absurd c3 (by omega))
    exact K_vret (dt_at dtX10_stayOut 25 rfl) rfl (by decide) (by decide) ⟨rfl, Kwq2, by unfold soF; rw [if_neg (by assumption)]; exact hfq2, htrq2, hemq2⟩
