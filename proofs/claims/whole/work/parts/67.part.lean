set_option maxHeartbeats 4000000 in
set_option maxRecDepth 100000 in
theorem sX6_add_f {h : HP} {r : Nat} {x : Int} (hr : TT r = (0, 6)) (hl : hI h r 2 = 700) : SpecK mX6_add [vr r, vi x] h (fun o h' => o = .inl (none) ∧ h' = h) := by
  refine Spec_of (by decide +kernel) (Nat.le_of_ble_eq_true rfl) ?_
  refine K_aload_n (dt_at dtX6_add 0 rfl) rfl rfl ?_
  refine K_get (a := r) (ci := 6) (k := 2) (v := vi 700) (dt_at dtX6_add 1 rfl) hr rfl (by decide) wF_X6_18 (by show vi (hI h r 2) = vi 700; rw [hl]) ?_
  refine K_sipush (dt_at dtX6_add 2 rfl) (by decide) ?_
  refine K_icmp_ge (tgt := 30) (dt_at dtX6_add 3 rfl) (by decide) (by first | assumption | exact ⟨by omega, by omega⟩) (by first | assumption | exact ⟨by omega, by omega⟩) (fun c1 => ?_) (fun c1 => absurd c1 (by omega))
  exact K_vret (dt_at dtX6_add 16 rfl) rfl (by decide) (by decide) ⟨rfl, rfl⟩
def SB (M : MI) (w : Int) (tp : Int → Int) (n r : Nat) (pu : Int) (sub : Nat → PR) : Prop := ∀ (h : HP) (L : List Int) (p : Nat), GS h tp n r pu L p → L.length ≤ p → SpecK M [vr 63, vi w] h (fun o h' => o = .inl none ∧ PS h' tp n r pu L (sub p) ∧ RF r h h')
section GG
variable {h : HP} {tp : Int → Int} {n r p : Nat} {pu x : Int} {L : List Int} {e : Int × Nat}
theorem GS_n (S : GS h tp n r pu L p) : p ≤ n ∧ n ≤ 700 := ⟨S.1.2.2.1, S.1.1.2.2.1⟩
theorem pass_S (hr : RR r) (S : GS h tp n r pu L p) : SpecK mX9_pass [vr 64] h (fun o h' => o = .inl none ∧ GS h' tp n r pu L (tk tp n p).2.2 ∧ RF r h h') :=
  Spec_mono (fun o h' q => ⟨q.1, ⟨q.2.1, RuL_FL hr S.2 q.2.2⟩, RF_FL q.2.2⟩) (pass_G S.1)
theorem stop_S {k : Int} (hr : RR r) (S : GS h tp n r pu L p) (hl : L.length ≤ 700) (hk9 : 1 ≤ k ∧ k ≤ 5) : SpecK mX5_stop [vr 63, vi k] h (fun o h' => o = .inl none ∧ ES h' tp n r (k, (tk tp n p).2.1) ∧ RF r h h') :=
  Spec_mono (fun o h' q => ⟨q.1, ⟨q.2.1, RuE_FL hr (RuL_E S.2 hl) q.2.2⟩, RF_FL q.2.2⟩) (sX5_stop S.1 hk9)
theorem add_G (hr : RR r) (S : GS h tp n r pu L p) (hl : L.length < 700) : SpecK mX6_add [vr r, vi x] h (fun o h' => o = .inl none ∧ GS h' tp n r pu (L ++ [x]) p ∧ RF r h h') :=
  Spec_mono (fun o h' q => by
    obtain ⟨q1, q2⟩ := q
    rw [q2]
    exact ⟨q1, ⟨TG_RA hr RA_add S.1, RuL_add hr S.2⟩, RF_RA RA_add⟩) (sX6_add (RR_T hr) (by rw [S.2.2.2.1]; omega))
theorem add_E (hr : RR r) (S : ES h tp n r e) : SpecK mX6_add [vr r, vi x] h (fun o h' => o = .inl none ∧ ES h' tp n r e ∧ RF r h h') := by
  by_cases c : hI h r 2 < 700
  · refine Spec_mono (fun o h' q => ?_) (sX6_add (RR_T hr) ⟨S.2.2.1, c⟩)
    obtain ⟨q1, q2⟩ := q
    rw [q2]
    have F := RA_add (r := r) (h := h) (i := hI h r 2) (x := x) (y := hI h r 2 + 1)
    refine ⟨q1, ⟨TE_RA hr F S.1, by rw [F.2.2]; exact S.2.1, ?_⟩, RF_RA F⟩
    obtain ⟨g2, eg2⟩ : ∃ g2, g2 = sI (sA h (r + 1) (hI h r 2) x) r 2 (hI h r 2 + 1) := ⟨_, rfl⟩
    rw [← eg2, (sI_fx eg2).1]
    have := S.2.2
    omega
  · have := S.2.2
    refine Spec_mono (fun o h' q => ?_) (sX6_add_f (RR_T hr) (by omega))
    obtain ⟨q1, q2⟩ := q
    rw [q2]
    exact ⟨q1, S, RF_rf⟩
theorem sign_t {c : Int} (hr : RR r) (S : GS h tp n r pu L p) (hc : 0 ≤ c ∧ c < 128) (hs : Sg tp (tk tp n p) c) : SpecK mX5_readSign [vr 63, vi c] h (fun o h' => o = .inl none ∧ GS h' tp n r pu L (tk tp n p).2.2 ∧ RF r h h') :=
  Spec_mono (fun o h' q => ⟨q.1, ⟨q.2.1, RuL_FL hr S.2 q.2.2⟩, RF_FL q.2.2⟩) (sX5_readSign_t S.1 hc hs)
theorem sign_f {c : Int} (hr : RR r) (S : GS h tp n r pu L p) (hl : L.length ≤ 700) (hc : 0 ≤ c ∧ c < 128) (hs : ¬ Sg tp (tk tp n p) c) : SpecK mX5_readSign [vr 63, vi c] h (fun o h' => o = .inl none ∧ ES h' tp n r (1, (tk tp n p).2.1) ∧ RF r h h') :=
  Spec_mono (fun o h' q => ⟨q.1, ⟨q.2.1, RuE_FL hr (RuL_E S.2 hl) q.2.2⟩, RF_FL q.2.2⟩) (sX5_readSign_f S.1 hc hs)
theorem num_t {lo up : Int} (hr : RR r) (S : GS h tp n r pu L p) (hlo : i32 lo) (hup : i32 up) (h2 : (tk tp n p).1 = 2) (h3 : ¬ (tk tp n p).2.1 + 4 < (tk tp n p).2.2) (h4 : lo ≤ nmT tp (tk tp n p) ∧ nmT tp (tk tp n p) ≤ up) : SpecK mX5_readNumber [vr 63, vi lo, vi up] h (fun o h' => o = .inl (some (vi (nmT tp (tk tp n p)))) ∧ GS h' tp n r pu L (tk tp n p).2.2 ∧ RF r h h') :=
  Spec_mono (fun o h' q => ⟨q.1, ⟨q.2.1, RuL_FL hr S.2 q.2.2⟩, RF_FL q.2.2⟩) (sX5_readNumber_t S.1 hlo hup h2 h3 h4)
theorem num_g {lo up : Int} (hr : RR r) (S : GS h tp n r pu L p) (hl : L.length ≤ 700) (hlo : i32 lo) (hup : i32 up) (h2 : (tk tp n p).1 = 2) (h3 : (tk tp n p).2.1 + 4 < (tk tp n p).2.2 ∨ nmT tp (tk tp n p) < lo ∨ up < nmT tp (tk tp n p)) : SpecK mX5_readNumber [vr 63, vi lo, vi up] h (fun o h' => o = .inl (some (vi 0)) ∧ ES h' tp n r (2, (tk tp n p).2.1) ∧ RF r h h') :=
  Spec_mono (fun o h' q => ⟨q.1, ⟨q.2.1, RuE_FL hr (RuL_E S.2 hl) q.2.2⟩, RF_FL q.2.2⟩) (sX5_readNumber_g S.1 hlo hup h2 h3)
end GG
def mX5_readValue : MI := (yX5_readValue, cX5_readValue, 2, none, rmK 7 0)
def tX5_readValue : List (Nat × Instr × Nat) := [(0, .aload_n 0, 1), (1, .invokevirtual 205, 3), (4, .istore_n 1, 1), (5, .iload_n 1, 1), (6, .ifCond .ne 22, 3), (9, .aload_n 0, 1), (10, .getfield 18, 3), (13, .ifCond .eq 10, 3), (16, .aload_n 0, 1), (17, .invokevirtual 208, 3), (20, .goto 7, 3), (23, .aload_n 0, 1), (24, .invokevirtual 211, 3), (27, .istore_n 1, 1), (28, .iload_n 1, 1), (29, .ifCond .ne 9, 3), (32, .aload_n 0, 1), (33, .iconst 3, 1), (34, .invokevirtual 86, 3), (37, .return_, 1), (38, .aload_n 0, 1), (39, .getfield 39, 3), (42, .iload_n 1, 1), (43, .invokevirtual 168, 3), (46, .aload_n 0, 1), (47, .getfield 12, 3), (50, .invokevirtual 97, 3), (53, .return_, 1)]
theorem dtX5_readValue : tX5_readValue.all (fun q => decide (decode cX5_readValue q.1 = .ok (q.2.1, q.2.2))) = true := by decide +kernel
theorem npX5_readValue : (parseMethodDescriptor (mY mX5_readValue).desc).map (fun d => d.parameters.length) = some 0 := by decide +kernel
theorem vX5_readValue : mV mX5_readValue := ⟨wI_X5_readValue, wS_X5_readValue, wN_X5, wC_X5_readValue, by decide +kernel, by decide +kernel⟩
set_option maxHeartbeats 4000000 in
set_option maxRecDepth 100000 in
theorem sX5_readValue {h : HP} {tp : Int → Int} {n r p : Nat} {pu : Int} {L : List Int} (hr : RR r) (S : GS h tp n r pu L p) (hl : L.length ≤ p) (hpu : pu = 0 ∨ pu = 1) (h1 : (tk tp n p).1 = 1) : SpecK mX5_readValue [vr 63] h (fun o h' => o = .inl none ∧ PS h' tp n r pu L (vaR tp n pu p) ∧ RF r h h') := by
  refine Spec_of (by decide +kernel) (Nat.le_of_ble_eq_true rfl) ?_
  have hn0 := GS_n S
  have ht := tk_lt S.1.2.2.1 (by omega : (tk tp n p).1 ≠ 0)
  have hn1 := tk_e (tp := tp) S.1.2.2.1
  have b1 := vBo_b tp (tk tp n p)
  have b2 := vFe_b tp (tk tp n p)
  have b3 := vPu_b tp (tk tp n p)
  refine K_aload_n (dt_at dtX5_readValue 0 rfl) rfl rfl ?_
  refine K_callV (M' := mX5_valueOfBoth) (a := 63) (ci := 5) (As := []) (st := []) (dt_at dtX5_readValue 1 rfl) (sX5_valueOfBoth S.1) (show TT 63 = (0, 5) from rfl) rfl wL_X5_205 vX5_valueOfBoth rfl npX5_valueOfBoth (by decide) (by decide) (Nat.le_of_ble_eq_true rfl) (by decide) (by decide) GK_E (fun v9 h9 hq => ?_) (fun E h9 hq => by cases hq.1)
  obtain ⟨e9, e8⟩ := hq
  cases e9
  rw [e8]
  show K mX5_readValue _ _ 0 0 4 [(0, vr 63)] [vi (vBo tp (tk tp n p))] h
  refine K_istore_n (ls' := [(1, vi (vBo tp (tk tp n p))), (0, vr 63)]) (dt_at dtX5_readValue 2 rfl) rfl (by decide) rfl ?_
  refine K_iload_n (dt_at dtX5_readValue 3 rfl) rfl rfl ?_
  refine K_if_ne (tgt := 28) (dt_at dtX5_readValue 4 rfl) (by decide) (by first | assumption | exact ⟨by omega, by omega⟩) (fun c1 => ?_) (fun c1 => ?_)
  · refine K_iload_n (dt_at dtX5_readValue 14 rfl) rfl rfl ?_
    refine K_if_ne (tgt := 38) (dt_at dtX5_readValue 15 rfl) (by decide) (by first | assumption | exact ⟨by omega, by omega⟩) (fun c2 => ?_) (fun c2 => absurd c2 (by omega))
    refine K_aload_n (dt_at dtX5_readValue 20 rfl) rfl rfl ?_
    refine K_get (a := 63) (ci := 5) (k := 2) (v := vr r) (dt_at dtX5_readValue 21 rfl) (show TT 63 = (0, 5) from rfl) rfl (by decide) wF_X5_39 (by show vr (hR h 63 2) = vr r; rw [S.2.1]) ?_
    refine K_iload_n (dt_at dtX5_readValue 22 rfl) rfl rfl ?_
    refine K_callV (M' := mX6_add) (a := r) (ci := 6) (As := [vi (vBo tp (tk tp n p))]) (st := []) (dt_at dtX5_readValue 23 rfl) (add_G hr S (by omega)) (RR_T hr) rfl wL_X5_168 vX6_add rfl npX6_add (by decide) (by decide) (Nat.le_of_ble_eq_true rfl) (by decide) (by decide) GK_E (fun v9 hc1 hq => ?_) (fun E h9 hq => by cases hq.1)
    have hqq2 := hq
    obtain ⟨e9q2, Sq2, Gq2⟩ := hqq2
    have Fq2 := RF_tr (RF_rf : RF r h h) Gq2
    cases e9q2
    show K mX5_readValue _ _ 0 0 46 [(1, vi (vBo tp (tk tp n p))), (0, vr 63)] [] hc1
    refine K_aload_n (dt_at dtX5_readValue 24 rfl) rfl rfl ?_
    refine K_get (a := 63) (ci := 5) (k := 0) (v := vr 64) (dt_at dtX5_readValue 25 rfl) (show TT 63 = (0, 5) from rfl) rfl (by decide) wF_X5_12 rfl ?_
    refine K_callV (M' := mX9_pass) (a := 64) (ci := 9) (As := []) (st := []) (dt_at dtX5_readValue 26 rfl) (pass_S hr Sq2) (show TT 64 = (0, 9) from rfl) rfl wL_X5_97 vX9_pass rfl npX9_pass (by decide) (by decide) (Nat.le_of_ble_eq_true rfl) (by decide) (by decide) GK_E (fun v9 hc3 hq => ?_) (fun E h9 hq => by cases hq.1)
    have hqq4 := hq
    obtain ⟨e9q4, Sq4, Gq4⟩ := hqq4
    have Fq4 := RF_tr Fq2 Gq4
    cases e9q4
    show K mX5_readValue _ _ 0 0 53 [(1, vi (vBo tp (tk tp n p))), (0, vr 63)] [] hc3
    have ev : vaW tp pu (tk tp n p) = (vBo tp (tk tp n p)) := vaW_b (by omega)
    exact K_vret (dt_at dtX5_readValue 27 rfl) rfl (by decide) (by decide) ⟨rfl, by unfold vaR; rw [if_neg (by omega)]; rw [ev]; exact Sq4, Fq4⟩
  · refine K_aload_n (dt_at dtX5_readValue 5 rfl) rfl rfl ?_
    refine K_get (a := 63) (ci := 5) (k := 3) (v := vi pu) (dt_at dtX5_readValue 6 rfl) (show TT 63 = (0, 5) from rfl) rfl (by decide) wF_X5_18 (by show vi (hI h 63 3) = vi pu; rw [S.2.2.1]) ?_
    refine K_if_eq (tgt := 23) (dt_at dtX5_readValue 7 rfl) (by decide) (by first | assumption | exact ⟨by omega, by omega⟩) (fun c3 => ?_) (fun c3 => ?_)
    · refine K_aload_n (dt_at dtX5_readValue 11 rfl) rfl rfl ?_
      refine K_callV (M' := mX5_valueOfFeels) (a := 63) (ci := 5) (As := []) (st := []) (dt_at dtX5_readValue 12 rfl) (sX5_valueOfFeels S.1) (show TT 63 = (0, 5) from rfl) rfl wL_X5_211 vX5_valueOfFeels rfl npX5_valueOfFeels (by decide) (by decide) (Nat.le_of_ble_eq_true rfl) (by decide) (by decide) GK_E (fun v9 h9 hq => ?_) (fun E h9 hq => by cases hq.1)
      obtain ⟨e9, e8⟩ := hq
      cases e9
      rw [e8]
      show K mX5_readValue _ _ 0 0 27 [(1, vi (vBo tp (tk tp n p))), (0, vr 63)] [vi (vFe tp (tk tp n p))] h
      refine K_istore_n (ls' := [(1, vi (vFe tp (tk tp n p))), (0, vr 63)]) (dt_at dtX5_readValue 13 rfl) rfl (by decide) rfl ?_
      refine K_iload_n (dt_at dtX5_readValue 14 rfl) rfl rfl ?_
      refine K_if_ne (tgt := 38) (dt_at dtX5_readValue 15 rfl) (by decide) (by first | assumption | exact ⟨by omega, by omega⟩) (fun c4 => ?_) (fun c4 => ?_)
      · refine K_aload_n (dt_at dtX5_readValue 20 rfl) rfl rfl ?_
        refine K_get (a := 63) (ci := 5) (k := 2) (v := vr r) (dt_at dtX5_readValue 21 rfl) (show TT 63 = (0, 5) from rfl) rfl (by decide) wF_X5_39 (by show vr (hR h 63 2) = vr r; rw [S.2.1]) ?_
        refine K_iload_n (dt_at dtX5_readValue 22 rfl) rfl rfl ?_
        refine K_callV (M' := mX6_add) (a := r) (ci := 6) (As := [vi (vFe tp (tk tp n p))]) (st := []) (dt_at dtX5_readValue 23 rfl) (add_G hr S (by omega)) (RR_T hr) rfl wL_X5_168 vX6_add rfl npX6_add (by decide) (by decide) (Nat.le_of_ble_eq_true rfl) (by decide) (by decide) GK_E (fun v9 hc5 hq => ?_) (fun E h9 hq => by cases hq.1)
        have hqq6 := hq
        obtain ⟨e9q6, Sq6, Gq6⟩ := hqq6
        have Fq6 := RF_tr (RF_rf : RF r h h) Gq6
        cases e9q6
        show K mX5_readValue _ _ 0 0 46 [(1, vi (vFe tp (tk tp n p))), (0, vr 63)] [] hc5
        refine K_aload_n (dt_at dtX5_readValue 24 rfl) rfl rfl ?_
        refine K_get (a := 63) (ci := 5) (k := 0) (v := vr 64) (dt_at dtX5_readValue 25 rfl) (show TT 63 = (0, 5) from rfl) rfl (by decide) wF_X5_12 rfl ?_
        refine K_callV (M' := mX9_pass) (a := 64) (ci := 9) (As := []) (st := []) (dt_at dtX5_readValue 26 rfl) (pass_S hr Sq6) (show TT 64 = (0, 9) from rfl) rfl wL_X5_97 vX9_pass rfl npX9_pass (by decide) (by decide) (Nat.le_of_ble_eq_true rfl) (by decide) (by decide) GK_E (fun v9 hc7 hq => ?_) (fun E h9 hq => by cases hq.1)
        have hqq8 := hq
        obtain ⟨e9q8, Sq8, Gq8⟩ := hqq8
        have Fq8 := RF_tr Fq6 Gq8
        cases e9q8
        show K mX5_readValue _ _ 0 0 53 [(1, vi (vFe tp (tk tp n p))), (0, vr 63)] [] hc7
        have ev : vaW tp pu (tk tp n p) = (vFe tp (tk tp n p)) := vaW_f (by omega) (by omega)
        exact K_vret (dt_at dtX5_readValue 27 rfl) rfl (by decide) (by decide) ⟨rfl, by unfold vaR; rw [if_neg (by omega)]; rw [ev]; exact Sq8, Fq8⟩
      · refine K_aload_n (dt_at dtX5_readValue 16 rfl) rfl rfl ?_
        refine K_iconst (dt_at dtX5_readValue 17 rfl) ?_
        refine K_callV (M' := mX5_stop) (a := 63) (ci := 5) (As := [vi 3]) (st := []) (dt_at dtX5_readValue 18 rfl) (stop_S hr S (by omega) ⟨by omega, by omega⟩) (show TT 63 = (0, 5) from rfl) rfl wL_X5_86 vX5_stop rfl npX5_stop (by decide) (by decide) (Nat.le_of_ble_eq_true rfl) (by decide) (by decide) GK_E (fun v9 hc9 hq => ?_) (fun E h9 hq => by cases hq.1)
        have hqq10 := hq
        obtain ⟨e9q10, Sq10, Gq10⟩ := hqq10
        have Fq10 := RF_tr (RF_rf : RF r h h) Gq10
        cases e9q10
        show K mX5_readValue _ _ 0 0 37 [(1, vi (vFe tp (tk tp n p))), (0, vr 63)] [] hc9
        have ev : vaW tp pu (tk tp n p) = (vFe tp (tk tp n p)) := vaW_f (by omega) (by omega)
        exact K_vret (dt_at dtX5_readValue 19 rfl) rfl (by decide) (by decide) ⟨rfl, by unfold vaR; rw [if_pos (by omega)]; exact Sq10, Fq10⟩
    · refine K_aload_n (dt_at dtX5_readValue 8 rfl) rfl rfl ?_
      refine K_callV (M' := mX5_valueOfPuts) (a := 63) (ci := 5) (As := []) (st := []) (dt_at dtX5_readValue 9 rfl) (sX5_valueOfPuts S.1) (show TT 63 = (0, 5) from rfl) rfl wL_X5_208 vX5_valueOfPuts rfl npX5_valueOfPuts (by decide) (by decide) (Nat.le_of_ble_eq_true rfl) (by decide) (by decide) GK_E (fun v9 h9 hq => ?_) (fun E h9 hq => by cases hq.1)
      obtain ⟨e9, e8⟩ := hq
      cases e9
      rw [e8]
      show K mX5_readValue _ _ 0 0 20 [(1, vi (vBo tp (tk tp n p))), (0, vr 63)] [vi (vPu tp (tk tp n p))] h
      refine K_goto (tgt := 27) (dt_at dtX5_readValue 10 rfl) (by decide) ?_
      refine K_istore_n (ls' := [(1, vi (vPu tp (tk tp n p))), (0, vr 63)]) (dt_at dtX5_readValue 13 rfl) rfl (by decide) rfl ?_
      refine K_iload_n (dt_at dtX5_readValue 14 rfl) rfl rfl ?_
      refine K_if_ne (tgt := 38) (dt_at dtX5_readValue 15 rfl) (by decide) (by first | assumption | exact ⟨by omega, by omega⟩) (fun c5 => ?_) (fun c5 => ?_)
      · refine K_aload_n (dt_at dtX5_readValue 20 rfl) rfl rfl ?_
        refine K_get (a := 63) (ci := 5) (k := 2) (v := vr r) (dt_at dtX5_readValue 21 rfl) (show TT 63 = (0, 5) from rfl) rfl (by decide) wF_X5_39 (by show vr (hR h 63 2) = vr r; rw [S.2.1]) ?_
        refine K_iload_n (dt_at dtX5_readValue 22 rfl) rfl rfl ?_
        refine K_callV (M' := mX6_add) (a := r) (ci := 6) (As := [vi (vPu tp (tk tp n p))]) (st := []) (dt_at dtX5_readValue 23 rfl) (add_G hr S (by omega)) (RR_T hr) rfl wL_X5_168 vX6_add rfl npX6_add (by decide) (by decide) (Nat.le_of_ble_eq_true rfl) (by decide) (by decide) GK_E (fun v9 hc11 hq => ?_) (fun E h9 hq => by cases hq.1)
        have hqq12 := hq
        obtain ⟨e9q12, Sq12, Gq12⟩ := hqq12
        have Fq12 := RF_tr (RF_rf : RF r h h) Gq12
        cases e9q12
        show K mX5_readValue _ _ 0 0 46 [(1, vi (vPu tp (tk tp n p))), (0, vr 63)] [] hc11
        refine K_aload_n (dt_at dtX5_readValue 24 rfl) rfl rfl ?_
        refine K_get (a := 63) (ci := 5) (k := 0) (v := vr 64) (dt_at dtX5_readValue 25 rfl) (show TT 63 = (0, 5) from rfl) rfl (by decide) wF_X5_12 rfl ?_
        refine K_callV (M' := mX9_pass) (a := 64) (ci := 9) (As := []) (st := []) (dt_at dtX5_readValue 26 rfl) (pass_S hr Sq12) (show TT 64 = (0, 9) from rfl) rfl wL_X5_97 vX9_pass rfl npX9_pass (by decide) (by decide) (Nat.le_of_ble_eq_true rfl) (by decide) (by decide) GK_E (fun v9 hc13 hq => ?_) (fun E h9 hq => by cases hq.1)
        have hqq14 := hq
        obtain ⟨e9q14, Sq14, Gq14⟩ := hqq14
        have Fq14 := RF_tr Fq12 Gq14
        cases e9q14
        show K mX5_readValue _ _ 0 0 53 [(1, vi (vPu tp (tk tp n p))), (0, vr 63)] [] hc13
        have ev : vaW tp pu (tk tp n p) = (vPu tp (tk tp n p)) := vaW_p (by omega) (by omega)
        exact K_vret (dt_at dtX5_readValue 27 rfl) rfl (by decide) (by decide) ⟨rfl, by unfold vaR; rw [if_neg (by omega)]; rw [ev]; exact Sq14, Fq14⟩
      · refine K_aload_n (dt_at dtX5_readValue 16 rfl) rfl rfl ?_
        refine K_iconst (dt_at dtX5_readValue 17 rfl) ?_
        refine K_callV (M' := mX5_stop) (a := 63) (ci := 5) (As := [vi 3]) (st := []) (dt_at dtX5_readValue 18 rfl) (stop_S hr S (by omega) ⟨by omega, by omega⟩) (show TT 63 = (0, 5) from rfl) rfl wL_X5_86 vX5_stop rfl npX5_stop (by decide) (by decide) (Nat.le_of_ble_eq_true rfl) (by decide) (by decide) GK_E (fun v9 hc15 hq => ?_) (fun E h9 hq => by cases hq.1)
        have hqq16 := hq
        obtain ⟨e9q16, Sq16, Gq16⟩ := hqq16
        have Fq16 := RF_tr (RF_rf : RF r h h) Gq16
        cases e9q16
        show K mX5_readValue _ _ 0 0 37 [(1, vi (vPu tp (tk tp n p))), (0, vr 63)] [] hc15
        have ev : vaW tp pu (tk tp n p) = (vPu tp (tk tp n p)) := vaW_p (by omega) (by omega)
        exact K_vret (dt_at dtX5_readValue 19 rfl) rfl (by decide) (by decide) ⟨rfl, by unfold vaR; rw [if_pos (by omega)]; exact Sq16, Fq16⟩
def mX5_readPart (d : Nat) : MI := (yX5_readPart, cX5_readPart, 2, none, rmK (11 + 7 * d) 0)
def tX5_readPart : List (Nat × Instr × Nat) := [(0, .aload_n 0, 1), (1, .invokevirtual 49, 3), (4, .ifCond .ne 4, 3), (7, .return_, 1), (8, .aload_n 0, 1), (9, .getfield 12, 3), (12, .invokevirtual 137, 3), (15, .ifCond .eq 21, 3), (18, .aload_n 0, 1), (19, .getfield 39, 3), (22, .aload_n 0, 1), (23, .iconst 0, 1), (24, .sipush 9999, 3), (27, .invokevirtual 104, 3), (30, .invokevirtual 168, 3), (33, .goto 60, 3), (36, .aload_n 0, 1), (37, .getfield 12, 3), (40, .invokevirtual 171, 3), (43, .ifCond .eq 10, 3), (46, .aload_n 0, 1), (47, .invokevirtual 202, 3), (50, .goto 43, 3), (53, .aload_n 0, 1), (54, .getfield 12, 3), (57, .bipush 40, 2), (59, .invokevirtual 146, 3), (62, .ifCond .eq 26, 3), (65, .aload_n 0, 1), (66, .getfield 12, 3), (69, .invokevirtual 97, 3), (72, .aload_n 0, 1), (73, .iload_n 1, 1), (74, .iconst 1, 1), (75, .iadd, 1), (76, .invokevirtual 157, 3), (79, .aload_n 0, 1), (80, .bipush 41, 2), (82, .invokevirtual 90, 3), (85, .goto 8, 3), (88, .aload_n 0, 1), (89, .iconst 1, 1), (90, .invokevirtual 86, 3), (93, .return_, 1)]
theorem dtX5_readPart : tX5_readPart.all (fun q => decide (decode cX5_readPart q.1 = .ok (q.2.1, q.2.2))) = true := by decide +kernel
theorem npX5_readPart : (parseMethodDescriptor yX5_readPart.desc).map (fun d => d.parameters.length) = some 1 := by decide +kernel
theorem vX5_readPart {d : Nat} : mV (mX5_readPart d) := ⟨wI_X5_readPart, wS_X5_readPart, wN_X5, wC_X5_readPart, (by decide +kernel : RX5 ≠ "java/lang/invoke/MethodHandle"), (by decide +kernel : RX5 ≠ "java/lang/invoke/VarHandle")⟩
def mX5_readProduct (d : Nat) : MI := (yX5_readProduct, cX5_readProduct, 4, none, rmK (12 + 7 * d) 0)
def tX5_readProduct : List (Nat × Instr × Nat) := [(0, .aload_n 0, 1), (1, .iload_n 1, 1), (2, .invokevirtual 196, 3), (5, .aload_n 0, 1), (6, .invokevirtual 199, 3), (9, .istore_n 2, 1), (10, .iconst 0, 1), (11, .istore_n 3, 1), (12, .iload_n 3, 1), (13, .sipush 700, 3), (16, .if_icmp .ge 45, 3), (19, .aload_n 0, 1), (20, .invokevirtual 49, 3), (23, .ifCond .eq 38, 3), (26, .iload_n 2, 1), (27, .ifCond .eq 34, 3), (30, .aload_n 0, 1), (31, .getfield 12, 3), (34, .invokevirtual 97, 3), (37, .aload_n 0, 1), (38, .iload_n 1, 1), (39, .invokevirtual 196, 3), (42, .aload_n 0, 1), (43, .getfield 39, 3), (46, .iload_n 2, 1), (47, .invokevirtual 168, 3), (50, .aload_n 0, 1), (51, .invokevirtual 199, 3), (54, .istore_n 2, 1), (55, .iinc 3 1, 3), (58, .goto (-46), 3), (61, .return_, 1)]
theorem dtX5_readProduct : tX5_readProduct.all (fun q => decide (decode cX5_readProduct q.1 = .ok (q.2.1, q.2.2))) = true := by decide +kernel
theorem npX5_readProduct : (parseMethodDescriptor yX5_readProduct.desc).map (fun d => d.parameters.length) = some 1 := by decide +kernel
theorem vX5_readProduct {d : Nat} : mV (mX5_readProduct d) := ⟨wI_X5_readProduct, wS_X5_readProduct, wN_X5, wC_X5_readProduct, (by decide +kernel : RX5 ≠ "java/lang/invoke/MethodHandle"), (by decide +kernel : RX5 ≠ "java/lang/invoke/VarHandle")⟩
def mX5_readSum (d : Nat) : MI := (yX5_readSum, cX5_readSum, 4, none, rmK (13 + 7 * d) 0)
def tX5_readSum : List (Nat × Instr × Nat) := [(0, .aload_n 0, 1), (1, .iload_n 1, 1), (2, .invokevirtual 190, 3), (5, .aload_n 0, 1), (6, .invokevirtual 193, 3), (9, .istore_n 2, 1), (10, .iconst 0, 1), (11, .istore_n 3, 1), (12, .iload_n 3, 1), (13, .sipush 700, 3), (16, .if_icmp .ge 45, 3), (19, .aload_n 0, 1), (20, .invokevirtual 49, 3), (23, .ifCond .eq 38, 3), (26, .iload_n 2, 1), (27, .ifCond .eq 34, 3), (30, .aload_n 0, 1), (31, .getfield 12, 3), (34, .invokevirtual 97, 3), (37, .aload_n 0, 1), (38, .iload_n 1, 1), (39, .invokevirtual 190, 3), (42, .aload_n 0, 1), (43, .getfield 39, 3), (46, .iload_n 2, 1), (47, .invokevirtual 168, 3), (50, .aload_n 0, 1), (51, .invokevirtual 193, 3), (54, .istore_n 2, 1), (55, .iinc 3 1, 3), (58, .goto (-46), 3), (61, .return_, 1)]
theorem dtX5_readSum : tX5_readSum.all (fun q => decide (decode cX5_readSum q.1 = .ok (q.2.1, q.2.2))) = true := by decide +kernel
theorem npX5_readSum : (parseMethodDescriptor yX5_readSum.desc).map (fun d => d.parameters.length) = some 1 := by decide +kernel
theorem vX5_readSum {d : Nat} : mV (mX5_readSum d) := ⟨wI_X5_readSum, wS_X5_readSum, wN_X5, wC_X5_readSum, (by decide +kernel : RX5 ≠ "java/lang/invoke/MethodHandle"), (by decide +kernel : RX5 ≠ "java/lang/invoke/VarHandle")⟩
def mX5_readTest (d : Nat) : MI := (yX5_readTest, cX5_readTest, 3, none, rmK (14 + 7 * d) 0)
def tX5_readTest : List (Nat × Instr × Nat) := [(0, .aload_n 0, 1), (1, .iload_n 1, 1), (2, .invokevirtual 184, 3), (5, .aload_n 0, 1), (6, .invokevirtual 49, 3), (9, .ifCond .ne 4, 3), (12, .return_, 1), (13, .aload_n 0, 1), (14, .invokevirtual 187, 3), (17, .istore_n 2, 1), (18, .iload_n 2, 1), (19, .ifCond .eq 23, 3), (22, .aload_n 0, 1), (23, .getfield 12, 3), (26, .invokevirtual 97, 3), (29, .aload_n 0, 1), (30, .iload_n 1, 1), (31, .invokevirtual 184, 3), (34, .aload_n 0, 1), (35, .getfield 39, 3), (38, .iload_n 2, 1), (39, .invokevirtual 168, 3), (42, .return_, 1)]
theorem dtX5_readTest : tX5_readTest.all (fun q => decide (decode cX5_readTest q.1 = .ok (q.2.1, q.2.2))) = true := by decide +kernel
theorem npX5_readTest : (parseMethodDescriptor yX5_readTest.desc).map (fun d => d.parameters.length) = some 1 := by decide +kernel
theorem vX5_readTest {d : Nat} : mV (mX5_readTest d) := ⟨wI_X5_readTest, wS_X5_readTest, wN_X5, wC_X5_readTest, (by decide +kernel : RX5 ≠ "java/lang/invoke/MethodHandle"), (by decide +kernel : RX5 ≠ "java/lang/invoke/VarHandle")⟩
def mX5_readNot (d : Nat) : MI := (yX5_readNot, cX5_readNot, 4, none, rmK (15 + 7 * d) 0)
def tX5_readNot : List (Nat × Instr × Nat) := [(0, .iconst 0, 1), (1, .istore_n 2, 1), (2, .iload_n 2, 1), (3, .bipush 6, 2), (5, .if_icmp .ge 28, 3), (8, .aload_n 0, 1), (9, .getfield 12, 3), (12, .ldc 179, 2), (14, .invokevirtual 65, 3), (17, .ifCond .eq 16, 3), (20, .aload_n 0, 1), (21, .getfield 12, 3), (24, .invokevirtual 97, 3), (27, .iinc 2 1, 3), (30, .goto (-28), 3), (33, .iload_n 2, 1), (34, .bipush 6, 2), (36, .if_icmp .ne 21, 3), (39, .aload_n 0, 1), (40, .getfield 12, 3), (43, .ldc 179, 2), (45, .invokevirtual 65, 3), (48, .ifCond .eq 9, 3), (51, .aload_n 0, 1), (52, .iconst 2, 1), (53, .invokevirtual 86, 3), (56, .return_, 1), (57, .aload_n 0, 1), (58, .iload_n 1, 1), (59, .invokevirtual 181, 3), (62, .iconst 0, 1), (63, .istore_n 3, 1), (64, .iload_n 3, 1), (65, .iload_n 2, 1), (66, .if_icmp .ge 18, 3), (69, .aload_n 0, 1), (70, .getfield 39, 3), (73, .bipush (-9), 2), (75, .invokevirtual 168, 3), (78, .iinc 3 1, 3), (81, .goto (-17), 3), (84, .return_, 1)]
theorem dtX5_readNot : tX5_readNot.all (fun q => decide (decode cX5_readNot q.1 = .ok (q.2.1, q.2.2))) = true := by decide +kernel
theorem npX5_readNot : (parseMethodDescriptor yX5_readNot.desc).map (fun d => d.parameters.length) = some 1 := by decide +kernel
theorem vX5_readNot {d : Nat} : mV (mX5_readNot d) := ⟨wI_X5_readNot, wS_X5_readNot, wN_X5, wC_X5_readNot, (by decide +kernel : RX5 ≠ "java/lang/invoke/MethodHandle"), (by decide +kernel : RX5 ≠ "java/lang/invoke/VarHandle")⟩
def mX5_readAnd (d : Nat) : MI := (yX5_readAnd, cX5_readAnd, 3, none, rmK (16 + 7 * d) 0)
def tX5_readAnd : List (Nat × Instr × Nat) := [(0, .aload_n 0, 1), (1, .iload_n 1, 1), (2, .invokevirtual 174, 3), (5, .iconst 0, 1), (6, .istore_n 2, 1), (7, .iload_n 2, 1), (8, .sipush 700, 3), (11, .if_icmp .ge 49, 3), (14, .aload_n 0, 1), (15, .invokevirtual 49, 3), (18, .ifCond .eq 42, 3), (21, .aload_n 0, 1), (22, .getfield 12, 3), (25, .ldc 177, 2), (27, .invokevirtual 65, 3), (30, .ifCond .eq 30, 3), (33, .aload_n 0, 1), (34, .getfield 12, 3), (37, .invokevirtual 97, 3), (40, .aload_n 0, 1), (41, .iload_n 1, 1), (42, .invokevirtual 174, 3), (45, .aload_n 0, 1), (46, .getfield 39, 3), (49, .bipush (-11), 2), (51, .invokevirtual 168, 3), (54, .iinc 2 1, 3), (57, .goto (-50), 3), (60, .return_, 1)]
theorem dtX5_readAnd : tX5_readAnd.all (fun q => decide (decode cX5_readAnd q.1 = .ok (q.2.1, q.2.2))) = true := by decide +kernel
theorem npX5_readAnd : (parseMethodDescriptor yX5_readAnd.desc).map (fun d => d.parameters.length) = some 1 := by decide +kernel
theorem vX5_readAnd {d : Nat} : mV (mX5_readAnd d) := ⟨wI_X5_readAnd, wS_X5_readAnd, wN_X5, wC_X5_readAnd, (by decide +kernel : RX5 ≠ "java/lang/invoke/MethodHandle"), (by decide +kernel : RX5 ≠ "java/lang/invoke/VarHandle")⟩
def mX5_readExpr (d : Nat) : MI := (yX5_readExpr, cX5_readExpr, 3, none, rmK (10 + 7 * d) 0)
def tX5_readExpr : List (Nat × Instr × Nat) := [(0, .iload_n 1, 1), (1, .bipush 6, 2), (3, .if_icmp .lt 20, 3), (6, .aload_n 0, 1), (7, .aload_n 0, 1), (8, .invokevirtual 160, 3), (11, .ifCond .eq 7, 3), (14, .iconst 2, 1), (15, .goto 4, 3), (18, .iconst 1, 1), (19, .invokevirtual 86, 3), (22, .return_, 1), (23, .aload_n 0, 1), (24, .iload_n 1, 1), (25, .invokevirtual 163, 3), (28, .iconst 0, 1), (29, .istore_n 2, 1), (30, .iload_n 2, 1), (31, .sipush 700, 3), (34, .if_icmp .ge 49, 3), (37, .aload_n 0, 1), (38, .invokevirtual 49, 3), (41, .ifCond .eq 42, 3), (44, .aload_n 0, 1), (45, .getfield 12, 3), (48, .ldc 166, 2), (50, .invokevirtual 65, 3), (53, .ifCond .eq 30, 3), (56, .aload_n 0, 1), (57, .getfield 12, 3), (60, .invokevirtual 97, 3), (63, .aload_n 0, 1), (64, .iload_n 1, 1), (65, .invokevirtual 163, 3), (68, .aload_n 0, 1), (69, .getfield 39, 3), (72, .bipush (-10), 2), (74, .invokevirtual 168, 3), (77, .iinc 2 1, 3), (80, .goto (-50), 3), (83, .return_, 1)]
theorem dtX5_readExpr : tX5_readExpr.all (fun q => decide (decode cX5_readExpr q.1 = .ok (q.2.1, q.2.2))) = true := by decide +kernel
theorem npX5_readExpr : (parseMethodDescriptor yX5_readExpr.desc).map (fun d => d.parameters.length) = some 1 := by decide +kernel
theorem vX5_readExpr {d : Nat} : mV (mX5_readExpr d) := ⟨wI_X5_readExpr, wS_X5_readExpr, wN_X5, wC_X5_readExpr, (by decide +kernel : RX5 ≠ "java/lang/invoke/MethodHandle"), (by decide +kernel : RX5 ≠ "java/lang/invoke/VarHandle")⟩
set_option maxHeartbeats 4000000 in
set_option maxRecDepth 100000 in
theorem sX5_readPart {d : Nat} {w : Int} {tp : Int → Int} {n r : Nat} {pu : Int} (hr : RR r) (hpu : pu = 0 ∨ pu = 1) (hE : SB (mX5_readExpr d) (w + 1) tp n r pu (exP tp n pu d)) : SB (mX5_readPart d) w tp n r pu (paP tp n pu (exP tp n pu d)) := by
  intro h L p S hl
  refine Spec_of (by decide +kernel : plainName RX5 = true) (Nat.le_of_ble_eq_true rfl) ?_
  have hn0 := GS_n S
  have hn1 := tk_e (tp := tp) S.1.2.2.1
  refine K_aload_n (dt_at dtX5_readPart 0 rfl) rfl rfl ?_
  refine K_callV (M' := mX5_isGoing) (a := 63) (ci := 5) (As := []) (st := []) (dt_at dtX5_readPart 1 rfl) (sX5_isGoing_t S.1.2.2.2) (show TT 63 = (0, 5) from rfl) rfl wL_X5_49 vX5_isGoing rfl npX5_isGoing (by simp only [mR, mL, rmK, mX5_readPart, mX5_readProduct, mX5_readSum, mX5_readTest, mX5_readNot, mX5_readAnd, mX5_readExpr, mX5_couldBegin, mX5_isGoing, mX5_productStep, mX5_readNumber, mX5_readSign, mX5_readValue, mX5_stop, mX5_sumStep, mX5_testStep, mX6_add, mX9_isAnyWord, mX9_isNumber, mX9_isSign, mX9_isWord, mX9_pass]; omega) (by simp only [mR, mL, rmK, mX5_readPart, mX5_readProduct, mX5_readSum, mX5_readTest, mX5_readNot, mX5_readAnd, mX5_readExpr, mX5_couldBegin, mX5_isGoing, mX5_productStep, mX5_readNumber, mX5_readSign, mX5_readValue, mX5_stop, mX5_sumStep, mX5_testStep, mX6_add, mX9_isAnyWord, mX9_isNumber, mX9_isSign, mX9_isWord, mX9_pass]; omega) (Nat.le_of_ble_eq_true rfl) (Nat.le_refl 0) (Nat.le_refl 0) GK_E (fun v9 h9 hq => ?_) (fun E h9 hq => by cases hq.1)
  obtain ⟨e9, e8⟩ := hq
  cases e9
  rw [e8]
  show K (mX5_readPart d) _ _ 0 0 4 [(0, vr 63), (1, vi w)] [vi 1] h
  refine K_if_ne (tgt := 8) (dt_at dtX5_readPart 2 rfl) (by decide) (by first | assumption | exact ⟨by omega, by omega⟩) (fun c1 => ?_) (fun c1 => absurd c1 (by omega))
  refine K_aload_n (dt_at dtX5_readPart 4 rfl) rfl rfl ?_
  refine K_get (a := 63) (ci := 5) (k := 0) (v := vr 64) (dt_at dtX5_readPart 5 rfl) (show TT 63 = (0, 5) from rfl) rfl (by decide) wF_X5_12 rfl ?_
  refine K_callV (M' := mX9_isNumber) (a := 64) (ci := 9) (As := []) (st := []) (dt_at dtX5_readPart 6 rfl) (sX9_isNumber S.1.1 S.1.2.1 (tk_G S.1.2.2.1)) (show TT 64 = (0, 9) from rfl) rfl wL_X5_137 vX9_isNumber rfl npX9_isNumber (by simp only [mR, mL, rmK, mX5_readPart, mX5_readProduct, mX5_readSum, mX5_readTest, mX5_readNot, mX5_readAnd, mX5_readExpr, mX5_couldBegin, mX5_isGoing, mX5_productStep, mX5_readNumber, mX5_readSign, mX5_readValue, mX5_stop, mX5_sumStep, mX5_testStep, mX6_add, mX9_isAnyWord, mX9_isNumber, mX9_isSign, mX9_isWord, mX9_pass]; omega) (by simp only [mR, mL, rmK, mX5_readPart, mX5_readProduct, mX5_readSum, mX5_readTest, mX5_readNot, mX5_readAnd, mX5_readExpr, mX5_couldBegin, mX5_isGoing, mX5_productStep, mX5_readNumber, mX5_readSign, mX5_readValue, mX5_stop, mX5_sumStep, mX5_testStep, mX6_add, mX9_isAnyWord, mX9_isNumber, mX9_isSign, mX9_isWord, mX9_pass]; omega) (Nat.le_of_ble_eq_true rfl) (Nat.le_refl 0) (Nat.le_refl 0) GK_E (fun v9 h9 hq => ?_) (fun E h9 hq => by cases hq.1)
  obtain ⟨e9, e8⟩ := hq
  cases e9
  rw [e8]
  show K (mX5_readPart d) _ _ 0 0 15 [(0, vr 63), (1, vi w)] [vi (if (tk tp n p).1 = 2 then 1 else 0)] h
  by_cases z2 : (tk tp n p).1 = 2
  · rw [if_pos z2]
    refine K_if_eq (tgt := 36) (dt_at dtX5_readPart 7 rfl) (by decide) (by first | assumption | exact ⟨by omega, by omega⟩) (fun c3 => absurd c3 (by omega)) (fun c3 => ?_)
    refine K_aload_n (dt_at dtX5_readPart 8 rfl) rfl rfl ?_
    refine K_get (a := 63) (ci := 5) (k := 2) (v := vr r) (dt_at dtX5_readPart 9 rfl) (show TT 63 = (0, 5) from rfl) rfl (by decide) wF_X5_39 (by show vr (hR h 63 2) = vr r; rw [S.2.1]) ?_
    refine K_aload_n (dt_at dtX5_readPart 10 rfl) rfl rfl ?_
    refine K_iconst (dt_at dtX5_readPart 11 rfl) ?_
    refine K_sipush (dt_at dtX5_readPart 12 rfl) (by decide) ?_
    have ht := tk_lt S.1.2.2.1 (by omega : (tk tp n p).1 ≠ 0)
    have nb := nmT_b (tk_G S.1.2.2.1) (by assumption : (tk tp n p).1 = 2)
    by_cases z4 : (tk tp n p).2.1 + 4 < (tk tp n p).2.2
    · refine K_callV (M' := mX5_readNumber) (a := 63) (ci := 5) (As := [vi 0, vi 9999]) (st := [vr r]) (dt_at dtX5_readPart 13 rfl) (num_g hr S (by omega) ⟨by omega, by omega⟩ ⟨by omega, by omega⟩ (by assumption) (Or.inl z4)) (show TT 63 = (0, 5) from rfl) rfl wL_X5_104 vX5_readNumber rfl npX5_readNumber (by simp only [mR, mL, rmK, mX5_readPart, mX5_readProduct, mX5_readSum, mX5_readTest, mX5_readNot, mX5_readAnd, mX5_readExpr, mX5_couldBegin, mX5_isGoing, mX5_productStep, mX5_readNumber, mX5_readSign, mX5_readValue, mX5_stop, mX5_sumStep, mX5_testStep, mX6_add, mX9_isAnyWord, mX9_isNumber, mX9_isSign, mX9_isWord, mX9_pass]; omega) (by simp only [mR, mL, rmK, mX5_readPart, mX5_readProduct, mX5_readSum, mX5_readTest, mX5_readNot, mX5_readAnd, mX5_readExpr, mX5_couldBegin, mX5_isGoing, mX5_productStep, mX5_readNumber, mX5_readSign, mX5_readValue, mX5_stop, mX5_sumStep, mX5_testStep, mX6_add, mX9_isAnyWord, mX9_isNumber, mX9_isSign, mX9_isWord, mX9_pass]; omega) (Nat.le_of_ble_eq_true rfl) (Nat.le_refl 0) (Nat.le_refl 0) GK_E (fun v9 hc1 hq => ?_) (fun E h9 hq => by cases hq.1)
      have hqq2 := hq
      obtain ⟨e9q2, Sq2, Gq2⟩ := hqq2
      have Fq2 := RF_tr (RF_rf : RF r h h) Gq2
      cases e9q2
      show K (mX5_readPart d) _ _ 0 0 30 [(0, vr 63), (1, vi w)] [vi 0, vr r] hc1
      refine K_callV (M' := mX6_add) (a := r) (ci := 6) (As := [vi 0]) (st := []) (dt_at dtX5_readPart 14 rfl) (add_E hr Sq2) (RR_T hr) rfl wL_X5_168 vX6_add rfl npX6_add (by simp only [mR, mL, rmK, mX5_readPart, mX5_readProduct, mX5_readSum, mX5_readTest, mX5_readNot, mX5_readAnd, mX5_readExpr, mX5_couldBegin, mX5_isGoing, mX5_productStep, mX5_readNumber, mX5_readSign, mX5_readValue, mX5_stop, mX5_sumStep, mX5_testStep, mX6_add, mX9_isAnyWord, mX9_isNumber, mX9_isSign, mX9_isWord, mX9_pass]; omega) (by simp only [mR, mL, rmK, mX5_readPart, mX5_readProduct, mX5_readSum, mX5_readTest, mX5_readNot, mX5_readAnd, mX5_readExpr, mX5_couldBegin, mX5_isGoing, mX5_productStep, mX5_readNumber, mX5_readSign, mX5_readValue, mX5_stop, mX5_sumStep, mX5_testStep, mX6_add, mX9_isAnyWord, mX9_isNumber, mX9_isSign, mX9_isWord, mX9_pass]; omega) (Nat.le_of_ble_eq_true rfl) (Nat.le_refl 0) (Nat.le_refl 0) GK_E (fun v9 hc3 hq => ?_) (fun E h9 hq => by cases hq.1)
      have hqq4 := hq
      obtain ⟨e9q4, Sq4, Gq4⟩ := hqq4
      have Fq4 := RF_tr Fq2 Gq4
      cases e9q4
      show K (mX5_readPart d) _ _ 0 0 33 [(0, vr 63), (1, vi w)] [] hc3
      refine K_goto (tgt := 93) (dt_at dtX5_readPart 15 rfl) (by decide) ?_
      exact K_vret (dt_at dtX5_readPart 43 rfl) rfl (Nat.le_refl 0) (Nat.le_refl 0) ⟨rfl, by rw [paP_1 (by assumption) z4]; exact Sq4, Fq4⟩
    · refine K_callV (M' := mX5_readNumber) (a := 63) (ci := 5) (As := [vi 0, vi 9999]) (st := [vr r]) (dt_at dtX5_readPart 13 rfl) (num_t hr S ⟨by omega, by omega⟩ ⟨by omega, by omega⟩ (by assumption) z4 ⟨by omega, by omega⟩) (show TT 63 = (0, 5) from rfl) rfl wL_X5_104 vX5_readNumber rfl npX5_readNumber (by simp only [mR, mL, rmK, mX5_readPart, mX5_readProduct, mX5_readSum, mX5_readTest, mX5_readNot, mX5_readAnd, mX5_readExpr, mX5_couldBegin, mX5_isGoing, mX5_productStep, mX5_readNumber, mX5_readSign, mX5_readValue, mX5_stop, mX5_sumStep, mX5_testStep, mX6_add, mX9_isAnyWord, mX9_isNumber, mX9_isSign, mX9_isWord, mX9_pass]; omega) (by simp only [mR, mL, rmK, mX5_readPart, mX5_readProduct, mX5_readSum, mX5_readTest, mX5_readNot, mX5_readAnd, mX5_readExpr, mX5_couldBegin, mX5_isGoing, mX5_productStep, mX5_readNumber, mX5_readSign, mX5_readValue, mX5_stop, mX5_sumStep, mX5_testStep, mX6_add, mX9_isAnyWord, mX9_isNumber, mX9_isSign, mX9_isWord, mX9_pass]; omega) (Nat.le_of_ble_eq_true rfl) (Nat.le_refl 0) (Nat.le_refl 0) GK_E (fun v9 hc5 hq => ?_) (fun E h9 hq => by cases hq.1)
      have hqq6 := hq
      obtain ⟨e9q6, Sq6, Gq6⟩ := hqq6
      have Fq6 := RF_tr (RF_rf : RF r h h) Gq6
      cases e9q6
      show K (mX5_readPart d) _ _ 0 0 30 [(0, vr 63), (1, vi w)] [vi (nmT tp (tk tp n p)), vr r] hc5
      refine K_callV (M' := mX6_add) (a := r) (ci := 6) (As := [vi (nmT tp (tk tp n p))]) (st := []) (dt_at dtX5_readPart 14 rfl) (add_G hr Sq6 (by omega)) (RR_T hr) rfl wL_X5_168 vX6_add rfl npX6_add (by simp only [mR, mL, rmK, mX5_readPart, mX5_readProduct, mX5_readSum, mX5_readTest, mX5_readNot, mX5_readAnd, mX5_readExpr, mX5_couldBegin, mX5_isGoing, mX5_productStep, mX5_readNumber, mX5_readSign, mX5_readValue, mX5_stop, mX5_sumStep, mX5_testStep, mX6_add, mX9_isAnyWord, mX9_isNumber, mX9_isSign, mX9_isWord, mX9_pass]; omega) (by simp only [mR, mL, rmK, mX5_readPart, mX5_readProduct, mX5_readSum, mX5_readTest, mX5_readNot, mX5_readAnd, mX5_readExpr, mX5_couldBegin, mX5_isGoing, mX5_productStep, mX5_readNumber, mX5_readSign, mX5_readValue, mX5_stop, mX5_sumStep, mX5_testStep, mX6_add, mX9_isAnyWord, mX9_isNumber, mX9_isSign, mX9_isWord, mX9_pass]; omega) (Nat.le_of_ble_eq_true rfl) (Nat.le_refl 0) (Nat.le_refl 0) GK_E (fun v9 hc7 hq => ?_) (fun E h9 hq => by cases hq.1)
      have hqq8 := hq
      obtain ⟨e9q8, Sq8, Gq8⟩ := hqq8
      have Fq8 := RF_tr Fq6 Gq8
      cases e9q8
      show K (mX5_readPart d) _ _ 0 0 33 [(0, vr 63), (1, vi w)] [] hc7
      refine K_goto (tgt := 93) (dt_at dtX5_readPart 15 rfl) (by decide) ?_
      exact K_vret (dt_at dtX5_readPart 43 rfl) rfl (Nat.le_refl 0) (Nat.le_refl 0) ⟨rfl, by rw [paP_2 (by assumption) z4]; exact Sq8, Fq8⟩
  · rw [if_neg z2]
    refine K_if_eq (tgt := 36) (dt_at dtX5_readPart 7 rfl) (by decide) (by first | assumption | exact ⟨by omega, by omega⟩) (fun c5 => ?_) (fun c5 => absurd c5 (by omega))
    refine K_aload_n (dt_at dtX5_readPart 16 rfl) rfl rfl ?_
    refine K_get (a := 63) (ci := 5) (k := 0) (v := vr 64) (dt_at dtX5_readPart 17 rfl) (show TT 63 = (0, 5) from rfl) rfl (by decide) wF_X5_12 rfl ?_
    refine K_callV (M' := mX9_isAnyWord) (a := 64) (ci := 9) (As := []) (st := []) (dt_at dtX5_readPart 18 rfl) (sX9_isAnyWord S.1.1 S.1.2.1 (tk_G S.1.2.2.1)) (show TT 64 = (0, 9) from rfl) rfl wL_X5_171 vX9_isAnyWord rfl npX9_isAnyWord (by simp only [mR, mL, rmK, mX5_readPart, mX5_readProduct, mX5_readSum, mX5_readTest, mX5_readNot, mX5_readAnd, mX5_readExpr, mX5_couldBegin, mX5_isGoing, mX5_productStep, mX5_readNumber, mX5_readSign, mX5_readValue, mX5_stop, mX5_sumStep, mX5_testStep, mX6_add, mX9_isAnyWord, mX9_isNumber, mX9_isSign, mX9_isWord, mX9_pass]; omega) (by simp only [mR, mL, rmK, mX5_readPart, mX5_readProduct, mX5_readSum, mX5_readTest, mX5_readNot, mX5_readAnd, mX5_readExpr, mX5_couldBegin, mX5_isGoing, mX5_productStep, mX5_readNumber, mX5_readSign, mX5_readValue, mX5_stop, mX5_sumStep, mX5_testStep, mX6_add, mX9_isAnyWord, mX9_isNumber, mX9_isSign, mX9_isWord, mX9_pass]; omega) (Nat.le_of_ble_eq_true rfl) (Nat.le_refl 0) (Nat.le_refl 0) GK_E (fun v9 h9 hq => ?_) (fun E h9 hq => by cases hq.1)
    obtain ⟨e9, e8⟩ := hq
    cases e9
    rw [e8]
    show K (mX5_readPart d) _ _ 0 0 43 [(0, vr 63), (1, vi w)] [vi (if (tk tp n p).1 = 1 then 1 else 0)] h
    by_cases z6 : (tk tp n p).1 = 1
    · rw [if_pos z6]
      refine K_if_eq (tgt := 53) (dt_at dtX5_readPart 19 rfl) (by decide) (by first | assumption | exact ⟨by omega, by omega⟩) (fun c7 => absurd c7 (by omega)) (fun c7 => ?_)
      refine K_aload_n (dt_at dtX5_readPart 20 rfl) rfl rfl ?_
      refine K_callV (M' := mX5_readValue) (a := 63) (ci := 5) (As := []) (st := []) (dt_at dtX5_readPart 21 rfl) (sX5_readValue hr S hl hpu (by assumption)) (show TT 63 = (0, 5) from rfl) rfl wL_X5_202 vX5_readValue rfl npX5_readValue (by simp only [mR, mL, rmK, mX5_readPart, mX5_readProduct, mX5_readSum, mX5_readTest, mX5_readNot, mX5_readAnd, mX5_readExpr, mX5_couldBegin, mX5_isGoing, mX5_productStep, mX5_readNumber, mX5_readSign, mX5_readValue, mX5_stop, mX5_sumStep, mX5_testStep, mX6_add, mX9_isAnyWord, mX9_isNumber, mX9_isSign, mX9_isWord, mX9_pass]; omega) (by simp only [mR, mL, rmK, mX5_readPart, mX5_readProduct, mX5_readSum, mX5_readTest, mX5_readNot, mX5_readAnd, mX5_readExpr, mX5_couldBegin, mX5_isGoing, mX5_productStep, mX5_readNumber, mX5_readSign, mX5_readValue, mX5_stop, mX5_sumStep, mX5_testStep, mX6_add, mX9_isAnyWord, mX9_isNumber, mX9_isSign, mX9_isWord, mX9_pass]; omega) (Nat.le_of_ble_eq_true rfl) (Nat.le_refl 0) (Nat.le_refl 0) GK_E (fun v9 hc9 hq => ?_) (fun E h9 hq => by cases hq.1)
      have hqq10 := hq
      obtain ⟨e9q10, Sq10, Fq10⟩ := hqq10
      cases e9q10
      show K (mX5_readPart d) _ _ 0 0 50 [(0, vr 63), (1, vi w)] [] hc9
      refine K_goto (tgt := 93) (dt_at dtX5_readPart 22 rfl) (by decide) ?_
      exact K_vret (dt_at dtX5_readPart 43 rfl) rfl (Nat.le_refl 0) (Nat.le_refl 0) ⟨rfl, by rw [paP_3 (by assumption) (by assumption)]; exact Sq10, Fq10⟩
    · rw [if_neg z6]
      refine K_if_eq (tgt := 53) (dt_at dtX5_readPart 19 rfl) (by decide) (by first | assumption | exact ⟨by omega, by omega⟩) (fun c8 => ?_) (fun c8 => absurd c8 (by omega))
      refine K_aload_n (dt_at dtX5_readPart 23 rfl) rfl rfl ?_
      refine K_get (a := 63) (ci := 5) (k := 0) (v := vr 64) (dt_at dtX5_readPart 24 rfl) (show TT 63 = (0, 5) from rfl) rfl (by decide) wF_X5_12 rfl ?_
      refine K_bipush (dt_at dtX5_readPart 25 rfl) (by decide) ?_
      refine K_callV (M' := mX9_isSign) (a := 64) (ci := 9) (As := [vi 40]) (st := []) (dt_at dtX5_readPart 26 rfl) (sX9_isSign S.1.1 S.1.2.1 (tk_G S.1.2.2.1) ⟨by omega, by omega⟩) (show TT 64 = (0, 9) from rfl) rfl wL_X5_146 vX9_isSign rfl npX9_isSign (by simp only [mR, mL, rmK, mX5_readPart, mX5_readProduct, mX5_readSum, mX5_readTest, mX5_readNot, mX5_readAnd, mX5_readExpr, mX5_couldBegin, mX5_isGoing, mX5_productStep, mX5_readNumber, mX5_readSign, mX5_readValue, mX5_stop, mX5_sumStep, mX5_testStep, mX6_add, mX9_isAnyWord, mX9_isNumber, mX9_isSign, mX9_isWord, mX9_pass]; omega) (by simp only [mR, mL, rmK, mX5_readPart, mX5_readProduct, mX5_readSum, mX5_readTest, mX5_readNot, mX5_readAnd, mX5_readExpr, mX5_couldBegin, mX5_isGoing, mX5_productStep, mX5_readNumber, mX5_readSign, mX5_readValue, mX5_stop, mX5_sumStep, mX5_testStep, mX6_add, mX9_isAnyWord, mX9_isNumber, mX9_isSign, mX9_isWord, mX9_pass]; omega) (Nat.le_of_ble_eq_true rfl) (Nat.le_refl 0) (Nat.le_refl 0) GK_E (fun v9 h9 hq => ?_) (fun E h9 hq => by cases hq.1)
      obtain ⟨e9, e8⟩ := hq
      cases e9
      rw [e8]
      show K (mX5_readPart d) _ _ 0 0 62 [(0, vr 63), (1, vi w)] [vi (if (tk tp n p).1 = 3 ∧ tp ((tk tp n p).2.1 : Int) = 40 then 1 else 0)] h
      by_cases z9 : (tk tp n p).1 = 3 ∧ tp ((tk tp n p).2.1 : Int) = 40
      · rw [if_pos z9]
        refine K_if_eq (tgt := 88) (dt_at dtX5_readPart 27 rfl) (by decide) (by first | assumption | exact ⟨by omega, by omega⟩) (fun c10 => absurd c10 (by omega)) (fun c10 => ?_)
        refine K_aload_n (dt_at dtX5_readPart 28 rfl) rfl rfl ?_
        refine K_get (a := 63) (ci := 5) (k := 0) (v := vr 64) (dt_at dtX5_readPart 29 rfl) (show TT 63 = (0, 5) from rfl) rfl (by decide) wF_X5_12 rfl ?_
        refine K_callV (M' := mX9_pass) (a := 64) (ci := 9) (As := []) (st := []) (dt_at dtX5_readPart 30 rfl) (pass_S hr S) (show TT 64 = (0, 9) from rfl) rfl wL_X5_97 vX9_pass rfl npX9_pass (by simp only [mR, mL, rmK, mX5_readPart, mX5_readProduct, mX5_readSum, mX5_readTest, mX5_readNot, mX5_readAnd, mX5_readExpr, mX5_couldBegin, mX5_isGoing, mX5_productStep, mX5_readNumber, mX5_readSign, mX5_readValue, mX5_stop, mX5_sumStep, mX5_testStep, mX6_add, mX9_isAnyWord, mX9_isNumber, mX9_isSign, mX9_isWord, mX9_pass]; omega) (by simp only [mR, mL, rmK, mX5_readPart, mX5_readProduct, mX5_readSum, mX5_readTest, mX5_readNot, mX5_readAnd, mX5_readExpr, mX5_couldBegin, mX5_isGoing, mX5_productStep, mX5_readNumber, mX5_readSign, mX5_readValue, mX5_stop, mX5_sumStep, mX5_testStep, mX6_add, mX9_isAnyWord, mX9_isNumber, mX9_isSign, mX9_isWord, mX9_pass]; omega) (Nat.le_of_ble_eq_true rfl) (Nat.le_refl 0) (Nat.le_refl 0) GK_E (fun v9 hc11 hq => ?_) (fun E h9 hq => by cases hq.1)
        have hqq12 := hq
        obtain ⟨e9q12, Sq12, Gq12⟩ := hqq12
        have Fq12 := RF_tr (RF_rf : RF r h h) Gq12
        cases e9q12
        show K (mX5_readPart d) _ _ 0 0 72 [(0, vr 63), (1, vi w)] [] hc11
        refine K_aload_n (dt_at dtX5_readPart 31 rfl) rfl rfl ?_
        refine K_iload_n (dt_at dtX5_readPart 32 rfl) rfl rfl ?_
        refine K_iconst (dt_at dtX5_readPart 33 rfl) ?_
        refine K_iadd (dt_at dtX5_readPart 34 rfl) ?_
        have z3 : Sg tp (tk tp n p) 40 := by assumption
        have z31 := z3.1
        have ht := tk_lt S.1.2.2.1 (by omega : (tk tp n p).1 ≠ 0)
        refine K_callV (M' := (mX5_readExpr d)) (a := 63) (ci := 5) (As := [vi (w + 1)]) (st := []) (dt_at dtX5_readPart 35 rfl) (hE _ _ _ Sq12 (by omega)) (show TT 63 = (0, 5) from rfl) rfl wL_X5_157 vX5_readExpr rfl npX5_readExpr (by simp only [mR, mL, rmK, mX5_readPart, mX5_readProduct, mX5_readSum, mX5_readTest, mX5_readNot, mX5_readAnd, mX5_readExpr, mX5_couldBegin, mX5_isGoing, mX5_productStep, mX5_readNumber, mX5_readSign, mX5_readValue, mX5_stop, mX5_sumStep, mX5_testStep, mX6_add, mX9_isAnyWord, mX9_isNumber, mX9_isSign, mX9_isWord, mX9_pass]; omega) (by simp only [mR, mL, rmK, mX5_readPart, mX5_readProduct, mX5_readSum, mX5_readTest, mX5_readNot, mX5_readAnd, mX5_readExpr, mX5_couldBegin, mX5_isGoing, mX5_productStep, mX5_readNumber, mX5_readSign, mX5_readValue, mX5_stop, mX5_sumStep, mX5_testStep, mX6_add, mX9_isAnyWord, mX9_isNumber, mX9_isSign, mX9_isWord, mX9_pass]; omega) (Nat.le_of_ble_eq_true rfl) (Nat.le_refl 0) (Nat.le_refl 0) GK_E (fun v9 hc13 hq => ?_) (fun E h9 hq => by cases hq.1)
        have hqq14 := hq
        obtain ⟨e9q14, Pq14, Gq14⟩ := hqq14
        have Fq14 := RF_tr Fq12 Gq14
        cases e9q14
        show K (mX5_readPart d) _ _ 0 0 79 [(0, vr 63), (1, vi w)] [] hc13
        rcases uq14 : exP tp n pu d ((tk tp n p).2.2) with ⟨ekq14, epq14⟩ | ⟨pq14, Mq14⟩
        · rw [uq14] at Pq14
          have Sq14 : ES hc13 tp n r (ekq14, epq14) := Pq14
          refine K_aload_n (dt_at dtX5_readPart 36 rfl) rfl rfl ?_
          refine K_bipush (dt_at dtX5_readPart 37 rfl) (by decide) ?_
          refine K_callV (M' := mX5_readSign) (a := 63) (ci := 5) (As := [vi 41]) (st := []) (dt_at dtX5_readPart 38 rfl) (sX5_readSign_e Sq14.1) (show TT 63 = (0, 5) from rfl) rfl wL_X5_90 vX5_readSign rfl npX5_readSign (by simp only [mR, mL, rmK, mX5_readPart, mX5_readProduct, mX5_readSum, mX5_readTest, mX5_readNot, mX5_readAnd, mX5_readExpr, mX5_couldBegin, mX5_isGoing, mX5_productStep, mX5_readNumber, mX5_readSign, mX5_readValue, mX5_stop, mX5_sumStep, mX5_testStep, mX6_add, mX9_isAnyWord, mX9_isNumber, mX9_isSign, mX9_isWord, mX9_pass]; omega) (by simp only [mR, mL, rmK, mX5_readPart, mX5_readProduct, mX5_readSum, mX5_readTest, mX5_readNot, mX5_readAnd, mX5_readExpr, mX5_couldBegin, mX5_isGoing, mX5_productStep, mX5_readNumber, mX5_readSign, mX5_readValue, mX5_stop, mX5_sumStep, mX5_testStep, mX6_add, mX9_isAnyWord, mX9_isNumber, mX9_isSign, mX9_isWord, mX9_pass]; omega) (Nat.le_of_ble_eq_true rfl) (Nat.le_refl 0) (Nat.le_refl 0) GK_E (fun v9 h9 hq => ?_) (fun E h9 hq => by cases hq.1)
          obtain ⟨e9, e8⟩ := hq
          cases e9
          rw [e8]
          show K (mX5_readPart d) _ _ 0 0 85 [(0, vr 63), (1, vi w)] [] hc13
          refine K_goto (tgt := 93) (dt_at dtX5_readPart 39 rfl) (by decide) ?_
          exact K_vret (dt_at dtX5_readPart 43 rfl) rfl (Nat.le_refl 0) (Nat.le_refl 0) ⟨rfl, by rw [paP_4 (by assumption) (by assumption) (by assumption), uq14]; exact Sq14, Fq14⟩
        · rw [uq14] at Pq14
          have Sq14 : GS hc13 tp n r pu (L ++ Mq14) pq14 := Pq14
          have bq14 := (PO_ex d) _ _ _ (GS_n Sq12).1 uq14
          refine K_aload_n (dt_at dtX5_readPart 36 rfl) rfl rfl ?_
          refine K_bipush (dt_at dtX5_readPart 37 rfl) (by decide) ?_
          by_cases z11 : Sg tp (tk tp n pq14) 41
          · refine K_callV (M' := mX5_readSign) (a := 63) (ci := 5) (As := [vi 41]) (st := []) (dt_at dtX5_readPart 38 rfl) (sign_t hr Sq14 ⟨by omega, by omega⟩ z11) (show TT 63 = (0, 5) from rfl) rfl wL_X5_90 vX5_readSign rfl npX5_readSign (by simp only [mR, mL, rmK, mX5_readPart, mX5_readProduct, mX5_readSum, mX5_readTest, mX5_readNot, mX5_readAnd, mX5_readExpr, mX5_couldBegin, mX5_isGoing, mX5_productStep, mX5_readNumber, mX5_readSign, mX5_readValue, mX5_stop, mX5_sumStep, mX5_testStep, mX6_add, mX9_isAnyWord, mX9_isNumber, mX9_isSign, mX9_isWord, mX9_pass]; omega) (by simp only [mR, mL, rmK, mX5_readPart, mX5_readProduct, mX5_readSum, mX5_readTest, mX5_readNot, mX5_readAnd, mX5_readExpr, mX5_couldBegin, mX5_isGoing, mX5_productStep, mX5_readNumber, mX5_readSign, mX5_readValue, mX5_stop, mX5_sumStep, mX5_testStep, mX6_add, mX9_isAnyWord, mX9_isNumber, mX9_isSign, mX9_isWord, mX9_pass]; omega) (Nat.le_of_ble_eq_true rfl) (Nat.le_refl 0) (Nat.le_refl 0) GK_E (fun v9 hc15 hq => ?_) (fun E h9 hq => by cases hq.1)
            have hqq16 := hq
            obtain ⟨e9q16, Sq16, Gq16⟩ := hqq16
            have Fq16 := RF_tr Fq14 Gq16
            cases e9q16
            show K (mX5_readPart d) _ _ 0 0 85 [(0, vr 63), (1, vi w)] [] hc15
            refine K_goto (tgt := 93) (dt_at dtX5_readPart 39 rfl) (by decide) ?_
            exact K_vret (dt_at dtX5_readPart 43 rfl) rfl (Nat.le_refl 0) (Nat.le_refl 0) ⟨rfl, by rw [paP_4 (by assumption) (by assumption) (by assumption), uq14, clP_t z11]; exact Sq16, Fq16⟩
          · refine K_callV (M' := mX5_readSign) (a := 63) (ci := 5) (As := [vi 41]) (st := []) (dt_at dtX5_readPart 38 rfl) (sign_f hr Sq14 (by rw [List.length_append]; omega) ⟨by omega, by omega⟩ z11) (show TT 63 = (0, 5) from rfl) rfl wL_X5_90 vX5_readSign rfl npX5_readSign (by simp only [mR, mL, rmK, mX5_readPart, mX5_readProduct, mX5_readSum, mX5_readTest, mX5_readNot, mX5_readAnd, mX5_readExpr, mX5_couldBegin, mX5_isGoing, mX5_productStep, mX5_readNumber, mX5_readSign, mX5_readValue, mX5_stop, mX5_sumStep, mX5_testStep, mX6_add, mX9_isAnyWord, mX9_isNumber, mX9_isSign, mX9_isWord, mX9_pass]; omega) (by simp only [mR, mL, rmK, mX5_readPart, mX5_readProduct, mX5_readSum, mX5_readTest, mX5_readNot, mX5_readAnd, mX5_readExpr, mX5_couldBegin, mX5_isGoing, mX5_productStep, mX5_readNumber, mX5_readSign, mX5_readValue, mX5_stop, mX5_sumStep, mX5_testStep, mX6_add, mX9_isAnyWord, mX9_isNumber, mX9_isSign, mX9_isWord, mX9_pass]; omega) (Nat.le_of_ble_eq_true rfl) (Nat.le_refl 0) (Nat.le_refl 0) GK_E (fun v9 hc17 hq => ?_) (fun E h9 hq => by cases hq.1)
            have hqq18 := hq
            obtain ⟨e9q18, Sq18, Gq18⟩ := hqq18
            have Fq18 := RF_tr Fq14 Gq18
            cases e9q18
            show K (mX5_readPart d) _ _ 0 0 85 [(0, vr 63), (1, vi w)] [] hc17
            refine K_goto (tgt := 93) (dt_at dtX5_readPart 39 rfl) (by decide) ?_
            exact K_vret (dt_at dtX5_readPart 43 rfl) rfl (Nat.le_refl 0) (Nat.le_refl 0) ⟨rfl, by rw [paP_4 (by assumption) (by assumption) (by assumption), uq14, clP_f z11]; exact Sq18, Fq18⟩
      · rw [if_neg z9]
        refine K_if_eq (tgt := 88) (dt_at dtX5_readPart 27 rfl) (by decide) (by first | assumption | exact ⟨by omega, by omega⟩) (fun c12 => ?_) (fun c12 => absurd c12 (by omega))
        refine K_aload_n (dt_at dtX5_readPart 40 rfl) rfl rfl ?_
        refine K_iconst (dt_at dtX5_readPart 41 rfl) ?_
        refine K_callV (M' := mX5_stop) (a := 63) (ci := 5) (As := [vi 1]) (st := []) (dt_at dtX5_readPart 42 rfl) (stop_S hr S (by omega) ⟨by omega, by omega⟩) (show TT 63 = (0, 5) from rfl) rfl wL_X5_86 vX5_stop rfl npX5_stop (by simp only [mR, mL, rmK, mX5_readPart, mX5_readProduct, mX5_readSum, mX5_readTest, mX5_readNot, mX5_readAnd, mX5_readExpr, mX5_couldBegin, mX5_isGoing, mX5_productStep, mX5_readNumber, mX5_readSign, mX5_readValue, mX5_stop, mX5_sumStep, mX5_testStep, mX6_add, mX9_isAnyWord, mX9_isNumber, mX9_isSign, mX9_isWord, mX9_pass]; omega) (by simp only [mR, mL, rmK, mX5_readPart, mX5_readProduct, mX5_readSum, mX5_readTest, mX5_readNot, mX5_readAnd, mX5_readExpr, mX5_couldBegin, mX5_isGoing, mX5_productStep, mX5_readNumber, mX5_readSign, mX5_readValue, mX5_stop, mX5_sumStep, mX5_testStep, mX6_add, mX9_isAnyWord, mX9_isNumber, mX9_isSign, mX9_isWord, mX9_pass]; omega) (Nat.le_of_ble_eq_true rfl) (Nat.le_refl 0) (Nat.le_refl 0) GK_E (fun v9 hc19 hq => ?_) (fun E h9 hq => by cases hq.1)
        have hqq20 := hq
        obtain ⟨e9q20, Sq20, Gq20⟩ := hqq20
        have Fq20 := RF_tr (RF_rf : RF r h h) Gq20
        cases e9q20
        show K (mX5_readPart d) _ _ 0 0 93 [(0, vr 63), (1, vi w)] [] hc19
        exact K_vret (dt_at dtX5_readPart 43 rfl) rfl (Nat.le_refl 0) (Nat.le_refl 0) ⟨rfl, by rw [paP_5 (by assumption) (by assumption) (by assumption)]; exact Sq20, Fq20⟩
