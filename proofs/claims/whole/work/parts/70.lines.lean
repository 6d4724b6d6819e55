/-! lines of a HOUSE, purely; the class's lines -/
def nuP (tp : Int → Int) (n : Nat) (lo up : Int) (p : Nat) : (Int × Nat) ⊕ (Int × Nat) :=
  if (tk tp n p).1 = 2 then (if (tk tp n p).2.1 + 4 < (tk tp n p).2.2 ∨ nmT tp (tk tp n p) < lo ∨ up < nmT tp (tk tp n p) then .inl (2, (tk tp n p).2.1) else .inr (nmT tp (tk tp n p), (tk tp n p).2.2)) else .inl (1, (tk tp n p).2.1)
theorem nuP_b {tp : Int → Int} {n p q : Nat} {lo up v : Int} (h : nuP tp n lo up p = .inr (v, q)) : lo ≤ v ∧ v ≤ up ∧ (tk tp n p).1 = 2 ∧ q = (tk tp n p).2.2 := by
  unfold nuP at h
  by_cases c1 : (tk tp n p).1 = 2
  · rw [if_pos c1] at h
    by_cases c2 : (tk tp n p).2.1 + 4 < (tk tp n p).2.2 ∨ nmT tp (tk tp n p) < lo ∨ up < nmT tp (tk tp n p)
    · rw [if_pos c2] at h; cases h
    · rw [if_neg c2] at h
      obtain ⟨rfl, rfl⟩ := Prod.mk.inj (Sum.inr.inj h)
      exact ⟨by omega, by omega, c1, rfl⟩
  · rw [if_neg c1] at h; cases h
def pakP (tp : Int → Int) (n : Nat) (me : Int) (p : Nat) : (Int × Nat) ⊕ (Int × Nat) := if (tk tp n p).1 = 2 ∧ ¬ (tk tp n p).2.1 + 4 < (tk tp n p).2.2 ∧ nmT tp (tk tp n p) = me then .inl (4, (tk tp n p).2.1) else nuP tp n 0 6 p
/-- a THING behind its word: weight, use, stock -/
def thN (tp : Int → Int) (n p : Nat) : (Int × Nat) ⊕ (Int × Int × Int × Nat) := match nuP tp n 1 20 p with
  | .inl e => .inl e
  | .inr (w, p1) => match nuP tp n 0 9 p1 with
    | .inl e => .inl e
    | .inr (u, p2) => match nuP tp n 0 9 p2 with
      | .inl e => .inl e
      | .inr (s, p3) => .inr (w, u, s, p3)
/-- a packer, if it is told -/
def byP (tp : Int → Int) (n : Nat) (me : Int) (p : Nat) : (Int × Nat) ⊕ (Int × Nat) := if isWb tp (tk tp n p) 2 = true then pakP tp n me (tk tp n p).2.2 else .inr (-1, p)
/-- a PERSON behind its word: holds, every, away, fond, by -/
def peN (tp : Int → Int) (n : Nat) (me : Int) (p : Nat) : (Int × Nat) ⊕ (Int × Int × Int × Int × Int × Nat) := match nuP tp n 0 60 p with
  | .inl e => .inl e
  | .inr (a, p1) => match nuP tp n 2 9 p1 with
    | .inl e => .inl e
    | .inr (b, p2) => match nuP tp n 1 (b - 1) p2 with
      | .inl e => .inl e
      | .inr (c, p3) => match nuP tp n 0 9 p3 with
        | .inl e => .inl e
        | .inr (f, p4) => match byP tp n me p4 with
          | .inl e => .inl e
          | .inr (y, p5) => .inr (a, b, c, f, y, p5)
abbrev TX : List (Nat × Nat) := [(64, 1), (64, 2), (64, 3), (64, 4), (63, 4), (63, 5)]
theorem TX_n {li : List (Nat × Nat)} (h : TX.all (fun x => !li.contains x) = true) {x : Nat × Nat} (hx : x ∈ TX) : li.contains x = false := by
  have := List.all_eq_true.mp h x hx
  simpa using this
theorem TG_up {h h' : HP} {tp : Int → Int} {n p : Nat} {la : List Nat} {li lr : List (Nat × Nat)} (A : TG h tp n p) (F : FL la li lr h h') (h0 : la.contains 31 = false) (h1 : TX.all (fun x => !li.contains x) = true) (h3 : lr.contains (64, 0) = false) : TG h' tp n p :=
  ⟨TxR_FL A.1 F h0 (TX_n h1 (by decide)) h3, TkR_FL A.2.1 F (TX_n h1 (by decide)) (TX_n h1 (by decide)) (TX_n h1 (by decide)), A.2.2.1, by rw [F.2.1 63 4 (TX_n h1 (by decide))]; exact A.2.2.2⟩
theorem TE_up {h h' : HP} {tp : Int → Int} {n : Nat} {e : Int × Nat} {la : List Nat} {li lr : List (Nat × Nat)} (A : TE h tp n e) (F : FL la li lr h h') (h0 : la.contains 31 = false) (h1 : TX.all (fun x => !li.contains x) = true) (h3 : lr.contains (64, 0) = false) : TE h' tp n e := by
  obtain ⟨a1, ⟨t, a2, a3⟩, a4, a5, a6⟩ := A
  exact ⟨TxR_FL a1 F h0 (TX_n h1 (by decide)) h3, ⟨t, TkR_FL a2 F (TX_n h1 (by decide)) (TX_n h1 (by decide)) (TX_n h1 (by decide)), a3⟩, a4, by rw [F.2.1 63 4 (TX_n h1 (by decide))]; exact a5, by rw [F.2.1 63 5 (TX_n h1 (by decide))]; exact a6⟩
def NP (h : HP) (tp : Int → Int) (n : Nat) (o : AO) : (Int × Nat) ⊕ (Int × Nat) → Prop
  | .inl e => o = .inl (some (vi 0)) ∧ TE h tp n e
  | .inr (v, q) => o = .inl (some (vi v)) ∧ TG h tp n q
theorem num_P {h : HP} {tp : Int → Int} {n p : Nat} {lo up : Int} (A : TG h tp n p) (hlo : i32 lo) (hup : i32 up) : SpecK mX5_readNumber [vr 63, vi lo, vi up] h (fun o h' => (∃ x, o = .inl (some (vi x))) ∧ NP h' tp n o (nuP tp n lo up p) ∧ FL [] TR [] h h') := by
  unfold nuP
  by_cases c1 : (tk tp n p).1 = 2
  · rw [if_pos c1]
    by_cases c2 : (tk tp n p).2.1 + 4 < (tk tp n p).2.2 ∨ nmT tp (tk tp n p) < lo ∨ up < nmT tp (tk tp n p)
    · rw [if_pos c2]
      exact Spec_mono (fun o h' q => ⟨⟨_, q.1⟩, ⟨q.1, q.2.1⟩, q.2.2⟩) (sX5_readNumber_g A hlo hup c1 c2)
    · rw [if_neg c2]
      exact Spec_mono (fun o h' q => ⟨⟨_, q.1⟩, ⟨q.1, q.2.1⟩, q.2.2⟩) (sX5_readNumber_t A hlo hup c1 (by omega) ⟨by omega, by omega⟩)
  · rw [if_neg c1]
    exact Spec_mono (fun o h' q => ⟨⟨_, q.1⟩, ⟨q.1, q.2.1⟩, q.2.2⟩) (sX5_readNumber_f A hlo hup c1)
def mX5_readPacker : MI := (yX5_readPacker, cX5_readPacker, 3, (some .int), rmK 4 0)
def tX5_readPacker : List (Nat × Instr × Nat) := [(0, .aload_n 0, 1), (1, .getfield 12, 3), (4, .invokevirtual 137, 3), (7, .ifCond .eq 28, 3), (10, .aload_n 0, 1), (11, .getfield 12, 3), (14, .invokevirtual 140, 3), (17, .ifCond .ne 18, 3), (20, .aload_n 0, 1), (21, .getfield 12, 3), (24, .invokevirtual 143, 3), (27, .iload_n 1, 1), (28, .if_icmp .ne 7, 3), (31, .iconst 1, 1), (32, .goto 4, 3), (35, .iconst 0, 1), (36, .istore_n 2, 1), (37, .iload_n 2, 1), (38, .ifCond .eq 8, 3), (41, .aload_n 0, 1), (42, .iconst 4, 1), (43, .invokevirtual 86, 3), (46, .aload_n 0, 1), (47, .iconst 0, 1), (48, .bipush 6, 2), (50, .invokevirtual 104, 3), (53, .ireturn, 1)]
theorem dtX5_readPacker : tX5_readPacker.all (fun q => decide (decode cX5_readPacker q.1 = .ok (q.2.1, q.2.2))) = true := by decide +kernel
theorem npX5_readPacker : (parseMethodDescriptor (mY mX5_readPacker).desc).map (fun d => d.parameters.length) = some 1 := by decide +kernel
theorem vX5_readPacker : mV mX5_readPacker := ⟨wI_X5_readPacker, wS_X5_readPacker, wN_X5, wC_X5_readPacker, by decide +kernel, by decide +kernel⟩
set_option maxHeartbeats 4000000 in
set_option maxRecDepth 100000 in
theorem sX5_readPacker {h : HP} {tp : Int → Int} {n p : Nat} {me : Int} (A : TG h tp n p) (hme : 0 ≤ me ∧ me < 7) : SpecK mX5_readPacker [vr 63, vi me] h (fun o h' => (∃ x, o = .inl (some (vi x))) ∧ NP h' tp n o (pakP tp n me p) ∧ FL [] TR [] h h') := by
  refine Spec_of (by decide +kernel) (Nat.le_of_ble_eq_true rfl) ?_
  refine K_aload_n (dt_at dtX5_readPacker 0 rfl) rfl rfl ?_
  refine K_get (a := 63) (ci := 5) (k := 0) (v := vr 64) (dt_at dtX5_readPacker 1 rfl) (show TT 63 = (0, 5) from rfl) rfl (by decide) wF_X5_12 rfl ?_
  have Aq1 : TG h tp n p := A
  refine K_callV (M' := mX9_isNumber) (a := 64) (ci := 9) (As := []) (st := []) (dt_at dtX5_readPacker 2 rfl) (sX9_isNumber Aq1.1 Aq1.2.1 (tk_G Aq1.2.2.1)) (show TT 64 = (0, 9) from rfl) rfl wL_X5_137 vX9_isNumber rfl npX9_isNumber (by decide) (by decide) (Nat.le_of_ble_eq_true rfl) (by decide) (by decide) GK_E (fun v9 h9 hq => ?_) (fun E h9 hq => by cases hq.1)
  obtain ⟨e9, e8⟩ := hq
  cases e9
  rw [e8]
  show K mX5_readPacker _ _ 0 0 7 [(0, vr 63), (1, vi me)] [vi (if (tk tp n p).1 = 2 then 1 else 0)] h
  by_cases z1 : (tk tp n p).1 = 2
  · rw [if_pos z1]
    refine K_if_eq (tgt := 35) (dt_at dtX5_readPacker 3 rfl) (by decide) (by first | assumption | exact ⟨by omega, by omega⟩) (fun c2 => absurd c2 (by omega)) (fun c2 => ?_)
    refine K_aload_n (dt_at dtX5_readPacker 4 rfl) rfl rfl ?_
    refine K_get (a := 63) (ci := 5) (k := 0) (v := vr 64) (dt_at dtX5_readPacker 5 rfl) (show TT 63 = (0, 5) from rfl) rfl (by decide) wF_X5_12 rfl ?_
    have Aq2 : TG h tp n p := A
    refine K_callV (M' := mX9_isTooLong) (a := 64) (ci := 9) (As := []) (st := []) (dt_at dtX5_readPacker 6 rfl) (sX9_isTooLong Aq2.1 Aq2.2.1 (tk_G Aq2.2.2.1)) (show TT 64 = (0, 9) from rfl) rfl wL_X5_140 vX9_isTooLong rfl npX9_isTooLong (by decide) (by decide) (Nat.le_of_ble_eq_true rfl) (by decide) (by decide) GK_E (fun v9 h9 hq => ?_) (fun E h9 hq => by cases hq.1)
    obtain ⟨e9, e8⟩ := hq
    cases e9
    rw [e8]
    show K mX5_readPacker _ _ 0 0 17 [(0, vr 63), (1, vi me)] [vi (if (tk tp n p).2.1 + 4 < (tk tp n p).2.2 then 1 else 0)] h
    by_cases z3 : (tk tp n p).2.1 + 4 < (tk tp n p).2.2
    · rw [if_pos z3]
      refine K_if_ne (tgt := 35) (dt_at dtX5_readPacker 7 rfl) (by decide) (by first | assumption | exact ⟨by omega, by omega⟩) (fun c4 => ?_) (fun c4 => absurd c4 (by omega))
      refine K_iconst (dt_at dtX5_readPacker 15 rfl) ?_
      refine K_istore_n (ls' := [(2, vi 0), (0, vr 63), (1, vi me)]) (dt_at dtX5_readPacker 16 rfl) rfl (by decide) rfl ?_
      refine K_iload_n (dt_at dtX5_readPacker 17 rfl) rfl rfl ?_
      refine K_if_eq (tgt := 46) (dt_at dtX5_readPacker 18 rfl) (by decide) (by first | assumption | exact ⟨by omega, by omega⟩) (fun c5 => ?_) (fun c5 => absurd c5 (by omega))
      refine K_aload_n (dt_at dtX5_readPacker 22 rfl) rfl rfl ?_
      refine K_iconst (dt_at dtX5_readPacker 23 rfl) ?_
      refine K_bipush (dt_at dtX5_readPacker 24 rfl) (by decide) ?_
      have Aq3 : TG h tp n p := A
      refine K_callV (M' := mX5_readNumber) (a := 63) (ci := 5) (As := [vi 0, vi 6]) (st := []) (dt_at dtX5_readPacker 25 rfl) (num_P Aq3 ⟨by omega, by omega⟩ ⟨by omega, by omega⟩) (show TT 63 = (0, 5) from rfl) rfl wL_X5_104 vX5_readNumber rfl npX5_readNumber (by decide) (by decide) (Nat.le_of_ble_eq_true rfl) (by decide) (by decide) GK_E (fun v9 hcq3 hq => ?_) (fun E h9 hq => by obtain ⟨⟨_, e9⟩, _⟩ := hq; cases e9)
      obtain ⟨-, Nq3, Fq3⟩ := hq
      rcases uq3 : nuP tp n 0 6 p with ekq3 | ⟨vq3, pq3⟩
      · rw [uq3] at Nq3
        obtain ⟨e9, Bq3⟩ := Nq3
        cases e9
        show K mX5_readPacker _ _ 0 0 53 [(2, vi 0), (0, vr 63), (1, vi me)] [vi 0] hcq3
        exact K_iret (dt_at dtX5_readPacker 26 rfl) rfl rfl (by decide) (by decide) ⟨⟨_, rfl⟩, by rw [pakP, if_neg (by omega), uq3]; exact ⟨rfl, Bq3⟩, (FL_tr (FL_rf : FL [] TR [] h h) (FL_up Fq3 rfl rfl rfl))⟩
      · rw [uq3] at Nq3
        obtain ⟨e9, Bq3⟩ := Nq3
        cases e9
        show K mX5_readPacker _ _ 0 0 53 [(2, vi 0), (0, vr 63), (1, vi me)] [vi vq3] hcq3
        have bq3 := nuP_b uq3
        exact K_iret (dt_at dtX5_readPacker 26 rfl) rfl rfl (by decide) (by decide) ⟨⟨_, rfl⟩, by rw [pakP, if_neg (by omega), uq3]; exact ⟨rfl, Bq3⟩, (FL_tr (FL_rf : FL [] TR [] h h) (FL_up Fq3 rfl rfl rfl))⟩
    · rw [if_neg z3]
      refine K_if_ne (tgt := 35) (dt_at dtX5_readPacker 7 rfl) (by decide) (by first | assumption | exact ⟨by omega, by omega⟩) (fun c6 => absurd c6 (by omega)) (fun c6 => ?_)
      refine K_aload_n (dt_at dtX5_readPacker 8 rfl) rfl rfl ?_
      refine K_get (a := 63) (ci := 5) (k := 0) (v := vr 64) (dt_at dtX5_readPacker 9 rfl) (show TT 63 = (0, 5) from rfl) rfl (by decide) wF_X5_12 rfl ?_
      refine K_callV (M' := mX9_number) (a := 64) (ci := 9) (As := []) (st := []) (dt_at dtX5_readPacker 10 rfl) (sX9_number A.1 A.2.1 (tk_G A.2.2.1) (by assumption)) (show TT 64 = (0, 9) from rfl) rfl wL_X5_143 vX9_number rfl npX9_number (by decide) (by decide) (Nat.le_of_ble_eq_true rfl) (by decide) (by decide) GK_E (fun v9 h9 hq => ?_) (fun E h9 hq => by cases hq.1)
      obtain ⟨e9, e8⟩ := hq
      cases e9
      rw [e8]
      show K mX5_readPacker _ _ 0 0 27 [(0, vr 63), (1, vi me)] [vi (nmT tp (tk tp n p))] h
      have nb := nmT_b (tk_G A.2.2.1) (by assumption : (tk tp n p).1 = 2)
      refine K_iload_n (dt_at dtX5_readPacker 11 rfl) rfl rfl ?_
      refine K_icmp_ne (tgt := 35) (dt_at dtX5_readPacker 12 rfl) (by decide) (by first | assumption | exact ⟨by omega, by omega⟩) (by first | assumption | exact ⟨by omega, by omega⟩) (fun c7 => ?_) (fun c7 => ?_)
      · refine K_iconst (dt_at dtX5_readPacker 15 rfl) ?_
        refine K_istore_n (ls' := [(2, vi 0), (0, vr 63), (1, vi me)]) (dt_at dtX5_readPacker 16 rfl) rfl (by decide) rfl ?_
        refine K_iload_n (dt_at dtX5_readPacker 17 rfl) rfl rfl ?_
        refine K_if_eq (tgt := 46) (dt_at dtX5_readPacker 18 rfl) (by decide) (by first | assumption | exact ⟨by omega, by omega⟩) (fun c8 => ?_) (fun c8 => absurd c8 (by omega))
        refine K_aload_n (dt_at dtX5_readPacker 22 rfl) rfl rfl ?_
        refine K_iconst (dt_at dtX5_readPacker 23 rfl) ?_
        refine K_bipush (dt_at dtX5_readPacker 24 rfl) (by decide) ?_
        have Aq4 : TG h tp n p := A
        refine K_callV (M' := mX5_readNumber) (a := 63) (ci := 5) (As := [vi 0, vi 6]) (st := []) (dt_at dtX5_readPacker 25 rfl) (num_P Aq4 ⟨by omega, by omega⟩ ⟨by omega, by omega⟩) (show TT 63 = (0, 5) from rfl) rfl wL_X5_104 vX5_readNumber rfl npX5_readNumber (by decide) (by decide) (Nat.le_of_ble_eq_true rfl) (by decide) (by decide) GK_E (fun v9 hcq4 hq => ?_) (fun E h9 hq => by obtain ⟨⟨_, e9⟩, _⟩ := hq; cases e9)
        obtain ⟨-, Nq4, Fq4⟩ := hq
        rcases uq4 : nuP tp n 0 6 p with ekq4 | ⟨vq4, pq4⟩
        · rw [uq4] at Nq4
          obtain ⟨e9, Bq4⟩ := Nq4
          cases e9
          show K mX5_readPacker _ _ 0 0 53 [(2, vi 0), (0, vr 63), (1, vi me)] [vi 0] hcq4
          exact K_iret (dt_at dtX5_readPacker 26 rfl) rfl rfl (by decide) (by decide) ⟨⟨_, rfl⟩, by rw [pakP, if_neg (by omega), uq4]; exact ⟨rfl, Bq4⟩, (FL_tr (FL_rf : FL [] TR [] h h) (FL_up Fq4 rfl rfl rfl))⟩
        · rw [uq4] at Nq4
          obtain ⟨e9, Bq4⟩ := Nq4
          cases e9
          show K mX5_readPacker _ _ 0 0 53 [(2, vi 0), (0, vr 63), (1, vi me)] [vi vq4] hcq4
          have bq4 := nuP_b uq4
          exact K_iret (dt_at dtX5_readPacker 26 rfl) rfl rfl (by decide) (by decide) ⟨⟨_, rfl⟩, by rw [pakP, if_neg (by omega), uq4]; exact ⟨rfl, Bq4⟩, (FL_tr (FL_rf : FL [] TR [] h h) (FL_up Fq4 rfl rfl rfl))⟩
      · refine K_iconst (dt_at dtX5_readPacker 13 rfl) ?_
        refine K_goto (tgt := 36) (dt_at dtX5_readPacker 14 rfl) (by decide) ?_
        refine K_istore_n (ls' := [(2, vi 1), (0, vr 63), (1, vi me)]) (dt_at dtX5_readPacker 16 rfl) rfl (by decide) rfl ?_
        refine K_iload_n (dt_at dtX5_readPacker 17 rfl) rfl rfl ?_
        refine K_if_eq (tgt := 46) (dt_at dtX5_readPacker 18 rfl) (by decide) (by first | assumption | exact ⟨by omega, by omega⟩) (fun c9 => absurd c9 (by omega)) (fun c9 => ?_)
        refine K_aload_n (dt_at dtX5_readPacker 19 rfl) rfl rfl ?_
        refine K_iconst (dt_at dtX5_readPacker 20 rfl) ?_
        have Aq5 : TG h tp n p := A
        refine K_callV (M' := mX5_stop) (a := 63) (ci := 5) (As := [vi 4]) (st := []) (dt_at dtX5_readPacker 21 rfl) (sX5_stop Aq5 ⟨by omega, by omega⟩) (show TT 63 = (0, 5) from rfl) rfl wL_X5_86 vX5_stop rfl npX5_stop (by decide) (by decide) (Nat.le_of_ble_eq_true rfl) (by decide) (by decide) GK_E (fun v9 hc6 hq => ?_) (fun E h9 hq => by cases hq.1)
        have hqq7 := hq
        obtain ⟨e9q7, Bq7, Fq7⟩ := hqq7
        cases e9q7
        show K mX5_readPacker _ _ 0 0 46 [(2, vi 1), (0, vr 63), (1, vi me)] [] hc6
        refine K_aload_n (dt_at dtX5_readPacker 22 rfl) rfl rfl ?_
        refine K_iconst (dt_at dtX5_readPacker 23 rfl) ?_
        refine K_bipush (dt_at dtX5_readPacker 24 rfl) (by decide) ?_
        have Aq8 : TE hc6 tp n (4, (tk tp n p).2.1) := Bq7
        refine K_callV (M' := mX5_readNumber) (a := 63) (ci := 5) (As := [vi 0, vi 6]) (st := []) (dt_at dtX5_readPacker 25 rfl) (sX5_readNumber_e Aq8) (show TT 63 = (0, 5) from rfl) rfl wL_X5_104 vX5_readNumber rfl npX5_readNumber (by decide) (by decide) (Nat.le_of_ble_eq_true rfl) (by decide) (by decide) GK_E (fun v9 h9 hq => ?_) (fun E h9 hq => by cases hq.1)
        obtain ⟨e9, e8⟩ := hq
        cases e9
        rw [e8]
        show K mX5_readPacker _ _ 0 0 53 [(2, vi 1), (0, vr 63), (1, vi me)] [vi 0] hc6
        exact K_iret (dt_at dtX5_readPacker 26 rfl) rfl rfl (by decide) (by decide) ⟨⟨_, rfl⟩, by rw [pakP, if_pos ⟨by assumption, by assumption, by assumption⟩]; exact ⟨rfl, Bq7⟩, (FL_tr (FL_rf : FL [] TR [] h h) (FL_up Fq7 rfl rfl rfl))⟩
  · rw [if_neg z1]
    refine K_if_eq (tgt := 35) (dt_at dtX5_readPacker 3 rfl) (by decide) (by first | assumption | exact ⟨by omega, by omega⟩) (fun c10 => ?_) (fun c10 => absurd c10 (by omega))
    refine K_iconst (dt_at dtX5_readPacker 15 rfl) ?_
    refine K_istore_n (ls' := [(2, vi 0), (0, vr 63), (1, vi me)]) (dt_at dtX5_readPacker 16 rfl) rfl (by decide) rfl ?_
    refine K_iload_n (dt_at dtX5_readPacker 17 rfl) rfl rfl ?_
    refine K_if_eq (tgt := 46) (dt_at dtX5_readPacker 18 rfl) (by decide) (by first | assumption | exact ⟨by omega, by omega⟩) (fun c11 => ?_) (fun c11 => absurd c11 (by omega))
    refine K_aload_n (dt_at dtX5_readPacker 22 rfl) rfl rfl ?_
    refine K_iconst (dt_at dtX5_readPacker 23 rfl) ?_
    refine K_bipush (dt_at dtX5_readPacker 24 rfl) (by decide) ?_
    have Aq9 : TG h tp n p := A
    refine K_callV (M' := mX5_readNumber) (a := 63) (ci := 5) (As := [vi 0, vi 6]) (st := []) (dt_at dtX5_readPacker 25 rfl) (num_P Aq9 ⟨by omega, by omega⟩ ⟨by omega, by omega⟩) (show TT 63 = (0, 5) from rfl) rfl wL_X5_104 vX5_readNumber rfl npX5_readNumber (by decide) (by decide) (Nat.le_of_ble_eq_true rfl) (by decide) (by decide) GK_E (fun v9 hcq9 hq => ?_) (fun E h9 hq => by obtain ⟨⟨_, e9⟩, _⟩ := hq; cases e9)
    obtain ⟨-, Nq9, Fq9⟩ := hq
    rcases uq9 : nuP tp n 0 6 p with ekq9 | ⟨vq9, pq9⟩
    · rw [uq9] at Nq9
      obtain ⟨e9, Bq9⟩ := Nq9
      cases e9
      show K mX5_readPacker _ _ 0 0 53 [(2, vi 0), (0, vr 63), (1, vi me)] [vi 0] hcq9
      exact K_iret (dt_at dtX5_readPacker 26 rfl) rfl rfl (by decide) (by decide) ⟨⟨_, rfl⟩, by rw [pakP, if_neg (by omega), uq9]; exact ⟨rfl, Bq9⟩, (FL_tr (FL_rf : FL [] TR [] h h) (FL_up Fq9 rfl rfl rfl))⟩
    · rw [uq9] at Nq9
      obtain ⟨e9, Bq9⟩ := Nq9
      cases e9
      show K mX5_readPacker _ _ 0 0 53 [(2, vi 0), (0, vr 63), (1, vi me)] [vi vq9] hcq9
      have bq9 := nuP_b uq9
      exact K_iret (dt_at dtX5_readPacker 26 rfl) rfl rfl (by decide) (by decide) ⟨⟨_, rfl⟩, by rw [pakP, if_neg (by omega), uq9]; exact ⟨rfl, Bq9⟩, (FL_tr (FL_rf : FL [] TR [] h h) (FL_up Fq9 rfl rfl rfl))⟩
def mX5_readThing : MI := (yX5_readThing, cX5_readThing, 2, none, rmK 4 0)
def tX5_readThing : List (Nat × Instr × Nat) := [(0, .aload_n 0, 1), (1, .getfield 29, 3), (4, .getfield 94, 3), (7, .istore_n 1, 1), (8, .iload_n 1, 1), (9, .bipush 6, 2), (11, .if_icmp .lt 9, 3), (14, .aload_n 0, 1), (15, .iconst 2, 1), (16, .invokevirtual 86, 3), (19, .return_, 1), (20, .aload_n 0, 1), (21, .getfield 12, 3), (24, .invokevirtual 97, 3), (27, .aload_n 0, 1), (28, .getfield 29, 3), (31, .getfield 100, 3), (34, .iload_n 1, 1), (35, .aload_n 0, 1), (36, .iconst 1, 1), (37, .bipush 20, 2), (39, .invokevirtual 104, 3), (42, .iastore, 1), (43, .aload_n 0, 1), (44, .getfield 29, 3), (47, .getfield 108, 3), (50, .iload_n 1, 1), (51, .aload_n 0, 1), (52, .iconst 0, 1), (53, .bipush 9, 2), (55, .invokevirtual 104, 3), (58, .iastore, 1), (59, .aload_n 0, 1), (60, .getfield 29, 3), (63, .getfield 111, 3), (66, .iload_n 1, 1), (67, .aload_n 0, 1), (68, .iconst 0, 1), (69, .bipush 9, 2), (71, .invokevirtual 104, 3), (74, .iastore, 1), (75, .aload_n 0, 1), (76, .getfield 29, 3), (79, .dup, 1), (80, .getfield 94, 3), (83, .iconst 1, 1), (84, .iadd, 1), (85, .putfield 94, 3), (88, .return_, 1)]
theorem dtX5_readThing : tX5_readThing.all (fun q => decide (decode cX5_readThing q.1 = .ok (q.2.1, q.2.2))) = true := by decide +kernel
theorem npX5_readThing : (parseMethodDescriptor (mY mX5_readThing).desc).map (fun d => d.parameters.length) = some 0 := by decide +kernel
theorem vX5_readThing : mV mX5_readThing := ⟨wI_X5_readThing, wS_X5_readThing, wN_X5, wC_X5_readThing, by decide +kernel, by decide +kernel⟩
def THr (h' h : HP) (t : Nat) (tp : Int → Int) (n nt : Nat) : (Int × Nat) ⊕ (Int × Int × Int × Nat) → Prop
  | .inl e => TE h' tp n e
  | .inr (w, u, s, q) => TG h' tp n q ∧ hI h' t 10 = ((nt + 1 : Nat) : Int) ∧ hA h' (t + 1) = upI (hA h (t + 1)) (nt : Int) w ∧ hA h' (t + 2) = upI (hA h (t + 2)) (nt : Int) u ∧ hA h' (t + 3) = upI (hA h (t + 3)) (nt : Int) s
set_option maxHeartbeats 4000000 in
set_option maxRecDepth 100000 in
theorem sX5_readThing_33 {h : HP} {tp : Int → Int} {n p nt : Nat} (A : TG h tp n p) (i1 : hR h 63 1 = 33) (d10 : hI h 33 10 = (nt : Int)) (hnt : nt < 6) : SpecK mX5_readThing [vr 63] h (fun o h' => o = .inl none ∧ THr h' h 33 tp n nt (thN tp n (tk tp n p).2.2) ∧ FL [34, 35, 36] ((33, 10) :: TR) [] h h') := by
  refine Spec_of (by decide +kernel) (Nat.le_of_ble_eq_true rfl) ?_
  refine K_aload_n (dt_at dtX5_readThing 0 rfl) rfl rfl ?_
  refine K_get (a := 63) (ci := 5) (k := 1) (v := vr 33) (dt_at dtX5_readThing 1 rfl) (show TT 63 = (0, 5) from rfl) rfl (by decide) wF_X5_29 (by show vr (hR h 63 1) = vr 33; rw [i1]) ?_
  refine K_get (a := 33) (ci := 3) (k := 10) (v := vi (nt : Int)) (dt_at dtX5_readThing 2 rfl) (show TT 33 = (0, 3) from rfl) rfl (by decide) wF_X5_94 (by show vi (hI h 33 10) = vi (nt : Int); rw [d10]) ?_
  refine K_istore_n (ls' := [(1, vi (nt : Int)), (0, vr 63)]) (dt_at dtX5_readThing 3 rfl) rfl (by decide) rfl ?_
  refine K_iload_n (dt_at dtX5_readThing 4 rfl) rfl rfl ?_
  refine K_bipush (dt_at dtX5_readThing 5 rfl) (by decide) ?_
  refine K_icmp_lt (tgt := 20) (dt_at dtX5_readThing 6 rfl) (by decide) (by first | assumption | exact ⟨by omega, by omega⟩) (by first | assumption | exact ⟨by omega, by omega⟩) (fun c1 => ?_) (fun c1 => absurd c1 (by omega))
  refine K_aload_n (dt_at dtX5_readThing 11 rfl) rfl rfl ?_
  refine K_get (a := 63) (ci := 5) (k := 0) (v := vr 64) (dt_at dtX5_readThing 12 rfl) (show TT 63 = (0, 5) from rfl) rfl (by decide) wF_X5_12 rfl ?_
  have Aq1 : TG h tp n p := A
  refine K_callV (M' := mX9_pass) (a := 64) (ci := 9) (As := []) (st := []) (dt_at dtX5_readThing 13 rfl) (pass_G Aq1) (show TT 64 = (0, 9) from rfl) rfl wL_X5_97 vX9_pass rfl npX9_pass (by decide) (by decide) (Nat.le_of_ble_eq_true rfl) (by decide) (by decide) GK_E (fun v9 hc2 hq => ?_) (fun E h9 hq => by cases hq.1)
  have hqq3 := hq
  obtain ⟨e9q3, Bq3, Fq3⟩ := hqq3
  cases e9q3
  show K mX5_readThing _ _ 0 0 27 [(1, vi (nt : Int)), (0, vr 63)] [] hc2
  refine K_aload_n (dt_at dtX5_readThing 14 rfl) rfl rfl ?_
  refine K_get (a := 63) (ci := 5) (k := 1) (v := vr 33) (dt_at dtX5_readThing 15 rfl) (show TT 63 = (0, 5) from rfl) rfl (by decide) wF_X5_29 (by show vr (hR hc2 63 1) = vr 33; rw [(Fq3.2.2 63 1 rfl), i1]) ?_
  refine K_get (a := 33) (ci := 3) (k := 0) (v := vr 34) (dt_at dtX5_readThing 16 rfl) (show TT 33 = (0, 3) from rfl) rfl (by decide) wF_X5_100 rfl ?_
  refine K_iload_n (dt_at dtX5_readThing 17 rfl) rfl rfl ?_
  refine K_aload_n (dt_at dtX5_readThing 18 rfl) rfl rfl ?_
  refine K_iconst (dt_at dtX5_readThing 19 rfl) ?_
  refine K_bipush (dt_at dtX5_readThing 20 rfl) (by decide) ?_
  have Aq4 : TG hc2 tp n ((tk tp n p).2.2) := Bq3
  refine K_callV (M' := mX5_readNumber) (a := 63) (ci := 5) (As := [vi 1, vi 20]) (st := [vi (nt : Int), vr 34]) (dt_at dtX5_readThing 21 rfl) (num_P Aq4 ⟨by omega, by omega⟩ ⟨by omega, by omega⟩) (show TT 63 = (0, 5) from rfl) rfl wL_X5_104 vX5_readNumber rfl npX5_readNumber (by decide) (by decide) (Nat.le_of_ble_eq_true rfl) (by decide) (by decide) GK_E (fun v9 hcq4 hq => ?_) (fun E h9 hq => by obtain ⟨⟨_, e9⟩, _⟩ := hq; cases e9)
  obtain ⟨-, Nq4, Fq4⟩ := hq
  rcases uq4 : nuP tp n 1 20 ((tk tp n p).2.2) with ekq4 | ⟨vq4, pq4⟩
  · rw [uq4] at Nq4
    obtain ⟨e9, Bq4⟩ := Nq4
    cases e9
    show K mX5_readThing _ _ 0 0 42 [(1, vi (nt : Int)), (0, vr 63)] [vi 0, vi (nt : Int), vr 34] hcq4
    refine K_iast (dt_at dtX5_readThing 22 rfl) (show TT 34 = (1, 6) from rfl) (by omega) (by omega) ?_
    obtain ⟨hq5, eq5⟩ : ∃ z, z = sA hcq4 34 (nt : Int) 0 := ⟨_, rfl⟩
    rw [← eq5]
    obtain ⟨aq5, fq5, iq5, rq5⟩ := sA_fx eq5
    rw [(Fq4.1 34 rfl), (Fq3.1 34 rfl)] at aq5
    refine K_aload_n (dt_at dtX5_readThing 23 rfl) rfl rfl ?_
    refine K_get (a := 63) (ci := 5) (k := 1) (v := vr 33) (dt_at dtX5_readThing 24 rfl) (show TT 63 = (0, 5) from rfl) rfl (by decide) wF_X5_29 (by show vr (hR hq5 63 1) = vr 33; rw [rq5, (Fq4.2.2 63 1 rfl), (Fq3.2.2 63 1 rfl), i1]) ?_
    refine K_get (a := 33) (ci := 3) (k := 1) (v := vr 35) (dt_at dtX5_readThing 25 rfl) (show TT 33 = (0, 3) from rfl) rfl (by decide) wF_X5_108 rfl ?_
    refine K_iload_n (dt_at dtX5_readThing 26 rfl) rfl rfl ?_
    refine K_aload_n (dt_at dtX5_readThing 27 rfl) rfl rfl ?_
    refine K_iconst (dt_at dtX5_readThing 28 rfl) ?_
    refine K_bipush (dt_at dtX5_readThing 29 rfl) (by decide) ?_
    have Aq6 : TE hq5 tp n ekq4 := (TE_up Bq4 (FL_tr (FL_rf : FL [34, 35, 36] [(33, 10)] [] hcq4 hcq4) (FL_eA eq5 rfl)) rfl rfl rfl)
    refine K_callV (M' := mX5_readNumber) (a := 63) (ci := 5) (As := [vi 0, vi 9]) (st := [vi (nt : Int), vr 35]) (dt_at dtX5_readThing 30 rfl) (sX5_readNumber_e Aq6) (show TT 63 = (0, 5) from rfl) rfl wL_X5_104 vX5_readNumber rfl npX5_readNumber (by decide) (by decide) (Nat.le_of_ble_eq_true rfl) (by decide) (by decide) GK_E (fun v9 h9 hq => ?_) (fun E h9 hq => by cases hq.1)
    obtain ⟨e9, e8⟩ := hq
    cases e9
    rw [e8]
    show K mX5_readThing _ _ 0 0 58 [(1, vi (nt : Int)), (0, vr 63)] [vi 0, vi (nt : Int), vr 35] hq5
    refine K_iast (dt_at dtX5_readThing 31 rfl) (show TT 35 = (1, 6) from rfl) (by omega) (by omega) ?_
    obtain ⟨hq7, eq7⟩ : ∃ z, z = sA hq5 35 (nt : Int) 0 := ⟨_, rfl⟩
    rw [← eq7]
    obtain ⟨aq7, fq7, iq7, rq7⟩ := sA_fx eq7
    rw [(fq5 35 (by omega)), (Fq4.1 35 rfl), (Fq3.1 35 rfl)] at aq7
    refine K_aload_n (dt_at dtX5_readThing 32 rfl) rfl rfl ?_
    refine K_get (a := 63) (ci := 5) (k := 1) (v := vr 33) (dt_at dtX5_readThing 33 rfl) (show TT 63 = (0, 5) from rfl) rfl (by decide) wF_X5_29 (by show vr (hR hq7 63 1) = vr 33; rw [rq7, rq5, (Fq4.2.2 63 1 rfl), (Fq3.2.2 63 1 rfl), i1]) ?_
    refine K_get (a := 33) (ci := 3) (k := 2) (v := vr 36) (dt_at dtX5_readThing 34 rfl) (show TT 33 = (0, 3) from rfl) rfl (by decide) wF_X5_111 rfl ?_
    refine K_iload_n (dt_at dtX5_readThing 35 rfl) rfl rfl ?_
    refine K_aload_n (dt_at dtX5_readThing 36 rfl) rfl rfl ?_
    refine K_iconst (dt_at dtX5_readThing 37 rfl) ?_
    refine K_bipush (dt_at dtX5_readThing 38 rfl) (by decide) ?_
    have Aq8 : TE hq7 tp n ekq4 := (TE_up Bq4 (FL_tr (FL_tr (FL_rf : FL [34, 35, 36] [(33, 10)] [] hcq4 hcq4) (FL_eA eq5 rfl)) (FL_eA eq7 rfl)) rfl rfl rfl)
    refine K_callV (M' := mX5_readNumber) (a := 63) (ci := 5) (As := [vi 0, vi 9]) (st := [vi (nt : Int), vr 36]) (dt_at dtX5_readThing 39 rfl) (sX5_readNumber_e Aq8) (show TT 63 = (0, 5) from rfl) rfl wL_X5_104 vX5_readNumber rfl npX5_readNumber (by decide) (by decide) (Nat.le_of_ble_eq_true rfl) (by decide) (by decide) GK_E (fun v9 h9 hq => ?_) (fun E h9 hq => by cases hq.1)
    obtain ⟨e9, e8⟩ := hq
    cases e9
    rw [e8]
    show K mX5_readThing _ _ 0 0 74 [(1, vi (nt : Int)), (0, vr 63)] [vi 0, vi (nt : Int), vr 36] hq7
    refine K_iast (dt_at dtX5_readThing 40 rfl) (show TT 36 = (1, 6) from rfl) (by omega) (by omega) ?_
    obtain ⟨hq9, eq9⟩ : ∃ z, z = sA hq7 36 (nt : Int) 0 := ⟨_, rfl⟩
    rw [← eq9]
    obtain ⟨aq9, fq9, iq9, rq9⟩ := sA_fx eq9
    rw [(fq7 36 (by omega)), (fq5 36 (by omega)), (Fq4.1 36 rfl), (Fq3.1 36 rfl)] at aq9
    refine K_aload_n (dt_at dtX5_readThing 41 rfl) rfl rfl ?_
    refine K_get (a := 63) (ci := 5) (k := 1) (v := vr 33) (dt_at dtX5_readThing 42 rfl) (show TT 63 = (0, 5) from rfl) rfl (by decide) wF_X5_29 (by show vr (hR hq9 63 1) = vr 33; rw [rq9, rq7, rq5, (Fq4.2.2 63 1 rfl), (Fq3.2.2 63 1 rfl), i1]) ?_
    refine K_dup (dt_at dtX5_readThing 43 rfl) rfl ?_
    refine K_get (a := 33) (ci := 3) (k := 10) (v := vi (nt : Int)) (dt_at dtX5_readThing 44 rfl) (show TT 33 = (0, 3) from rfl) rfl (by decide) wF_X5_94 (by show vi (hI hq9 33 10) = vi (nt : Int); rw [iq9, iq7, iq5, (Fq4.2.1 33 10 rfl), (Fq3.2.1 33 10 rfl), d10]) ?_
    refine K_iconst (dt_at dtX5_readThing 45 rfl) ?_
    refine K_iadd (dt_at dtX5_readThing 46 rfl) ?_
    refine K_putI (a := 33) (ci := 3) (k := 10) (dt_at dtX5_readThing 47 rfl) (show TT 33 = (0, 3) from rfl) rfl (by decide) wF_X5_94 rfl (Or.inl rfl) rfl rfl ?_
    obtain ⟨hq10, eq10⟩ : ∃ z, z = sI hq9 33 10 ((nt : Int) + 1) := ⟨_, rfl⟩
    rw [← eq10]
    obtain ⟨iq10, fq10, aq10, rq10⟩ := sI_fx eq10
    have FE := (TE_up Bq4 (FL_tr (FL_tr (FL_tr (FL_tr (FL_rf : FL [34, 35, 36] [(33, 10)] [] hcq4 hcq4) (FL_eA eq5 rfl)) (FL_eA eq7 rfl)) (FL_eA eq9 rfl)) (FL_eI eq10 rfl)) rfl rfl rfl)
    exact K_vret (dt_at dtX5_readThing 48 rfl) rfl (by decide) (by decide) ⟨rfl, by simp only [thN, uq4]; exact FE, (FL_tr (FL_tr (FL_tr (FL_tr (FL_tr (FL_tr (FL_rf : FL [34, 35, 36] ((33, 10) :: TR) [] h h) (FL_up Fq3 rfl rfl rfl)) (FL_up Fq4 rfl rfl rfl)) (FL_eA eq5 rfl)) (FL_eA eq7 rfl)) (FL_eA eq9 rfl)) (FL_eI eq10 rfl))⟩
  · rw [uq4] at Nq4
    obtain ⟨e9, Bq4⟩ := Nq4
    cases e9
    show K mX5_readThing _ _ 0 0 42 [(1, vi (nt : Int)), (0, vr 63)] [vi vq4, vi (nt : Int), vr 34] hcq4
    have bq4 := nuP_b uq4
    refine K_iast (dt_at dtX5_readThing 22 rfl) (show TT 34 = (1, 6) from rfl) (by omega) (by omega) ?_
    obtain ⟨hq11, eq11⟩ : ∃ z, z = sA hcq4 34 (nt : Int) vq4 := ⟨_, rfl⟩
    rw [← eq11]
    obtain ⟨aq11, fq11, iq11, rq11⟩ := sA_fx eq11
    rw [(Fq4.1 34 rfl), (Fq3.1 34 rfl)] at aq11
    refine K_aload_n (dt_at dtX5_readThing 23 rfl) rfl rfl ?_
    refine K_get (a := 63) (ci := 5) (k := 1) (v := vr 33) (dt_at dtX5_readThing 24 rfl) (show TT 63 = (0, 5) from rfl) rfl (by decide) wF_X5_29 (by show vr (hR hq11 63 1) = vr 33; rw [rq11, (Fq4.2.2 63 1 rfl), (Fq3.2.2 63 1 rfl), i1]) ?_
    refine K_get (a := 33) (ci := 3) (k := 1) (v := vr 35) (dt_at dtX5_readThing 25 rfl) (show TT 33 = (0, 3) from rfl) rfl (by decide) wF_X5_108 rfl ?_
    refine K_iload_n (dt_at dtX5_readThing 26 rfl) rfl rfl ?_
    refine K_aload_n (dt_at dtX5_readThing 27 rfl) rfl rfl ?_
    refine K_iconst (dt_at dtX5_readThing 28 rfl) ?_
    refine K_bipush (dt_at dtX5_readThing 29 rfl) (by decide) ?_
    have Aq12 : TG hq11 tp n pq4 := (TG_up Bq4 (FL_tr (FL_rf : FL [34, 35, 36] [(33, 10)] [] hcq4 hcq4) (FL_eA eq11 rfl)) rfl rfl rfl)
    refine K_callV (M' := mX5_readNumber) (a := 63) (ci := 5) (As := [vi 0, vi 9]) (st := [vi (nt : Int), vr 35]) (dt_at dtX5_readThing 30 rfl) (num_P Aq12 ⟨by omega, by omega⟩ ⟨by omega, by omega⟩) (show TT 63 = (0, 5) from rfl) rfl wL_X5_104 vX5_readNumber rfl npX5_readNumber (by decide) (by decide) (Nat.le_of_ble_eq_true rfl) (by decide) (by decide) GK_E (fun v9 hcq12 hq => ?_) (fun E h9 hq => by obtain ⟨⟨_, e9⟩, _⟩ := hq; cases e9)
    obtain ⟨-, Nq12, Fq12⟩ := hq
    rcases uq12 : nuP tp n 0 9 pq4 with ekq12 | ⟨vq12, pq12⟩
    · rw [uq12] at Nq12
      obtain ⟨e9, Bq12⟩ := Nq12
      cases e9
      show K mX5_readThing _ _ 0 0 58 [(1, vi (nt : Int)), (0, vr 63)] [vi 0, vi (nt : Int), vr 35] hcq12
      refine K_iast (dt_at dtX5_readThing 31 rfl) (show TT 35 = (1, 6) from rfl) (by omega) (by omega) ?_
      obtain ⟨hq13, eq13⟩ : ∃ z, z = sA hcq12 35 (nt : Int) 0 := ⟨_, rfl⟩
      rw [← eq13]
      obtain ⟨aq13, fq13, iq13, rq13⟩ := sA_fx eq13
      rw [(Fq12.1 35 rfl), (fq11 35 (by omega)), (Fq4.1 35 rfl), (Fq3.1 35 rfl)] at aq13
      refine K_aload_n (dt_at dtX5_readThing 32 rfl) rfl rfl ?_
      refine K_get (a := 63) (ci := 5) (k := 1) (v := vr 33) (dt_at dtX5_readThing 33 rfl) (show TT 63 = (0, 5) from rfl) rfl (by decide) wF_X5_29 (by show vr (hR hq13 63 1) = vr 33; rw [rq13, (Fq12.2.2 63 1 rfl), rq11, (Fq4.2.2 63 1 rfl), (Fq3.2.2 63 1 rfl), i1]) ?_
      refine K_get (a := 33) (ci := 3) (k := 2) (v := vr 36) (dt_at dtX5_readThing 34 rfl) (show TT 33 = (0, 3) from rfl) rfl (by decide) wF_X5_111 rfl ?_
      refine K_iload_n (dt_at dtX5_readThing 35 rfl) rfl rfl ?_
      refine K_aload_n (dt_at dtX5_readThing 36 rfl) rfl rfl ?_
      refine K_iconst (dt_at dtX5_readThing 37 rfl) ?_
      refine K_bipush (dt_at dtX5_readThing 38 rfl) (by decide) ?_
      have Aq14 : TE hq13 tp n ekq12 := (TE_up Bq12 (FL_tr (FL_rf : FL [34, 35, 36] [(33, 10)] [] hcq12 hcq12) (FL_eA eq13 rfl)) rfl rfl rfl)
      refine K_callV (M' := mX5_readNumber) (a := 63) (ci := 5) (As := [vi 0, vi 9]) (st := [vi (nt : Int), vr 36]) (dt_at dtX5_readThing 39 rfl) (sX5_readNumber_e Aq14) (show TT 63 = (0, 5) from rfl) rfl wL_X5_104 vX5_readNumber rfl npX5_readNumber (by decide) (by decide) (Nat.le_of_ble_eq_true rfl) (by decide) (by decide) GK_E (fun v9 h9 hq => ?_) (fun E h9 hq => by cases hq.1)
      obtain ⟨e9, e8⟩ := hq
      cases e9
      rw [e8]
      show K mX5_readThing _ _ 0 0 74 [(1, vi (nt : Int)), (0, vr 63)] [vi 0, vi (nt : Int), vr 36] hq13
      refine K_iast (dt_at dtX5_readThing 40 rfl) (show TT 36 = (1, 6) from rfl) (by omega) (by omega) ?_
      obtain ⟨hq15, eq15⟩ : ∃ z, z = sA hq13 36 (nt : Int) 0 := ⟨_, rfl⟩
      rw [← eq15]
      obtain ⟨aq15, fq15, iq15, rq15⟩ := sA_fx eq15
      rw [(fq13 36 (by omega)), (Fq12.1 36 rfl), (fq11 36 (by omega)), (Fq4.1 36 rfl), (Fq3.1 36 rfl)] at aq15
      refine K_aload_n (dt_at dtX5_readThing 41 rfl) rfl rfl ?_
      refine K_get (a := 63) (ci := 5) (k := 1) (v := vr 33) (dt_at dtX5_readThing 42 rfl) (show TT 63 = (0, 5) from rfl) rfl (by decide) wF_X5_29 (by show vr (hR hq15 63 1) = vr 33; rw [rq15, rq13, (Fq12.2.2 63 1 rfl), rq11, (Fq4.2.2 63 1 rfl), (Fq3.2.2 63 1 rfl), i1]) ?_
      refine K_dup (dt_at dtX5_readThing 43 rfl) rfl ?_
      refine K_get (a := 33) (ci := 3) (k := 10) (v := vi (nt : Int)) (dt_at dtX5_readThing 44 rfl) (show TT 33 = (0, 3) from rfl) rfl (by decide) wF_X5_94 (by show vi (hI hq15 33 10) = vi (nt : Int); rw [iq15, iq13, (Fq12.2.1 33 10 rfl), iq11, (Fq4.2.1 33 10 rfl), (Fq3.2.1 33 10 rfl), d10]) ?_
      refine K_iconst (dt_at dtX5_readThing 45 rfl) ?_
      refine K_iadd (dt_at dtX5_readThing 46 rfl) ?_
      refine K_putI (a := 33) (ci := 3) (k := 10) (dt_at dtX5_readThing 47 rfl) (show TT 33 = (0, 3) from rfl) rfl (by decide) wF_X5_94 rfl (Or.inl rfl) rfl rfl ?_
      obtain ⟨hq16, eq16⟩ : ∃ z, z = sI hq15 33 10 ((nt : Int) + 1) := ⟨_, rfl⟩
      rw [← eq16]
      obtain ⟨iq16, fq16, aq16, rq16⟩ := sI_fx eq16
      have FE := (TE_up Bq12 (FL_tr (FL_tr (FL_tr (FL_rf : FL [34, 35, 36] [(33, 10)] [] hcq12 hcq12) (FL_eA eq13 rfl)) (FL_eA eq15 rfl)) (FL_eI eq16 rfl)) rfl rfl rfl)
      exact K_vret (dt_at dtX5_readThing 48 rfl) rfl (by decide) (by decide) ⟨rfl, by simp only [thN, uq4, uq12]; exact FE, (FL_tr (FL_tr (FL_tr (FL_tr (FL_tr (FL_tr (FL_tr (FL_rf : FL [34, 35, 36] ((33, 10) :: TR) [] h h) (FL_up Fq3 rfl rfl rfl)) (FL_up Fq4 rfl rfl rfl)) (FL_eA eq11 rfl)) (FL_up Fq12 rfl rfl rfl)) (FL_eA eq13 rfl)) (FL_eA eq15 rfl)) (FL_eI eq16 rfl))⟩
    · rw [uq12] at Nq12
      obtain ⟨e9, Bq12⟩ := Nq12
      cases e9
      show K mX5_readThing _ _ 0 0 58 [(1, vi (nt : Int)), (0, vr 63)] [vi vq12, vi (nt : Int), vr 35] hcq12
      have bq12 := nuP_b uq12
      refine K_iast (dt_at dtX5_readThing 31 rfl) (show TT 35 = (1, 6) from rfl) (by omega) (by omega) ?_
      obtain ⟨hq17, eq17⟩ : ∃ z, z = sA hcq12 35 (nt : Int) vq12 := ⟨_, rfl⟩
      rw [← eq17]
      obtain ⟨aq17, fq17, iq17, rq17⟩ := sA_fx eq17
      rw [(Fq12.1 35 rfl), (fq11 35 (by omega)), (Fq4.1 35 rfl), (Fq3.1 35 rfl)] at aq17
      refine K_aload_n (dt_at dtX5_readThing 32 rfl) rfl rfl ?_
      refine K_get (a := 63) (ci := 5) (k := 1) (v := vr 33) (dt_at dtX5_readThing 33 rfl) (show TT 63 = (0, 5) from rfl) rfl (by decide) wF_X5_29 (by show vr (hR hq17 63 1) = vr 33; rw [rq17, (Fq12.2.2 63 1 rfl), rq11, (Fq4.2.2 63 1 rfl), (Fq3.2.2 63 1 rfl), i1]) ?_
      refine K_get (a := 33) (ci := 3) (k := 2) (v := vr 36) (dt_at dtX5_readThing 34 rfl) (show TT 33 = (0, 3) from rfl) rfl (by decide) wF_X5_111 rfl ?_
      refine K_iload_n (dt_at dtX5_readThing 35 rfl) rfl rfl ?_
      refine K_aload_n (dt_at dtX5_readThing 36 rfl) rfl rfl ?_
      refine K_iconst (dt_at dtX5_readThing 37 rfl) ?_
      refine K_bipush (dt_at dtX5_readThing 38 rfl) (by decide) ?_
      have Aq18 : TG hq17 tp n pq12 := (TG_up Bq12 (FL_tr (FL_rf : FL [34, 35, 36] [(33, 10)] [] hcq12 hcq12) (FL_eA eq17 rfl)) rfl rfl rfl)
      refine K_callV (M' := mX5_readNumber) (a := 63) (ci := 5) (As := [vi 0, vi 9]) (st := [vi (nt : Int), vr 36]) (dt_at dtX5_readThing 39 rfl) (num_P Aq18 ⟨by omega, by omega⟩ ⟨by omega, by omega⟩) (show TT 63 = (0, 5) from rfl) rfl wL_X5_104 vX5_readNumber rfl npX5_readNumber (by decide) (by decide) (Nat.le_of_ble_eq_true rfl) (by decide) (by decide) GK_E (fun v9 hcq18 hq => ?_) (fun E h9 hq => by obtain ⟨⟨_, e9⟩, _⟩ := hq; cases e9)
      obtain ⟨-, Nq18, Fq18⟩ := hq
      rcases uq18 : nuP tp n 0 9 pq12 with ekq18 | ⟨vq18, pq18⟩
      · rw [uq18] at Nq18
        obtain ⟨e9, Bq18⟩ := Nq18
        cases e9
        show K mX5_readThing _ _ 0 0 74 [(1, vi (nt : Int)), (0, vr 63)] [vi 0, vi (nt : Int), vr 36] hcq18
        refine K_iast (dt_at dtX5_readThing 40 rfl) (show TT 36 = (1, 6) from rfl) (by omega) (by omega) ?_
        obtain ⟨hq19, eq19⟩ : ∃ z, z = sA hcq18 36 (nt : Int) 0 := ⟨_, rfl⟩
        rw [← eq19]
        obtain ⟨aq19, fq19, iq19, rq19⟩ := sA_fx eq19
        rw [(Fq18.1 36 rfl), (fq17 36 (by omega)), (Fq12.1 36 rfl), (fq11 36 (by omega)), (Fq4.1 36 rfl), (Fq3.1 36 rfl)] at aq19
        refine K_aload_n (dt_at dtX5_readThing 41 rfl) rfl rfl ?_
        refine K_get (a := 63) (ci := 5) (k := 1) (v := vr 33) (dt_at dtX5_readThing 42 rfl) (show TT 63 = (0, 5) from rfl) rfl (by decide) wF_X5_29 (by show vr (hR hq19 63 1) = vr 33; rw [rq19, (Fq18.2.2 63 1 rfl), rq17, (Fq12.2.2 63 1 rfl), rq11, (Fq4.2.2 63 1 rfl), (Fq3.2.2 63 1 rfl), i1]) ?_
        refine K_dup (dt_at dtX5_readThing 43 rfl) rfl ?_
        refine K_get (a := 33) (ci := 3) (k := 10) (v := vi (nt : Int)) (dt_at dtX5_readThing 44 rfl) (show TT 33 = (0, 3) from rfl) rfl (by decide) wF_X5_94 (by show vi (hI hq19 33 10) = vi (nt : Int); rw [iq19, (Fq18.2.1 33 10 rfl), iq17, (Fq12.2.1 33 10 rfl), iq11, (Fq4.2.1 33 10 rfl), (Fq3.2.1 33 10 rfl), d10]) ?_
        refine K_iconst (dt_at dtX5_readThing 45 rfl) ?_
        refine K_iadd (dt_at dtX5_readThing 46 rfl) ?_
        refine K_putI (a := 33) (ci := 3) (k := 10) (dt_at dtX5_readThing 47 rfl) (show TT 33 = (0, 3) from rfl) rfl (by decide) wF_X5_94 rfl (Or.inl rfl) rfl rfl ?_
        obtain ⟨hq20, eq20⟩ : ∃ z, z = sI hq19 33 10 ((nt : Int) + 1) := ⟨_, rfl⟩
        rw [← eq20]
        obtain ⟨iq20, fq20, aq20, rq20⟩ := sI_fx eq20
        have FE := (TE_up Bq18 (FL_tr (FL_tr (FL_rf : FL [34, 35, 36] [(33, 10)] [] hcq18 hcq18) (FL_eA eq19 rfl)) (FL_eI eq20 rfl)) rfl rfl rfl)
        exact K_vret (dt_at dtX5_readThing 48 rfl) rfl (by decide) (by decide) ⟨rfl, by simp only [thN, uq4, uq12, uq18]; exact FE, (FL_tr (FL_tr (FL_tr (FL_tr (FL_tr (FL_tr (FL_tr (FL_tr (FL_rf : FL [34, 35, 36] ((33, 10) :: TR) [] h h) (FL_up Fq3 rfl rfl rfl)) (FL_up Fq4 rfl rfl rfl)) (FL_eA eq11 rfl)) (FL_up Fq12 rfl rfl rfl)) (FL_eA eq17 rfl)) (FL_up Fq18 rfl rfl rfl)) (FL_eA eq19 rfl)) (FL_eI eq20 rfl))⟩
      · rw [uq18] at Nq18
        obtain ⟨e9, Bq18⟩ := Nq18
        cases e9
        show K mX5_readThing _ _ 0 0 74 [(1, vi (nt : Int)), (0, vr 63)] [vi vq18, vi (nt : Int), vr 36] hcq18
        have bq18 := nuP_b uq18
        refine K_iast (dt_at dtX5_readThing 40 rfl) (show TT 36 = (1, 6) from rfl) (by omega) (by omega) ?_
        obtain ⟨hq21, eq21⟩ : ∃ z, z = sA hcq18 36 (nt : Int) vq18 := ⟨_, rfl⟩
        rw [← eq21]
        obtain ⟨aq21, fq21, iq21, rq21⟩ := sA_fx eq21
        rw [(Fq18.1 36 rfl), (fq17 36 (by omega)), (Fq12.1 36 rfl), (fq11 36 (by omega)), (Fq4.1 36 rfl), (Fq3.1 36 rfl)] at aq21
        refine K_aload_n (dt_at dtX5_readThing 41 rfl) rfl rfl ?_
        refine K_get (a := 63) (ci := 5) (k := 1) (v := vr 33) (dt_at dtX5_readThing 42 rfl) (show TT 63 = (0, 5) from rfl) rfl (by decide) wF_X5_29 (by show vr (hR hq21 63 1) = vr 33; rw [rq21, (Fq18.2.2 63 1 rfl), rq17, (Fq12.2.2 63 1 rfl), rq11, (Fq4.2.2 63 1 rfl), (Fq3.2.2 63 1 rfl), i1]) ?_
        refine K_dup (dt_at dtX5_readThing 43 rfl) rfl ?_
        refine K_get (a := 33) (ci := 3) (k := 10) (v := vi (nt : Int)) (dt_at dtX5_readThing 44 rfl) (show TT 33 = (0, 3) from rfl) rfl (by decide) wF_X5_94 (by show vi (hI hq21 33 10) = vi (nt : Int); rw [iq21, (Fq18.2.1 33 10 rfl), iq17, (Fq12.2.1 33 10 rfl), iq11, (Fq4.2.1 33 10 rfl), (Fq3.2.1 33 10 rfl), d10]) ?_
        refine K_iconst (dt_at dtX5_readThing 45 rfl) ?_
        refine K_iadd (dt_at dtX5_readThing 46 rfl) ?_
        refine K_putI (a := 33) (ci := 3) (k := 10) (dt_at dtX5_readThing 47 rfl) (show TT 33 = (0, 3) from rfl) rfl (by decide) wF_X5_94 rfl (Or.inl rfl) rfl rfl ?_
        obtain ⟨hq22, eq22⟩ : ∃ z, z = sI hq21 33 10 ((nt : Int) + 1) := ⟨_, rfl⟩
        rw [← eq22]
        obtain ⟨iq22, fq22, aq22, rq22⟩ := sI_fx eq22
        have FE : TG hq22 tp n pq18 := (TG_up Bq18 (FL_tr (FL_tr (FL_rf : FL [34, 35, 36] [(33, 10)] [] hcq18 hcq18) (FL_eA eq21 rfl)) (FL_eI eq22 rfl)) rfl rfl rfl)
        exact K_vret (dt_at dtX5_readThing 48 rfl) rfl (by decide) (by decide) ⟨rfl, by simp only [thN, uq4, uq12, uq18]; exact ⟨FE, by rw [iq22]; rfl, by rw [aq22, (fq21 34 (by omega)), (Fq18.1 34 rfl), (fq17 34 (by omega)), (Fq12.1 34 rfl), aq11], by rw [aq22, (fq21 35 (by omega)), (Fq18.1 35 rfl), aq17], by rw [aq22, aq21]⟩, (FL_tr (FL_tr (FL_tr (FL_tr (FL_tr (FL_tr (FL_tr (FL_tr (FL_rf : FL [34, 35, 36] ((33, 10) :: TR) [] h h) (FL_up Fq3 rfl rfl rfl)) (FL_up Fq4 rfl rfl rfl)) (FL_eA eq11 rfl)) (FL_up Fq12 rfl rfl rfl)) (FL_eA eq17 rfl)) (FL_up Fq18 rfl rfl rfl)) (FL_eA eq21 rfl)) (FL_eI eq22 rfl))⟩
set_option maxHeartbeats 4000000 in
set_option maxRecDepth 100000 in
theorem sX5_readThing_33_x {h : HP} {tp : Int → Int} {n p nt : Nat} (A : TG h tp n p) (i1 : hR h 63 1 = 33) (d10 : hI h 33 10 = (nt : Int)) (hnt : nt = 6) : SpecK mX5_readThing [vr 63] h (fun o h' => o = .inl none ∧ TE h' tp n (2, (tk tp n p).2.1) ∧ FL [] TR [] h h') := by
  refine Spec_of (by decide +kernel) (Nat.le_of_ble_eq_true rfl) ?_
  refine K_aload_n (dt_at dtX5_readThing 0 rfl) rfl rfl ?_
  refine K_get (a := 63) (ci := 5) (k := 1) (v := vr 33) (dt_at dtX5_readThing 1 rfl) (show TT 63 = (0, 5) from rfl) rfl (by decide) wF_X5_29 (by show vr (hR h 63 1) = vr 33; rw [i1]) ?_
  refine K_get (a := 33) (ci := 3) (k := 10) (v := vi (nt : Int)) (dt_at dtX5_readThing 2 rfl) (show TT 33 = (0, 3) from rfl) rfl (by decide) wF_X5_94 (by show vi (hI h 33 10) = vi (nt : Int); rw [d10]) ?_
  refine K_istore_n (ls' := [(1, vi (nt : Int)), (0, vr 63)]) (dt_at dtX5_readThing 3 rfl) rfl (by decide) rfl ?_
  refine K_iload_n (dt_at dtX5_readThing 4 rfl) rfl rfl ?_
  refine K_bipush (dt_at dtX5_readThing 5 rfl) (by decide) ?_
  refine K_icmp_lt (tgt := 20) (dt_at dtX5_readThing 6 rfl) (by decide) (by first | assumption | exact ⟨by omega, by omega⟩) (by first | assumption | exact ⟨by omega, by omega⟩) (fun c1 => absurd c1 (by omega)) (fun c1 => ?_)
  refine K_aload_n (dt_at dtX5_readThing 7 rfl) rfl rfl ?_
  refine K_iconst (dt_at dtX5_readThing 8 rfl) ?_
  have Aq1 : TG h tp n p := A
  refine K_callV (M' := mX5_stop) (a := 63) (ci := 5) (As := [vi 2]) (st := []) (dt_at dtX5_readThing 9 rfl) (sX5_stop Aq1 ⟨by omega, by omega⟩) (show TT 63 = (0, 5) from rfl) rfl wL_X5_86 vX5_stop rfl npX5_stop (by decide) (by decide) (Nat.le_of_ble_eq_true rfl) (by decide) (by decide) GK_E (fun v9 hc2 hq => ?_) (fun E h9 hq => by cases hq.1)
  have hqq3 := hq
  obtain ⟨e9q3, Bq3, Fq3⟩ := hqq3
  cases e9q3
  show K mX5_readThing _ _ 0 0 19 [(1, vi (nt : Int)), (0, vr 63)] [] hc2
  exact K_vret (dt_at dtX5_readThing 10 rfl) rfl (by decide) (by decide) ⟨rfl, Bq3, (FL_tr (FL_rf : FL [] TR [] h h) (FL_up Fq3 rfl rfl rfl))⟩
set_option maxHeartbeats 4000000 in
set_option maxRecDepth 100000 in
theorem sX5_readThing_48 {h : HP} {tp : Int → Int} {n p nt : Nat} (A : TG h tp n p) (i1 : hR h 63 1 = 48) (d10 : hI h 48 10 = (nt : Int)) (hnt : nt < 6) : SpecK mX5_readThing [vr 63] h (fun o h' => o = .inl none ∧ THr h' h 48 tp n nt (thN tp n (tk tp n p).2.2) ∧ FL [49, 50, 51] ((48, 10) :: TR) [] h h') := by
  refine Spec_of (by decide +kernel) (Nat.le_of_ble_eq_true rfl) ?_
  refine K_aload_n (dt_at dtX5_readThing 0 rfl) rfl rfl ?_
  refine K_get (a := 63) (ci := 5) (k := 1) (v := vr 48) (dt_at dtX5_readThing 1 rfl) (show TT 63 = (0, 5) from rfl) rfl (by decide) wF_X5_29 (by show vr (hR h 63 1) = vr 48; rw [i1]) ?_
  refine K_get (a := 48) (ci := 3) (k := 10) (v := vi (nt : Int)) (dt_at dtX5_readThing 2 rfl) (show TT 48 = (0, 3) from rfl) rfl (by decide) wF_X5_94 (by show vi (hI h 48 10) = vi (nt : Int); rw [d10]) ?_
  refine K_istore_n (ls' := [(1, vi (nt : Int)), (0, vr 63)]) (dt_at dtX5_readThing 3 rfl) rfl (by decide) rfl ?_
  refine K_iload_n (dt_at dtX5_readThing 4 rfl) rfl rfl ?_
  refine K_bipush (dt_at dtX5_readThing 5 rfl) (by decide) ?_
  refine K_icmp_lt (tgt := 20) (dt_at dtX5_readThing 6 rfl) (by decide) (by first | assumption | exact ⟨by omega, by omega⟩) (by first | assumption | exact ⟨by omega, by omega⟩) (fun c1 => ?_) (fun c1 => absurd c1 (by omega))
  refine K_aload_n (dt_at dtX5_readThing 11 rfl) rfl rfl ?_
  refine K_get (a := 63) (ci := 5) (k := 0) (v := vr 64) (dt_at dtX5_readThing 12 rfl) (show TT 63 = (0, 5) from rfl) rfl (by decide) wF_X5_12 rfl ?_
  have Aq1 : TG h tp n p := A
  refine K_callV (M' := mX9_pass) (a := 64) (ci := 9) (As := []) (st := []) (dt_at dtX5_readThing 13 rfl) (pass_G Aq1) (show TT 64 = (0, 9) from rfl) rfl wL_X5_97 vX9_pass rfl npX9_pass (by decide) (by decide) (Nat.le_of_ble_eq_true rfl) (by decide) (by decide) GK_E (fun v9 hc2 hq => ?_) (fun E h9 hq => by cases hq.1)
  have hqq3 := hq
  obtain ⟨e9q3, Bq3, Fq3⟩ := hqq3
  cases e9q3
  show K mX5_readThing _ _ 0 0 27 [(1, vi (nt : Int)), (0, vr 63)] [] hc2
  refine K_aload_n (dt_at dtX5_readThing 14 rfl) rfl rfl ?_
  refine K_get (a := 63) (ci := 5) (k := 1) (v := vr 48) (dt_at dtX5_readThing 15 rfl) (show TT 63 = (0, 5) from rfl) rfl (by decide) wF_X5_29 (by show vr (hR hc2 63 1) = vr 48; rw [(Fq3.2.2 63 1 rfl), i1]) ?_
  refine K_get (a := 48) (ci := 3) (k := 0) (v := vr 49) (dt_at dtX5_readThing 16 rfl) (show TT 48 = (0, 3) from rfl) rfl (by decide) wF_X5_100 rfl ?_
  refine K_iload_n (dt_at dtX5_readThing 17 rfl) rfl rfl ?_
  refine K_aload_n (dt_at dtX5_readThing 18 rfl) rfl rfl ?_
  refine K_iconst (dt_at dtX5_readThing 19 rfl) ?_
  refine K_bipush (dt_at dtX5_readThing 20 rfl) (by decide) ?_
  have Aq4 : TG hc2 tp n ((tk tp n p).2.2) := Bq3
  refine K_callV (M' := mX5_readNumber) (a := 63) (ci := 5) (As := [vi 1, vi 20]) (st := [vi (nt : Int), vr 49]) (dt_at dtX5_readThing 21 rfl) (num_P Aq4 ⟨by omega, by omega⟩ ⟨by omega, by omega⟩) (show TT 63 = (0, 5) from rfl) rfl wL_X5_104 vX5_readNumber rfl npX5_readNumber (by decide) (by decide) (Nat.le_of_ble_eq_true rfl) (by decide) (by decide) GK_E (fun v9 hcq4 hq => ?_) (fun E h9 hq => by obtain ⟨⟨_, e9⟩, _⟩ := hq; cases e9)
  obtain ⟨-, Nq4, Fq4⟩ := hq
  rcases uq4 : nuP tp n 1 20 ((tk tp n p).2.2) with ekq4 | ⟨vq4, pq4⟩
  · rw [uq4] at Nq4
    obtain ⟨e9, Bq4⟩ := Nq4
    cases e9
    show K mX5_readThing _ _ 0 0 42 [(1, vi (nt : Int)), (0, vr 63)] [vi 0, vi (nt : Int), vr 49] hcq4
    refine K_iast (dt_at dtX5_readThing 22 rfl) (show TT 49 = (1, 6) from rfl) (by omega) (by omega) ?_
    obtain ⟨hq5, eq5⟩ : ∃ z, z = sA hcq4 49 (nt : Int) 0 := ⟨_, rfl⟩
    rw [← eq5]
    obtain ⟨aq5, fq5, iq5, rq5⟩ := sA_fx eq5
    rw [(Fq4.1 49 rfl), (Fq3.1 49 rfl)] at aq5
    refine K_aload_n (dt_at dtX5_readThing 23 rfl) rfl rfl ?_
    refine K_get (a := 63) (ci := 5) (k := 1) (v := vr 48) (dt_at dtX5_readThing 24 rfl) (show TT 63 = (0, 5) from rfl) rfl (by decide) wF_X5_29 (by show vr (hR hq5 63 1) = vr 48; rw [rq5, (Fq4.2.2 63 1 rfl), (Fq3.2.2 63 1 rfl), i1]) ?_
    refine K_get (a := 48) (ci := 3) (k := 1) (v := vr 50) (dt_at dtX5_readThing 25 rfl) (show TT 48 = (0, 3) from rfl) rfl (by decide) wF_X5_108 rfl ?_
    refine K_iload_n (dt_at dtX5_readThing 26 rfl) rfl rfl ?_
    refine K_aload_n (dt_at dtX5_readThing 27 rfl) rfl rfl ?_
    refine K_iconst (dt_at dtX5_readThing 28 rfl) ?_
    refine K_bipush (dt_at dtX5_readThing 29 rfl) (by decide) ?_
    have Aq6 : TE hq5 tp n ekq4 := (TE_up Bq4 (FL_tr (FL_rf : FL [49, 50, 51] [(48, 10)] [] hcq4 hcq4) (FL_eA eq5 rfl)) rfl rfl rfl)
    refine K_callV (M' := mX5_readNumber) (a := 63) (ci := 5) (As := [vi 0, vi 9]) (st := [vi (nt : Int), vr 50]) (dt_at dtX5_readThing 30 rfl) (sX5_readNumber_e Aq6) (show TT 63 = (0, 5) from rfl) rfl wL_X5_104 vX5_readNumber rfl npX5_readNumber (by decide) (by decide) (Nat.le_of_ble_eq_true rfl) (by decide) (by decide) GK_E (fun v9 h9 hq => ?_) (fun E h9 hq => by cases hq.1)
    obtain ⟨e9, e8⟩ := hq
    cases e9
    rw [e8]
    show K mX5_readThing _ _ 0 0 58 [(1, vi (nt : Int)), (0, vr 63)] [vi 0, vi (nt : Int), vr 50] hq5
    refine K_iast (dt_at dtX5_readThing 31 rfl) (show TT 50 = (1, 6) from rfl) (by omega) (by omega) ?_
    obtain ⟨hq7, eq7⟩ : ∃ z, z = sA hq5 50 (nt : Int) 0 := ⟨_, rfl⟩
    rw [← eq7]
    obtain ⟨aq7, fq7, iq7, rq7⟩ := sA_fx eq7
    rw [(fq5 50 (by omega)), (Fq4.1 50 rfl), (Fq3.1 50 rfl)] at aq7
    refine K_aload_n (dt_at dtX5_readThing 32 rfl) rfl rfl ?_
    refine K_get (a := 63) (ci := 5) (k := 1) (v := vr 48) (dt_at dtX5_readThing 33 rfl) (show TT 63 = (0, 5) from rfl) rfl (by decide) wF_X5_29 (by show vr (hR hq7 63 1) = vr 48; rw [rq7, rq5, (Fq4.2.2 63 1 rfl), (Fq3.2.2 63 1 rfl), i1]) ?_
    refine K_get (a := 48) (ci := 3) (k := 2) (v := vr 51) (dt_at dtX5_readThing 34 rfl) (show TT 48 = (0, 3) from rfl) rfl (by decide) wF_X5_111 rfl ?_
    refine K_iload_n (dt_at dtX5_readThing 35 rfl) rfl rfl ?_
    refine K_aload_n (dt_at dtX5_readThing 36 rfl) rfl rfl ?_
    refine K_iconst (dt_at dtX5_readThing 37 rfl) ?_
    refine K_bipush (dt_at dtX5_readThing 38 rfl) (by decide) ?_
    have Aq8 : TE hq7 tp n ekq4 := (TE_up Bq4 (FL_tr (FL_tr (FL_rf : FL [49, 50, 51] [(48, 10)] [] hcq4 hcq4) (FL_eA eq5 rfl)) (FL_eA eq7 rfl)) rfl rfl rfl)
    refine K_callV (M' := mX5_readNumber) (a := 63) (ci := 5) (As := [vi 0, vi 9]) (st := [vi (nt : Int), vr 51]) (dt_at dtX5_readThing 39 rfl) (sX5_readNumber_e Aq8) (show TT 63 = (0, 5) from rfl) rfl wL_X5_104 vX5_readNumber rfl npX5_readNumber (by decide) (by decide) (Nat.le_of_ble_eq_true rfl) (by decide) (by decide) GK_E (fun v9 h9 hq => ?_) (fun E h9 hq => by cases hq.1)
    obtain ⟨e9, e8⟩ := hq
    cases e9
    rw [e8]
    show K mX5_readThing _ _ 0 0 74 [(1, vi (nt : Int)), (0, vr 63)] [vi 0, vi (nt : Int), vr 51] hq7
    refine K_iast (dt_at dtX5_readThing 40 rfl) (show TT 51 = (1, 6) from rfl) (by omega) (by omega) ?_
    obtain ⟨hq9, eq9⟩ : ∃ z, z = sA hq7 51 (nt : Int) 0 := ⟨_, rfl⟩
    rw [← eq9]
    obtain ⟨aq9, fq9, iq9, rq9⟩ := sA_fx eq9
    rw [(fq7 51 (by omega)), (fq5 51 (by omega)), (Fq4.1 51 rfl), (Fq3.1 51 rfl)] at aq9
    refine K_aload_n (dt_at dtX5_readThing 41 rfl) rfl rfl ?_
    refine K_get (a := 63) (ci := 5) (k := 1) (v := vr 48) (dt_at dtX5_readThing 42 rfl) (show TT 63 = (0, 5) from rfl) rfl (by decide) wF_X5_29 (by show vr (hR hq9 63 1) = vr 48; rw [rq9, rq7, rq5, (Fq4.2.2 63 1 rfl), (Fq3.2.2 63 1 rfl), i1]) ?_
    refine K_dup (dt_at dtX5_readThing 43 rfl) rfl ?_
    refine K_get (a := 48) (ci := 3) (k := 10) (v := vi (nt : Int)) (dt_at dtX5_readThing 44 rfl) (show TT 48 = (0, 3) from rfl) rfl (by decide) wF_X5_94 (by show vi (hI hq9 48 10) = vi (nt : Int); rw [iq9, iq7, iq5, (Fq4.2.1 48 10 rfl), (Fq3.2.1 48 10 rfl), d10]) ?_
    refine K_iconst (dt_at dtX5_readThing 45 rfl) ?_
    refine K_iadd (dt_at dtX5_readThing 46 rfl) ?_
    refine K_putI (a := 48) (ci := 3) (k := 10) (dt_at dtX5_readThing 47 rfl) (show TT 48 = (0, 3) from rfl) rfl (by decide) wF_X5_94 rfl (Or.inl rfl) rfl rfl ?_
    obtain ⟨hq10, eq10⟩ : ∃ z, z = sI hq9 48 10 ((nt : Int) + 1) := ⟨_, rfl⟩
    rw [← eq10]
    obtain ⟨iq10, fq10, aq10, rq10⟩ := sI_fx eq10
    have FE := (TE_up Bq4 (FL_tr (FL_tr (FL_tr (FL_tr (FL_rf : FL [49, 50, 51] [(48, 10)] [] hcq4 hcq4) (FL_eA eq5 rfl)) (FL_eA eq7 rfl)) (FL_eA eq9 rfl)) (FL_eI eq10 rfl)) rfl rfl rfl)
    exact K_vret (dt_at dtX5_readThing 48 rfl) rfl (by decide) (by decide) ⟨rfl, by simp only [thN, uq4]; exact FE, (FL_tr (FL_tr (FL_tr (FL_tr (FL_tr (FL_tr (FL_rf : FL [49, 50, 51] ((48, 10) :: TR) [] h h) (FL_up Fq3 rfl rfl rfl)) (FL_up Fq4 rfl rfl rfl)) (FL_eA eq5 rfl)) (FL_eA eq7 rfl)) (FL_eA eq9 rfl)) (FL_eI eq10 rfl))⟩
  · rw [uq4] at Nq4
    obtain ⟨e9, Bq4⟩ := Nq4
    cases e9
    show K mX5_readThing _ _ 0 0 42 [(1, vi (nt : Int)), (0, vr 63)] [vi vq4, vi (nt : Int), vr 49] hcq4
    have bq4 := nuP_b uq4
    refine K_iast (dt_at dtX5_readThing 22 rfl) (show TT 49 = (1, 6) from rfl) (by omega) (by omega) ?_
    obtain ⟨hq11, eq11⟩ : ∃ z, z = sA hcq4 49 (nt : Int) vq4 := ⟨_, rfl⟩
    rw [← eq11]
    obtain ⟨aq11, fq11, iq11, rq11⟩ := sA_fx eq11
    rw [(Fq4.1 49 rfl), (Fq3.1 49 rfl)] at aq11
    refine K_aload_n (dt_at dtX5_readThing 23 rfl) rfl rfl ?_
    refine K_get (a := 63) (ci := 5) (k := 1) (v := vr 48) (dt_at dtX5_readThing 24 rfl) (show TT 63 = (0, 5) from rfl) rfl (by decide) wF_X5_29 (by show vr (hR hq11 63 1) = vr 48; rw [rq11, (Fq4.2.2 63 1 rfl), (Fq3.2.2 63 1 rfl), i1]) ?_
    refine K_get (a := 48) (ci := 3) (k := 1) (v := vr 50) (dt_at dtX5_readThing 25 rfl) (show TT 48 = (0, 3) from rfl) rfl (by decide) wF_X5_108 rfl ?_
    refine K_iload_n (dt_at dtX5_readThing 26 rfl) rfl rfl ?_
    refine K_aload_n (dt_at dtX5_readThing 27 rfl) rfl rfl ?_
    refine K_iconst (dt_at dtX5_readThing 28 rfl) ?_
    refine K_bipush (dt_at dtX5_readThing 29 rfl) (by decide) ?_
    have Aq12 : TG hq11 tp n pq4 := (TG_up Bq4 (FL_tr (FL_rf : FL [49, 50, 51] [(48, 10)] [] hcq4 hcq4) (FL_eA eq11 rfl)) rfl rfl rfl)
    refine K_callV (M' := mX5_readNumber) (a := 63) (ci := 5) (As := [vi 0, vi 9]) (st := [vi (nt : Int), vr 50]) (dt_at dtX5_readThing 30 rfl) (num_P Aq12 ⟨by omega, by omega⟩ ⟨by omega, by omega⟩) (show TT 63 = (0, 5) from rfl) rfl wL_X5_104 vX5_readNumber rfl npX5_readNumber (by decide) (by decide) (Nat.le_of_ble_eq_true rfl) (by decide) (by decide) GK_E (fun v9 hcq12 hq => ?_) (fun E h9 hq => by obtain ⟨⟨_, e9⟩, _⟩ := hq; cases e9)
    obtain ⟨-, Nq12, Fq12⟩ := hq
    rcases uq12 : nuP tp n 0 9 pq4 with ekq12 | ⟨vq12, pq12⟩
    · rw [uq12] at Nq12
      obtain ⟨e9, Bq12⟩ := Nq12
      cases e9
      show K mX5_readThing _ _ 0 0 58 [(1, vi (nt : Int)), (0, vr 63)] [vi 0, vi (nt : Int), vr 50] hcq12
      refine K_iast (dt_at dtX5_readThing 31 rfl) (show TT 50 = (1, 6) from rfl) (by omega) (by omega) ?_
      obtain ⟨hq13, eq13⟩ : ∃ z, z = sA hcq12 50 (nt : Int) 0 := ⟨_, rfl⟩
      rw [← eq13]
      obtain ⟨aq13, fq13, iq13, rq13⟩ := sA_fx eq13
      rw [(Fq12.1 50 rfl), (fq11 50 (by omega)), (Fq4.1 50 rfl), (Fq3.1 50 rfl)] at aq13
      refine K_aload_n (dt_at dtX5_readThing 32 rfl) rfl rfl ?_
      refine K_get (a := 63) (ci := 5) (k := 1) (v := vr 48) (dt_at dtX5_readThing 33 rfl) (show TT 63 = (0, 5) from rfl) rfl (by decide) wF_X5_29 (by show vr (hR hq13 63 1) = vr 48; rw [rq13, (Fq12.2.2 63 1 rfl), rq11, (Fq4.2.2 63 1 rfl), (Fq3.2.2 63 1 rfl), i1]) ?_
      refine K_get (a := 48) (ci := 3) (k := 2) (v := vr 51) (dt_at dtX5_readThing 34 rfl) (show TT 48 = (0, 3) from rfl) rfl (by decide) wF_X5_111 rfl ?_
      refine K_iload_n (dt_at dtX5_readThing 35 rfl) rfl rfl ?_
      refine K_aload_n (dt_at dtX5_readThing 36 rfl) rfl rfl ?_
      refine K_iconst (dt_at dtX5_readThing 37 rfl) ?_
      refine K_bipush (dt_at dtX5_readThing 38 rfl) (by decide) ?_
      have Aq14 : TE hq13 tp n ekq12 := (TE_up Bq12 (FL_tr (FL_rf : FL [49, 50, 51] [(48, 10)] [] hcq12 hcq12) (FL_eA eq13 rfl)) rfl rfl rfl)
      refine K_callV (M' := mX5_readNumber) (a := 63) (ci := 5) (As := [vi 0, vi 9]) (st := [vi (nt : Int), vr 51]) (dt_at dtX5_readThing 39 rfl) (sX5_readNumber_e Aq14) (show TT 63 = (0, 5) from rfl) rfl wL_X5_104 vX5_readNumber rfl npX5_readNumber (by decide) (by decide) (Nat.le_of_ble_eq_true rfl) (by decide) (by decide) GK_E (fun v9 h9 hq => ?_) (fun E h9 hq => by cases hq.1)
      obtain ⟨e9, e8⟩ := hq
      cases e9
      rw [e8]
      show K mX5_readThing _ _ 0 0 74 [(1, vi (nt : Int)), (0, vr 63)] [vi 0, vi (nt : Int), vr 51] hq13
      refine K_iast (dt_at dtX5_readThing 40 rfl) (show TT 51 = (1, 6) from rfl) (by omega) (by omega) ?_
      obtain ⟨hq15, eq15⟩ : ∃ z, z = sA hq13 51 (nt : Int) 0 := ⟨_, rfl⟩
      rw [← eq15]
      obtain ⟨aq15, fq15, iq15, rq15⟩ := sA_fx eq15
      rw [(fq13 51 (by omega)), (Fq12.1 51 rfl), (fq11 51 (by omega)), (Fq4.1 51 rfl), (Fq3.1 51 rfl)] at aq15
      refine K_aload_n (dt_at dtX5_readThing 41 rfl) rfl rfl ?_
      refine K_get (a := 63) (ci := 5) (k := 1) (v := vr 48) (dt_at dtX5_readThing 42 rfl) (show TT 63 = (0, 5) from rfl) rfl (by decide) wF_X5_29 (by show vr (hR hq15 63 1) = vr 48; rw [rq15, rq13, (Fq12.2.2 63 1 rfl), rq11, (Fq4.2.2 63 1 rfl), (Fq3.2.2 63 1 rfl), i1]) ?_
      refine K_dup (dt_at dtX5_readThing 43 rfl) rfl ?_
      refine K_get (a := 48) (ci := 3) (k := 10) (v := vi (nt : Int)) (dt_at dtX5_readThing 44 rfl) (show TT 48 = (0, 3) from rfl) rfl (by decide) wF_X5_94 (by show vi (hI hq15 48 10) = vi (nt : Int); rw [iq15, iq13, (Fq12.2.1 48 10 rfl), iq11, (Fq4.2.1 48 10 rfl), (Fq3.2.1 48 10 rfl), d10]) ?_
      refine K_iconst (dt_at dtX5_readThing 45 rfl) ?_
      refine K_iadd (dt_at dtX5_readThing 46 rfl) ?_
      refine K_putI (a := 48) (ci := 3) (k := 10) (dt_at dtX5_readThing 47 rfl) (show TT 48 = (0, 3) from rfl) rfl (by decide) wF_X5_94 rfl (Or.inl rfl) rfl rfl ?_
      obtain ⟨hq16, eq16⟩ : ∃ z, z = sI hq15 48 10 ((nt : Int) + 1) := ⟨_, rfl⟩
      rw [← eq16]
      obtain ⟨iq16, fq16, aq16, rq16⟩ := sI_fx eq16
      have FE := (TE_up Bq12 (FL_tr (FL_tr (FL_tr (FL_rf : FL [49, 50, 51] [(48, 10)] [] hcq12 hcq12) (FL_eA eq13 rfl)) (FL_eA eq15 rfl)) (FL_eI eq16 rfl)) rfl rfl rfl)
      exact K_vret (dt_at dtX5_readThing 48 rfl) rfl (by decide) (by decide) ⟨rfl, by simp only [thN, uq4, uq12]; exact FE, (FL_tr (FL_tr (FL_tr (FL_tr (FL_tr (FL_tr (FL_tr (FL_rf : FL [49, 50, 51] ((48, 10) :: TR) [] h h) (FL_up Fq3 rfl rfl rfl)) (FL_up Fq4 rfl rfl rfl)) (FL_eA eq11 rfl)) (FL_up Fq12 rfl rfl rfl)) (FL_eA eq13 rfl)) (FL_eA eq15 rfl)) (FL_eI eq16 rfl))⟩
    · rw [uq12] at Nq12
      obtain ⟨e9, Bq12⟩ := Nq12
      cases e9
      show K mX5_readThing _ _ 0 0 58 [(1, vi (nt : Int)), (0, vr 63)] [vi vq12, vi (nt : Int), vr 50] hcq12
      have bq12 := nuP_b uq12
      refine K_iast (dt_at dtX5_readThing 31 rfl) (show TT 50 = (1, 6) from rfl) (by omega) (by omega) ?_
      obtain ⟨hq17, eq17⟩ : ∃ z, z = sA hcq12 50 (nt : Int) vq12 := ⟨_, rfl⟩
      rw [← eq17]
      obtain ⟨aq17, fq17, iq17, rq17⟩ := sA_fx eq17
      rw [(Fq12.1 50 rfl), (fq11 50 (by omega)), (Fq4.1 50 rfl), (Fq3.1 50 rfl)] at aq17
      refine K_aload_n (dt_at dtX5_readThing 32 rfl) rfl rfl ?_
      refine K_get (a := 63) (ci := 5) (k := 1) (v := vr 48) (dt_at dtX5_readThing 33 rfl) (show TT 63 = (0, 5) from rfl) rfl (by decide) wF_X5_29 (by show vr (hR hq17 63 1) = vr 48; rw [rq17, (Fq12.2.2 63 1 rfl), rq11, (Fq4.2.2 63 1 rfl), (Fq3.2.2 63 1 rfl), i1]) ?_
      refine K_get (a := 48) (ci := 3) (k := 2) (v := vr 51) (dt_at dtX5_readThing 34 rfl) (show TT 48 = (0, 3) from rfl) rfl (by decide) wF_X5_111 rfl ?_
      refine K_iload_n (dt_at dtX5_readThing 35 rfl) rfl rfl ?_
      refine K_aload_n (dt_at dtX5_readThing 36 rfl) rfl rfl ?_
      refine K_iconst (dt_at dtX5_readThing 37 rfl) ?_
      refine K_bipush (dt_at dtX5_readThing 38 rfl) (by decide) ?_
      have Aq18 : TG hq17 tp n pq12 := (TG_up Bq12 (FL_tr (FL_rf : FL [49, 50, 51] [(48, 10)] [] hcq12 hcq12) (FL_eA eq17 rfl)) rfl rfl rfl)
      refine K_callV (M' := mX5_readNumber) (a := 63) (ci := 5) (As := [vi 0, vi 9]) (st := [vi (nt : Int), vr 51]) (dt_at dtX5_readThing 39 rfl) (num_P Aq18 ⟨by omega, by omega⟩ ⟨by omega, by omega⟩) (show TT 63 = (0, 5) from rfl) rfl wL_X5_104 vX5_readNumber rfl npX5_readNumber (by decide) (by decide) (Nat.le_of_ble_eq_true rfl) (by decide) (by decide) GK_E (fun v9 hcq18 hq => ?_) (fun E h9 hq => by obtain ⟨⟨_, e9⟩, _⟩ := hq; cases e9)
      obtain ⟨-, Nq18, Fq18⟩ := hq
      rcases uq18 : nuP tp n 0 9 pq12 with ekq18 | ⟨vq18, pq18⟩
      · rw [uq18] at Nq18
        obtain ⟨e9, Bq18⟩ := Nq18
        cases e9
        show K mX5_readThing _ _ 0 0 74 [(1, vi (nt : Int)), (0, vr 63)] [vi 0, vi (nt : Int), vr 51] hcq18
        refine K_iast (dt_at dtX5_readThing 40 rfl) (show TT 51 = (1, 6) from rfl) (by omega) (by omega) ?_
        obtain ⟨hq19, eq19⟩ : ∃ z, z = sA hcq18 51 (nt : Int) 0 := ⟨_, rfl⟩
        rw [← eq19]
        obtain ⟨aq19, fq19, iq19, rq19⟩ := sA_fx eq19
        rw [(Fq18.1 51 rfl), (fq17 51 (by omega)), (Fq12.1 51 rfl), (fq11 51 (by omega)), (Fq4.1 51 rfl), (Fq3.1 51 rfl)] at aq19
        refine K_aload_n (dt_at dtX5_readThing 41 rfl) rfl rfl ?_
        refine K_get (a := 63) (ci := 5) (k := 1) (v := vr 48) (dt_at dtX5_readThing 42 rfl) (show TT 63 = (0, 5) from rfl) rfl (by decide) wF_X5_29 (by show vr (hR hq19 63 1) = vr 48; rw [rq19, (Fq18.2.2 63 1 rfl), rq17, (Fq12.2.2 63 1 rfl), rq11, (Fq4.2.2 63 1 rfl), (Fq3.2.2 63 1 rfl), i1]) ?_
        refine K_dup (dt_at dtX5_readThing 43 rfl) rfl ?_
        refine K_get (a := 48) (ci := 3) (k := 10) (v := vi (nt : Int)) (dt_at dtX5_readThing 44 rfl) (show TT 48 = (0, 3) from rfl) rfl (by decide) wF_X5_94 (by show vi (hI hq19 48 10) = vi (nt : Int); rw [iq19, (Fq18.2.1 48 10 rfl), iq17, (Fq12.2.1 48 10 rfl), iq11, (Fq4.2.1 48 10 rfl), (Fq3.2.1 48 10 rfl), d10]) ?_
        refine K_iconst (dt_at dtX5_readThing 45 rfl) ?_
        refine K_iadd (dt_at dtX5_readThing 46 rfl) ?_
        refine K_putI (a := 48) (ci := 3) (k := 10) (dt_at dtX5_readThing 47 rfl) (show TT 48 = (0, 3) from rfl) rfl (by decide) wF_X5_94 rfl (Or.inl rfl) rfl rfl ?_
        obtain ⟨hq20, eq20⟩ : ∃ z, z = sI hq19 48 10 ((nt : Int) + 1) := ⟨_, rfl⟩
        rw [← eq20]
        obtain ⟨iq20, fq20, aq20, rq20⟩ := sI_fx eq20
        have FE := (TE_up Bq18 (FL_tr (FL_tr (FL_rf : FL [49, 50, 51] [(48, 10)] [] hcq18 hcq18) (FL_eA eq19 rfl)) (FL_eI eq20 rfl)) rfl rfl rfl)
        exact K_vret (dt_at dtX5_readThing 48 rfl) rfl (by decide) (by decide) ⟨rfl, by simp only [thN, uq4, uq12, uq18]; exact FE, (FL_tr (FL_tr (FL_tr (FL_tr (FL_tr (FL_tr (FL_tr (FL_tr (FL_rf : FL [49, 50, 51] ((48, 10) :: TR) [] h h) (FL_up Fq3 rfl rfl rfl)) (FL_up Fq4 rfl rfl rfl)) (FL_eA eq11 rfl)) (FL_up Fq12 rfl rfl rfl)) (FL_eA eq17 rfl)) (FL_up Fq18 rfl rfl rfl)) (FL_eA eq19 rfl)) (FL_eI eq20 rfl))⟩
      · rw [uq18] at Nq18
        obtain ⟨e9, Bq18⟩ := Nq18
        cases e9
        show K mX5_readThing _ _ 0 0 74 [(1, vi (nt : Int)), (0, vr 63)] [vi vq18, vi (nt : Int), vr 51] hcq18
        have bq18 := nuP_b uq18
        refine K_iast (dt_at dtX5_readThing 40 rfl) (show TT 51 = (1, 6) from rfl) (by omega) (by omega) ?_
        obtain ⟨hq21, eq21⟩ : ∃ z, z = sA hcq18 51 (nt : Int) vq18 := ⟨_, rfl⟩
        rw [← eq21]
        obtain ⟨aq21, fq21, iq21, rq21⟩ := sA_fx eq21
        rw [(Fq18.1 51 rfl), (fq17 51 (by omega)), (Fq12.1 51 rfl), (fq11 51 (by omega)), (Fq4.1 51 rfl), (Fq3.1 51 rfl)] at aq21
        refine K_aload_n (dt_at dtX5_readThing 41 rfl) rfl rfl ?_
        refine K_get (a := 63) (ci := 5) (k := 1) (v := vr 48) (dt_at dtX5_readThing 42 rfl) (show TT 63 = (0, 5) from rfl) rfl (by decide) wF_X5_29 (by show vr (hR hq21 63 1) = vr 48; rw [rq21, (Fq18.2.2 63 1 rfl), rq17, (Fq12.2.2 63 1 rfl), rq11, (Fq4.2.2 63 1 rfl), (Fq3.2.2 63 1 rfl), i1]) ?_
        refine K_dup (dt_at dtX5_readThing 43 rfl) rfl ?_
        refine K_get (a := 48) (ci := 3) (k := 10) (v := vi (nt : Int)) (dt_at dtX5_readThing 44 rfl) (show TT 48 = (0, 3) from rfl) rfl (by decide) wF_X5_94 (by show vi (hI hq21 48 10) = vi (nt : Int); rw [iq21, (Fq18.2.1 48 10 rfl), iq17, (Fq12.2.1 48 10 rfl), iq11, (Fq4.2.1 48 10 rfl), (Fq3.2.1 48 10 rfl), d10]) ?_
        refine K_iconst (dt_at dtX5_readThing 45 rfl) ?_
        refine K_iadd (dt_at dtX5_readThing 46 rfl) ?_
        refine K_putI (a := 48) (ci := 3) (k := 10) (dt_at dtX5_readThing 47 rfl) (show TT 48 = (0, 3) from rfl) rfl (by decide) wF_X5_94 rfl (Or.inl rfl) rfl rfl ?_
        obtain ⟨hq22, eq22⟩ : ∃ z, z = sI hq21 48 10 ((nt : Int) + 1) := ⟨_, rfl⟩
        rw [← eq22]
        obtain ⟨iq22, fq22, aq22, rq22⟩ := sI_fx eq22
        have FE : TG hq22 tp n pq18 := (TG_up Bq18 (FL_tr (FL_tr (FL_rf : FL [49, 50, 51] [(48, 10)] [] hcq18 hcq18) (FL_eA eq21 rfl)) (FL_eI eq22 rfl)) rfl rfl rfl)
        exact K_vret (dt_at dtX5_readThing 48 rfl) rfl (by decide) (by decide) ⟨rfl, by simp only [thN, uq4, uq12, uq18]; exact ⟨FE, by rw [iq22]; rfl, by rw [aq22, (fq21 49 (by omega)), (Fq18.1 49 rfl), (fq17 49 (by omega)), (Fq12.1 49 rfl), aq11], by rw [aq22, (fq21 50 (by omega)), (Fq18.1 50 rfl), aq17], by rw [aq22, aq21]⟩, (FL_tr (FL_tr (FL_tr (FL_tr (FL_tr (FL_tr (FL_tr (FL_tr (FL_rf : FL [49, 50, 51] ((48, 10) :: TR) [] h h) (FL_up Fq3 rfl rfl rfl)) (FL_up Fq4 rfl rfl rfl)) (FL_eA eq11 rfl)) (FL_up Fq12 rfl rfl rfl)) (FL_eA eq17 rfl)) (FL_up Fq18 rfl rfl rfl)) (FL_eA eq21 rfl)) (FL_eI eq22 rfl))⟩
set_option maxHeartbeats 4000000 in
set_option maxRecDepth 100000 in
theorem sX5_readThing_48_x {h : HP} {tp : Int → Int} {n p nt : Nat} (A : TG h tp n p) (i1 : hR h 63 1 = 48) (d10 : hI h 48 10 = (nt : Int)) (hnt : nt = 6) : SpecK mX5_readThing [vr 63] h (fun o h' => o = .inl none ∧ TE h' tp n (2, (tk tp n p).2.1) ∧ FL [] TR [] h h') := by
  refine Spec_of (by decide +kernel) (Nat.le_of_ble_eq_true rfl) ?_
  refine K_aload_n (dt_at dtX5_readThing 0 rfl) rfl rfl ?_
  refine K_get (a := 63) (ci := 5) (k := 1) (v := vr 48) (dt_at dtX5_readThing 1 rfl) (show TT 63 = (0, 5) from rfl) rfl (by decide) wF_X5_29 (by show vr (hR h 63 1) = vr 48; rw [i1]) ?_
  refine K_get (a := 48) (ci := 3) (k := 10) (v := vi (nt : Int)) (dt_at dtX5_readThing 2 rfl) (show TT 48 = (0, 3) from rfl) rfl (by decide) wF_X5_94 (by show vi (hI h 48 10) = vi (nt : Int); rw [d10]) ?_
  refine K_istore_n (ls' := [(1, vi (nt : Int)), (0, vr 63)]) (dt_at dtX5_readThing 3 rfl) rfl (by decide) rfl ?_
  refine K_iload_n (dt_at dtX5_readThing 4 rfl) rfl rfl ?_
  refine K_bipush (dt_at dtX5_readThing 5 rfl) (by decide) ?_
  refine K_icmp_lt (tgt := 20) (dt_at dtX5_readThing 6 rfl) (by decide) (by first | assumption | exact ⟨by omega, by omega⟩) (by first | assumption | exact ⟨by omega, by omega⟩) (fun c1 => absurd c1 (by omega)) (fun c1 => ?_)
  refine K_aload_n (dt_at dtX5_readThing 7 rfl) rfl rfl ?_
  refine K_iconst (dt_at dtX5_readThing 8 rfl) ?_
  have Aq1 : TG h tp n p := A
  refine K_callV (M' := mX5_stop) (a := 63) (ci := 5) (As := [vi 2]) (st := []) (dt_at dtX5_readThing 9 rfl) (sX5_stop Aq1 ⟨by omega, by omega⟩) (show TT 63 = (0, 5) from rfl) rfl wL_X5_86 vX5_stop rfl npX5_stop (by decide) (by decide) (Nat.le_of_ble_eq_true rfl) (by decide) (by decide) GK_E (fun v9 hc2 hq => ?_) (fun E h9 hq => by cases hq.1)
  have hqq3 := hq
  obtain ⟨e9q3, Bq3, Fq3⟩ := hqq3
  cases e9q3
  show K mX5_readThing _ _ 0 0 19 [(1, vi (nt : Int)), (0, vr 63)] [] hc2
  exact K_vret (dt_at dtX5_readThing 10 rfl) rfl (by decide) (by decide) ⟨rfl, Bq3, (FL_tr (FL_rf : FL [] TR [] h h) (FL_up Fq3 rfl rfl rfl))⟩
theorem byP_t {tp : Int → Int} {n p : Nat} {me : Int} (h : isWb tp (tk tp n p) 2 = true) : byP tp n me p = pakP tp n me (tk tp n p).2.2 := if_pos h
theorem upI_me (f : Int → Int) (i x : Int) : upI f i x i = x := by unfold upI; rw [if_pos rfl]
theorem upI_two (f : Int → Int) (i x y : Int) : upI (upI f i x) i y = upI f i y := by
  funext j
  unfold upI
  by_cases c : j = i
  · rw [if_pos c, if_pos c]
  · rw [if_neg c, if_neg c, if_neg c]
def PEr (h' h : HP) (t : Nat) (tp : Int → Int) (n np : Nat) : (Int × Nat) ⊕ (Int × Int × Int × Int × Int × Nat) → Prop
  | .inl e => TE h' tp n e
  | .inr (a, b, c, f, y, q) => TG h' tp n q ∧ hI h' t 11 = ((np + 1 : Nat) : Int) ∧ hA h' (t + 4) = upI (hA h (t + 4)) (np : Int) a ∧ hA h' (t + 5) = upI (hA h (t + 5)) (np : Int) b ∧ hA h' (t + 6) = upI (hA h (t + 6)) (np : Int) c ∧ hA h' (t + 7) = upI (hA h (t + 7)) (np : Int) f ∧ hA h' (t + 8) = upI (hA h (t + 8)) (np : Int) y
def mX5_readPerson : MI := (yX5_readPerson, cX5_readPerson, 2, none, rmK 6 0)
def tX5_readPerson : List (Nat × Instr × Nat) := [(0, .aload_n 0, 1), (1, .getfield 29, 3), (4, .getfield 114, 3), (7, .istore_n 1, 1), (8, .iload_n 1, 1), (9, .bipush 7, 2), (11, .if_icmp .lt 9, 3), (14, .aload_n 0, 1), (15, .iconst 2, 1), (16, .invokevirtual 86, 3), (19, .return_, 1), (20, .aload_n 0, 1), (21, .getfield 12, 3), (24, .invokevirtual 97, 3), (27, .aload_n 0, 1), (28, .getfield 29, 3), (31, .getfield 117, 3), (34, .iload_n 1, 1), (35, .aload_n 0, 1), (36, .iconst 0, 1), (37, .bipush 60, 2), (39, .invokevirtual 104, 3), (42, .iastore, 1), (43, .aload_n 0, 1), (44, .getfield 29, 3), (47, .getfield 120, 3), (50, .iload_n 1, 1), (51, .aload_n 0, 1), (52, .iconst 2, 1), (53, .bipush 9, 2), (55, .invokevirtual 104, 3), (58, .iastore, 1), (59, .aload_n 0, 1), (60, .getfield 29, 3), (63, .getfield 123, 3), (66, .iload_n 1, 1), (67, .aload_n 0, 1), (68, .iconst 1, 1), (69, .aload_n 0, 1), (70, .getfield 29, 3), (73, .getfield 120, 3), (76, .iload_n 1, 1), (77, .iaload, 1), (78, .iconst 1, 1), (79, .isub, 1), (80, .invokevirtual 104, 3), (83, .iastore, 1), (84, .aload_n 0, 1), (85, .getfield 29, 3), (88, .getfield 126, 3), (91, .iload_n 1, 1), (92, .aload_n 0, 1), (93, .iconst 0, 1), (94, .bipush 9, 2), (96, .invokevirtual 104, 3), (99, .iastore, 1), (100, .aload_n 0, 1), (101, .getfield 29, 3), (104, .getfield 129, 3), (107, .iload_n 1, 1), (108, .iconst (-1), 1), (109, .iastore, 1), (110, .aload_n 0, 1), (111, .invokevirtual 49, 3), (114, .ifCond .eq 36, 3), (117, .aload_n 0, 1), (118, .getfield 12, 3), (121, .ldc 132, 2), (123, .invokevirtual 65, 3), (126, .ifCond .eq 24, 3), (129, .aload_n 0, 1), (130, .getfield 12, 3), (133, .invokevirtual 97, 3), (136, .aload_n 0, 1), (137, .getfield 29, 3), (140, .getfield 129, 3), (143, .iload_n 1, 1), (144, .aload_n 0, 1), (145, .iload_n 1, 1), (146, .invokevirtual 133, 3), (149, .iastore, 1), (150, .aload_n 0, 1), (151, .getfield 29, 3), (154, .dup, 1), (155, .getfield 114, 3), (158, .iconst 1, 1), (159, .iadd, 1), (160, .putfield 114, 3), (163, .return_, 1)]
theorem dtX5_readPerson : tX5_readPerson.all (fun q => decide (decode cX5_readPerson q.1 = .ok (q.2.1, q.2.2))) = true := by decide +kernel
theorem npX5_readPerson : (parseMethodDescriptor (mY mX5_readPerson).desc).map (fun d => d.parameters.length) = some 0 := by decide +kernel
theorem vX5_readPerson : mV mX5_readPerson := ⟨wI_X5_readPerson, wS_X5_readPerson, wN_X5, wC_X5_readPerson, by decide +kernel, by decide +kernel⟩
set_option maxHeartbeats 4000000 in
set_option maxRecDepth 100000 in
theorem sX5_readPerson_33 {h : HP} {tp : Int → Int} {n p np : Nat} (A : TG h tp n p) (i1 : hR h 63 1 = 33) (d11 : hI h 33 11 = (np : Int)) (hnp : np < 7) : SpecK mX5_readPerson [vr 63] h (fun o h' => o = .inl none ∧ PEr h' h 33 tp n np (peN tp n (np : Int) (tk tp n p).2.2) ∧ FL [37, 38, 39, 40, 41] ((33, 11) :: TR) [] h h') := by
  refine Spec_of (by decide +kernel) (Nat.le_of_ble_eq_true rfl) ?_
  refine K_aload_n (dt_at dtX5_readPerson 0 rfl) rfl rfl ?_
  refine K_get (a := 63) (ci := 5) (k := 1) (v := vr 33) (dt_at dtX5_readPerson 1 rfl) (show TT 63 = (0, 5) from rfl) rfl (by decide) wF_X5_29 (by show vr (hR h 63 1) = vr 33; rw [i1]) ?_
  refine K_get (a := 33) (ci := 3) (k := 11) (v := vi (np : Int)) (dt_at dtX5_readPerson 2 rfl) (show TT 33 = (0, 3) from rfl) rfl (by decide) wF_X5_114 (by show vi (hI h 33 11) = vi (np : Int); rw [d11]) ?_
  refine K_istore_n (ls' := [(1, vi (np : Int)), (0, vr 63)]) (dt_at dtX5_readPerson 3 rfl) rfl (by decide) rfl ?_
  refine K_iload_n (dt_at dtX5_readPerson 4 rfl) rfl rfl ?_
  refine K_bipush (dt_at dtX5_readPerson 5 rfl) (by decide) ?_
  refine K_icmp_lt (tgt := 20) (dt_at dtX5_readPerson 6 rfl) (by decide) (by first | assumption | exact ⟨by omega, by omega⟩) (by first | assumption | exact ⟨by omega, by omega⟩) (fun c1 => ?_) (fun c1 => absurd c1 (by omega))
  refine K_aload_n (dt_at dtX5_readPerson 11 rfl) rfl rfl ?_
  refine K_get (a := 63) (ci := 5) (k := 0) (v := vr 64) (dt_at dtX5_readPerson 12 rfl) (show TT 63 = (0, 5) from rfl) rfl (by decide) wF_X5_12 rfl ?_
  have Aq1 : TG h tp n p := A
  refine K_callV (M' := mX9_pass) (a := 64) (ci := 9) (As := []) (st := []) (dt_at dtX5_readPerson 13 rfl) (pass_G Aq1) (show TT 64 = (0, 9) from rfl) rfl wL_X5_97 vX9_pass rfl npX9_pass (by decide) (by decide) (Nat.le_of_ble_eq_true rfl) (by decide) (by decide) GK_E (fun v9 hc2 hq => ?_) (fun E h9 hq => by cases hq.1)
  have hqq3 := hq
  obtain ⟨e9q3, Bq3, Fq3⟩ := hqq3
  cases e9q3
  show K mX5_readPerson _ _ 0 0 27 [(1, vi (np : Int)), (0, vr 63)] [] hc2
  refine K_aload_n (dt_at dtX5_readPerson 14 rfl) rfl rfl ?_
  refine K_get (a := 63) (ci := 5) (k := 1) (v := vr 33) (dt_at dtX5_readPerson 15 rfl) (show TT 63 = (0, 5) from rfl) rfl (by decide) wF_X5_29 (by show vr (hR hc2 63 1) = vr 33; rw [(Fq3.2.2 63 1 rfl), i1]) ?_
  refine K_get (a := 33) (ci := 3) (k := 3) (v := vr 37) (dt_at dtX5_readPerson 16 rfl) (show TT 33 = (0, 3) from rfl) rfl (by decide) wF_X5_117 rfl ?_
  refine K_iload_n (dt_at dtX5_readPerson 17 rfl) rfl rfl ?_
  refine K_aload_n (dt_at dtX5_readPerson 18 rfl) rfl rfl ?_
  refine K_iconst (dt_at dtX5_readPerson 19 rfl) ?_
  refine K_bipush (dt_at dtX5_readPerson 20 rfl) (by decide) ?_
  have Aq4 : TG hc2 tp n ((tk tp n p).2.2) := Bq3
  refine K_callV (M' := mX5_readNumber) (a := 63) (ci := 5) (As := [vi 0, vi 60]) (st := [vi (np : Int), vr 37]) (dt_at dtX5_readPerson 21 rfl) (num_P Aq4 ⟨by omega, by omega⟩ ⟨by omega, by omega⟩) (show TT 63 = (0, 5) from rfl) rfl wL_X5_104 vX5_readNumber rfl npX5_readNumber (by decide) (by decide) (Nat.le_of_ble_eq_true rfl) (by decide) (by decide) GK_E (fun v9 hcq4 hq => ?_) (fun E h9 hq => by obtain ⟨⟨_, e9⟩, _⟩ := hq; cases e9)
  obtain ⟨-, Nq4, Fq4⟩ := hq
  rcases uq4 : nuP tp n 0 60 ((tk tp n p).2.2) with ekq4 | ⟨vq4, pq4⟩
  · rw [uq4] at Nq4
    obtain ⟨e9, Bq4⟩ := Nq4
    cases e9
    show K mX5_readPerson _ _ 0 0 42 [(1, vi (np : Int)), (0, vr 63)] [vi 0, vi (np : Int), vr 37] hcq4
    refine K_iast (dt_at dtX5_readPerson 22 rfl) (show TT 37 = (1, 7) from rfl) (by omega) (by omega) ?_
    obtain ⟨hq5, eq5⟩ : ∃ z, z = sA hcq4 37 (np : Int) 0 := ⟨_, rfl⟩
    rw [← eq5]
    obtain ⟨aq5, fq5, iq5, rq5⟩ := sA_fx eq5
    rw [(Fq4.1 37 rfl), (Fq3.1 37 rfl)] at aq5
    refine K_aload_n (dt_at dtX5_readPerson 23 rfl) rfl rfl ?_
    refine K_get (a := 63) (ci := 5) (k := 1) (v := vr 33) (dt_at dtX5_readPerson 24 rfl) (show TT 63 = (0, 5) from rfl) rfl (by decide) wF_X5_29 (by show vr (hR hq5 63 1) = vr 33; rw [rq5, (Fq4.2.2 63 1 rfl), (Fq3.2.2 63 1 rfl), i1]) ?_
    refine K_get (a := 33) (ci := 3) (k := 4) (v := vr 38) (dt_at dtX5_readPerson 25 rfl) (show TT 33 = (0, 3) from rfl) rfl (by decide) wF_X5_120 rfl ?_
    refine K_iload_n (dt_at dtX5_readPerson 26 rfl) rfl rfl ?_
    refine K_aload_n (dt_at dtX5_readPerson 27 rfl) rfl rfl ?_
    refine K_iconst (dt_at dtX5_readPerson 28 rfl) ?_
    refine K_bipush (dt_at dtX5_readPerson 29 rfl) (by decide) ?_
    have Aq6 : TE hq5 tp n ekq4 := (TE_up Bq4 (FL_tr (FL_rf : FL [37, 38, 39, 40, 41] [(33, 11)] [] hcq4 hcq4) (FL_eA eq5 rfl)) rfl rfl rfl)
    refine K_callV (M' := mX5_readNumber) (a := 63) (ci := 5) (As := [vi 2, vi 9]) (st := [vi (np : Int), vr 38]) (dt_at dtX5_readPerson 30 rfl) (sX5_readNumber_e Aq6) (show TT 63 = (0, 5) from rfl) rfl wL_X5_104 vX5_readNumber rfl npX5_readNumber (by decide) (by decide) (Nat.le_of_ble_eq_true rfl) (by decide) (by decide) GK_E (fun v9 h9 hq => ?_) (fun E h9 hq => by cases hq.1)
    obtain ⟨e9, e8⟩ := hq
    cases e9
    rw [e8]
    show K mX5_readPerson _ _ 0 0 58 [(1, vi (np : Int)), (0, vr 63)] [vi 0, vi (np : Int), vr 38] hq5
    refine K_iast (dt_at dtX5_readPerson 31 rfl) (show TT 38 = (1, 7) from rfl) (by omega) (by omega) ?_
    obtain ⟨hq7, eq7⟩ : ∃ z, z = sA hq5 38 (np : Int) 0 := ⟨_, rfl⟩
    rw [← eq7]
    obtain ⟨aq7, fq7, iq7, rq7⟩ := sA_fx eq7
    rw [(fq5 38 (by omega)), (Fq4.1 38 rfl), (Fq3.1 38 rfl)] at aq7
    refine K_aload_n (dt_at dtX5_readPerson 32 rfl) rfl rfl ?_
    refine K_get (a := 63) (ci := 5) (k := 1) (v := vr 33) (dt_at dtX5_readPerson 33 rfl) (show TT 63 = (0, 5) from rfl) rfl (by decide) wF_X5_29 (by show vr (hR hq7 63 1) = vr 33; rw [rq7, rq5, (Fq4.2.2 63 1 rfl), (Fq3.2.2 63 1 rfl), i1]) ?_
    refine K_get (a := 33) (ci := 3) (k := 5) (v := vr 39) (dt_at dtX5_readPerson 34 rfl) (show TT 33 = (0, 3) from rfl) rfl (by decide) wF_X5_123 rfl ?_
    refine K_iload_n (dt_at dtX5_readPerson 35 rfl) rfl rfl ?_
    refine K_aload_n (dt_at dtX5_readPerson 36 rfl) rfl rfl ?_
    refine K_iconst (dt_at dtX5_readPerson 37 rfl) ?_
    refine K_aload_n (dt_at dtX5_readPerson 38 rfl) rfl rfl ?_
    refine K_get (a := 63) (ci := 5) (k := 1) (v := vr 33) (dt_at dtX5_readPerson 39 rfl) (show TT 63 = (0, 5) from rfl) rfl (by decide) wF_X5_29 (by show vr (hR hq7 63 1) = vr 33; rw [rq7, rq5, (Fq4.2.2 63 1 rfl), (Fq3.2.2 63 1 rfl), i1]) ?_
    refine K_get (a := 33) (ci := 3) (k := 4) (v := vr 38) (dt_at dtX5_readPerson 40 rfl) (show TT 33 = (0, 3) from rfl) rfl (by decide) wF_X5_120 rfl ?_
    refine K_iload_n (dt_at dtX5_readPerson 41 rfl) rfl rfl ?_
    refine K_iald (dt_at dtX5_readPerson 42 rfl) (show TT 38 = (1, 7) from rfl) (by omega) (by omega) ?_
    rw [aq7]
    rw [upI_me]
    refine K_iconst (dt_at dtX5_readPerson 43 rfl) ?_
    refine K_isub (dt_at dtX5_readPerson 44 rfl) ?_
    have Aq8 : TE hq7 tp n ekq4 := (TE_up Bq4 (FL_tr (FL_tr (FL_rf : FL [37, 38, 39, 40, 41] [(33, 11)] [] hcq4 hcq4) (FL_eA eq5 rfl)) (FL_eA eq7 rfl)) rfl rfl rfl)
    refine K_callV (M' := mX5_readNumber) (a := 63) (ci := 5) (As := [vi 1, vi (0 - 1)]) (st := [vi (np : Int), vr 39]) (dt_at dtX5_readPerson 45 rfl) (sX5_readNumber_e Aq8) (show TT 63 = (0, 5) from rfl) rfl wL_X5_104 vX5_readNumber rfl npX5_readNumber (by decide) (by decide) (Nat.le_of_ble_eq_true rfl) (by decide) (by decide) GK_E (fun v9 h9 hq => ?_) (fun E h9 hq => by cases hq.1)
    obtain ⟨e9, e8⟩ := hq
    cases e9
    rw [e8]
    show K mX5_readPerson _ _ 0 0 83 [(1, vi (np : Int)), (0, vr 63)] [vi 0, vi (np : Int), vr 39] hq7
    refine K_iast (dt_at dtX5_readPerson 46 rfl) (show TT 39 = (1, 7) from rfl) (by omega) (by omega) ?_
    obtain ⟨hq9, eq9⟩ : ∃ z, z = sA hq7 39 (np : Int) 0 := ⟨_, rfl⟩
    rw [← eq9]
    obtain ⟨aq9, fq9, iq9, rq9⟩ := sA_fx eq9
    rw [(fq7 39 (by omega)), (fq5 39 (by omega)), (Fq4.1 39 rfl), (Fq3.1 39 rfl)] at aq9
    refine K_aload_n (dt_at dtX5_readPerson 47 rfl) rfl rfl ?_
    refine K_get (a := 63) (ci := 5) (k := 1) (v := vr 33) (dt_at dtX5_readPerson 48 rfl) (show TT 63 = (0, 5) from rfl) rfl (by decide) wF_X5_29 (by show vr (hR hq9 63 1) = vr 33; rw [rq9, rq7, rq5, (Fq4.2.2 63 1 rfl), (Fq3.2.2 63 1 rfl), i1]) ?_
    refine K_get (a := 33) (ci := 3) (k := 6) (v := vr 40) (dt_at dtX5_readPerson 49 rfl) (show TT 33 = (0, 3) from rfl) rfl (by decide) wF_X5_126 rfl ?_
    refine K_iload_n (dt_at dtX5_readPerson 50 rfl) rfl rfl ?_
    refine K_aload_n (dt_at dtX5_readPerson 51 rfl) rfl rfl ?_
    refine K_iconst (dt_at dtX5_readPerson 52 rfl) ?_
    refine K_bipush (dt_at dtX5_readPerson 53 rfl) (by decide) ?_
    have Aq10 : TE hq9 tp n ekq4 := (TE_up Bq4 (FL_tr (FL_tr (FL_tr (FL_rf : FL [37, 38, 39, 40, 41] [(33, 11)] [] hcq4 hcq4) (FL_eA eq5 rfl)) (FL_eA eq7 rfl)) (FL_eA eq9 rfl)) rfl rfl rfl)
    refine K_callV (M' := mX5_readNumber) (a := 63) (ci := 5) (As := [vi 0, vi 9]) (st := [vi (np : Int), vr 40]) (dt_at dtX5_readPerson 54 rfl) (sX5_readNumber_e Aq10) (show TT 63 = (0, 5) from rfl) rfl wL_X5_104 vX5_readNumber rfl npX5_readNumber (by decide) (by decide) (Nat.le_of_ble_eq_true rfl) (by decide) (by decide) GK_E (fun v9 h9 hq => ?_) (fun E h9 hq => by cases hq.1)
    obtain ⟨e9, e8⟩ := hq
    cases e9
    rw [e8]
    show K mX5_readPerson _ _ 0 0 99 [(1, vi (np : Int)), (0, vr 63)] [vi 0, vi (np : Int), vr 40] hq9
    refine K_iast (dt_at dtX5_readPerson 55 rfl) (show TT 40 = (1, 7) from rfl) (by omega) (by omega) ?_
    obtain ⟨hq11, eq11⟩ : ∃ z, z = sA hq9 40 (np : Int) 0 := ⟨_, rfl⟩
    rw [← eq11]
    obtain ⟨aq11, fq11, iq11, rq11⟩ := sA_fx eq11
    rw [(fq9 40 (by omega)), (fq7 40 (by omega)), (fq5 40 (by omega)), (Fq4.1 40 rfl), (Fq3.1 40 rfl)] at aq11
    refine K_aload_n (dt_at dtX5_readPerson 56 rfl) rfl rfl ?_
    refine K_get (a := 63) (ci := 5) (k := 1) (v := vr 33) (dt_at dtX5_readPerson 57 rfl) (show TT 63 = (0, 5) from rfl) rfl (by decide) wF_X5_29 (by show vr (hR hq11 63 1) = vr 33; rw [rq11, rq9, rq7, rq5, (Fq4.2.2 63 1 rfl), (Fq3.2.2 63 1 rfl), i1]) ?_
    refine K_get (a := 33) (ci := 3) (k := 7) (v := vr 41) (dt_at dtX5_readPerson 58 rfl) (show TT 33 = (0, 3) from rfl) rfl (by decide) wF_X5_129 rfl ?_
    refine K_iload_n (dt_at dtX5_readPerson 59 rfl) rfl rfl ?_
    refine K_iconst (dt_at dtX5_readPerson 60 rfl) ?_
    refine K_iast (dt_at dtX5_readPerson 61 rfl) (show TT 41 = (1, 7) from rfl) (by omega) (by omega) ?_
    obtain ⟨hq12, eq12⟩ : ∃ z, z = sA hq11 41 (np : Int) (-1) := ⟨_, rfl⟩
    rw [← eq12]
    obtain ⟨aq12, fq12, iq12, rq12⟩ := sA_fx eq12
    rw [(fq11 41 (by omega)), (fq9 41 (by omega)), (fq7 41 (by omega)), (fq5 41 (by omega)), (Fq4.1 41 rfl), (Fq3.1 41 rfl)] at aq12
    refine K_aload_n (dt_at dtX5_readPerson 62 rfl) rfl rfl ?_
    have Aq13 : TE hq12 tp n ekq4 := (TE_up Bq4 (FL_tr (FL_tr (FL_tr (FL_tr (FL_tr (FL_rf : FL [37, 38, 39, 40, 41] [(33, 11)] [] hcq4 hcq4) (FL_eA eq5 rfl)) (FL_eA eq7 rfl)) (FL_eA eq9 rfl)) (FL_eA eq11 rfl)) (FL_eA eq12 rfl)) rfl rfl rfl)
    refine K_callV (M' := mX5_isGoing) (a := 63) (ci := 5) (As := []) (st := []) (dt_at dtX5_readPerson 63 rfl) (sX5_isGoing_f Aq13.2.2.2.1 Aq13.2.2.1) (show TT 63 = (0, 5) from rfl) rfl wL_X5_49 vX5_isGoing rfl npX5_isGoing (by decide) (by decide) (Nat.le_of_ble_eq_true rfl) (by decide) (by decide) GK_E (fun v9 h9 hq => ?_) (fun E h9 hq => by cases hq.1)
    obtain ⟨e9, e8⟩ := hq
    cases e9
    rw [e8]
    show K mX5_readPerson _ _ 0 0 114 [(1, vi (np : Int)), (0, vr 63)] [vi 0] hq12
    refine K_if_eq (tgt := 150) (dt_at dtX5_readPerson 64 rfl) (by decide) (by first | assumption | exact ⟨by omega, by omega⟩) (fun c2 => ?_) (fun c2 => absurd c2 (by omega))
    refine K_aload_n (dt_at dtX5_readPerson 81 rfl) rfl rfl ?_
    refine K_get (a := 63) (ci := 5) (k := 1) (v := vr 33) (dt_at dtX5_readPerson 82 rfl) (show TT 63 = (0, 5) from rfl) rfl (by decide) wF_X5_29 (by show vr (hR hq12 63 1) = vr 33; rw [rq12, rq11, rq9, rq7, rq5, (Fq4.2.2 63 1 rfl), (Fq3.2.2 63 1 rfl), i1]) ?_
    refine K_dup (dt_at dtX5_readPerson 83 rfl) rfl ?_
    refine K_get (a := 33) (ci := 3) (k := 11) (v := vi (np : Int)) (dt_at dtX5_readPerson 84 rfl) (show TT 33 = (0, 3) from rfl) rfl (by decide) wF_X5_114 (by show vi (hI hq12 33 11) = vi (np : Int); rw [iq12, iq11, iq9, iq7, iq5, (Fq4.2.1 33 11 rfl), (Fq3.2.1 33 11 rfl), d11]) ?_
    refine K_iconst (dt_at dtX5_readPerson 85 rfl) ?_
    refine K_iadd (dt_at dtX5_readPerson 86 rfl) ?_
    refine K_putI (a := 33) (ci := 3) (k := 11) (dt_at dtX5_readPerson 87 rfl) (show TT 33 = (0, 3) from rfl) rfl (by decide) wF_X5_114 rfl (Or.inl rfl) rfl rfl ?_
    obtain ⟨hq14, eq14⟩ : ∃ z, z = sI hq12 33 11 ((np : Int) + 1) := ⟨_, rfl⟩
    rw [← eq14]
    obtain ⟨iq14, fq14, aq14, rq14⟩ := sI_fx eq14
    have FE := (TE_up Bq4 (FL_tr (FL_tr (FL_tr (FL_tr (FL_tr (FL_tr (FL_rf : FL [37, 38, 39, 40, 41] [(33, 11)] [] hcq4 hcq4) (FL_eA eq5 rfl)) (FL_eA eq7 rfl)) (FL_eA eq9 rfl)) (FL_eA eq11 rfl)) (FL_eA eq12 rfl)) (FL_eI eq14 rfl)) rfl rfl rfl)
    exact K_vret (dt_at dtX5_readPerson 88 rfl) rfl (by decide) (by decide) ⟨rfl, by simp only [peN, uq4]; exact FE, (FL_tr (FL_tr (FL_tr (FL_tr (FL_tr (FL_tr (FL_tr (FL_tr (FL_rf : FL [37, 38, 39, 40, 41] ((33, 11) :: TR) [] h h) (FL_up Fq3 rfl rfl rfl)) (FL_up Fq4 rfl rfl rfl)) (FL_eA eq5 rfl)) (FL_eA eq7 rfl)) (FL_eA eq9 rfl)) (FL_eA eq11 rfl)) (FL_eA eq12 rfl)) (FL_eI eq14 rfl))⟩
  · rw [uq4] at Nq4
    obtain ⟨e9, Bq4⟩ := Nq4
    cases e9
    show K mX5_readPerson _ _ 0 0 42 [(1, vi (np : Int)), (0, vr 63)] [vi vq4, vi (np : Int), vr 37] hcq4
    have bq4 := nuP_b uq4
    refine K_iast (dt_at dtX5_readPerson 22 rfl) (show TT 37 = (1, 7) from rfl) (by omega) (by omega) ?_
    obtain ⟨hq15, eq15⟩ : ∃ z, z = sA hcq4 37 (np : Int) vq4 := ⟨_, rfl⟩
    rw [← eq15]
    obtain ⟨aq15, fq15, iq15, rq15⟩ := sA_fx eq15
    rw [(Fq4.1 37 rfl), (Fq3.1 37 rfl)] at aq15
    refine K_aload_n (dt_at dtX5_readPerson 23 rfl) rfl rfl ?_
    refine K_get (a := 63) (ci := 5) (k := 1) (v := vr 33) (dt_at dtX5_readPerson 24 rfl) (show TT 63 = (0, 5) from rfl) rfl (by decide) wF_X5_29 (by show vr (hR hq15 63 1) = vr 33; rw [rq15, (Fq4.2.2 63 1 rfl), (Fq3.2.2 63 1 rfl), i1]) ?_
    refine K_get (a := 33) (ci := 3) (k := 4) (v := vr 38) (dt_at dtX5_readPerson 25 rfl) (show TT 33 = (0, 3) from rfl) rfl (by decide) wF_X5_120 rfl ?_
    refine K_iload_n (dt_at dtX5_readPerson 26 rfl) rfl rfl ?_
    refine K_aload_n (dt_at dtX5_readPerson 27 rfl) rfl rfl ?_
    refine K_iconst (dt_at dtX5_readPerson 28 rfl) ?_
    refine K_bipush (dt_at dtX5_readPerson 29 rfl) (by decide) ?_
    have Aq16 : TG hq15 tp n pq4 := (TG_up Bq4 (FL_tr (FL_rf : FL [37, 38, 39, 40, 41] [(33, 11)] [] hcq4 hcq4) (FL_eA eq15 rfl)) rfl rfl rfl)
    refine K_callV (M' := mX5_readNumber) (a := 63) (ci := 5) (As := [vi 2, vi 9]) (st := [vi (np : Int), vr 38]) (dt_at dtX5_readPerson 30 rfl) (num_P Aq16 ⟨by omega, by omega⟩ ⟨by omega, by omega⟩) (show TT 63 = (0, 5) from rfl) rfl wL_X5_104 vX5_readNumber rfl npX5_readNumber (by decide) (by decide) (Nat.le_of_ble_eq_true rfl) (by decide) (by decide) GK_E (fun v9 hcq16 hq => ?_) (fun E h9 hq => by obtain ⟨⟨_, e9⟩, _⟩ := hq; cases e9)
    obtain ⟨-, Nq16, Fq16⟩ := hq
    rcases uq16 : nuP tp n 2 9 pq4 with ekq16 | ⟨vq16, pq16⟩
    · rw [uq16] at Nq16
      obtain ⟨e9, Bq16⟩ := Nq16
      cases e9
      show K mX5_readPerson _ _ 0 0 58 [(1, vi (np : Int)), (0, vr 63)] [vi 0, vi (np : Int), vr 38] hcq16
      refine K_iast (dt_at dtX5_readPerson 31 rfl) (show TT 38 = (1, 7) from rfl) (by omega) (by omega) ?_
      obtain ⟨hq17, eq17⟩ : ∃ z, z = sA hcq16 38 (np : Int) 0 := ⟨_, rfl⟩
      rw [← eq17]
      obtain ⟨aq17, fq17, iq17, rq17⟩ := sA_fx eq17
      rw [(Fq16.1 38 rfl), (fq15 38 (by omega)), (Fq4.1 38 rfl), (Fq3.1 38 rfl)] at aq17
      refine K_aload_n (dt_at dtX5_readPerson 32 rfl) rfl rfl ?_
      refine K_get (a := 63) (ci := 5) (k := 1) (v := vr 33) (dt_at dtX5_readPerson 33 rfl) (show TT 63 = (0, 5) from rfl) rfl (by decide) wF_X5_29 (by show vr (hR hq17 63 1) = vr 33; rw [rq17, (Fq16.2.2 63 1 rfl), rq15, (Fq4.2.2 63 1 rfl), (Fq3.2.2 63 1 rfl), i1]) ?_
      refine K_get (a := 33) (ci := 3) (k := 5) (v := vr 39) (dt_at dtX5_readPerson 34 rfl) (show TT 33 = (0, 3) from rfl) rfl (by decide) wF_X5_123 rfl ?_
      refine K_iload_n (dt_at dtX5_readPerson 35 rfl) rfl rfl ?_
      refine K_aload_n (dt_at dtX5_readPerson 36 rfl) rfl rfl ?_
      refine K_iconst (dt_at dtX5_readPerson 37 rfl) ?_
      refine K_aload_n (dt_at dtX5_readPerson 38 rfl) rfl rfl ?_
      refine K_get (a := 63) (ci := 5) (k := 1) (v := vr 33) (dt_at dtX5_readPerson 39 rfl) (show TT 63 = (0, 5) from rfl) rfl (by decide) wF_X5_29 (by show vr (hR hq17 63 1) = vr 33; rw [rq17, (Fq16.2.2 63 1 rfl), rq15, (Fq4.2.2 63 1 rfl), (Fq3.2.2 63 1 rfl), i1]) ?_
      refine K_get (a := 33) (ci := 3) (k := 4) (v := vr 38) (dt_at dtX5_readPerson 40 rfl) (show TT 33 = (0, 3) from rfl) rfl (by decide) wF_X5_120 rfl ?_
      refine K_iload_n (dt_at dtX5_readPerson 41 rfl) rfl rfl ?_
      refine K_iald (dt_at dtX5_readPerson 42 rfl) (show TT 38 = (1, 7) from rfl) (by omega) (by omega) ?_
      rw [aq17]
      rw [upI_me]
      refine K_iconst (dt_at dtX5_readPerson 43 rfl) ?_
      refine K_isub (dt_at dtX5_readPerson 44 rfl) ?_
      have Aq18 : TE hq17 tp n ekq16 := (TE_up Bq16 (FL_tr (FL_rf : FL [37, 38, 39, 40, 41] [(33, 11)] [] hcq16 hcq16) (FL_eA eq17 rfl)) rfl rfl rfl)
      refine K_callV (M' := mX5_readNumber) (a := 63) (ci := 5) (As := [vi 1, vi (0 - 1)]) (st := [vi (np : Int), vr 39]) (dt_at dtX5_readPerson 45 rfl) (sX5_readNumber_e Aq18) (show TT 63 = (0, 5) from rfl) rfl wL_X5_104 vX5_readNumber rfl npX5_readNumber (by decide) (by decide) (Nat.le_of_ble_eq_true rfl) (by decide) (by decide) GK_E (fun v9 h9 hq => ?_) (fun E h9 hq => by cases hq.1)
      obtain ⟨e9, e8⟩ := hq
      cases e9
      rw [e8]
      show K mX5_readPerson _ _ 0 0 83 [(1, vi (np : Int)), (0, vr 63)] [vi 0, vi (np : Int), vr 39] hq17
      refine K_iast (dt_at dtX5_readPerson 46 rfl) (show TT 39 = (1, 7) from rfl) (by omega) (by omega) ?_
      obtain ⟨hq19, eq19⟩ : ∃ z, z = sA hq17 39 (np : Int) 0 := ⟨_, rfl⟩
      rw [← eq19]
      obtain ⟨aq19, fq19, iq19, rq19⟩ := sA_fx eq19
      rw [(fq17 39 (by omega)), (Fq16.1 39 rfl), (fq15 39 (by omega)), (Fq4.1 39 rfl), (Fq3.1 39 rfl)] at aq19
      refine K_aload_n (dt_at dtX5_readPerson 47 rfl) rfl rfl ?_
      refine K_get (a := 63) (ci := 5) (k := 1) (v := vr 33) (dt_at dtX5_readPerson 48 rfl) (show TT 63 = (0, 5) from rfl) rfl (by decide) wF_X5_29 (by show vr (hR hq19 63 1) = vr 33; rw [rq19, rq17, (Fq16.2.2 63 1 rfl), rq15, (Fq4.2.2 63 1 rfl), (Fq3.2.2 63 1 rfl), i1]) ?_
      refine K_get (a := 33) (ci := 3) (k := 6) (v := vr 40) (dt_at dtX5_readPerson 49 rfl) (show TT 33 = (0, 3) from rfl) rfl (by decide) wF_X5_126 rfl ?_
      refine K_iload_n (dt_at dtX5_readPerson 50 rfl) rfl rfl ?_
      refine K_aload_n (dt_at dtX5_readPerson 51 rfl) rfl rfl ?_
      refine K_iconst (dt_at dtX5_readPerson 52 rfl) ?_
      refine K_bipush (dt_at dtX5_readPerson 53 rfl) (by decide) ?_
      have Aq20 : TE hq19 tp n ekq16 := (TE_up Bq16 (FL_tr (FL_tr (FL_rf : FL [37, 38, 39, 40, 41] [(33, 11)] [] hcq16 hcq16) (FL_eA eq17 rfl)) (FL_eA eq19 rfl)) rfl rfl rfl)
      refine K_callV (M' := mX5_readNumber) (a := 63) (ci := 5) (As := [vi 0, vi 9]) (st := [vi (np : Int), vr 40]) (dt_at dtX5_readPerson 54 rfl) (sX5_readNumber_e Aq20) (show TT 63 = (0, 5) from rfl) rfl wL_X5_104 vX5_readNumber rfl npX5_readNumber (by decide) (by decide) (Nat.le_of_ble_eq_true rfl) (by decide) (by decide) GK_E (fun v9 h9 hq => ?_) (fun E h9 hq => by cases hq.1)
      obtain ⟨e9, e8⟩ := hq
      cases e9
      rw [e8]
      show K mX5_readPerson _ _ 0 0 99 [(1, vi (np : Int)), (0, vr 63)] [vi 0, vi (np : Int), vr 40] hq19
      refine K_iast (dt_at dtX5_readPerson 55 rfl) (show TT 40 = (1, 7) from rfl) (by omega) (by omega) ?_
      obtain ⟨hq21, eq21⟩ : ∃ z, z = sA hq19 40 (np : Int) 0 := ⟨_, rfl⟩
      rw [← eq21]
      obtain ⟨aq21, fq21, iq21, rq21⟩ := sA_fx eq21
      rw [(fq19 40 (by omega)), (fq17 40 (by omega)), (Fq16.1 40 rfl), (fq15 40 (by omega)), (Fq4.1 40 rfl), (Fq3.1 40 rfl)] at aq21
      refine K_aload_n (dt_at dtX5_readPerson 56 rfl) rfl rfl ?_
      refine K_get (a := 63) (ci := 5) (k := 1) (v := vr 33) (dt_at dtX5_readPerson 57 rfl) (show TT 63 = (0, 5) from rfl) rfl (by decide) wF_X5_29 (by show vr (hR hq21 63 1) = vr 33; rw [rq21, rq19, rq17, (Fq16.2.2 63 1 rfl), rq15, (Fq4.2.2 63 1 rfl), (Fq3.2.2 63 1 rfl), i1]) ?_
      refine K_get (a := 33) (ci := 3) (k := 7) (v := vr 41) (dt_at dtX5_readPerson 58 rfl) (show TT 33 = (0, 3) from rfl) rfl (by decide) wF_X5_129 rfl ?_
      refine K_iload_n (dt_at dtX5_readPerson 59 rfl) rfl rfl ?_
      refine K_iconst (dt_at dtX5_readPerson 60 rfl) ?_
      refine K_iast (dt_at dtX5_readPerson 61 rfl) (show TT 41 = (1, 7) from rfl) (by omega) (by omega) ?_
      obtain ⟨hq22, eq22⟩ : ∃ z, z = sA hq21 41 (np : Int) (-1) := ⟨_, rfl⟩
      rw [← eq22]
      obtain ⟨aq22, fq22, iq22, rq22⟩ := sA_fx eq22
      rw [(fq21 41 (by omega)), (fq19 41 (by omega)), (fq17 41 (by omega)), (Fq16.1 41 rfl), (fq15 41 (by omega)), (Fq4.1 41 rfl), (Fq3.1 41 rfl)] at aq22
      refine K_aload_n (dt_at dtX5_readPerson 62 rfl) rfl rfl ?_
      have Aq23 : TE hq22 tp n ekq16 := (TE_up Bq16 (FL_tr (FL_tr (FL_tr (FL_tr (FL_rf : FL [37, 38, 39, 40, 41] [(33, 11)] [] hcq16 hcq16) (FL_eA eq17 rfl)) (FL_eA eq19 rfl)) (FL_eA eq21 rfl)) (FL_eA eq22 rfl)) rfl rfl rfl)
      refine K_callV (M' := mX5_isGoing) (a := 63) (ci := 5) (As := []) (st := []) (dt_at dtX5_readPerson 63 rfl) (sX5_isGoing_f Aq23.2.2.2.1 Aq23.2.2.1) (show TT 63 = (0, 5) from rfl) rfl wL_X5_49 vX5_isGoing rfl npX5_isGoing (by decide) (by decide) (Nat.le_of_ble_eq_true rfl) (by decide) (by decide) GK_E (fun v9 h9 hq => ?_) (fun E h9 hq => by cases hq.1)
      obtain ⟨e9, e8⟩ := hq
      cases e9
      rw [e8]
      show K mX5_readPerson _ _ 0 0 114 [(1, vi (np : Int)), (0, vr 63)] [vi 0] hq22
      refine K_if_eq (tgt := 150) (dt_at dtX5_readPerson 64 rfl) (by decide) (by first | assumption | exact ⟨by omega, by omega⟩) (fun c3 => ?_) (fun c3 => absurd c3 (by omega))
      refine K_aload_n (dt_at dtX5_readPerson 81 rfl) rfl rfl ?_
      refine K_get (a := 63) (ci := 5) (k := 1) (v := vr 33) (dt_at dtX5_readPerson 82 rfl) (show TT 63 = (0, 5) from rfl) rfl (by decide) wF_X5_29 (by show vr (hR hq22 63 1) = vr 33; rw [rq22, rq21, rq19, rq17, (Fq16.2.2 63 1 rfl), rq15, (Fq4.2.2 63 1 rfl), (Fq3.2.2 63 1 rfl), i1]) ?_
      refine K_dup (dt_at dtX5_readPerson 83 rfl) rfl ?_
      refine K_get (a := 33) (ci := 3) (k := 11) (v := vi (np : Int)) (dt_at dtX5_readPerson 84 rfl) (show TT 33 = (0, 3) from rfl) rfl (by decide) wF_X5_114 (by show vi (hI hq22 33 11) = vi (np : Int); rw [iq22, iq21, iq19, iq17, (Fq16.2.1 33 11 rfl), iq15, (Fq4.2.1 33 11 rfl), (Fq3.2.1 33 11 rfl), d11]) ?_
      refine K_iconst (dt_at dtX5_readPerson 85 rfl) ?_
      refine K_iadd (dt_at dtX5_readPerson 86 rfl) ?_
      refine K_putI (a := 33) (ci := 3) (k := 11) (dt_at dtX5_readPerson 87 rfl) (show TT 33 = (0, 3) from rfl) rfl (by decide) wF_X5_114 rfl (Or.inl rfl) rfl rfl ?_
      obtain ⟨hq24, eq24⟩ : ∃ z, z = sI hq22 33 11 ((np : Int) + 1) := ⟨_, rfl⟩
      rw [← eq24]
      obtain ⟨iq24, fq24, aq24, rq24⟩ := sI_fx eq24
      have FE := (TE_up Bq16 (FL_tr (FL_tr (FL_tr (FL_tr (FL_tr (FL_rf : FL [37, 38, 39, 40, 41] [(33, 11)] [] hcq16 hcq16) (FL_eA eq17 rfl)) (FL_eA eq19 rfl)) (FL_eA eq21 rfl)) (FL_eA eq22 rfl)) (FL_eI eq24 rfl)) rfl rfl rfl)
      exact K_vret (dt_at dtX5_readPerson 88 rfl) rfl (by decide) (by decide) ⟨rfl, by simp only [peN, uq4, uq16]; exact FE, (FL_tr (FL_tr (FL_tr (FL_tr (FL_tr (FL_tr (FL_tr (FL_tr (FL_tr (FL_rf : FL [37, 38, 39, 40, 41] ((33, 11) :: TR) [] h h) (FL_up Fq3 rfl rfl rfl)) (FL_up Fq4 rfl rfl rfl)) (FL_eA eq15 rfl)) (FL_up Fq16 rfl rfl rfl)) (FL_eA eq17 rfl)) (FL_eA eq19 rfl)) (FL_eA eq21 rfl)) (FL_eA eq22 rfl)) (FL_eI eq24 rfl))⟩
    · rw [uq16] at Nq16
      obtain ⟨e9, Bq16⟩ := Nq16
      cases e9
      show K mX5_readPerson _ _ 0 0 58 [(1, vi (np : Int)), (0, vr 63)] [vi vq16, vi (np : Int), vr 38] hcq16
      have bq16 := nuP_b uq16
      refine K_iast (dt_at dtX5_readPerson 31 rfl) (show TT 38 = (1, 7) from rfl) (by omega) (by omega) ?_
      obtain ⟨hq25, eq25⟩ : ∃ z, z = sA hcq16 38 (np : Int) vq16 := ⟨_, rfl⟩
      rw [← eq25]
      obtain ⟨aq25, fq25, iq25, rq25⟩ := sA_fx eq25
      rw [(Fq16.1 38 rfl), (fq15 38 (by omega)), (Fq4.1 38 rfl), (Fq3.1 38 rfl)] at aq25
      refine K_aload_n (dt_at dtX5_readPerson 32 rfl) rfl rfl ?_
      refine K_get (a := 63) (ci := 5) (k := 1) (v := vr 33) (dt_at dtX5_readPerson 33 rfl) (show TT 63 = (0, 5) from rfl) rfl (by decide) wF_X5_29 (by show vr (hR hq25 63 1) = vr 33; rw [rq25, (Fq16.2.2 63 1 rfl), rq15, (Fq4.2.2 63 1 rfl), (Fq3.2.2 63 1 rfl), i1]) ?_
      refine K_get (a := 33) (ci := 3) (k := 5) (v := vr 39) (dt_at dtX5_readPerson 34 rfl) (show TT 33 = (0, 3) from rfl) rfl (by decide) wF_X5_123 rfl ?_
      refine K_iload_n (dt_at dtX5_readPerson 35 rfl) rfl rfl ?_
      refine K_aload_n (dt_at dtX5_readPerson 36 rfl) rfl rfl ?_
      refine K_iconst (dt_at dtX5_readPerson 37 rfl) ?_
      refine K_aload_n (dt_at dtX5_readPerson 38 rfl) rfl rfl ?_
      refine K_get (a := 63) (ci := 5) (k := 1) (v := vr 33) (dt_at dtX5_readPerson 39 rfl) (show TT 63 = (0, 5) from rfl) rfl (by decide) wF_X5_29 (by show vr (hR hq25 63 1) = vr 33; rw [rq25, (Fq16.2.2 63 1 rfl), rq15, (Fq4.2.2 63 1 rfl), (Fq3.2.2 63 1 rfl), i1]) ?_
      refine K_get (a := 33) (ci := 3) (k := 4) (v := vr 38) (dt_at dtX5_readPerson 40 rfl) (show TT 33 = (0, 3) from rfl) rfl (by decide) wF_X5_120 rfl ?_
      refine K_iload_n (dt_at dtX5_readPerson 41 rfl) rfl rfl ?_
      refine K_iald (dt_at dtX5_readPerson 42 rfl) (show TT 38 = (1, 7) from rfl) (by omega) (by omega) ?_
      rw [aq25]
      rw [upI_me]
      refine K_iconst (dt_at dtX5_readPerson 43 rfl) ?_
      refine K_isub (dt_at dtX5_readPerson 44 rfl) ?_
      have Aq26 : TG hq25 tp n pq16 := (TG_up Bq16 (FL_tr (FL_rf : FL [37, 38, 39, 40, 41] [(33, 11)] [] hcq16 hcq16) (FL_eA eq25 rfl)) rfl rfl rfl)
      refine K_callV (M' := mX5_readNumber) (a := 63) (ci := 5) (As := [vi 1, vi (vq16 - 1)]) (st := [vi (np : Int), vr 39]) (dt_at dtX5_readPerson 45 rfl) (num_P Aq26 ⟨by omega, by omega⟩ ⟨by omega, by omega⟩) (show TT 63 = (0, 5) from rfl) rfl wL_X5_104 vX5_readNumber rfl npX5_readNumber (by decide) (by decide) (Nat.le_of_ble_eq_true rfl) (by decide) (by decide) GK_E (fun v9 hcq26 hq => ?_) (fun E h9 hq => by obtain ⟨⟨_, e9⟩, _⟩ := hq; cases e9)
      obtain ⟨-, Nq26, Fq26⟩ := hq
      rcases uq26 : nuP tp n 1 (vq16 - 1) pq16 with ekq26 | ⟨vq26, pq26⟩
      · rw [uq26] at Nq26
        obtain ⟨e9, Bq26⟩ := Nq26
        cases e9
        show K mX5_readPerson _ _ 0 0 83 [(1, vi (np : Int)), (0, vr 63)] [vi 0, vi (np : Int), vr 39] hcq26
        refine K_iast (dt_at dtX5_readPerson 46 rfl) (show TT 39 = (1, 7) from rfl) (by omega) (by omega) ?_
        obtain ⟨hq27, eq27⟩ : ∃ z, z = sA hcq26 39 (np : Int) 0 := ⟨_, rfl⟩
        rw [← eq27]
        obtain ⟨aq27, fq27, iq27, rq27⟩ := sA_fx eq27
        rw [(Fq26.1 39 rfl), (fq25 39 (by omega)), (Fq16.1 39 rfl), (fq15 39 (by omega)), (Fq4.1 39 rfl), (Fq3.1 39 rfl)] at aq27
        refine K_aload_n (dt_at dtX5_readPerson 47 rfl) rfl rfl ?_
        refine K_get (a := 63) (ci := 5) (k := 1) (v := vr 33) (dt_at dtX5_readPerson 48 rfl) (show TT 63 = (0, 5) from rfl) rfl (by decide) wF_X5_29 (by show vr (hR hq27 63 1) = vr 33; rw [rq27, (Fq26.2.2 63 1 rfl), rq25, (Fq16.2.2 63 1 rfl), rq15, (Fq4.2.2 63 1 rfl), (Fq3.2.2 63 1 rfl), i1]) ?_
        refine K_get (a := 33) (ci := 3) (k := 6) (v := vr 40) (dt_at dtX5_readPerson 49 rfl) (show TT 33 = (0, 3) from rfl) rfl (by decide) wF_X5_126 rfl ?_
        refine K_iload_n (dt_at dtX5_readPerson 50 rfl) rfl rfl ?_
        refine K_aload_n (dt_at dtX5_readPerson 51 rfl) rfl rfl ?_
        refine K_iconst (dt_at dtX5_readPerson 52 rfl) ?_
        refine K_bipush (dt_at dtX5_readPerson 53 rfl) (by decide) ?_
        have Aq28 : TE hq27 tp n ekq26 := (TE_up Bq26 (FL_tr (FL_rf : FL [37, 38, 39, 40, 41] [(33, 11)] [] hcq26 hcq26) (FL_eA eq27 rfl)) rfl rfl rfl)
        refine K_callV (M' := mX5_readNumber) (a := 63) (ci := 5) (As := [vi 0, vi 9]) (st := [vi (np : Int), vr 40]) (dt_at dtX5_readPerson 54 rfl) (sX5_readNumber_e Aq28) (show TT 63 = (0, 5) from rfl) rfl wL_X5_104 vX5_readNumber rfl npX5_readNumber (by decide) (by decide) (Nat.le_of_ble_eq_true rfl) (by decide) (by decide) GK_E (fun v9 h9 hq => ?_) (fun E h9 hq => by cases hq.1)
        obtain ⟨e9, e8⟩ := hq
        cases e9
        rw [e8]
        show K mX5_readPerson _ _ 0 0 99 [(1, vi (np : Int)), (0, vr 63)] [vi 0, vi (np : Int), vr 40] hq27
        refine K_iast (dt_at dtX5_readPerson 55 rfl) (show TT 40 = (1, 7) from rfl) (by omega) (by omega) ?_
        obtain ⟨hq29, eq29⟩ : ∃ z, z = sA hq27 40 (np : Int) 0 := ⟨_, rfl⟩
        rw [← eq29]
        obtain ⟨aq29, fq29, iq29, rq29⟩ := sA_fx eq29
        rw [(fq27 40 (by omega)), (Fq26.1 40 rfl), (fq25 40 (by omega)), (Fq16.1 40 rfl), (fq15 40 (by omega)), (Fq4.1 40 rfl), (Fq3.1 40 rfl)] at aq29
        refine K_aload_n (dt_at dtX5_readPerson 56 rfl) rfl rfl ?_
        refine K_get (a := 63) (ci := 5) (k := 1) (v := vr 33) (dt_at dtX5_readPerson 57 rfl) (show TT 63 = (0, 5) from rfl) rfl (by decide) wF_X5_29 (by show vr (hR hq29 63 1) = vr 33; rw [rq29, rq27, (Fq26.2.2 63 1 rfl), rq25, (Fq16.2.2 63 1 rfl), rq15, (Fq4.2.2 63 1 rfl), (Fq3.2.2 63 1 rfl), i1]) ?_
        refine K_get (a := 33) (ci := 3) (k := 7) (v := vr 41) (dt_at dtX5_readPerson 58 rfl) (show TT 33 = (0, 3) from rfl) rfl (by decide) wF_X5_129 rfl ?_
        refine K_iload_n (dt_at dtX5_readPerson 59 rfl) rfl rfl ?_
        refine K_iconst (dt_at dtX5_readPerson 60 rfl) ?_
        refine K_iast (dt_at dtX5_readPerson 61 rfl) (show TT 41 = (1, 7) from rfl) (by omega) (by omega) ?_
        obtain ⟨hq30, eq30⟩ : ∃ z, z = sA hq29 41 (np : Int) (-1) := ⟨_, rfl⟩
        rw [← eq30]
        obtain ⟨aq30, fq30, iq30, rq30⟩ := sA_fx eq30
        rw [(fq29 41 (by omega)), (fq27 41 (by omega)), (Fq26.1 41 rfl), (fq25 41 (by omega)), (Fq16.1 41 rfl), (fq15 41 (by omega)), (Fq4.1 41 rfl), (Fq3.1 41 rfl)] at aq30
        refine K_aload_n (dt_at dtX5_readPerson 62 rfl) rfl rfl ?_
        have Aq31 : TE hq30 tp n ekq26 := (TE_up Bq26 (FL_tr (FL_tr (FL_tr (FL_rf : FL [37, 38, 39, 40, 41] [(33, 11)] [] hcq26 hcq26) (FL_eA eq27 rfl)) (FL_eA eq29 rfl)) (FL_eA eq30 rfl)) rfl rfl rfl)
        refine K_callV (M' := mX5_isGoing) (a := 63) (ci := 5) (As := []) (st := []) (dt_at dtX5_readPerson 63 rfl) (sX5_isGoing_f Aq31.2.2.2.1 Aq31.2.2.1) (show TT 63 = (0, 5) from rfl) rfl wL_X5_49 vX5_isGoing rfl npX5_isGoing (by decide) (by decide) (Nat.le_of_ble_eq_true rfl) (by decide) (by decide) GK_E (fun v9 h9 hq => ?_) (fun E h9 hq => by cases hq.1)
        obtain ⟨e9, e8⟩ := hq
        cases e9
        rw [e8]
        show K mX5_readPerson _ _ 0 0 114 [(1, vi (np : Int)), (0, vr 63)] [vi 0] hq30
        refine K_if_eq (tgt := 150) (dt_at dtX5_readPerson 64 rfl) (by decide) (by first | assumption | exact ⟨by omega, by omega⟩) (fun c4 => ?_) (fun c4 => absurd c4 (by omega))
        refine K_aload_n (dt_at dtX5_readPerson 81 rfl) rfl rfl ?_
        refine K_get (a := 63) (ci := 5) (k := 1) (v := vr 33) (dt_at dtX5_readPerson 82 rfl) (show TT 63 = (0, 5) from rfl) rfl (by decide) wF_X5_29 (by show vr (hR hq30 63 1) = vr 33; rw [rq30, rq29, rq27, (Fq26.2.2 63 1 rfl), rq25, (Fq16.2.2 63 1 rfl), rq15, (Fq4.2.2 63 1 rfl), (Fq3.2.2 63 1 rfl), i1]) ?_
        refine K_dup (dt_at dtX5_readPerson 83 rfl) rfl ?_
        refine K_get (a := 33) (ci := 3) (k := 11) (v := vi (np : Int)) (dt_at dtX5_readPerson 84 rfl) (show TT 33 = (0, 3) from rfl) rfl (by decide) wF_X5_114 (by show vi (hI hq30 33 11) = vi (np : Int); rw [iq30, iq29, iq27, (Fq26.2.1 33 11 rfl), iq25, (Fq16.2.1 33 11 rfl), iq15, (Fq4.2.1 33 11 rfl), (Fq3.2.1 33 11 rfl), d11]) ?_
        refine K_iconst (dt_at dtX5_readPerson 85 rfl) ?_
        refine K_iadd (dt_at dtX5_readPerson 86 rfl) ?_
        refine K_putI (a := 33) (ci := 3) (k := 11) (dt_at dtX5_readPerson 87 rfl) (show TT 33 = (0, 3) from rfl) rfl (by decide) wF_X5_114 rfl (Or.inl rfl) rfl rfl ?_
        obtain ⟨hq32, eq32⟩ : ∃ z, z = sI hq30 33 11 ((np : Int) + 1) := ⟨_, rfl⟩
        rw [← eq32]
        obtain ⟨iq32, fq32, aq32, rq32⟩ := sI_fx eq32
        have FE := (TE_up Bq26 (FL_tr (FL_tr (FL_tr (FL_tr (FL_rf : FL [37, 38, 39, 40, 41] [(33, 11)] [] hcq26 hcq26) (FL_eA eq27 rfl)) (FL_eA eq29 rfl)) (FL_eA eq30 rfl)) (FL_eI eq32 rfl)) rfl rfl rfl)
        exact K_vret (dt_at dtX5_readPerson 88 rfl) rfl (by decide) (by decide) ⟨rfl, by simp only [peN, uq4, uq16, uq26]; exact FE, (FL_tr (FL_tr (FL_tr (FL_tr (FL_tr (FL_tr (FL_tr (FL_tr (FL_tr (FL_tr (FL_rf : FL [37, 38, 39, 40, 41] ((33, 11) :: TR) [] h h) (FL_up Fq3 rfl rfl rfl)) (FL_up Fq4 rfl rfl rfl)) (FL_eA eq15 rfl)) (FL_up Fq16 rfl rfl rfl)) (FL_eA eq25 rfl)) (FL_up Fq26 rfl rfl rfl)) (FL_eA eq27 rfl)) (FL_eA eq29 rfl)) (FL_eA eq30 rfl)) (FL_eI eq32 rfl))⟩
      · rw [uq26] at Nq26
        obtain ⟨e9, Bq26⟩ := Nq26
        cases e9
        show K mX5_readPerson _ _ 0 0 83 [(1, vi (np : Int)), (0, vr 63)] [vi vq26, vi (np : Int), vr 39] hcq26
        have bq26 := nuP_b uq26
        refine K_iast (dt_at dtX5_readPerson 46 rfl) (show TT 39 = (1, 7) from rfl) (by omega) (by omega) ?_
        obtain ⟨hq33, eq33⟩ : ∃ z, z = sA hcq26 39 (np : Int) vq26 := ⟨_, rfl⟩
        rw [← eq33]
        obtain ⟨aq33, fq33, iq33, rq33⟩ := sA_fx eq33
        rw [(Fq26.1 39 rfl), (fq25 39 (by omega)), (Fq16.1 39 rfl), (fq15 39 (by omega)), (Fq4.1 39 rfl), (Fq3.1 39 rfl)] at aq33
        refine K_aload_n (dt_at dtX5_readPerson 47 rfl) rfl rfl ?_
        refine K_get (a := 63) (ci := 5) (k := 1) (v := vr 33) (dt_at dtX5_readPerson 48 rfl) (show TT 63 = (0, 5) from rfl) rfl (by decide) wF_X5_29 (by show vr (hR hq33 63 1) = vr 33; rw [rq33, (Fq26.2.2 63 1 rfl), rq25, (Fq16.2.2 63 1 rfl), rq15, (Fq4.2.2 63 1 rfl), (Fq3.2.2 63 1 rfl), i1]) ?_
        refine K_get (a := 33) (ci := 3) (k := 6) (v := vr 40) (dt_at dtX5_readPerson 49 rfl) (show TT 33 = (0, 3) from rfl) rfl (by decide) wF_X5_126 rfl ?_
        refine K_iload_n (dt_at dtX5_readPerson 50 rfl) rfl rfl ?_
        refine K_aload_n (dt_at dtX5_readPerson 51 rfl) rfl rfl ?_
        refine K_iconst (dt_at dtX5_readPerson 52 rfl) ?_
        refine K_bipush (dt_at dtX5_readPerson 53 rfl) (by decide) ?_
        have Aq34 : TG hq33 tp n pq26 := (TG_up Bq26 (FL_tr (FL_rf : FL [37, 38, 39, 40, 41] [(33, 11)] [] hcq26 hcq26) (FL_eA eq33 rfl)) rfl rfl rfl)
        refine K_callV (M' := mX5_readNumber) (a := 63) (ci := 5) (As := [vi 0, vi 9]) (st := [vi (np : Int), vr 40]) (dt_at dtX5_readPerson 54 rfl) (num_P Aq34 ⟨by omega, by omega⟩ ⟨by omega, by omega⟩) (show TT 63 = (0, 5) from rfl) rfl wL_X5_104 vX5_readNumber rfl npX5_readNumber (by decide) (by decide) (Nat.le_of_ble_eq_true rfl) (by decide) (by decide) GK_E (fun v9 hcq34 hq => ?_) (fun E h9 hq => by obtain ⟨⟨_, e9⟩, _⟩ := hq; cases e9)
        obtain ⟨-, Nq34, Fq34⟩ := hq
        rcases uq34 : nuP tp n 0 9 pq26 with ekq34 | ⟨vq34, pq34⟩
        · rw [uq34] at Nq34
          obtain ⟨e9, Bq34⟩ := Nq34
          cases e9
          show K mX5_readPerson _ _ 0 0 99 [(1, vi (np : Int)), (0, vr 63)] [vi 0, vi (np : Int), vr 40] hcq34
          refine K_iast (dt_at dtX5_readPerson 55 rfl) (show TT 40 = (1, 7) from rfl) (by omega) (by omega) ?_
          obtain ⟨hq35, eq35⟩ : ∃ z, z = sA hcq34 40 (np : Int) 0 := ⟨_, rfl⟩
          rw [← eq35]
          obtain ⟨aq35, fq35, iq35, rq35⟩ := sA_fx eq35
          rw [(Fq34.1 40 rfl), (fq33 40 (by omega)), (Fq26.1 40 rfl), (fq25 40 (by omega)), (Fq16.1 40 rfl), (fq15 40 (by omega)), (Fq4.1 40 rfl), (Fq3.1 40 rfl)] at aq35
          refine K_aload_n (dt_at dtX5_readPerson 56 rfl) rfl rfl ?_
          refine K_get (a := 63) (ci := 5) (k := 1) (v := vr 33) (dt_at dtX5_readPerson 57 rfl) (show TT 63 = (0, 5) from rfl) rfl (by decide) wF_X5_29 (by show vr (hR hq35 63 1) = vr 33; rw [rq35, (Fq34.2.2 63 1 rfl), rq33, (Fq26.2.2 63 1 rfl), rq25, (Fq16.2.2 63 1 rfl), rq15, (Fq4.2.2 63 1 rfl), (Fq3.2.2 63 1 rfl), i1]) ?_
          refine K_get (a := 33) (ci := 3) (k := 7) (v := vr 41) (dt_at dtX5_readPerson 58 rfl) (show TT 33 = (0, 3) from rfl) rfl (by decide) wF_X5_129 rfl ?_
          refine K_iload_n (dt_at dtX5_readPerson 59 rfl) rfl rfl ?_
          refine K_iconst (dt_at dtX5_readPerson 60 rfl) ?_
          refine K_iast (dt_at dtX5_readPerson 61 rfl) (show TT 41 = (1, 7) from rfl) (by omega) (by omega) ?_
          obtain ⟨hq36, eq36⟩ : ∃ z, z = sA hq35 41 (np : Int) (-1) := ⟨_, rfl⟩
          rw [← eq36]
          obtain ⟨aq36, fq36, iq36, rq36⟩ := sA_fx eq36
          rw [(fq35 41 (by omega)), (Fq34.1 41 rfl), (fq33 41 (by omega)), (Fq26.1 41 rfl), (fq25 41 (by omega)), (Fq16.1 41 rfl), (fq15 41 (by omega)), (Fq4.1 41 rfl), (Fq3.1 41 rfl)] at aq36
          refine K_aload_n (dt_at dtX5_readPerson 62 rfl) rfl rfl ?_
          have Aq37 : TE hq36 tp n ekq34 := (TE_up Bq34 (FL_tr (FL_tr (FL_rf : FL [37, 38, 39, 40, 41] [(33, 11)] [] hcq34 hcq34) (FL_eA eq35 rfl)) (FL_eA eq36 rfl)) rfl rfl rfl)
          refine K_callV (M' := mX5_isGoing) (a := 63) (ci := 5) (As := []) (st := []) (dt_at dtX5_readPerson 63 rfl) (sX5_isGoing_f Aq37.2.2.2.1 Aq37.2.2.1) (show TT 63 = (0, 5) from rfl) rfl wL_X5_49 vX5_isGoing rfl npX5_isGoing (by decide) (by decide) (Nat.le_of_ble_eq_true rfl) (by decide) (by decide) GK_E (fun v9 h9 hq => ?_) (fun E h9 hq => by cases hq.1)
          obtain ⟨e9, e8⟩ := hq
          cases e9
          rw [e8]
          show K mX5_readPerson _ _ 0 0 114 [(1, vi (np : Int)), (0, vr 63)] [vi 0] hq36
          refine K_if_eq (tgt := 150) (dt_at dtX5_readPerson 64 rfl) (by decide) (by first | assumption | exact ⟨by omega, by omega⟩) (fun c5 => ?_) (fun c5 => absurd c5 (by omega))
          refine K_aload_n (dt_at dtX5_readPerson 81 rfl) rfl rfl ?_
          refine K_get (a := 63) (ci := 5) (k := 1) (v := vr 33) (dt_at dtX5_readPerson 82 rfl) (show TT 63 = (0, 5) from rfl) rfl (by decide) wF_X5_29 (by show vr (hR hq36 63 1) = vr 33; rw [rq36, rq35, (Fq34.2.2 63 1 rfl), rq33, (Fq26.2.2 63 1 rfl), rq25, (Fq16.2.2 63 1 rfl), rq15, (Fq4.2.2 63 1 rfl), (Fq3.2.2 63 1 rfl), i1]) ?_
          refine K_dup (dt_at dtX5_readPerson 83 rfl) rfl ?_
          refine K_get (a := 33) (ci := 3) (k := 11) (v := vi (np : Int)) (dt_at dtX5_readPerson 84 rfl) (show TT 33 = (0, 3) from rfl) rfl (by decide) wF_X5_114 (by show vi (hI hq36 33 11) = vi (np : Int); rw [iq36, iq35, (Fq34.2.1 33 11 rfl), iq33, (Fq26.2.1 33 11 rfl), iq25, (Fq16.2.1 33 11 rfl), iq15, (Fq4.2.1 33 11 rfl), (Fq3.2.1 33 11 rfl), d11]) ?_
          refine K_iconst (dt_at dtX5_readPerson 85 rfl) ?_
          refine K_iadd (dt_at dtX5_readPerson 86 rfl) ?_
          refine K_putI (a := 33) (ci := 3) (k := 11) (dt_at dtX5_readPerson 87 rfl) (show TT 33 = (0, 3) from rfl) rfl (by decide) wF_X5_114 rfl (Or.inl rfl) rfl rfl ?_
          obtain ⟨hq38, eq38⟩ : ∃ z, z = sI hq36 33 11 ((np : Int) + 1) := ⟨_, rfl⟩
          rw [← eq38]
          obtain ⟨iq38, fq38, aq38, rq38⟩ := sI_fx eq38
          have FE := (TE_up Bq34 (FL_tr (FL_tr (FL_tr (FL_rf : FL [37, 38, 39, 40, 41] [(33, 11)] [] hcq34 hcq34) (FL_eA eq35 rfl)) (FL_eA eq36 rfl)) (FL_eI eq38 rfl)) rfl rfl rfl)
          exact K_vret (dt_at dtX5_readPerson 88 rfl) rfl (by decide) (by decide) ⟨rfl, by simp only [peN, uq4, uq16, uq26, uq34]; exact FE, (FL_tr (FL_tr (FL_tr (FL_tr (FL_tr (FL_tr (FL_tr (FL_tr (FL_tr (FL_tr (FL_tr (FL_rf : FL [37, 38, 39, 40, 41] ((33, 11) :: TR) [] h h) (FL_up Fq3 rfl rfl rfl)) (FL_up Fq4 rfl rfl rfl)) (FL_eA eq15 rfl)) (FL_up Fq16 rfl rfl rfl)) (FL_eA eq25 rfl)) (FL_up Fq26 rfl rfl rfl)) (FL_eA eq33 rfl)) (FL_up Fq34 rfl rfl rfl)) (FL_eA eq35 rfl)) (FL_eA eq36 rfl)) (FL_eI eq38 rfl))⟩
        · rw [uq34] at Nq34
          obtain ⟨e9, Bq34⟩ := Nq34
          cases e9
          show K mX5_readPerson _ _ 0 0 99 [(1, vi (np : Int)), (0, vr 63)] [vi vq34, vi (np : Int), vr 40] hcq34
          have bq34 := nuP_b uq34
          refine K_iast (dt_at dtX5_readPerson 55 rfl) (show TT 40 = (1, 7) from rfl) (by omega) (by omega) ?_
          obtain ⟨hq39, eq39⟩ : ∃ z, z = sA hcq34 40 (np : Int) vq34 := ⟨_, rfl⟩
          rw [← eq39]
          obtain ⟨aq39, fq39, iq39, rq39⟩ := sA_fx eq39
          rw [(Fq34.1 40 rfl), (fq33 40 (by omega)), (Fq26.1 40 rfl), (fq25 40 (by omega)), (Fq16.1 40 rfl), (fq15 40 (by omega)), (Fq4.1 40 rfl), (Fq3.1 40 rfl)] at aq39
          refine K_aload_n (dt_at dtX5_readPerson 56 rfl) rfl rfl ?_
          refine K_get (a := 63) (ci := 5) (k := 1) (v := vr 33) (dt_at dtX5_readPerson 57 rfl) (show TT 63 = (0, 5) from rfl) rfl (by decide) wF_X5_29 (by show vr (hR hq39 63 1) = vr 33; rw [rq39, (Fq34.2.2 63 1 rfl), rq33, (Fq26.2.2 63 1 rfl), rq25, (Fq16.2.2 63 1 rfl), rq15, (Fq4.2.2 63 1 rfl), (Fq3.2.2 63 1 rfl), i1]) ?_
          refine K_get (a := 33) (ci := 3) (k := 7) (v := vr 41) (dt_at dtX5_readPerson 58 rfl) (show TT 33 = (0, 3) from rfl) rfl (by decide) wF_X5_129 rfl ?_
          refine K_iload_n (dt_at dtX5_readPerson 59 rfl) rfl rfl ?_
          refine K_iconst (dt_at dtX5_readPerson 60 rfl) ?_
          refine K_iast (dt_at dtX5_readPerson 61 rfl) (show TT 41 = (1, 7) from rfl) (by omega) (by omega) ?_
          obtain ⟨hq40, eq40⟩ : ∃ z, z = sA hq39 41 (np : Int) (-1) := ⟨_, rfl⟩
          rw [← eq40]
          obtain ⟨aq40, fq40, iq40, rq40⟩ := sA_fx eq40
          rw [(fq39 41 (by omega)), (Fq34.1 41 rfl), (fq33 41 (by omega)), (Fq26.1 41 rfl), (fq25 41 (by omega)), (Fq16.1 41 rfl), (fq15 41 (by omega)), (Fq4.1 41 rfl), (Fq3.1 41 rfl)] at aq40
          refine K_aload_n (dt_at dtX5_readPerson 62 rfl) rfl rfl ?_
          have Aq41 : TG hq40 tp n pq34 := (TG_up Bq34 (FL_tr (FL_tr (FL_rf : FL [37, 38, 39, 40, 41] [(33, 11)] [] hcq34 hcq34) (FL_eA eq39 rfl)) (FL_eA eq40 rfl)) rfl rfl rfl)
          refine K_callV (M' := mX5_isGoing) (a := 63) (ci := 5) (As := []) (st := []) (dt_at dtX5_readPerson 63 rfl) (sX5_isGoing_t Aq41.2.2.2) (show TT 63 = (0, 5) from rfl) rfl wL_X5_49 vX5_isGoing rfl npX5_isGoing (by decide) (by decide) (Nat.le_of_ble_eq_true rfl) (by decide) (by decide) GK_E (fun v9 h9 hq => ?_) (fun E h9 hq => by cases hq.1)
          obtain ⟨e9, e8⟩ := hq
          cases e9
          rw [e8]
          show K mX5_readPerson _ _ 0 0 114 [(1, vi (np : Int)), (0, vr 63)] [vi 1] hq40
          refine K_if_eq (tgt := 150) (dt_at dtX5_readPerson 64 rfl) (by decide) (by first | assumption | exact ⟨by omega, by omega⟩) (fun c6 => absurd c6 (by omega)) (fun c6 => ?_)
          refine K_aload_n (dt_at dtX5_readPerson 65 rfl) rfl rfl ?_
          refine K_get (a := 63) (ci := 5) (k := 0) (v := vr 64) (dt_at dtX5_readPerson 66 rfl) (show TT 63 = (0, 5) from rfl) rfl (by decide) wF_X5_12 rfl ?_
          refine K_ldcS (i := 2) (dt_at dtX5_readPerson 67 rfl) rfl GK_E ?_
          have Aq42 : TG hq40 tp n pq34 := (TG_up Bq34 (FL_tr (FL_tr (FL_rf : FL [37, 38, 39, 40, 41] [(33, 11)] [] hcq34 hcq34) (FL_eA eq39 rfl)) (FL_eA eq40 rfl)) rfl rfl rfl)
          refine K_callV (M' := mX9_isWord) (a := 64) (ci := 9) (As := [vs 3]) (st := []) (dt_at dtX5_readPerson 68 rfl) (sX9_isWord (i := 2) Aq42.1 Aq42.2.1 (tk_G Aq42.2.2.1) (by decide)) (show TT 64 = (0, 9) from rfl) rfl wL_X5_65 vX9_isWord rfl npX9_isWord (by decide) (by decide) (Nat.le_of_ble_eq_true rfl) (by decide) (by decide) GK_E (fun v9 h9 hq => ?_) (fun E h9 hq => by cases hq.1)
          obtain ⟨e9, e8⟩ := hq
          cases e9
          rw [e8]
          show K mX5_readPerson _ _ 0 0 126 [(1, vi (np : Int)), (0, vr 63)] [vi (if isWb tp (tk tp n pq34) 2 = true then 1 else 0)] hq40
          by_cases z7 : isWb tp (tk tp n pq34) 2 = true
          · rw [if_pos z7]
            refine K_if_eq (tgt := 150) (dt_at dtX5_readPerson 69 rfl) (by decide) (by first | assumption | exact ⟨by omega, by omega⟩) (fun c8 => absurd c8 (by omega)) (fun c8 => ?_)
            refine K_aload_n (dt_at dtX5_readPerson 70 rfl) rfl rfl ?_
            refine K_get (a := 63) (ci := 5) (k := 0) (v := vr 64) (dt_at dtX5_readPerson 71 rfl) (show TT 63 = (0, 5) from rfl) rfl (by decide) wF_X5_12 rfl ?_
            have Aq43 : TG hq40 tp n pq34 := (TG_up Bq34 (FL_tr (FL_tr (FL_rf : FL [37, 38, 39, 40, 41] [(33, 11)] [] hcq34 hcq34) (FL_eA eq39 rfl)) (FL_eA eq40 rfl)) rfl rfl rfl)
            refine K_callV (M' := mX9_pass) (a := 64) (ci := 9) (As := []) (st := []) (dt_at dtX5_readPerson 72 rfl) (pass_G Aq43) (show TT 64 = (0, 9) from rfl) rfl wL_X5_97 vX9_pass rfl npX9_pass (by decide) (by decide) (Nat.le_of_ble_eq_true rfl) (by decide) (by decide) GK_E (fun v9 hc44 hq => ?_) (fun E h9 hq => by cases hq.1)
            have hqq45 := hq
            obtain ⟨e9q45, Bq45, Fq45⟩ := hqq45
            cases e9q45
            show K mX5_readPerson _ _ 0 0 136 [(1, vi (np : Int)), (0, vr 63)] [] hc44
            refine K_aload_n (dt_at dtX5_readPerson 73 rfl) rfl rfl ?_
            refine K_get (a := 63) (ci := 5) (k := 1) (v := vr 33) (dt_at dtX5_readPerson 74 rfl) (show TT 63 = (0, 5) from rfl) rfl (by decide) wF_X5_29 (by show vr (hR hc44 63 1) = vr 33; rw [(Fq45.2.2 63 1 rfl), rq40, rq39, (Fq34.2.2 63 1 rfl), rq33, (Fq26.2.2 63 1 rfl), rq25, (Fq16.2.2 63 1 rfl), rq15, (Fq4.2.2 63 1 rfl), (Fq3.2.2 63 1 rfl), i1]) ?_
            refine K_get (a := 33) (ci := 3) (k := 7) (v := vr 41) (dt_at dtX5_readPerson 75 rfl) (show TT 33 = (0, 3) from rfl) rfl (by decide) wF_X5_129 rfl ?_
            refine K_iload_n (dt_at dtX5_readPerson 76 rfl) rfl rfl ?_
            refine K_aload_n (dt_at dtX5_readPerson 77 rfl) rfl rfl ?_
            refine K_iload_n (dt_at dtX5_readPerson 78 rfl) rfl rfl ?_
            have Aq46 : TG hc44 tp n ((tk tp n pq34).2.2) := Bq45
            refine K_callV (M' := mX5_readPacker) (a := 63) (ci := 5) (As := [vi (np : Int)]) (st := [vi (np : Int), vr 41]) (dt_at dtX5_readPerson 79 rfl) (sX5_readPacker Aq46 ⟨by omega, by omega⟩) (show TT 63 = (0, 5) from rfl) rfl wL_X5_133 vX5_readPacker rfl npX5_readPacker (by decide) (by decide) (Nat.le_of_ble_eq_true rfl) (by decide) (by decide) GK_E (fun v9 hcq46 hq => ?_) (fun E h9 hq => by obtain ⟨⟨_, e9⟩, _⟩ := hq; cases e9)
            obtain ⟨-, Nq46, Fq46⟩ := hq
            rcases uq46 : pakP tp n (np : Int) ((tk tp n pq34).2.2) with ekq46 | ⟨vq46, pq46⟩
            · rw [uq46] at Nq46
              obtain ⟨e9, Bq46⟩ := Nq46
              cases e9
              show K mX5_readPerson _ _ 0 0 149 [(1, vi (np : Int)), (0, vr 63)] [vi 0, vi (np : Int), vr 41] hcq46
              refine K_iast (dt_at dtX5_readPerson 80 rfl) (show TT 41 = (1, 7) from rfl) (by omega) (by omega) ?_
              obtain ⟨hq47, eq47⟩ : ∃ z, z = sA hcq46 41 (np : Int) 0 := ⟨_, rfl⟩
              rw [← eq47]
              obtain ⟨aq47, fq47, iq47, rq47⟩ := sA_fx eq47
              rw [(Fq46.1 41 rfl), (Fq45.1 41 rfl), aq40] at aq47
              refine K_aload_n (dt_at dtX5_readPerson 81 rfl) rfl rfl ?_
              refine K_get (a := 63) (ci := 5) (k := 1) (v := vr 33) (dt_at dtX5_readPerson 82 rfl) (show TT 63 = (0, 5) from rfl) rfl (by decide) wF_X5_29 (by show vr (hR hq47 63 1) = vr 33; rw [rq47, (Fq46.2.2 63 1 rfl), (Fq45.2.2 63 1 rfl), rq40, rq39, (Fq34.2.2 63 1 rfl), rq33, (Fq26.2.2 63 1 rfl), rq25, (Fq16.2.2 63 1 rfl), rq15, (Fq4.2.2 63 1 rfl), (Fq3.2.2 63 1 rfl), i1]) ?_
              refine K_dup (dt_at dtX5_readPerson 83 rfl) rfl ?_
              refine K_get (a := 33) (ci := 3) (k := 11) (v := vi (np : Int)) (dt_at dtX5_readPerson 84 rfl) (show TT 33 = (0, 3) from rfl) rfl (by decide) wF_X5_114 (by show vi (hI hq47 33 11) = vi (np : Int); rw [iq47, (Fq46.2.1 33 11 rfl), (Fq45.2.1 33 11 rfl), iq40, iq39, (Fq34.2.1 33 11 rfl), iq33, (Fq26.2.1 33 11 rfl), iq25, (Fq16.2.1 33 11 rfl), iq15, (Fq4.2.1 33 11 rfl), (Fq3.2.1 33 11 rfl), d11]) ?_
              refine K_iconst (dt_at dtX5_readPerson 85 rfl) ?_
              refine K_iadd (dt_at dtX5_readPerson 86 rfl) ?_
              refine K_putI (a := 33) (ci := 3) (k := 11) (dt_at dtX5_readPerson 87 rfl) (show TT 33 = (0, 3) from rfl) rfl (by decide) wF_X5_114 rfl (Or.inl rfl) rfl rfl ?_
              obtain ⟨hq48, eq48⟩ : ∃ z, z = sI hq47 33 11 ((np : Int) + 1) := ⟨_, rfl⟩
              rw [← eq48]
              obtain ⟨iq48, fq48, aq48, rq48⟩ := sI_fx eq48
              have eby := (byP_t (me := (np : Int)) (by assumption : isWb tp (tk tp n pq34) 2 = true)).trans uq46
              have FE := (TE_up Bq46 (FL_tr (FL_tr (FL_rf : FL [37, 38, 39, 40, 41] [(33, 11)] [] hcq46 hcq46) (FL_eA eq47 rfl)) (FL_eI eq48 rfl)) rfl rfl rfl)
              exact K_vret (dt_at dtX5_readPerson 88 rfl) rfl (by decide) (by decide) ⟨rfl, by simp only [peN, uq4, uq16, uq26, uq34, eby]; exact FE, (FL_tr (FL_tr (FL_tr (FL_tr (FL_tr (FL_tr (FL_tr (FL_tr (FL_tr (FL_tr (FL_tr (FL_tr (FL_tr (FL_tr (FL_rf : FL [37, 38, 39, 40, 41] ((33, 11) :: TR) [] h h) (FL_up Fq3 rfl rfl rfl)) (FL_up Fq4 rfl rfl rfl)) (FL_eA eq15 rfl)) (FL_up Fq16 rfl rfl rfl)) (FL_eA eq25 rfl)) (FL_up Fq26 rfl rfl rfl)) (FL_eA eq33 rfl)) (FL_up Fq34 rfl rfl rfl)) (FL_eA eq39 rfl)) (FL_eA eq40 rfl)) (FL_up Fq45 rfl rfl rfl)) (FL_up Fq46 rfl rfl rfl)) (FL_eA eq47 rfl)) (FL_eI eq48 rfl))⟩
            · rw [uq46] at Nq46
              obtain ⟨e9, Bq46⟩ := Nq46
              cases e9
              show K mX5_readPerson _ _ 0 0 149 [(1, vi (np : Int)), (0, vr 63)] [vi vq46, vi (np : Int), vr 41] hcq46
              refine K_iast (dt_at dtX5_readPerson 80 rfl) (show TT 41 = (1, 7) from rfl) (by omega) (by omega) ?_
              obtain ⟨hq49, eq49⟩ : ∃ z, z = sA hcq46 41 (np : Int) vq46 := ⟨_, rfl⟩
              rw [← eq49]
              obtain ⟨aq49, fq49, iq49, rq49⟩ := sA_fx eq49
              rw [(Fq46.1 41 rfl), (Fq45.1 41 rfl), aq40] at aq49
              refine K_aload_n (dt_at dtX5_readPerson 81 rfl) rfl rfl ?_
              refine K_get (a := 63) (ci := 5) (k := 1) (v := vr 33) (dt_at dtX5_readPerson 82 rfl) (show TT 63 = (0, 5) from rfl) rfl (by decide) wF_X5_29 (by show vr (hR hq49 63 1) = vr 33; rw [rq49, (Fq46.2.2 63 1 rfl), (Fq45.2.2 63 1 rfl), rq40, rq39, (Fq34.2.2 63 1 rfl), rq33, (Fq26.2.2 63 1 rfl), rq25, (Fq16.2.2 63 1 rfl), rq15, (Fq4.2.2 63 1 rfl), (Fq3.2.2 63 1 rfl), i1]) ?_
              refine K_dup (dt_at dtX5_readPerson 83 rfl) rfl ?_
              refine K_get (a := 33) (ci := 3) (k := 11) (v := vi (np : Int)) (dt_at dtX5_readPerson 84 rfl) (show TT 33 = (0, 3) from rfl) rfl (by decide) wF_X5_114 (by show vi (hI hq49 33 11) = vi (np : Int); rw [iq49, (Fq46.2.1 33 11 rfl), (Fq45.2.1 33 11 rfl), iq40, iq39, (Fq34.2.1 33 11 rfl), iq33, (Fq26.2.1 33 11 rfl), iq25, (Fq16.2.1 33 11 rfl), iq15, (Fq4.2.1 33 11 rfl), (Fq3.2.1 33 11 rfl), d11]) ?_
              refine K_iconst (dt_at dtX5_readPerson 85 rfl) ?_
              refine K_iadd (dt_at dtX5_readPerson 86 rfl) ?_
              refine K_putI (a := 33) (ci := 3) (k := 11) (dt_at dtX5_readPerson 87 rfl) (show TT 33 = (0, 3) from rfl) rfl (by decide) wF_X5_114 rfl (Or.inl rfl) rfl rfl ?_
              obtain ⟨hq50, eq50⟩ : ∃ z, z = sI hq49 33 11 ((np : Int) + 1) := ⟨_, rfl⟩
              rw [← eq50]
              obtain ⟨iq50, fq50, aq50, rq50⟩ := sI_fx eq50
              have eby := (byP_t (me := (np : Int)) (by assumption : isWb tp (tk tp n pq34) 2 = true)).trans uq46
              have FE : TG hq50 tp n pq46 := (TG_up Bq46 (FL_tr (FL_tr (FL_rf : FL [37, 38, 39, 40, 41] [(33, 11)] [] hcq46 hcq46) (FL_eA eq49 rfl)) (FL_eI eq50 rfl)) rfl rfl rfl)
              exact K_vret (dt_at dtX5_readPerson 88 rfl) rfl (by decide) (by decide) ⟨rfl, by simp only [peN, uq4, uq16, uq26, uq34, eby]; exact ⟨FE, by rw [iq50]; rfl, by rw [aq50, (fq49 37 (by omega)), (Fq46.1 37 rfl), (Fq45.1 37 rfl), (fq40 37 (by omega)), (fq39 37 (by omega)), (Fq34.1 37 rfl), (fq33 37 (by omega)), (Fq26.1 37 rfl), (fq25 37 (by omega)), (Fq16.1 37 rfl), aq15], by rw [aq50, (fq49 38 (by omega)), (Fq46.1 38 rfl), (Fq45.1 38 rfl), (fq40 38 (by omega)), (fq39 38 (by omega)), (Fq34.1 38 rfl), (fq33 38 (by omega)), (Fq26.1 38 rfl), aq25], by rw [aq50, (fq49 39 (by omega)), (Fq46.1 39 rfl), (Fq45.1 39 rfl), (fq40 39 (by omega)), (fq39 39 (by omega)), (Fq34.1 39 rfl), aq33], by rw [aq50, (fq49 40 (by omega)), (Fq46.1 40 rfl), (Fq45.1 40 rfl), (fq40 40 (by omega)), aq39], by rw [aq50, aq49, upI_two]⟩, (FL_tr (FL_tr (FL_tr (FL_tr (FL_tr (FL_tr (FL_tr (FL_tr (FL_tr (FL_tr (FL_tr (FL_tr (FL_tr (FL_tr (FL_rf : FL [37, 38, 39, 40, 41] ((33, 11) :: TR) [] h h) (FL_up Fq3 rfl rfl rfl)) (FL_up Fq4 rfl rfl rfl)) (FL_eA eq15 rfl)) (FL_up Fq16 rfl rfl rfl)) (FL_eA eq25 rfl)) (FL_up Fq26 rfl rfl rfl)) (FL_eA eq33 rfl)) (FL_up Fq34 rfl rfl rfl)) (FL_eA eq39 rfl)) (FL_eA eq40 rfl)) (FL_up Fq45 rfl rfl rfl)) (FL_up Fq46 rfl rfl rfl)) (FL_eA eq49 rfl)) (FL_eI eq50 rfl))⟩
          · rw [if_neg z7]
            refine K_if_eq (tgt := 150) (dt_at dtX5_readPerson 69 rfl) (by decide) (by first | assumption | exact ⟨by omega, by omega⟩) (fun c9 => ?_) (fun c9 => absurd c9 (by omega))
            refine K_aload_n (dt_at dtX5_readPerson 81 rfl) rfl rfl ?_
            refine K_get (a := 63) (ci := 5) (k := 1) (v := vr 33) (dt_at dtX5_readPerson 82 rfl) (show TT 63 = (0, 5) from rfl) rfl (by decide) wF_X5_29 (by show vr (hR hq40 63 1) = vr 33; rw [rq40, rq39, (Fq34.2.2 63 1 rfl), rq33, (Fq26.2.2 63 1 rfl), rq25, (Fq16.2.2 63 1 rfl), rq15, (Fq4.2.2 63 1 rfl), (Fq3.2.2 63 1 rfl), i1]) ?_
            refine K_dup (dt_at dtX5_readPerson 83 rfl) rfl ?_
            refine K_get (a := 33) (ci := 3) (k := 11) (v := vi (np : Int)) (dt_at dtX5_readPerson 84 rfl) (show TT 33 = (0, 3) from rfl) rfl (by decide) wF_X5_114 (by show vi (hI hq40 33 11) = vi (np : Int); rw [iq40, iq39, (Fq34.2.1 33 11 rfl), iq33, (Fq26.2.1 33 11 rfl), iq25, (Fq16.2.1 33 11 rfl), iq15, (Fq4.2.1 33 11 rfl), (Fq3.2.1 33 11 rfl), d11]) ?_
            refine K_iconst (dt_at dtX5_readPerson 85 rfl) ?_
            refine K_iadd (dt_at dtX5_readPerson 86 rfl) ?_
            refine K_putI (a := 33) (ci := 3) (k := 11) (dt_at dtX5_readPerson 87 rfl) (show TT 33 = (0, 3) from rfl) rfl (by decide) wF_X5_114 rfl (Or.inl rfl) rfl rfl ?_
            obtain ⟨hq51, eq51⟩ : ∃ z, z = sI hq40 33 11 ((np : Int) + 1) := ⟨_, rfl⟩
            rw [← eq51]
            obtain ⟨iq51, fq51, aq51, rq51⟩ := sI_fx eq51
            have eby : byP tp n (np : Int) pq34 = .inr (-1, pq34) := by rw [byP, if_neg (by assumption)]
            have FE : TG hq51 tp n pq34 := (TG_up Bq34 (FL_tr (FL_tr (FL_tr (FL_rf : FL [37, 38, 39, 40, 41] [(33, 11)] [] hcq34 hcq34) (FL_eA eq39 rfl)) (FL_eA eq40 rfl)) (FL_eI eq51 rfl)) rfl rfl rfl)
            exact K_vret (dt_at dtX5_readPerson 88 rfl) rfl (by decide) (by decide) ⟨rfl, by simp only [peN, uq4, uq16, uq26, uq34, eby]; exact ⟨FE, by rw [iq51]; rfl, by rw [aq51, (fq40 37 (by omega)), (fq39 37 (by omega)), (Fq34.1 37 rfl), (fq33 37 (by omega)), (Fq26.1 37 rfl), (fq25 37 (by omega)), (Fq16.1 37 rfl), aq15], by rw [aq51, (fq40 38 (by omega)), (fq39 38 (by omega)), (Fq34.1 38 rfl), (fq33 38 (by omega)), (Fq26.1 38 rfl), aq25], by rw [aq51, (fq40 39 (by omega)), (fq39 39 (by omega)), (Fq34.1 39 rfl), aq33], by rw [aq51, (fq40 40 (by omega)), aq39], by rw [aq51, aq40]⟩, (FL_tr (FL_tr (FL_tr (FL_tr (FL_tr (FL_tr (FL_tr (FL_tr (FL_tr (FL_tr (FL_tr (FL_rf : FL [37, 38, 39, 40, 41] ((33, 11) :: TR) [] h h) (FL_up Fq3 rfl rfl rfl)) (FL_up Fq4 rfl rfl rfl)) (FL_eA eq15 rfl)) (FL_up Fq16 rfl rfl rfl)) (FL_eA eq25 rfl)) (FL_up Fq26 rfl rfl rfl)) (FL_eA eq33 rfl)) (FL_up Fq34 rfl rfl rfl)) (FL_eA eq39 rfl)) (FL_eA eq40 rfl)) (FL_eI eq51 rfl))⟩
set_option maxHeartbeats 4000000 in
set_option maxRecDepth 100000 in
theorem sX5_readPerson_33_x {h : HP} {tp : Int → Int} {n p np : Nat} (A : TG h tp n p) (i1 : hR h 63 1 = 33) (d11 : hI h 33 11 = (np : Int)) (hnp : np = 7) : SpecK mX5_readPerson [vr 63] h (fun o h' => o = .inl none ∧ TE h' tp n (2, (tk tp n p).2.1) ∧ FL [] TR [] h h') := by
  refine Spec_of (by decide +kernel) (Nat.le_of_ble_eq_true rfl) ?_
  refine K_aload_n (dt_at dtX5_readPerson 0 rfl) rfl rfl ?_
  refine K_get (a := 63) (ci := 5) (k := 1) (v := vr 33) (dt_at dtX5_readPerson 1 rfl) (show TT 63 = (0, 5) from rfl) rfl (by decide) wF_X5_29 (by show vr (hR h 63 1) = vr 33; rw [i1]) ?_
  refine K_get (a := 33) (ci := 3) (k := 11) (v := vi (np : Int)) (dt_at dtX5_readPerson 2 rfl) (show TT 33 = (0, 3) from rfl) rfl (by decide) wF_X5_114 (by show vi (hI h 33 11) = vi (np : Int); rw [d11]) ?_
  refine K_istore_n (ls' := [(1, vi (np : Int)), (0, vr 63)]) (dt_at dtX5_readPerson 3 rfl) rfl (by decide) rfl ?_
  refine K_iload_n (dt_at dtX5_readPerson 4 rfl) rfl rfl ?_
  refine K_bipush (dt_at dtX5_readPerson 5 rfl) (by decide) ?_
  refine K_icmp_lt (tgt := 20) (dt_at dtX5_readPerson 6 rfl) (by decide) (by first | assumption | exact ⟨by omega, by omega⟩) (by first | assumption | exact ⟨by omega, by omega⟩) (fun c1 => absurd c1 (by omega)) (fun c1 => ?_)
  refine K_aload_n (dt_at dtX5_readPerson 7 rfl) rfl rfl ?_
  refine K_iconst (dt_at dtX5_readPerson 8 rfl) ?_
  have Aq1 : TG h tp n p := A
  refine K_callV (M' := mX5_stop) (a := 63) (ci := 5) (As := [vi 2]) (st := []) (dt_at dtX5_readPerson 9 rfl) (sX5_stop Aq1 ⟨by omega, by omega⟩) (show TT 63 = (0, 5) from rfl) rfl wL_X5_86 vX5_stop rfl npX5_stop (by decide) (by decide) (Nat.le_of_ble_eq_true rfl) (by decide) (by decide) GK_E (fun v9 hc2 hq => ?_) (fun E h9 hq => by cases hq.1)
  have hqq3 := hq
  obtain ⟨e9q3, Bq3, Fq3⟩ := hqq3
  cases e9q3
  show K mX5_readPerson _ _ 0 0 19 [(1, vi (np : Int)), (0, vr 63)] [] hc2
  exact K_vret (dt_at dtX5_readPerson 10 rfl) rfl (by decide) (by decide) ⟨rfl, Bq3, (FL_tr (FL_rf : FL [] TR [] h h) (FL_up Fq3 rfl rfl rfl))⟩
set_option maxHeartbeats 4000000 in
set_option maxRecDepth 100000 in
theorem sX5_readPerson_48 {h : HP} {tp : Int → Int} {n p np : Nat} (A : TG h tp n p) (i1 : hR h 63 1 = 48) (d11 : hI h 48 11 = (np : Int)) (hnp : np < 7) : SpecK mX5_readPerson [vr 63] h (fun o h' => o = .inl none ∧ PEr h' h 48 tp n np (peN tp n (np : Int) (tk tp n p).2.2) ∧ FL [52, 53, 54, 55, 56] ((48, 11) :: TR) [] h h') := by
  refine Spec_of (by decide +kernel) (Nat.le_of_ble_eq_true rfl) ?_
  refine K_aload_n (dt_at dtX5_readPerson 0 rfl) rfl rfl ?_
  refine K_get (a := 63) (ci := 5) (k := 1) (v := vr 48) (dt_at dtX5_readPerson 1 rfl) (show TT 63 = (0, 5) from rfl) rfl (by decide) wF_X5_29 (by show vr (hR h 63 1) = vr 48; rw [i1]) ?_
  refine K_get (a := 48) (ci := 3) (k := 11) (v := vi (np : Int)) (dt_at dtX5_readPerson 2 rfl) (show TT 48 = (0, 3) from rfl) rfl (by decide) wF_X5_114 (by show vi (hI h 48 11) = vi (np : Int); rw [d11]) ?_
  refine K_istore_n (ls' := [(1, vi (np : Int)), (0, vr 63)]) (dt_at dtX5_readPerson 3 rfl) rfl (by decide) rfl ?_
  refine K_iload_n (dt_at dtX5_readPerson 4 rfl) rfl rfl ?_
  refine K_bipush (dt_at dtX5_readPerson 5 rfl) (by decide) ?_
  refine K_icmp_lt (tgt := 20) (dt_at dtX5_readPerson 6 rfl) (by decide) (by first | assumption | exact ⟨by omega, by omega⟩) (by first | assumption | exact ⟨by omega, by omega⟩) (fun c1 => ?_) (fun c1 => absurd c1 (by omega))
  refine K_aload_n (dt_at dtX5_readPerson 11 rfl) rfl rfl ?_
  refine K_get (a := 63) (ci := 5) (k := 0) (v := vr 64) (dt_at dtX5_readPerson 12 rfl) (show TT 63 = (0, 5) from rfl) rfl (by decide) wF_X5_12 rfl ?_
  have Aq1 : TG h tp n p := A
  refine K_callV (M' := mX9_pass) (a := 64) (ci := 9) (As := []) (st := []) (dt_at dtX5_readPerson 13 rfl) (pass_G Aq1) (show TT 64 = (0, 9) from rfl) rfl wL_X5_97 vX9_pass rfl npX9_pass (by decide) (by decide) (Nat.le_of_ble_eq_true rfl) (by decide) (by decide) GK_E (fun v9 hc2 hq => ?_) (fun E h9 hq => by cases hq.1)
  have hqq3 := hq
  obtain ⟨e9q3, Bq3, Fq3⟩ := hqq3
  cases e9q3
  show K mX5_readPerson _ _ 0 0 27 [(1, vi (np : Int)), (0, vr 63)] [] hc2
  refine K_aload_n (dt_at dtX5_readPerson 14 rfl) rfl rfl ?_
  refine K_get (a := 63) (ci := 5) (k := 1) (v := vr 48) (dt_at dtX5_readPerson 15 rfl) (show TT 63 = (0, 5) from rfl) rfl (by decide) wF_X5_29 (by show vr (hR hc2 63 1) = vr 48; rw [(Fq3.2.2 63 1 rfl), i1]) ?_
  refine K_get (a := 48) (ci := 3) (k := 3) (v := vr 52) (dt_at dtX5_readPerson 16 rfl) (show TT 48 = (0, 3) from rfl) rfl (by decide) wF_X5_117 rfl ?_
  refine K_iload_n (dt_at dtX5_readPerson 17 rfl) rfl rfl ?_
  refine K_aload_n (dt_at dtX5_readPerson 18 rfl) rfl rfl ?_
  refine K_iconst (dt_at dtX5_readPerson 19 rfl) ?_
  refine K_bipush (dt_at dtX5_readPerson 20 rfl) (by decide) ?_
  have Aq4 : TG hc2 tp n ((tk tp n p).2.2) := Bq3
  refine K_callV (M' := mX5_readNumber) (a := 63) (ci := 5) (As := [vi 0, vi 60]) (st := [vi (np : Int), vr 52]) (dt_at dtX5_readPerson 21 rfl) (num_P Aq4 ⟨by omega, by omega⟩ ⟨by omega, by omega⟩) (show TT 63 = (0, 5) from rfl) rfl wL_X5_104 vX5_readNumber rfl npX5_readNumber (by decide) (by decide) (Nat.le_of_ble_eq_true rfl) (by decide) (by decide) GK_E (fun v9 hcq4 hq => ?_) (fun E h9 hq => by obtain ⟨⟨_, e9⟩, _⟩ := hq; cases e9)
  obtain ⟨-, Nq4, Fq4⟩ := hq
  rcases uq4 : nuP tp n 0 60 ((tk tp n p).2.2) with ekq4 | ⟨vq4, pq4⟩
  · rw [uq4] at Nq4
    obtain ⟨e9, Bq4⟩ := Nq4
    cases e9
    show K mX5_readPerson _ _ 0 0 42 [(1, vi (np : Int)), (0, vr 63)] [vi 0, vi (np : Int), vr 52] hcq4
    refine K_iast (dt_at dtX5_readPerson 22 rfl) (show TT 52 = (1, 7) from rfl) (by omega) (by omega) ?_
    obtain ⟨hq5, eq5⟩ : ∃ z, z = sA hcq4 52 (np : Int) 0 := ⟨_, rfl⟩
    rw [← eq5]
    obtain ⟨aq5, fq5, iq5, rq5⟩ := sA_fx eq5
    rw [(Fq4.1 52 rfl), (Fq3.1 52 rfl)] at aq5
    refine K_aload_n (dt_at dtX5_readPerson 23 rfl) rfl rfl ?_
    refine K_get (a := 63) (ci := 5) (k := 1) (v := vr 48) (dt_at dtX5_readPerson 24 rfl) (show TT 63 = (0, 5) from rfl) rfl (by decide) wF_X5_29 (by show vr (hR hq5 63 1) = vr 48; rw [rq5, (Fq4.2.2 63 1 rfl), (Fq3.2.2 63 1 rfl), i1]) ?_
    refine K_get (a := 48) (ci := 3) (k := 4) (v := vr 53) (dt_at dtX5_readPerson 25 rfl) (show TT 48 = (0, 3) from rfl) rfl (by decide) wF_X5_120 rfl ?_
    refine K_iload_n (dt_at dtX5_readPerson 26 rfl) rfl rfl ?_
    refine K_aload_n (dt_at dtX5_readPerson 27 rfl) rfl rfl ?_
    refine K_iconst (dt_at dtX5_readPerson 28 rfl) ?_
    refine K_bipush (dt_at dtX5_readPerson 29 rfl) (by decide) ?_
    have Aq6 : TE hq5 tp n ekq4 := (TE_up Bq4 (FL_tr (FL_rf : FL [52, 53, 54, 55, 56] [(48, 11)] [] hcq4 hcq4) (FL_eA eq5 rfl)) rfl rfl rfl)
    refine K_callV (M' := mX5_readNumber) (a := 63) (ci := 5) (As := [vi 2, vi 9]) (st := [vi (np : Int), vr 53]) (dt_at dtX5_readPerson 30 rfl) (sX5_readNumber_e Aq6) (show TT 63 = (0, 5) from rfl) rfl wL_X5_104 vX5_readNumber rfl npX5_readNumber (by decide) (by decide) (Nat.le_of_ble_eq_true rfl) (by decide) (by decide) GK_E (fun v9 h9 hq => ?_) (fun E h9 hq => by cases hq.1)
    obtain ⟨e9, e8⟩ := hq
    cases e9
    rw [e8]
    show K mX5_readPerson _ _ 0 0 58 [(1, vi (np : Int)), (0, vr 63)] [vi 0, vi (np : Int), vr 53] hq5
    refine K_iast (dt_at dtX5_readPerson 31 rfl) (show TT 53 = (1, 7) from rfl) (by omega) (by omega) ?_
    obtain ⟨hq7, eq7⟩ : ∃ z, z = sA hq5 53 (np : Int) 0 := ⟨_, rfl⟩
    rw [← eq7]
    obtain ⟨aq7, fq7, iq7, rq7⟩ := sA_fx eq7
    rw [(fq5 53 (by omega)), (Fq4.1 53 rfl), (Fq3.1 53 rfl)] at aq7
    refine K_aload_n (dt_at dtX5_readPerson 32 rfl) rfl rfl ?_
    refine K_get (a := 63) (ci := 5) (k := 1) (v := vr 48) (dt_at dtX5_readPerson 33 rfl) (show TT 63 = (0, 5) from rfl) rfl (by decide) wF_X5_29 (by show vr (hR hq7 63 1) = vr 48; rw [rq7, rq5, (Fq4.2.2 63 1 rfl), (Fq3.2.2 63 1 rfl), i1]) ?_
    refine K_get (a := 48) (ci := 3) (k := 5) (v := vr 54) (dt_at dtX5_readPerson 34 rfl) (show TT 48 = (0, 3) from rfl) rfl (by decide) wF_X5_123 rfl ?_
    refine K_iload_n (dt_at dtX5_readPerson 35 rfl) rfl rfl ?_
    refine K_aload_n (dt_at dtX5_readPerson 36 rfl) rfl rfl ?_
    refine K_iconst (dt_at dtX5_readPerson 37 rfl) ?_
    refine K_aload_n (dt_at dtX5_readPerson 38 rfl) rfl rfl ?_
    refine K_get (a := 63) (ci := 5) (k := 1) (v := vr 48) (dt_at dtX5_readPerson 39 rfl) (show TT 63 = (0, 5) from rfl) rfl (by decide) wF_X5_29 (by show vr (hR hq7 63 1) = vr 48; rw [rq7, rq5, (Fq4.2.2 63 1 rfl), (Fq3.2.2 63 1 rfl), i1]) ?_
    refine K_get (a := 48) (ci := 3) (k := 4) (v := vr 53) (dt_at dtX5_readPerson 40 rfl) (show TT 48 = (0, 3) from rfl) rfl (by decide) wF_X5_120 rfl ?_
    refine K_iload_n (dt_at dtX5_readPerson 41 rfl) rfl rfl ?_
    refine K_iald (dt_at dtX5_readPerson 42 rfl) (show TT 53 = (1, 7) from rfl) (by omega) (by omega) ?_
    rw [aq7]
    rw [upI_me]
    refine K_iconst (dt_at dtX5_readPerson 43 rfl) ?_
    refine K_isub (dt_at dtX5_readPerson 44 rfl) ?_
    have Aq8 : TE hq7 tp n ekq4 := (TE_up Bq4 (FL_tr (FL_tr (FL_rf : FL [52, 53, 54, 55, 56] [(48, 11)] [] hcq4 hcq4) (FL_eA eq5 rfl)) (FL_eA eq7 rfl)) rfl rfl rfl)
    refine K_callV (M' := mX5_readNumber) (a := 63) (ci := 5) (As := [vi 1, vi (0 - 1)]) (st := [vi (np : Int), vr 54]) (dt_at dtX5_readPerson 45 rfl) (sX5_readNumber_e Aq8) (show TT 63 = (0, 5) from rfl) rfl wL_X5_104 vX5_readNumber rfl npX5_readNumber (by decide) (by decide) (Nat.le_of_ble_eq_true rfl) (by decide) (by decide) GK_E (fun v9 h9 hq => ?_) (fun E h9 hq => by cases hq.1)
    obtain ⟨e9, e8⟩ := hq
    cases e9
    rw [e8]
    show K mX5_readPerson _ _ 0 0 83 [(1, vi (np : Int)), (0, vr 63)] [vi 0, vi (np : Int), vr 54] hq7
    refine K_iast (dt_at dtX5_readPerson 46 rfl) (show TT 54 = (1, 7) from rfl) (by omega) (by omega) ?_
    obtain ⟨hq9, eq9⟩ : ∃ z, z = sA hq7 54 (np : Int) 0 := ⟨_, rfl⟩
    rw [← eq9]
    obtain ⟨aq9, fq9, iq9, rq9⟩ := sA_fx eq9
    rw [(fq7 54 (by omega)), (fq5 54 (by omega)), (Fq4.1 54 rfl), (Fq3.1 54 rfl)] at aq9
    refine K_aload_n (dt_at dtX5_readPerson 47 rfl) rfl rfl ?_
    refine K_get (a := 63) (ci := 5) (k := 1) (v := vr 48) (dt_at dtX5_readPerson 48 rfl) (show TT 63 = (0, 5) from rfl) rfl (by decide) wF_X5_29 (by show vr (hR hq9 63 1) = vr 48; rw [rq9, rq7, rq5, (Fq4.2.2 63 1 rfl), (Fq3.2.2 63 1 rfl), i1]) ?_
    refine K_get (a := 48) (ci := 3) (k := 6) (v := vr 55) (dt_at dtX5_readPerson 49 rfl) (show TT 48 = (0, 3) from rfl) rfl (by decide) wF_X5_126 rfl ?_
    refine K_iload_n (dt_at dtX5_readPerson 50 rfl) rfl rfl ?_
    refine K_aload_n (dt_at dtX5_readPerson 51 rfl) rfl rfl ?_
    refine K_iconst (dt_at dtX5_readPerson 52 rfl) ?_
    refine K_bipush (dt_at dtX5_readPerson 53 rfl) (by decide) ?_
    have Aq10 : TE hq9 tp n ekq4 := (TE_up Bq4 (FL_tr (FL_tr (FL_tr (FL_rf : FL [52, 53, 54, 55, 56] [(48, 11)] [] hcq4 hcq4) (FL_eA eq5 rfl)) (FL_eA eq7 rfl)) (FL_eA eq9 rfl)) rfl rfl rfl)
    refine K_callV (M' := mX5_readNumber) (a := 63) (ci := 5) (As := [vi 0, vi 9]) (st := [vi (np : Int), vr 55]) (dt_at dtX5_readPerson 54 rfl) (sX5_readNumber_e Aq10) (show TT 63 = (0, 5) from rfl) rfl wL_X5_104 vX5_readNumber rfl npX5_readNumber (by decide) (by decide) (Nat.le_of_ble_eq_true rfl) (by decide) (by decide) GK_E (fun v9 h9 hq => ?_) (fun E h9 hq => by cases hq.1)
    obtain ⟨e9, e8⟩ := hq
    cases e9
    rw [e8]
    show K mX5_readPerson _ _ 0 0 99 [(1, vi (np : Int)), (0, vr 63)] [vi 0, vi (np : Int), vr 55] hq9
    refine K_iast (dt_at dtX5_readPerson 55 rfl) (show TT 55 = (1, 7) from rfl) (by omega) (by omega) ?_
    obtain ⟨hq11, eq11⟩ : ∃ z, z = sA hq9 55 (np : Int) 0 := ⟨_, rfl⟩
    rw [← eq11]
    obtain ⟨aq11, fq11, iq11, rq11⟩ := sA_fx eq11
    rw [(fq9 55 (by omega)), (fq7 55 (by omega)), (fq5 55 (by omega)), (Fq4.1 55 rfl), (Fq3.1 55 rfl)] at aq11
    refine K_aload_n (dt_at dtX5_readPerson 56 rfl) rfl rfl ?_
    refine K_get (a := 63) (ci := 5) (k := 1) (v := vr 48) (dt_at dtX5_readPerson 57 rfl) (show TT 63 = (0, 5) from rfl) rfl (by decide) wF_X5_29 (by show vr (hR hq11 63 1) = vr 48; rw [rq11, rq9, rq7, rq5, (Fq4.2.2 63 1 rfl), (Fq3.2.2 63 1 rfl), i1]) ?_
    refine K_get (a := 48) (ci := 3) (k := 7) (v := vr 56) (dt_at dtX5_readPerson 58 rfl) (show TT 48 = (0, 3) from rfl) rfl (by decide) wF_X5_129 rfl ?_
    refine K_iload_n (dt_at dtX5_readPerson 59 rfl) rfl rfl ?_
    refine K_iconst (dt_at dtX5_readPerson 60 rfl) ?_
    refine K_iast (dt_at dtX5_readPerson 61 rfl) (show TT 56 = (1, 7) from rfl) (by omega) (by omega) ?_
    obtain ⟨hq12, eq12⟩ : ∃ z, z = sA hq11 56 (np : Int) (-1) := ⟨_, rfl⟩
    rw [← eq12]
    obtain ⟨aq12, fq12, iq12, rq12⟩ := sA_fx eq12
    rw [(fq11 56 (by omega)), (fq9 56 (by omega)), (fq7 56 (by omega)), (fq5 56 (by omega)), (Fq4.1 56 rfl), (Fq3.1 56 rfl)] at aq12
    refine K_aload_n (dt_at dtX5_readPerson 62 rfl) rfl rfl ?_
    have Aq13 : TE hq12 tp n ekq4 := (TE_up Bq4 (FL_tr (FL_tr (FL_tr (FL_tr (FL_tr (FL_rf : FL [52, 53, 54, 55, 56] [(48, 11)] [] hcq4 hcq4) (FL_eA eq5 rfl)) (FL_eA eq7 rfl)) (FL_eA eq9 rfl)) (FL_eA eq11 rfl)) (FL_eA eq12 rfl)) rfl rfl rfl)
    refine K_callV (M' := mX5_isGoing) (a := 63) (ci := 5) (As := []) (st := []) (dt_at dtX5_readPerson 63 rfl) (sX5_isGoing_f Aq13.2.2.2.1 Aq13.2.2.1) (show TT 63 = (0, 5) from rfl) rfl wL_X5_49 vX5_isGoing rfl npX5_isGoing (by decide) (by decide) (Nat.le_of_ble_eq_true rfl) (by decide) (by decide) GK_E (fun v9 h9 hq => ?_) (fun E h9 hq => by cases hq.1)
    obtain ⟨e9, e8⟩ := hq
    cases e9
    rw [e8]
    show K mX5_readPerson _ _ 0 0 114 [(1, vi (np : Int)), (0, vr 63)] [vi 0] hq12
    refine K_if_eq (tgt := 150) (dt_at dtX5_readPerson 64 rfl) (by decide) (by first | assumption | exact ⟨by omega, by omega⟩) (fun c2 => ?_) (fun c2 => absurd c2 (by omega))
    refine K_aload_n (dt_at dtX5_readPerson 81 rfl) rfl rfl ?_
    refine K_get (a := 63) (ci := 5) (k := 1) (v := vr 48) (dt_at dtX5_readPerson 82 rfl) (show TT 63 = (0, 5) from rfl) rfl (by decide) wF_X5_29 (by show vr (hR hq12 63 1) = vr 48; rw [rq12, rq11, rq9, rq7, rq5, (Fq4.2.2 63 1 rfl), (Fq3.2.2 63 1 rfl), i1]) ?_
    refine K_dup (dt_at dtX5_readPerson 83 rfl) rfl ?_
    refine K_get (a := 48) (ci := 3) (k := 11) (v := vi (np : Int)) (dt_at dtX5_readPerson 84 rfl) (show TT 48 = (0, 3) from rfl) rfl (by decide) wF_X5_114 (by show vi (hI hq12 48 11) = vi (np : Int); rw [iq12, iq11, iq9, iq7, iq5, (Fq4.2.1 48 11 rfl), (Fq3.2.1 48 11 rfl), d11]) ?_
    refine K_iconst (dt_at dtX5_readPerson 85 rfl) ?_
    refine K_iadd (dt_at dtX5_readPerson 86 rfl) ?_
    refine K_putI (a := 48) (ci := 3) (k := 11) (dt_at dtX5_readPerson 87 rfl) (show TT 48 = (0, 3) from rfl) rfl (by decide) wF_X5_114 rfl (Or.inl rfl) rfl rfl ?_
    obtain ⟨hq14, eq14⟩ : ∃ z, z = sI hq12 48 11 ((np : Int) + 1) := ⟨_, rfl⟩
    rw [← eq14]
    obtain ⟨iq14, fq14, aq14, rq14⟩ := sI_fx eq14
    have FE := (TE_up Bq4 (FL_tr (FL_tr (FL_tr (FL_tr (FL_tr (FL_tr (FL_rf : FL [52, 53, 54, 55, 56] [(48, 11)] [] hcq4 hcq4) (FL_eA eq5 rfl)) (FL_eA eq7 rfl)) (FL_eA eq9 rfl)) (FL_eA eq11 rfl)) (FL_eA eq12 rfl)) (FL_eI eq14 rfl)) rfl rfl rfl)
    exact K_vret (dt_at dtX5_readPerson 88 rfl) rfl (by decide) (by decide) ⟨rfl, by simp only [peN, uq4]; exact FE, (FL_tr (FL_tr (FL_tr (FL_tr (FL_tr (FL_tr (FL_tr (FL_tr (FL_rf : FL [52, 53, 54, 55, 56] ((48, 11) :: TR) [] h h) (FL_up Fq3 rfl rfl rfl)) (FL_up Fq4 rfl rfl rfl)) (FL_eA eq5 rfl)) (FL_eA eq7 rfl)) (FL_eA eq9 rfl)) (FL_eA eq11 rfl)) (FL_eA eq12 rfl)) (FL_eI eq14 rfl))⟩
  · rw [uq4] at Nq4
    obtain ⟨e9, Bq4⟩ := Nq4
    cases e9
    show K mX5_readPerson _ _ 0 0 42 [(1, vi (np : Int)), (0, vr 63)] [vi vq4, vi (np : Int), vr 52] hcq4
    have bq4 := nuP_b uq4
    refine K_iast (dt_at dtX5_readPerson 22 rfl) (show TT 52 = (1, 7) from rfl) (by omega) (by omega) ?_
    obtain ⟨hq15, eq15⟩ : ∃ z, z = sA hcq4 52 (np : Int) vq4 := ⟨_, rfl⟩
    rw [← eq15]
    obtain ⟨aq15, fq15, iq15, rq15⟩ := sA_fx eq15
    rw [(Fq4.1 52 rfl), (Fq3.1 52 rfl)] at aq15
    refine K_aload_n (dt_at dtX5_readPerson 23 rfl) rfl rfl ?_
    refine K_get (a := 63) (ci := 5) (k := 1) (v := vr 48) (dt_at dtX5_readPerson 24 rfl) (show TT 63 = (0, 5) from rfl) rfl (by decide) wF_X5_29 (by show vr (hR hq15 63 1) = vr 48; rw [rq15, (Fq4.2.2 63 1 rfl), (Fq3.2.2 63 1 rfl), i1]) ?_
    refine K_get (a := 48) (ci := 3) (k := 4) (v := vr 53) (dt_at dtX5_readPerson 25 rfl) (show TT 48 = (0, 3) from rfl) rfl (by decide) wF_X5_120 rfl ?_
    refine K_iload_n (dt_at dtX5_readPerson 26 rfl) rfl rfl ?_
    refine K_aload_n (dt_at dtX5_readPerson 27 rfl) rfl rfl ?_
    refine K_iconst (dt_at dtX5_readPerson 28 rfl) ?_
    refine K_bipush (dt_at dtX5_readPerson 29 rfl) (by decide) ?_
    have Aq16 : TG hq15 tp n pq4 := (TG_up Bq4 (FL_tr (FL_rf : FL [52, 53, 54, 55, 56] [(48, 11)] [] hcq4 hcq4) (FL_eA eq15 rfl)) rfl rfl rfl)
    refine K_callV (M' := mX5_readNumber) (a := 63) (ci := 5) (As := [vi 2, vi 9]) (st := [vi (np : Int), vr 53]) (dt_at dtX5_readPerson 30 rfl) (num_P Aq16 ⟨by omega, by omega⟩ ⟨by omega, by omega⟩) (show TT 63 = (0, 5) from rfl) rfl wL_X5_104 vX5_readNumber rfl npX5_readNumber (by decide) (by decide) (Nat.le_of_ble_eq_true rfl) (by decide) (by decide) GK_E (fun v9 hcq16 hq => ?_) (fun E h9 hq => by obtain ⟨⟨_, e9⟩, _⟩ := hq; cases e9)
    obtain ⟨-, Nq16, Fq16⟩ := hq
    rcases uq16 : nuP tp n 2 9 pq4 with ekq16 | ⟨vq16, pq16⟩
    · rw [uq16] at Nq16
      obtain ⟨e9, Bq16⟩ := Nq16
      cases e9
      show K mX5_readPerson _ _ 0 0 58 [(1, vi (np : Int)), (0, vr 63)] [vi 0, vi (np : Int), vr 53] hcq16
      refine K_iast (dt_at dtX5_readPerson 31 rfl) (show TT 53 = (1, 7) from rfl) (by omega) (by omega) ?_
      obtain ⟨hq17, eq17⟩ : ∃ z, z = sA hcq16 53 (np : Int) 0 := ⟨_, rfl⟩
      rw [← eq17]
      obtain ⟨aq17, fq17, iq17, rq17⟩ := sA_fx eq17
      rw [(Fq16.1 53 rfl), (fq15 53 (by omega)), (Fq4.1 53 rfl), (Fq3.1 53 rfl)] at aq17
      refine K_aload_n (dt_at dtX5_readPerson 32 rfl) rfl rfl ?_
      refine K_get (a := 63) (ci := 5) (k := 1) (v := vr 48) (dt_at dtX5_readPerson 33 rfl) (show TT 63 = (0, 5) from rfl) rfl (by decide) wF_X5_29 (by show vr (hR hq17 63 1) = vr 48; rw [rq17, (Fq16.2.2 63 1 rfl), rq15, (Fq4.2.2 63 1 rfl), (Fq3.2.2 63 1 rfl), i1]) ?_
      refine K_get (a := 48) (ci := 3) (k := 5) (v := vr 54) (dt_at dtX5_readPerson 34 rfl) (show TT 48 = (0, 3) from rfl) rfl (by decide) wF_X5_123 rfl ?_
      refine K_iload_n (dt_at dtX5_readPerson 35 rfl) rfl rfl ?_
      refine K_aload_n (dt_at dtX5_readPerson 36 rfl) rfl rfl ?_
      refine K_iconst (dt_at dtX5_readPerson 37 rfl) ?_
      refine K_aload_n (dt_at dtX5_readPerson 38 rfl) rfl rfl ?_
      refine K_get (a := 63) (ci := 5) (k := 1) (v := vr 48) (dt_at dtX5_readPerson 39 rfl) (show TT 63 = (0, 5) from rfl) rfl (by decide) wF_X5_29 (by show vr (hR hq17 63 1) = vr 48; rw [rq17, (Fq16.2.2 63 1 rfl), rq15, (Fq4.2.2 63 1 rfl), (Fq3.2.2 63 1 rfl), i1]) ?_
      refine K_get (a := 48) (ci := 3) (k := 4) (v := vr 53) (dt_at dtX5_readPerson 40 rfl) (show TT 48 = (0, 3) from rfl) rfl (by decide) wF_X5_120 rfl ?_
      refine K_iload_n (dt_at dtX5_readPerson 41 rfl) rfl rfl ?_
      refine K_iald (dt_at dtX5_readPerson 42 rfl) (show TT 53 = (1, 7) from rfl) (by omega) (by omega) ?_
      rw [aq17]
      rw [upI_me]
      refine K_iconst (dt_at dtX5_readPerson 43 rfl) ?_
      refine K_isub (dt_at dtX5_readPerson 44 rfl) ?_
      have Aq18 : TE hq17 tp n ekq16 := (TE_up Bq16 (FL_tr (FL_rf : FL [52, 53, 54, 55, 56] [(48, 11)] [] hcq16 hcq16) (FL_eA eq17 rfl)) rfl rfl rfl)
      refine K_callV (M' := mX5_readNumber) (a := 63) (ci := 5) (As := [vi 1, vi (0 - 1)]) (st := [vi (np : Int), vr 54]) (dt_at dtX5_readPerson 45 rfl) (sX5_readNumber_e Aq18) (show TT 63 = (0, 5) from rfl) rfl wL_X5_104 vX5_readNumber rfl npX5_readNumber (by decide) (by decide) (Nat.le_of_ble_eq_true rfl) (by decide) (by decide) GK_E (fun v9 h9 hq => ?_) (fun E h9 hq => by cases hq.1)
      obtain ⟨e9, e8⟩ := hq
      cases e9
      rw [e8]
      show K mX5_readPerson _ _ 0 0 83 [(1, vi (np : Int)), (0, vr 63)] [vi 0, vi (np : Int), vr 54] hq17
      refine K_iast (dt_at dtX5_readPerson 46 rfl) (show TT 54 = (1, 7) from rfl) (by omega) (by omega) ?_
      obtain ⟨hq19, eq19⟩ : ∃ z, z = sA hq17 54 (np : Int) 0 := ⟨_, rfl⟩
      rw [← eq19]
      obtain ⟨aq19, fq19, iq19, rq19⟩ := sA_fx eq19
      rw [(fq17 54 (by omega)), (Fq16.1 54 rfl), (fq15 54 (by omega)), (Fq4.1 54 rfl), (Fq3.1 54 rfl)] at aq19
      refine K_aload_n (dt_at dtX5_readPerson 47 rfl) rfl rfl ?_
      refine K_get (a := 63) (ci := 5) (k := 1) (v := vr 48) (dt_at dtX5_readPerson 48 rfl) (show TT 63 = (0, 5) from rfl) rfl (by decide) wF_X5_29 (by show vr (hR hq19 63 1) = vr 48; rw [rq19, rq17, (Fq16.2.2 63 1 rfl), rq15, (Fq4.2.2 63 1 rfl), (Fq3.2.2 63 1 rfl), i1]) ?_
      refine K_get (a := 48) (ci := 3) (k := 6) (v := vr 55) (dt_at dtX5_readPerson 49 rfl) (show TT 48 = (0, 3) from rfl) rfl (by decide) wF_X5_126 rfl ?_
      refine K_iload_n (dt_at dtX5_readPerson 50 rfl) rfl rfl ?_
      refine K_aload_n (dt_at dtX5_readPerson 51 rfl) rfl rfl ?_
      refine K_iconst (dt_at dtX5_readPerson 52 rfl) ?_
      refine K_bipush (dt_at dtX5_readPerson 53 rfl) (by decide) ?_
      have Aq20 : TE hq19 tp n ekq16 := (TE_up Bq16 (FL_tr (FL_tr (FL_rf : FL [52, 53, 54, 55, 56] [(48, 11)] [] hcq16 hcq16) (FL_eA eq17 rfl)) (FL_eA eq19 rfl)) rfl rfl rfl)
      refine K_callV (M' := mX5_readNumber) (a := 63) (ci := 5) (As := [vi 0, vi 9]) (st := [vi (np : Int), vr 55]) (dt_at dtX5_readPerson 54 rfl) (sX5_readNumber_e Aq20) (show TT 63 = (0, 5) from rfl) rfl wL_X5_104 vX5_readNumber rfl npX5_readNumber (by decide) (by decide) (Nat.le_of_ble_eq_true rfl) (by decide) (by decide) GK_E (fun v9 h9 hq => ?_) (fun E h9 hq => by cases hq.1)
      obtain ⟨e9, e8⟩ := hq
      cases e9
      rw [e8]
      show K mX5_readPerson _ _ 0 0 99 [(1, vi (np : Int)), (0, vr 63)] [vi 0, vi (np : Int), vr 55] hq19
      refine K_iast (dt_at dtX5_readPerson 55 rfl) (show TT 55 = (1, 7) from rfl) (by omega) (by omega) ?_
      obtain ⟨hq21, eq21⟩ : ∃ z, z = sA hq19 55 (np : Int) 0 := ⟨_, rfl⟩
      rw [← eq21]
      obtain ⟨aq21, fq21, iq21, rq21⟩ := sA_fx eq21
      rw [(fq19 55 (by omega)), (fq17 55 (by omega)), (Fq16.1 55 rfl), (fq15 55 (by omega)), (Fq4.1 55 rfl), (Fq3.1 55 rfl)] at aq21
      refine K_aload_n (dt_at dtX5_readPerson 56 rfl) rfl rfl ?_
      refine K_get (a := 63) (ci := 5) (k := 1) (v := vr 48) (dt_at dtX5_readPerson 57 rfl) (show TT 63 = (0, 5) from rfl) rfl (by decide) wF_X5_29 (by show vr (hR hq21 63 1) = vr 48; rw [rq21, rq19, rq17, (Fq16.2.2 63 1 rfl), rq15, (Fq4.2.2 63 1 rfl), (Fq3.2.2 63 1 rfl), i1]) ?_
      refine K_get (a := 48) (ci := 3) (k := 7) (v := vr 56) (dt_at dtX5_readPerson 58 rfl) (show TT 48 = (0, 3) from rfl) rfl (by decide) wF_X5_129 rfl ?_
      refine K_iload_n (dt_at dtX5_readPerson 59 rfl) rfl rfl ?_
      refine K_iconst (dt_at dtX5_readPerson 60 rfl) ?_
      refine K_iast (dt_at dtX5_readPerson 61 rfl) (show TT 56 = (1, 7) from rfl) (by omega) (by omega) ?_
      obtain ⟨hq22, eq22⟩ : ∃ z, z = sA hq21 56 (np : Int) (-1) := ⟨_, rfl⟩
      rw [← eq22]
      obtain ⟨aq22, fq22, iq22, rq22⟩ := sA_fx eq22
      rw [(fq21 56 (by omega)), (fq19 56 (by omega)), (fq17 56 (by omega)), (Fq16.1 56 rfl), (fq15 56 (by omega)), (Fq4.1 56 rfl), (Fq3.1 56 rfl)] at aq22
      refine K_aload_n (dt_at dtX5_readPerson 62 rfl) rfl rfl ?_
      have Aq23 : TE hq22 tp n ekq16 := (TE_up Bq16 (FL_tr (FL_tr (FL_tr (FL_tr (FL_rf : FL [52, 53, 54, 55, 56] [(48, 11)] [] hcq16 hcq16) (FL_eA eq17 rfl)) (FL_eA eq19 rfl)) (FL_eA eq21 rfl)) (FL_eA eq22 rfl)) rfl rfl rfl)
      refine K_callV (M' := mX5_isGoing) (a := 63) (ci := 5) (As := []) (st := []) (dt_at dtX5_readPerson 63 rfl) (sX5_isGoing_f Aq23.2.2.2.1 Aq23.2.2.1) (show TT 63 = (0, 5) from rfl) rfl wL_X5_49 vX5_isGoing rfl npX5_isGoing (by decide) (by decide) (Nat.le_of_ble_eq_true rfl) (by decide) (by decide) GK_E (fun v9 h9 hq => ?_) (fun E h9 hq => by cases hq.1)
      obtain ⟨e9, e8⟩ := hq
      cases e9
      rw [e8]
      show K mX5_readPerson _ _ 0 0 114 [(1, vi (np : Int)), (0, vr 63)] [vi 0] hq22
      refine K_if_eq (tgt := 150) (dt_at dtX5_readPerson 64 rfl) (by decide) (by first | assumption | exact ⟨by omega, by omega⟩) (fun c3 => ?_) (fun c3 => absurd c3 (by omega))
      refine K_aload_n (dt_at dtX5_readPerson 81 rfl) rfl rfl ?_
      refine K_get (a := 63) (ci := 5) (k := 1) (v := vr 48) (dt_at dtX5_readPerson 82 rfl) (show TT 63 = (0, 5) from rfl) rfl (by decide) wF_X5_29 (by show vr (hR hq22 63 1) = vr 48; rw [rq22, rq21, rq19, rq17, (Fq16.2.2 63 1 rfl), rq15, (Fq4.2.2 63 1 rfl), (Fq3.2.2 63 1 rfl), i1]) ?_
      refine K_dup (dt_at dtX5_readPerson 83 rfl) rfl ?_
      refine K_get (a := 48) (ci := 3) (k := 11) (v := vi (np : Int)) (dt_at dtX5_readPerson 84 rfl) (show TT 48 = (0, 3) from rfl) rfl (by decide) wF_X5_114 (by show vi (hI hq22 48 11) = vi (np : Int); rw [iq22, iq21, iq19, iq17, (Fq16.2.1 48 11 rfl), iq15, (Fq4.2.1 48 11 rfl), (Fq3.2.1 48 11 rfl), d11]) ?_
      refine K_iconst (dt_at dtX5_readPerson 85 rfl) ?_
      refine K_iadd (dt_at dtX5_readPerson 86 rfl) ?_
      refine K_putI (a := 48) (ci := 3) (k := 11) (dt_at dtX5_readPerson 87 rfl) (show TT 48 = (0, 3) from rfl) rfl (by decide) wF_X5_114 rfl (Or.inl rfl) rfl rfl ?_
      obtain ⟨hq24, eq24⟩ : ∃ z, z = sI hq22 48 11 ((np : Int) + 1) := ⟨_, rfl⟩
      rw [← eq24]
      obtain ⟨iq24, fq24, aq24, rq24⟩ := sI_fx eq24
      have FE := (TE_up Bq16 (FL_tr (FL_tr (FL_tr (FL_tr (FL_tr (FL_rf : FL [52, 53, 54, 55, 56] [(48, 11)] [] hcq16 hcq16) (FL_eA eq17 rfl)) (FL_eA eq19 rfl)) (FL_eA eq21 rfl)) (FL_eA eq22 rfl)) (FL_eI eq24 rfl)) rfl rfl rfl)
      exact K_vret (dt_at dtX5_readPerson 88 rfl) rfl (by decide) (by decide) ⟨rfl, by simp only [peN, uq4, uq16]; exact FE, (FL_tr (FL_tr (FL_tr (FL_tr (FL_tr (FL_tr (FL_tr (FL_tr (FL_tr (FL_rf : FL [52, 53, 54, 55, 56] ((48, 11) :: TR) [] h h) (FL_up Fq3 rfl rfl rfl)) (FL_up Fq4 rfl rfl rfl)) (FL_eA eq15 rfl)) (FL_up Fq16 rfl rfl rfl)) (FL_eA eq17 rfl)) (FL_eA eq19 rfl)) (FL_eA eq21 rfl)) (FL_eA eq22 rfl)) (FL_eI eq24 rfl))⟩
    · rw [uq16] at Nq16
      obtain ⟨e9, Bq16⟩ := Nq16
      cases e9
      show K mX5_readPerson _ _ 0 0 58 [(1, vi (np : Int)), (0, vr 63)] [vi vq16, vi (np : Int), vr 53] hcq16
      have bq16 := nuP_b uq16
      refine K_iast (dt_at dtX5_readPerson 31 rfl) (show TT 53 = (1, 7) from rfl) (by omega) (by omega) ?_
      obtain ⟨hq25, eq25⟩ : ∃ z, z = sA hcq16 53 (np : Int) vq16 := ⟨_, rfl⟩
      rw [← eq25]
      obtain ⟨aq25, fq25, iq25, rq25⟩ := sA_fx eq25
      rw [(Fq16.1 53 rfl), (fq15 53 (by omega)), (Fq4.1 53 rfl), (Fq3.1 53 rfl)] at aq25
      refine K_aload_n (dt_at dtX5_readPerson 32 rfl) rfl rfl ?_
      refine K_get (a := 63) (ci := 5) (k := 1) (v := vr 48) (dt_at dtX5_readPerson 33 rfl) (show TT 63 = (0, 5) from rfl) rfl (by decide) wF_X5_29 (by show vr (hR hq25 63 1) = vr 48; rw [rq25, (Fq16.2.2 63 1 rfl), rq15, (Fq4.2.2 63 1 rfl), (Fq3.2.2 63 1 rfl), i1]) ?_
      refine K_get (a := 48) (ci := 3) (k := 5) (v := vr 54) (dt_at dtX5_readPerson 34 rfl) (show TT 48 = (0, 3) from rfl) rfl (by decide) wF_X5_123 rfl ?_
      refine K_iload_n (dt_at dtX5_readPerson 35 rfl) rfl rfl ?_
      refine K_aload_n (dt_at dtX5_readPerson 36 rfl) rfl rfl ?_
      refine K_iconst (dt_at dtX5_readPerson 37 rfl) ?_
      refine K_aload_n (dt_at dtX5_readPerson 38 rfl) rfl rfl ?_
      refine K_get (a := 63) (ci := 5) (k := 1) (v := vr 48) (dt_at dtX5_readPerson 39 rfl) (show TT 63 = (0, 5) from rfl) rfl (by decide) wF_X5_29 (by show vr (hR hq25 63 1) = vr 48; rw [rq25, (Fq16.2.2 63 1 rfl), rq15, (Fq4.2.2 63 1 rfl), (Fq3.2.2 63 1 rfl), i1]) ?_
      refine K_get (a := 48) (ci := 3) (k := 4) (v := vr 53) (dt_at dtX5_readPerson 40 rfl) (show TT 48 = (0, 3) from rfl) rfl (by decide) wF_X5_120 rfl ?_
      refine K_iload_n (dt_at dtX5_readPerson 41 rfl) rfl rfl ?_
      refine K_iald (dt_at dtX5_readPerson 42 rfl) (show TT 53 = (1, 7) from rfl) (by omega) (by omega) ?_
      rw [aq25]
      rw [upI_me]
      refine K_iconst (dt_at dtX5_readPerson 43 rfl) ?_
      refine K_isub (dt_at dtX5_readPerson 44 rfl) ?_
      have Aq26 : TG hq25 tp n pq16 := (TG_up Bq16 (FL_tr (FL_rf : FL [52, 53, 54, 55, 56] [(48, 11)] [] hcq16 hcq16) (FL_eA eq25 rfl)) rfl rfl rfl)
      refine K_callV (M' := mX5_readNumber) (a := 63) (ci := 5) (As := [vi 1, vi (vq16 - 1)]) (st := [vi (np : Int), vr 54]) (dt_at dtX5_readPerson 45 rfl) (num_P Aq26 ⟨by omega, by omega⟩ ⟨by omega, by omega⟩) (show TT 63 = (0, 5) from rfl) rfl wL_X5_104 vX5_readNumber rfl npX5_readNumber (by decide) (by decide) (Nat.le_of_ble_eq_true rfl) (by decide) (by decide) GK_E (fun v9 hcq26 hq => ?_) (fun E h9 hq => by obtain ⟨⟨_, e9⟩, _⟩ := hq; cases e9)
      obtain ⟨-, Nq26, Fq26⟩ := hq
      rcases uq26 : nuP tp n 1 (vq16 - 1) pq16 with ekq26 | ⟨vq26, pq26⟩
      · rw [uq26] at Nq26
        obtain ⟨e9, Bq26⟩ := Nq26
        cases e9
        show K mX5_readPerson _ _ 0 0 83 [(1, vi (np : Int)), (0, vr 63)] [vi 0, vi (np : Int), vr 54] hcq26
        refine K_iast (dt_at dtX5_readPerson 46 rfl) (show TT 54 = (1, 7) from rfl) (by omega) (by omega) ?_
        obtain ⟨hq27, eq27⟩ : ∃ z, z = sA hcq26 54 (np : Int) 0 := ⟨_, rfl⟩
        rw [← eq27]
        obtain ⟨aq27, fq27, iq27, rq27⟩ := sA_fx eq27
        rw [(Fq26.1 54 rfl), (fq25 54 (by omega)), (Fq16.1 54 rfl), (fq15 54 (by omega)), (Fq4.1 54 rfl), (Fq3.1 54 rfl)] at aq27
        refine K_aload_n (dt_at dtX5_readPerson 47 rfl) rfl rfl ?_
        refine K_get (a := 63) (ci := 5) (k := 1) (v := vr 48) (dt_at dtX5_readPerson 48 rfl) (show TT 63 = (0, 5) from rfl) rfl (by decide) wF_X5_29 (by show vr (hR hq27 63 1) = vr 48; rw [rq27, (Fq26.2.2 63 1 rfl), rq25, (Fq16.2.2 63 1 rfl), rq15, (Fq4.2.2 63 1 rfl), (Fq3.2.2 63 1 rfl), i1]) ?_
        refine K_get (a := 48) (ci := 3) (k := 6) (v := vr 55) (dt_at dtX5_readPerson 49 rfl) (show TT 48 = (0, 3) from rfl) rfl (by decide) wF_X5_126 rfl ?_
        refine K_iload_n (dt_at dtX5_readPerson 50 rfl) rfl rfl ?_
        refine K_aload_n (dt_at dtX5_readPerson 51 rfl) rfl rfl ?_
        refine K_iconst (dt_at dtX5_readPerson 52 rfl) ?_
        refine K_bipush (dt_at dtX5_readPerson 53 rfl) (by decide) ?_
        have Aq28 : TE hq27 tp n ekq26 := (TE_up Bq26 (FL_tr (FL_rf : FL [52, 53, 54, 55, 56] [(48, 11)] [] hcq26 hcq26) (FL_eA eq27 rfl)) rfl rfl rfl)
        refine K_callV (M' := mX5_readNumber) (a := 63) (ci := 5) (As := [vi 0, vi 9]) (st := [vi (np : Int), vr 55]) (dt_at dtX5_readPerson 54 rfl) (sX5_readNumber_e Aq28) (show TT 63 = (0, 5) from rfl) rfl wL_X5_104 vX5_readNumber rfl npX5_readNumber (by decide) (by decide) (Nat.le_of_ble_eq_true rfl) (by decide) (by decide) GK_E (fun v9 h9 hq => ?_) (fun E h9 hq => by cases hq.1)
        obtain ⟨e9, e8⟩ := hq
        cases e9
        rw [e8]
        show K mX5_readPerson _ _ 0 0 99 [(1, vi (np : Int)), (0, vr 63)] [vi 0, vi (np : Int), vr 55] hq27
        refine K_iast (dt_at dtX5_readPerson 55 rfl) (show TT 55 = (1, 7) from rfl) (by omega) (by omega) ?_
        obtain ⟨hq29, eq29⟩ : ∃ z, z = sA hq27 55 (np : Int) 0 := ⟨_, rfl⟩
        rw [← eq29]
        obtain ⟨aq29, fq29, iq29, rq29⟩ := sA_fx eq29
        rw [(fq27 55 (by omega)), (Fq26.1 55 rfl), (fq25 55 (by omega)), (Fq16.1 55 rfl), (fq15 55 (by omega)), (Fq4.1 55 rfl), (Fq3.1 55 rfl)] at aq29
        refine K_aload_n (dt_at dtX5_readPerson 56 rfl) rfl rfl ?_
        refine K_get (a := 63) (ci := 5) (k := 1) (v := vr 48) (dt_at dtX5_readPerson 57 rfl) (show TT 63 = (0, 5) from rfl) rfl (by decide) wF_X5_29 (by show vr (hR hq29 63 1) = vr 48; rw [rq29, rq27, (Fq26.2.2 63 1 rfl), rq25, (Fq16.2.2 63 1 rfl), rq15, (Fq4.2.2 63 1 rfl), (Fq3.2.2 63 1 rfl), i1]) ?_
        refine K_get (a := 48) (ci := 3) (k := 7) (v := vr 56) (dt_at dtX5_readPerson 58 rfl) (show TT 48 = (0, 3) from rfl) rfl (by decide) wF_X5_129 rfl ?_
        refine K_iload_n (dt_at dtX5_readPerson 59 rfl) rfl rfl ?_
        refine K_iconst (dt_at dtX5_readPerson 60 rfl) ?_
        refine K_iast (dt_at dtX5_readPerson 61 rfl) (show TT 56 = (1, 7) from rfl) (by omega) (by omega) ?_
        obtain ⟨hq30, eq30⟩ : ∃ z, z = sA hq29 56 (np : Int) (-1) := ⟨_, rfl⟩
        rw [← eq30]
        obtain ⟨aq30, fq30, iq30, rq30⟩ := sA_fx eq30
        rw [(fq29 56 (by omega)), (fq27 56 (by omega)), (Fq26.1 56 rfl), (fq25 56 (by omega)), (Fq16.1 56 rfl), (fq15 56 (by omega)), (Fq4.1 56 rfl), (Fq3.1 56 rfl)] at aq30
        refine K_aload_n (dt_at dtX5_readPerson 62 rfl) rfl rfl ?_
        have Aq31 : TE hq30 tp n ekq26 := (TE_up Bq26 (FL_tr (FL_tr (FL_tr (FL_rf : FL [52, 53, 54, 55, 56] [(48, 11)] [] hcq26 hcq26) (FL_eA eq27 rfl)) (FL_eA eq29 rfl)) (FL_eA eq30 rfl)) rfl rfl rfl)
        refine K_callV (M' := mX5_isGoing) (a := 63) (ci := 5) (As := []) (st := []) (dt_at dtX5_readPerson 63 rfl) (sX5_isGoing_f Aq31.2.2.2.1 Aq31.2.2.1) (show TT 63 = (0, 5) from rfl) rfl wL_X5_49 vX5_isGoing rfl npX5_isGoing (by decide) (by decide) (Nat.le_of_ble_eq_true rfl) (by decide) (by decide) GK_E (fun v9 h9 hq => ?_) (fun E h9 hq => by cases hq.1)
        obtain ⟨e9, e8⟩ := hq
        cases e9
        rw [e8]
        show K mX5_readPerson _ _ 0 0 114 [(1, vi (np : Int)), (0, vr 63)] [vi 0] hq30
        refine K_if_eq (tgt := 150) (dt_at dtX5_readPerson 64 rfl) (by decide) (by first | assumption | exact ⟨by omega, by omega⟩) (fun c4 => ?_) (fun c4 => absurd c4 (by omega))
        refine K_aload_n (dt_at dtX5_readPerson 81 rfl) rfl rfl ?_
        refine K_get (a := 63) (ci := 5) (k := 1) (v := vr 48) (dt_at dtX5_readPerson 82 rfl) (show TT 63 = (0, 5) from rfl) rfl (by decide) wF_X5_29 (by show vr (hR hq30 63 1) = vr 48; rw [rq30, rq29, rq27, (Fq26.2.2 63 1 rfl), rq25, (Fq16.2.2 63 1 rfl), rq15, (Fq4.2.2 63 1 rfl), (Fq3.2.2 63 1 rfl), i1]) ?_
        refine K_dup (dt_at dtX5_readPerson 83 rfl) rfl ?_
        refine K_get (a := 48) (ci := 3) (k := 11) (v := vi (np : Int)) (dt_at dtX5_readPerson 84 rfl) (show TT 48 = (0, 3) from rfl) rfl (by decide) wF_X5_114 (by show vi (hI hq30 48 11) = vi (np : Int); rw [iq30, iq29, iq27, (Fq26.2.1 48 11 rfl), iq25, (Fq16.2.1 48 11 rfl), iq15, (Fq4.2.1 48 11 rfl), (Fq3.2.1 48 11 rfl), d11]) ?_
        refine K_iconst (dt_at dtX5_readPerson 85 rfl) ?_
        refine K_iadd (dt_at dtX5_readPerson 86 rfl) ?_
        refine K_putI (a := 48) (ci := 3) (k := 11) (dt_at dtX5_readPerson 87 rfl) (show TT 48 = (0, 3) from rfl) rfl (by decide) wF_X5_114 rfl (Or.inl rfl) rfl rfl ?_
        obtain ⟨hq32, eq32⟩ : ∃ z, z = sI hq30 48 11 ((np : Int) + 1) := ⟨_, rfl⟩
        rw [← eq32]
        obtain ⟨iq32, fq32, aq32, rq32⟩ := sI_fx eq32
        have FE := (TE_up Bq26 (FL_tr (FL_tr (FL_tr (FL_tr (FL_rf : FL [52, 53, 54, 55, 56] [(48, 11)] [] hcq26 hcq26) (FL_eA eq27 rfl)) (FL_eA eq29 rfl)) (FL_eA eq30 rfl)) (FL_eI eq32 rfl)) rfl rfl rfl)
        exact K_vret (dt_at dtX5_readPerson 88 rfl) rfl (by decide) (by decide) ⟨rfl, by simp only [peN, uq4, uq16, uq26]; exact FE, (FL_tr (FL_tr (FL_tr (FL_tr (FL_tr (FL_tr (FL_tr (FL_tr (FL_tr (FL_tr (FL_rf : FL [52, 53, 54, 55, 56] ((48, 11) :: TR) [] h h) (FL_up Fq3 rfl rfl rfl)) (FL_up Fq4 rfl rfl rfl)) (FL_eA eq15 rfl)) (FL_up Fq16 rfl rfl rfl)) (FL_eA eq25 rfl)) (FL_up Fq26 rfl rfl rfl)) (FL_eA eq27 rfl)) (FL_eA eq29 rfl)) (FL_eA eq30 rfl)) (FL_eI eq32 rfl))⟩
      · rw [uq26] at Nq26
        obtain ⟨e9, Bq26⟩ := Nq26
        cases e9
        show K mX5_readPerson _ _ 0 0 83 [(1, vi (np : Int)), (0, vr 63)] [vi vq26, vi (np : Int), vr 54] hcq26
        have bq26 := nuP_b uq26
        refine K_iast (dt_at dtX5_readPerson 46 rfl) (show TT 54 = (1, 7) from rfl) (by omega) (by omega) ?_
        obtain ⟨hq33, eq33⟩ : ∃ z, z = sA hcq26 54 (np : Int) vq26 := ⟨_, rfl⟩
        rw [← eq33]
        obtain ⟨aq33, fq33, iq33, rq33⟩ := sA_fx eq33
        rw [(Fq26.1 54 rfl), (fq25 54 (by omega)), (Fq16.1 54 rfl), (fq15 54 (by omega)), (Fq4.1 54 rfl), (Fq3.1 54 rfl)] at aq33
        refine K_aload_n (dt_at dtX5_readPerson 47 rfl) rfl rfl ?_
        refine K_get (a := 63) (ci := 5) (k := 1) (v := vr 48) (dt_at dtX5_readPerson 48 rfl) (show TT 63 = (0, 5) from rfl) rfl (by decide) wF_X5_29 (by show vr (hR hq33 63 1) = vr 48; rw [rq33, (Fq26.2.2 63 1 rfl), rq25, (Fq16.2.2 63 1 rfl), rq15, (Fq4.2.2 63 1 rfl), (Fq3.2.2 63 1 rfl), i1]) ?_
        refine K_get (a := 48) (ci := 3) (k := 6) (v := vr 55) (dt_at dtX5_readPerson 49 rfl) (show TT 48 = (0, 3) from rfl) rfl (by decide) wF_X5_126 rfl ?_
        refine K_iload_n (dt_at dtX5_readPerson 50 rfl) rfl rfl ?_
        refine K_aload_n (dt_at dtX5_readPerson 51 rfl) rfl rfl ?_
        refine K_iconst (dt_at dtX5_readPerson 52 rfl) ?_
        refine K_bipush (dt_at dtX5_readPerson 53 rfl) (by decide) ?_
        have Aq34 : TG hq33 tp n pq26 := (TG_up Bq26 (FL_tr (FL_rf : FL [52, 53, 54, 55, 56] [(48, 11)] [] hcq26 hcq26) (FL_eA eq33 rfl)) rfl rfl rfl)
        refine K_callV (M' := mX5_readNumber) (a := 63) (ci := 5) (As := [vi 0, vi 9]) (st := [vi (np : Int), vr 55]) (dt_at dtX5_readPerson 54 rfl) (num_P Aq34 ⟨by omega, by omega⟩ ⟨by omega, by omega⟩) (show TT 63 = (0, 5) from rfl) rfl wL_X5_104 vX5_readNumber rfl npX5_readNumber (by decide) (by decide) (Nat.le_of_ble_eq_true rfl) (by decide) (by decide) GK_E (fun v9 hcq34 hq => ?_) (fun E h9 hq => by obtain ⟨⟨_, e9⟩, _⟩ := hq; cases e9)
        obtain ⟨-, Nq34, Fq34⟩ := hq
        rcases uq34 : nuP tp n 0 9 pq26 with ekq34 | ⟨vq34, pq34⟩
        · rw [uq34] at Nq34
          obtain ⟨e9, Bq34⟩ := Nq34
          cases e9
          show K mX5_readPerson _ _ 0 0 99 [(1, vi (np : Int)), (0, vr 63)] [vi 0, vi (np : Int), vr 55] hcq34
          refine K_iast (dt_at dtX5_readPerson 55 rfl) (show TT 55 = (1, 7) from rfl) (by omega) (by omega) ?_
          obtain ⟨hq35, eq35⟩ : ∃ z, z = sA hcq34 55 (np : Int) 0 := ⟨_, rfl⟩
          rw [← eq35]
          obtain ⟨aq35, fq35, iq35, rq35⟩ := sA_fx eq35
          rw [(Fq34.1 55 rfl), (fq33 55 (by omega)), (Fq26.1 55 rfl), (fq25 55 (by omega)), (Fq16.1 55 rfl), (fq15 55 (by omega)), (Fq4.1 55 rfl), (Fq3.1 55 rfl)] at aq35
          refine K_aload_n (dt_at dtX5_readPerson 56 rfl) rfl rfl ?_
          refine K_get (a := 63) (ci := 5) (k := 1) (v := vr 48) (dt_at dtX5_readPerson 57 rfl) (show TT 63 = (0, 5) from rfl) rfl (by decide) wF_X5_29 (by show vr (hR hq35 63 1) = vr 48; rw [rq35, (Fq34.2.2 63 1 rfl), rq33, (Fq26.2.2 63 1 rfl), rq25, (Fq16.2.2 63 1 rfl), rq15, (Fq4.2.2 63 1 rfl), (Fq3.2.2 63 1 rfl), i1]) ?_
          refine K_get (a := 48) (ci := 3) (k := 7) (v := vr 56) (dt_at dtX5_readPerson 58 rfl) (show TT 48 = (0, 3) from rfl) rfl (by decide) wF_X5_129 rfl ?_
          refine K_iload_n (dt_at dtX5_readPerson 59 rfl) rfl rfl ?_
          refine K_iconst (dt_at dtX5_readPerson 60 rfl) ?_
          refine K_iast (dt_at dtX5_readPerson 61 rfl) (show TT 56 = (1, 7) from rfl) (by omega) (by omega) ?_
          obtain ⟨hq36, eq36⟩ : ∃ z, z = sA hq35 56 (np : Int) (-1) := ⟨_, rfl⟩
          rw [← eq36]
          obtain ⟨aq36, fq36, iq36, rq36⟩ := sA_fx eq36
          rw [(fq35 56 (by omega)), (Fq34.1 56 rfl), (fq33 56 (by omega)), (Fq26.1 56 rfl), (fq25 56 (by omega)), (Fq16.1 56 rfl), (fq15 56 (by omega)), (Fq4.1 56 rfl), (Fq3.1 56 rfl)] at aq36
          refine K_aload_n (dt_at dtX5_readPerson 62 rfl) rfl rfl ?_
          have Aq37 : TE hq36 tp n ekq34 := (TE_up Bq34 (FL_tr (FL_tr (FL_rf : FL [52, 53, 54, 55, 56] [(48, 11)] [] hcq34 hcq34) (FL_eA eq35 rfl)) (FL_eA eq36 rfl)) rfl rfl rfl)
          refine K_callV (M' := mX5_isGoing) (a := 63) (ci := 5) (As := []) (st := []) (dt_at dtX5_readPerson 63 rfl) (sX5_isGoing_f Aq37.2.2.2.1 Aq37.2.2.1) (show TT 63 = (0, 5) from rfl) rfl wL_X5_49 vX5_isGoing rfl npX5_isGoing (by decide) (by decide) (Nat.le_of_ble_eq_true rfl) (by decide) (by decide) GK_E (fun v9 h9 hq => ?_) (fun E h9 hq => by cases hq.1)
          obtain ⟨e9, e8⟩ := hq
          cases e9
          rw [e8]
          show K mX5_readPerson _ _ 0 0 114 [(1, vi (np : Int)), (0, vr 63)] [vi 0] hq36
          refine K_if_eq (tgt := 150) (dt_at dtX5_readPerson 64 rfl) (by decide) (by first | assumption | exact ⟨by omega, by omega⟩) (fun c5 => ?_) (fun c5 => absurd c5 (by omega))
          refine K_aload_n (dt_at dtX5_readPerson 81 rfl) rfl rfl ?_
          refine K_get (a := 63) (ci := 5) (k := 1) (v := vr 48) (dt_at dtX5_readPerson 82 rfl) (show TT 63 = (0, 5) from rfl) rfl (by decide) wF_X5_29 (by show vr (hR hq36 63 1) = vr 48; rw [rq36, rq35, (Fq34.2.2 63 1 rfl), rq33, (Fq26.2.2 63 1 rfl), rq25, (Fq16.2.2 63 1 rfl), rq15, (Fq4.2.2 63 1 rfl), (Fq3.2.2 63 1 rfl), i1]) ?_
          refine K_dup (dt_at dtX5_readPerson 83 rfl) rfl ?_
          refine K_get (a := 48) (ci := 3) (k := 11) (v := vi (np : Int)) (dt_at dtX5_readPerson 84 rfl) (show TT 48 = (0, 3) from rfl) rfl (by decide) wF_X5_114 (by show vi (hI hq36 48 11) = vi (np : Int); rw [iq36, iq35, (Fq34.2.1 48 11 rfl), iq33, (Fq26.2.1 48 11 rfl), iq25, (Fq16.2.1 48 11 rfl), iq15, (Fq4.2.1 48 11 rfl), (Fq3.2.1 48 11 rfl), d11]) ?_
          refine K_iconst (dt_at dtX5_readPerson 85 rfl) ?_
          refine K_iadd (dt_at dtX5_readPerson 86 rfl) ?_
          refine K_putI (a := 48) (ci := 3) (k := 11) (dt_at dtX5_readPerson 87 rfl) (show TT 48 = (0, 3) from rfl) rfl (by decide) wF_X5_114 rfl (Or.inl rfl) rfl rfl ?_
          obtain ⟨hq38, eq38⟩ : ∃ z, z = sI hq36 48 11 ((np : Int) + 1) := ⟨_, rfl⟩
          rw [← eq38]
          obtain ⟨iq38, fq38, aq38, rq38⟩ := sI_fx eq38
          have FE := (TE_up Bq34 (FL_tr (FL_tr (FL_tr (FL_rf : FL [52, 53, 54, 55, 56] [(48, 11)] [] hcq34 hcq34) (FL_eA eq35 rfl)) (FL_eA eq36 rfl)) (FL_eI eq38 rfl)) rfl rfl rfl)
          exact K_vret (dt_at dtX5_readPerson 88 rfl) rfl (by decide) (by decide) ⟨rfl, by simp only [peN, uq4, uq16, uq26, uq34]; exact FE, (FL_tr (FL_tr (FL_tr (FL_tr (FL_tr (FL_tr (FL_tr (FL_tr (FL_tr (FL_tr (FL_tr (FL_rf : FL [52, 53, 54, 55, 56] ((48, 11) :: TR) [] h h) (FL_up Fq3 rfl rfl rfl)) (FL_up Fq4 rfl rfl rfl)) (FL_eA eq15 rfl)) (FL_up Fq16 rfl rfl rfl)) (FL_eA eq25 rfl)) (FL_up Fq26 rfl rfl rfl)) (FL_eA eq33 rfl)) (FL_up Fq34 rfl rfl rfl)) (FL_eA eq35 rfl)) (FL_eA eq36 rfl)) (FL_eI eq38 rfl))⟩
        · rw [uq34] at Nq34
          obtain ⟨e9, Bq34⟩ := Nq34
          cases e9
          show K mX5_readPerson _ _ 0 0 99 [(1, vi (np : Int)), (0, vr 63)] [vi vq34, vi (np : Int), vr 55] hcq34
          have bq34 := nuP_b uq34
          refine K_iast (dt_at dtX5_readPerson 55 rfl) (show TT 55 = (1, 7) from rfl) (by omega) (by omega) ?_
          obtain ⟨hq39, eq39⟩ : ∃ z, z = sA hcq34 55 (np : Int) vq34 := ⟨_, rfl⟩
          rw [← eq39]
          obtain ⟨aq39, fq39, iq39, rq39⟩ := sA_fx eq39
          rw [(Fq34.1 55 rfl), (fq33 55 (by omega)), (Fq26.1 55 rfl), (fq25 55 (by omega)), (Fq16.1 55 rfl), (fq15 55 (by omega)), (Fq4.1 55 rfl), (Fq3.1 55 rfl)] at aq39
          refine K_aload_n (dt_at dtX5_readPerson 56 rfl) rfl rfl ?_
          refine K_get (a := 63) (ci := 5) (k := 1) (v := vr 48) (dt_at dtX5_readPerson 57 rfl) (show TT 63 = (0, 5) from rfl) rfl (by decide) wF_X5_29 (by show vr (hR hq39 63 1) = vr 48; rw [rq39, (Fq34.2.2 63 1 rfl), rq33, (Fq26.2.2 63 1 rfl), rq25, (Fq16.2.2 63 1 rfl), rq15, (Fq4.2.2 63 1 rfl), (Fq3.2.2 63 1 rfl), i1]) ?_
          refine K_get (a := 48) (ci := 3) (k := 7) (v := vr 56) (dt_at dtX5_readPerson 58 rfl) (show TT 48 = (0, 3) from rfl) rfl (by decide) wF_X5_129 rfl ?_
          refine K_iload_n (dt_at dtX5_readPerson 59 rfl) rfl rfl ?_
          refine K_iconst (dt_at dtX5_readPerson 60 rfl) ?_
          refine K_iast (dt_at dtX5_readPerson 61 rfl) (show TT 56 = (1, 7) from rfl) (by omega) (by omega) ?_
          obtain ⟨hq40, eq40⟩ : ∃ z, z = sA hq39 56 (np : Int) (-1) := ⟨_, rfl⟩
          rw [← eq40]
          obtain ⟨aq40, fq40, iq40, rq40⟩ := sA_fx eq40
          rw [(fq39 56 (by omega)), (Fq34.1 56 rfl), (fq33 56 (by omega)), (Fq26.1 56 rfl), (fq25 56 (by omega)), (Fq16.1 56 rfl), (fq15 56 (by omega)), (Fq4.1 56 rfl), (Fq3.1 56 rfl)] at aq40
          refine K_aload_n (dt_at dtX5_readPerson 62 rfl) rfl rfl ?_
          have Aq41 : TG hq40 tp n pq34 := (TG_up Bq34 (FL_tr (FL_tr (FL_rf : FL [52, 53, 54, 55, 56] [(48, 11)] [] hcq34 hcq34) (FL_eA eq39 rfl)) (FL_eA eq40 rfl)) rfl rfl rfl)
          refine K_callV (M' := mX5_isGoing) (a := 63) (ci := 5) (As := []) (st := []) (dt_at dtX5_readPerson 63 rfl) (sX5_isGoing_t Aq41.2.2.2) (show TT 63 = (0, 5) from rfl) rfl wL_X5_49 vX5_isGoing rfl npX5_isGoing (by decide) (by decide) (Nat.le_of_ble_eq_true rfl) (by decide) (by decide) GK_E (fun v9 h9 hq => ?_) (fun E h9 hq => by cases hq.1)
          obtain ⟨e9, e8⟩ := hq
          cases e9
          rw [e8]
          show K mX5_readPerson _ _ 0 0 114 [(1, vi (np : Int)), (0, vr 63)] [vi 1] hq40
          refine K_if_eq (tgt := 150) (dt_at dtX5_readPerson 64 rfl) (by decide) (by first | assumption | exact ⟨by omega, by omega⟩) (fun c6 => absurd c6 (by omega)) (fun c6 => ?_)
          refine K_aload_n (dt_at dtX5_readPerson 65 rfl) rfl rfl ?_
          refine K_get (a := 63) (ci := 5) (k := 0) (v := vr 64) (dt_at dtX5_readPerson 66 rfl) (show TT 63 = (0, 5) from rfl) rfl (by decide) wF_X5_12 rfl ?_
          refine K_ldcS (i := 2) (dt_at dtX5_readPerson 67 rfl) rfl GK_E ?_
          have Aq42 : TG hq40 tp n pq34 := (TG_up Bq34 (FL_tr (FL_tr (FL_rf : FL [52, 53, 54, 55, 56] [(48, 11)] [] hcq34 hcq34) (FL_eA eq39 rfl)) (FL_eA eq40 rfl)) rfl rfl rfl)
          refine K_callV (M' := mX9_isWord) (a := 64) (ci := 9) (As := [vs 3]) (st := []) (dt_at dtX5_readPerson 68 rfl) (sX9_isWord (i := 2) Aq42.1 Aq42.2.1 (tk_G Aq42.2.2.1) (by decide)) (show TT 64 = (0, 9) from rfl) rfl wL_X5_65 vX9_isWord rfl npX9_isWord (by decide) (by decide) (Nat.le_of_ble_eq_true rfl) (by decide) (by decide) GK_E (fun v9 h9 hq => ?_) (fun E h9 hq => by cases hq.1)
          obtain ⟨e9, e8⟩ := hq
          cases e9
          rw [e8]
          show K mX5_readPerson _ _ 0 0 126 [(1, vi (np : Int)), (0, vr 63)] [vi (if isWb tp (tk tp n pq34) 2 = true then 1 else 0)] hq40
          by_cases z7 : isWb tp (tk tp n pq34) 2 = true
          · rw [if_pos z7]
            refine K_if_eq (tgt := 150) (dt_at dtX5_readPerson 69 rfl) (by decide) (by first | assumption | exact ⟨by omega, by omega⟩) (fun c8 => absurd c8 (by omega)) (fun c8 => ?_)
            refine K_aload_n (dt_at dtX5_readPerson 70 rfl) rfl rfl ?_
            refine K_get (a := 63) (ci := 5) (k := 0) (v := vr 64) (dt_at dtX5_readPerson 71 rfl) (show TT 63 = (0, 5) from rfl) rfl (by decide) wF_X5_12 rfl ?_
            have Aq43 : TG hq40 tp n pq34 := (TG_up Bq34 (FL_tr (FL_tr (FL_rf : FL [52, 53, 54, 55, 56] [(48, 11)] [] hcq34 hcq34) (FL_eA eq39 rfl)) (FL_eA eq40 rfl)) rfl rfl rfl)
            refine K_callV (M' := mX9_pass) (a := 64) (ci := 9) (As := []) (st := []) (dt_at dtX5_readPerson 72 rfl) (pass_G Aq43) (show TT 64 = (0, 9) from rfl) rfl wL_X5_97 vX9_pass rfl npX9_pass (by decide) (by decide) (Nat.le_of_ble_eq_true rfl) (by decide) (by decide) GK_E (fun v9 hc44 hq => ?_) (fun E h9 hq => by cases hq.1)
            have hqq45 := hq
            obtain ⟨e9q45, Bq45, Fq45⟩ := hqq45
            cases e9q45
            show K mX5_readPerson _ _ 0 0 136 [(1, vi (np : Int)), (0, vr 63)] [] hc44
            refine K_aload_n (dt_at dtX5_readPerson 73 rfl) rfl rfl ?_
            refine K_get (a := 63) (ci := 5) (k := 1) (v := vr 48) (dt_at dtX5_readPerson 74 rfl) (show TT 63 = (0, 5) from rfl) rfl (by decide) wF_X5_29 (by show vr (hR hc44 63 1) = vr 48; rw [(Fq45.2.2 63 1 rfl), rq40, rq39, (Fq34.2.2 63 1 rfl), rq33, (Fq26.2.2 63 1 rfl), rq25, (Fq16.2.2 63 1 rfl), rq15, (Fq4.2.2 63 1 rfl), (Fq3.2.2 63 1 rfl), i1]) ?_
            refine K_get (a := 48) (ci := 3) (k := 7) (v := vr 56) (dt_at dtX5_readPerson 75 rfl) (show TT 48 = (0, 3) from rfl) rfl (by decide) wF_X5_129 rfl ?_
            refine K_iload_n (dt_at dtX5_readPerson 76 rfl) rfl rfl ?_
            refine K_aload_n (dt_at dtX5_readPerson 77 rfl) rfl rfl ?_
            refine K_iload_n (dt_at dtX5_readPerson 78 rfl) rfl rfl ?_
            have Aq46 : TG hc44 tp n ((tk tp n pq34).2.2) := Bq45
            refine K_callV (M' := mX5_readPacker) (a := 63) (ci := 5) (As := [vi (np : Int)]) (st := [vi (np : Int), vr 56]) (dt_at dtX5_readPerson 79 rfl) (sX5_readPacker Aq46 ⟨by omega, by omega⟩) (show TT 63 = (0, 5) from rfl) rfl wL_X5_133 vX5_readPacker rfl npX5_readPacker (by decide) (by decide) (Nat.le_of_ble_eq_true rfl) (by decide) (by decide) GK_E (fun v9 hcq46 hq => ?_) (fun E h9 hq => by obtain ⟨⟨_, e9⟩, _⟩ := hq; cases e9)
            obtain ⟨-, Nq46, Fq46⟩ := hq
            rcases uq46 : pakP tp n (np : Int) ((tk tp n pq34).2.2) with ekq46 | ⟨vq46, pq46⟩
            · rw [uq46] at Nq46
              obtain ⟨e9, Bq46⟩ := Nq46
              cases e9
              show K mX5_readPerson _ _ 0 0 149 [(1, vi (np : Int)), (0, vr 63)] [vi 0, vi (np : Int), vr 56] hcq46
              refine K_iast (dt_at dtX5_readPerson 80 rfl) (show TT 56 = (1, 7) from rfl) (by omega) (by omega) ?_
              obtain ⟨hq47, eq47⟩ : ∃ z, z = sA hcq46 56 (np : Int) 0 := ⟨_, rfl⟩
              rw [← eq47]
              obtain ⟨aq47, fq47, iq47, rq47⟩ := sA_fx eq47
              rw [(Fq46.1 56 rfl), (Fq45.1 56 rfl), aq40] at aq47
              refine K_aload_n (dt_at dtX5_readPerson 81 rfl) rfl rfl ?_
              refine K_get (a := 63) (ci := 5) (k := 1) (v := vr 48) (dt_at dtX5_readPerson 82 rfl) (show TT 63 = (0, 5) from rfl) rfl (by decide) wF_X5_29 (by show vr (hR hq47 63 1) = vr 48; rw [rq47, (Fq46.2.2 63 1 rfl), (Fq45.2.2 63 1 rfl), rq40, rq39, (Fq34.2.2 63 1 rfl), rq33, (Fq26.2.2 63 1 rfl), rq25, (Fq16.2.2 63 1 rfl), rq15, (Fq4.2.2 63 1 rfl), (Fq3.2.2 63 1 rfl), i1]) ?_
              refine K_dup (dt_at dtX5_readPerson 83 rfl) rfl ?_
              refine K_get (a := 48) (ci := 3) (k := 11) (v := vi (np : Int)) (dt_at dtX5_readPerson 84 rfl) (show TT 48 = (0, 3) from rfl) rfl (by decide) wF_X5_114 (by show vi (hI hq47 48 11) = vi (np : Int); rw [iq47, (Fq46.2.1 48 11 rfl), (Fq45.2.1 48 11 rfl), iq40, iq39, (Fq34.2.1 48 11 rfl), iq33, (Fq26.2.1 48 11 rfl), iq25, (Fq16.2.1 48 11 rfl), iq15, (Fq4.2.1 48 11 rfl), (Fq3.2.1 48 11 rfl), d11]) ?_
              refine K_iconst (dt_at dtX5_readPerson 85 rfl) ?_
              refine K_iadd (dt_at dtX5_readPerson 86 rfl) ?_
              refine K_putI (a := 48) (ci := 3) (k := 11) (dt_at dtX5_readPerson 87 rfl) (show TT 48 = (0, 3) from rfl) rfl (by decide) wF_X5_114 rfl (Or.inl rfl) rfl rfl ?_
              obtain ⟨hq48, eq48⟩ : ∃ z, z = sI hq47 48 11 ((np : Int) + 1) := ⟨_, rfl⟩
              rw [← eq48]
              obtain ⟨iq48, fq48, aq48, rq48⟩ := sI_fx eq48
              have eby := (byP_t (me := (np : Int)) (by assumption : isWb tp (tk tp n pq34) 2 = true)).trans uq46
              have FE := (TE_up Bq46 (FL_tr (FL_tr (FL_rf : FL [52, 53, 54, 55, 56] [(48, 11)] [] hcq46 hcq46) (FL_eA eq47 rfl)) (FL_eI eq48 rfl)) rfl rfl rfl)
              exact K_vret (dt_at dtX5_readPerson 88 rfl) rfl (by decide) (by decide) ⟨rfl, by simp only [peN, uq4, uq16, uq26, uq34, eby]; exact FE, (FL_tr (FL_tr (FL_tr (FL_tr (FL_tr (FL_tr (FL_tr (FL_tr (FL_tr (FL_tr (FL_tr (FL_tr (FL_tr (FL_tr (FL_rf : FL [52, 53, 54, 55, 56] ((48, 11) :: TR) [] h h) (FL_up Fq3 rfl rfl rfl)) (FL_up Fq4 rfl rfl rfl)) (FL_eA eq15 rfl)) (FL_up Fq16 rfl rfl rfl)) (FL_eA eq25 rfl)) (FL_up Fq26 rfl rfl rfl)) (FL_eA eq33 rfl)) (FL_up Fq34 rfl rfl rfl)) (FL_eA eq39 rfl)) (FL_eA eq40 rfl)) (FL_up Fq45 rfl rfl rfl)) (FL_up Fq46 rfl rfl rfl)) (FL_eA eq47 rfl)) (FL_eI eq48 rfl))⟩
            · rw [uq46] at Nq46
              obtain ⟨e9, Bq46⟩ := Nq46
              cases e9
              show K mX5_readPerson _ _ 0 0 149 [(1, vi (np : Int)), (0, vr 63)] [vi vq46, vi (np : Int), vr 56] hcq46
              refine K_iast (dt_at dtX5_readPerson 80 rfl) (show TT 56 = (1, 7) from rfl) (by omega) (by omega) ?_
              obtain ⟨hq49, eq49⟩ : ∃ z, z = sA hcq46 56 (np : Int) vq46 := ⟨_, rfl⟩
              rw [← eq49]
              obtain ⟨aq49, fq49, iq49, rq49⟩ := sA_fx eq49
              rw [(Fq46.1 56 rfl), (Fq45.1 56 rfl), aq40] at aq49
              refine K_aload_n (dt_at dtX5_readPerson 81 rfl) rfl rfl ?_
              refine K_get (a := 63) (ci := 5) (k := 1) (v := vr 48) (dt_at dtX5_readPerson 82 rfl) (show TT 63 = (0, 5) from rfl) rfl (by decide) wF_X5_29 (by show vr (hR hq49 63 1) = vr 48; rw [rq49, (Fq46.2.2 63 1 rfl), (Fq45.2.2 63 1 rfl), rq40, rq39, (Fq34.2.2 63 1 rfl), rq33, (Fq26.2.2 63 1 rfl), rq25, (Fq16.2.2 63 1 rfl), rq15, (Fq4.2.2 63 1 rfl), (Fq3.2.2 63 1 rfl), i1]) ?_
              refine K_dup (dt_at dtX5_readPerson 83 rfl) rfl ?_
              refine K_get (a := 48) (ci := 3) (k := 11) (v := vi (np : Int)) (dt_at dtX5_readPerson 84 rfl) (show TT 48 = (0, 3) from rfl) rfl (by decide) wF_X5_114 (by show vi (hI hq49 48 11) = vi (np : Int); rw [iq49, (Fq46.2.1 48 11 rfl), (Fq45.2.1 48 11 rfl), iq40, iq39, (Fq34.2.1 48 11 rfl), iq33, (Fq26.2.1 48 11 rfl), iq25, (Fq16.2.1 48 11 rfl), iq15, (Fq4.2.1 48 11 rfl), (Fq3.2.1 48 11 rfl), d11]) ?_
              refine K_iconst (dt_at dtX5_readPerson 85 rfl) ?_
              refine K_iadd (dt_at dtX5_readPerson 86 rfl) ?_
              refine K_putI (a := 48) (ci := 3) (k := 11) (dt_at dtX5_readPerson 87 rfl) (show TT 48 = (0, 3) from rfl) rfl (by decide) wF_X5_114 rfl (Or.inl rfl) rfl rfl ?_
              obtain ⟨hq50, eq50⟩ : ∃ z, z = sI hq49 48 11 ((np : Int) + 1) := ⟨_, rfl⟩
              rw [← eq50]
              obtain ⟨iq50, fq50, aq50, rq50⟩ := sI_fx eq50
              have eby := (byP_t (me := (np : Int)) (by assumption : isWb tp (tk tp n pq34) 2 = true)).trans uq46
              have FE : TG hq50 tp n pq46 := (TG_up Bq46 (FL_tr (FL_tr (FL_rf : FL [52, 53, 54, 55, 56] [(48, 11)] [] hcq46 hcq46) (FL_eA eq49 rfl)) (FL_eI eq50 rfl)) rfl rfl rfl)
              exact K_vret (dt_at dtX5_readPerson 88 rfl) rfl (by decide) (by decide) ⟨rfl, by simp only [peN, uq4, uq16, uq26, uq34, eby]; exact ⟨FE, by rw [iq50]; rfl, by rw [aq50, (fq49 52 (by omega)), (Fq46.1 52 rfl), (Fq45.1 52 rfl), (fq40 52 (by omega)), (fq39 52 (by omega)), (Fq34.1 52 rfl), (fq33 52 (by omega)), (Fq26.1 52 rfl), (fq25 52 (by omega)), (Fq16.1 52 rfl), aq15], by rw [aq50, (fq49 53 (by omega)), (Fq46.1 53 rfl), (Fq45.1 53 rfl), (fq40 53 (by omega)), (fq39 53 (by omega)), (Fq34.1 53 rfl), (fq33 53 (by omega)), (Fq26.1 53 rfl), aq25], by rw [aq50, (fq49 54 (by omega)), (Fq46.1 54 rfl), (Fq45.1 54 rfl), (fq40 54 (by omega)), (fq39 54 (by omega)), (Fq34.1 54 rfl), aq33], by rw [aq50, (fq49 55 (by omega)), (Fq46.1 55 rfl), (Fq45.1 55 rfl), (fq40 55 (by omega)), aq39], by rw [aq50, aq49, upI_two]⟩, (FL_tr (FL_tr (FL_tr (FL_tr (FL_tr (FL_tr (FL_tr (FL_tr (FL_tr (FL_tr (FL_tr (FL_tr (FL_tr (FL_tr (FL_rf : FL [52, 53, 54, 55, 56] ((48, 11) :: TR) [] h h) (FL_up Fq3 rfl rfl rfl)) (FL_up Fq4 rfl rfl rfl)) (FL_eA eq15 rfl)) (FL_up Fq16 rfl rfl rfl)) (FL_eA eq25 rfl)) (FL_up Fq26 rfl rfl rfl)) (FL_eA eq33 rfl)) (FL_up Fq34 rfl rfl rfl)) (FL_eA eq39 rfl)) (FL_eA eq40 rfl)) (FL_up Fq45 rfl rfl rfl)) (FL_up Fq46 rfl rfl rfl)) (FL_eA eq49 rfl)) (FL_eI eq50 rfl))⟩
          · rw [if_neg z7]
            refine K_if_eq (tgt := 150) (dt_at dtX5_readPerson 69 rfl) (by decide) (by first | assumption | exact ⟨by omega, by omega⟩) (fun c9 => ?_) (fun c9 => absurd c9 (by omega))
            refine K_aload_n (dt_at dtX5_readPerson 81 rfl) rfl rfl ?_
            refine K_get (a := 63) (ci := 5) (k := 1) (v := vr 48) (dt_at dtX5_readPerson 82 rfl) (show TT 63 = (0, 5) from rfl) rfl (by decide) wF_X5_29 (by show vr (hR hq40 63 1) = vr 48; rw [rq40, rq39, (Fq34.2.2 63 1 rfl), rq33, (Fq26.2.2 63 1 rfl), rq25, (Fq16.2.2 63 1 rfl), rq15, (Fq4.2.2 63 1 rfl), (Fq3.2.2 63 1 rfl), i1]) ?_
            refine K_dup (dt_at dtX5_readPerson 83 rfl) rfl ?_
            refine K_get (a := 48) (ci := 3) (k := 11) (v := vi (np : Int)) (dt_at dtX5_readPerson 84 rfl) (show TT 48 = (0, 3) from rfl) rfl (by decide) wF_X5_114 (by show vi (hI hq40 48 11) = vi (np : Int); rw [iq40, iq39, (Fq34.2.1 48 11 rfl), iq33, (Fq26.2.1 48 11 rfl), iq25, (Fq16.2.1 48 11 rfl), iq15, (Fq4.2.1 48 11 rfl), (Fq3.2.1 48 11 rfl), d11]) ?_
            refine K_iconst (dt_at dtX5_readPerson 85 rfl) ?_
            refine K_iadd (dt_at dtX5_readPerson 86 rfl) ?_
            refine K_putI (a := 48) (ci := 3) (k := 11) (dt_at dtX5_readPerson 87 rfl) (show TT 48 = (0, 3) from rfl) rfl (by decide) wF_X5_114 rfl (Or.inl rfl) rfl rfl ?_
            obtain ⟨hq51, eq51⟩ : ∃ z, z = sI hq40 48 11 ((np : Int) + 1) := ⟨_, rfl⟩
            rw [← eq51]
            obtain ⟨iq51, fq51, aq51, rq51⟩ := sI_fx eq51
            have eby : byP tp n (np : Int) pq34 = .inr (-1, pq34) := by rw [byP, if_neg (by assumption)]
            have FE : TG hq51 tp n pq34 := (TG_up Bq34 (FL_tr (FL_tr (FL_tr (FL_rf : FL [52, 53, 54, 55, 56] [(48, 11)] [] hcq34 hcq34) (FL_eA eq39 rfl)) (FL_eA eq40 rfl)) (FL_eI eq51 rfl)) rfl rfl rfl)
            exact K_vret (dt_at dtX5_readPerson 88 rfl) rfl (by decide) (by decide) ⟨rfl, by simp only [peN, uq4, uq16, uq26, uq34, eby]; exact ⟨FE, by rw [iq51]; rfl, by rw [aq51, (fq40 52 (by omega)), (fq39 52 (by omega)), (Fq34.1 52 rfl), (fq33 52 (by omega)), (Fq26.1 52 rfl), (fq25 52 (by omega)), (Fq16.1 52 rfl), aq15], by rw [aq51, (fq40 53 (by omega)), (fq39 53 (by omega)), (Fq34.1 53 rfl), (fq33 53 (by omega)), (Fq26.1 53 rfl), aq25], by rw [aq51, (fq40 54 (by omega)), (fq39 54 (by omega)), (Fq34.1 54 rfl), aq33], by rw [aq51, (fq40 55 (by omega)), aq39], by rw [aq51, aq40]⟩, (FL_tr (FL_tr (FL_tr (FL_tr (FL_tr (FL_tr (FL_tr (FL_tr (FL_tr (FL_tr (FL_tr (FL_rf : FL [52, 53, 54, 55, 56] ((48, 11) :: TR) [] h h) (FL_up Fq3 rfl rfl rfl)) (FL_up Fq4 rfl rfl rfl)) (FL_eA eq15 rfl)) (FL_up Fq16 rfl rfl rfl)) (FL_eA eq25 rfl)) (FL_up Fq26 rfl rfl rfl)) (FL_eA eq33 rfl)) (FL_up Fq34 rfl rfl rfl)) (FL_eA eq39 rfl)) (FL_eA eq40 rfl)) (FL_eI eq51 rfl))⟩
set_option maxHeartbeats 4000000 in
set_option maxRecDepth 100000 in
theorem sX5_readPerson_48_x {h : HP} {tp : Int → Int} {n p np : Nat} (A : TG h tp n p) (i1 : hR h 63 1 = 48) (d11 : hI h 48 11 = (np : Int)) (hnp : np = 7) : SpecK mX5_readPerson [vr 63] h (fun o h' => o = .inl none ∧ TE h' tp n (2, (tk tp n p).2.1) ∧ FL [] TR [] h h') := by
  refine Spec_of (by decide +kernel) (Nat.le_of_ble_eq_true rfl) ?_
  refine K_aload_n (dt_at dtX5_readPerson 0 rfl) rfl rfl ?_
  refine K_get (a := 63) (ci := 5) (k := 1) (v := vr 48) (dt_at dtX5_readPerson 1 rfl) (show TT 63 = (0, 5) from rfl) rfl (by decide) wF_X5_29 (by show vr (hR h 63 1) = vr 48; rw [i1]) ?_
  refine K_get (a := 48) (ci := 3) (k := 11) (v := vi (np : Int)) (dt_at dtX5_readPerson 2 rfl) (show TT 48 = (0, 3) from rfl) rfl (by decide) wF_X5_114 (by show vi (hI h 48 11) = vi (np : Int); rw [d11]) ?_
  refine K_istore_n (ls' := [(1, vi (np : Int)), (0, vr 63)]) (dt_at dtX5_readPerson 3 rfl) rfl (by decide) rfl ?_
  refine K_iload_n (dt_at dtX5_readPerson 4 rfl) rfl rfl ?_
  refine K_bipush (dt_at dtX5_readPerson 5 rfl) (by decide) ?_
  refine K_icmp_lt (tgt := 20) (dt_at dtX5_readPerson 6 rfl) (by decide) (by first | assumption | exact ⟨by omega, by omega⟩) (by first | assumption | exact ⟨by omega, by omega⟩) (fun c1 => absurd c1 (by omega)) (fun c1 => ?_)
  refine K_aload_n (dt_at dtX5_readPerson 7 rfl) rfl rfl ?_
  refine K_iconst (dt_at dtX5_readPerson 8 rfl) ?_
  have Aq1 : TG h tp n p := A
  refine K_callV (M' := mX5_stop) (a := 63) (ci := 5) (As := [vi 2]) (st := []) (dt_at dtX5_readPerson 9 rfl) (sX5_stop Aq1 ⟨by omega, by omega⟩) (show TT 63 = (0, 5) from rfl) rfl wL_X5_86 vX5_stop rfl npX5_stop (by decide) (by decide) (Nat.le_of_ble_eq_true rfl) (by decide) (by decide) GK_E (fun v9 hc2 hq => ?_) (fun E h9 hq => by cases hq.1)
  have hqq3 := hq
  obtain ⟨e9q3, Bq3, Fq3⟩ := hqq3
  cases e9q3
  show K mX5_readPerson _ _ 0 0 19 [(1, vi (np : Int)), (0, vr 63)] [] hc2
  exact K_vret (dt_at dtX5_readPerson 10 rfl) rfl (by decide) (by decide) ⟨rfl, Bq3, (FL_tr (FL_rf : FL [] TR [] h h) (FL_up Fq3 rfl rfl rfl))⟩
