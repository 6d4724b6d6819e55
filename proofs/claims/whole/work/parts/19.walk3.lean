theorem day_lv {S : HS} {f tr : Int → Int} {em : Int} {k : Nat} (z1 : rowAt S f k (1 + (k : Int)) = 0) (z2 : (rowAt S f k 0).tmod (sE S k) = 0) : rowAt S f (k + 1) = upI (pkW S (rowAt S f k) k) (1 + (k : Int)) (sAw S k) ∧ trN S f tr (k + 1) = upI (trN S f tr k) (k : Int) (trN S f tr k (k : Int) + 1) ∧ emN S f em (k + 1) = (if sumF (sW S) (pkW S (rowAt S f k) k) k (sNt S) = 0 then emN S f em k + 1 else emN S f em k) := by
  have e : lvA S f k = true := by unfold lvA lvQ; simp only [Bool.and_eq_true, decide_eq_true_eq]; exact ⟨z1, z2⟩
  refine ⟨?_, if_pos e, ?_⟩
  · show psF S (rowAt S f k) k = _
    unfold psF
    rw [if_pos z1, if_pos z2]
  · show (if emA S f k then _ else _) = _
    unfold emA
    rw [e, Bool.true_and]
    by_cases q : sumF (sW S) (pkW S (rowAt S f k) k) k (sNt S) = 0
    · rw [if_pos (by simpa using q), if_pos q]
    · rw [if_neg (by simpa using q), if_neg q]
theorem day_st {S : HS} {f tr : Int → Int} {em : Int} {k : Nat} (z1 : rowAt S f k (1 + (k : Int)) = 0) (z2 : ¬ (rowAt S f k 0).tmod (sE S k) = 0) : rowAt S f (k + 1) = rowAt S f k ∧ trN S f tr (k + 1) = trN S f tr k ∧ emN S f em (k + 1) = emN S f em k := by
  have e : lvA S f k = false := by unfold lvA lvQ; simp only [Bool.and_eq_false_iff, decide_eq_false_iff_not]; exact Or.inr z2
  refine ⟨?_, if_neg (by rw [e]; decide), if_neg (by unfold emA; rw [e]; simp)⟩
  show psF S (rowAt S f k) k = _
  unfold psF
  rw [if_pos z1, if_neg z2]
theorem day_so {S : HS} {f tr : Int → Int} {em : Int} {k : Nat} (z1 : ¬ rowAt S f k (1 + (k : Int)) = 0) : rowAt S f (k + 1) = soF S (rowAt S f k) k ∧ trN S f tr (k + 1) = trN S f tr k ∧ emN S f em (k + 1) = emN S f em k := by
  have e : lvA S f k = false := by unfold lvA lvQ; simp only [Bool.and_eq_false_iff, decide_eq_false_iff_not]; exact Or.inl z1
  refine ⟨?_, if_neg (by rw [e]; decide), if_neg (by unfold emA; rw [e]; simp)⟩
  show psF S (rowAt S f k) k = _
  unfold psF
  rw [if_neg z1]
def mX10_passDay : MI := (yX10_passDay, cX10_passDay, 2, none, rmK 5 0)
def tX10_passDay : List (Nat × Instr × Nat) := [(0, .iconst 0, 1), (1, .istore_n 1, 1), (2, .iload_n 1, 1), (3, .aload_n 0, 1), (4, .getfield 40, 3), (7, .getfield 51, 3), (10, .if_icmp .ge 68, 3), (13, .aload_n 0, 1), (14, .getfield 12, 3), (17, .iload_n 1, 1), (18, .invokevirtual 56, 3), (21, .ifCond .ne 11, 3), (24, .aload_n 0, 1), (25, .iload_n 1, 1), (26, .invokevirtual 60, 3), (29, .goto 43, 3), (32, .aload_n 0, 1), (33, .getfield 40, 3), (36, .getfield 64, 3), (39, .iload_n 1, 1), (40, .iaload, 1), (41, .aload_n 0, 1), (42, .getfield 12, 3), (45, .invokevirtual 67, 3), (48, .invokestatic 71, 3), (51, .ifCond .eq 21, 3), (54, .aload_n 0, 1), (55, .iload_n 1, 1), (56, .invokevirtual 75, 3), (59, .ifCond .eq 8, 3), (62, .aload_n 0, 1), (63, .iload_n 1, 1), (64, .invokevirtual 78, 3), (67, .aload_n 0, 1), (68, .iload_n 1, 1), (69, .invokevirtual 81, 3), (72, .iinc 1 1, 3), (75, .goto (-73), 3), (78, .aload_n 0, 1), (79, .getfield 12, 3), (82, .invokevirtual 84, 3), (85, .return_, 1)]
theorem dtX10_passDay : tX10_passDay.all (fun q => decide (decode cX10_passDay q.1 = .ok (q.2.1, q.2.2))) = true := by decide +kernel
theorem npX10_passDay : (parseMethodDescriptor (mY mX10_passDay).desc).map (fun d => d.parameters.length) = some 0 := by decide +kernel
theorem vX10_passDay : mV mX10_passDay := ⟨wI_X10_passDay, wS_X10_passDay, wN_X10, wC_X10_passDay, by decide +kernel, by decide +kernel⟩
set_option maxHeartbeats 4000000 in
set_option maxRecDepth 100000 in
theorem lp_X10_passDay {Q : AO → HP → Prop} {h0 h : HP} {w t : Nat} {S : HS} {B : Int} {f tr : Int → Int} {em : Int} (X : WX h0 w t S) (P0 : PW h0 h w t f tr em) (hT : rT B f) (hC : rC S f) (hQ : ∀ h1, PW h0 h1 w t (dayF S f) (trN S f tr (sNp S)) (emN S f em (sNp S)) → Q (.inl none) h1) : ∀ (d k : Nat) (hh : HP), k + d = (sNp S) → PW h0 hh w t (rowAt S f k) (trN S f tr k) (emN S f em k) → K mX10_passDay GK (ZK Q 0 0) 0 0 2 [(1, vi (k : Int)), (0, vr w)] [] hh := by
  intro d
  induction d with
  | zero =>
    intro k hh hk Ph
    obtain ⟨hw, ht, hR5, hS, hB⟩ := id X
    obtain ⟨Kwh, hfh, htrh, hemh⟩ := id Ph
    have hW10 := TTw hw
    have hH := TTt ht
    have hNt := hB.1
    have hNp := hB.2.1
    have ek : k = (sNp S) := by omega
    refine K_iload_n (dt_at dtX10_passDay 2 rfl) rfl rfl ?_
    refine K_aload_n (dt_at dtX10_passDay 3 rfl) rfl rfl ?_
    refine K_get (a := w) (ci := 10) (k := 5) (v := vr t) (dt_at dtX10_passDay 4 rfl) hW10 rfl (by decide) wF_X10_40 (by show vr (hR hh w 5) = vr t; rw [Kwh.2.2.2, hR5]) ?_
    refine K_get (a := t) (ci := 3) (k := 11) (v := vi (sNp S : Int)) (dt_at dtX10_passDay 5 rfl) hH rfl (by decide) wF_X10_51 (by show vi (hI hh t 11) = vi (sNp S : Int); rw [(Kwh.2.2.1 t 11 (by omega)), hS.2.1.2]) ?_
    refine K_icmp_ge (tgt := 78) (dt_at dtX10_passDay 6 rfl) (by decide) (by first | assumption | exact ⟨by omega, by omega⟩) (by first | assumption | exact ⟨by omega, by omega⟩) (fun c1 => ?_) (fun c1 => absurd c1 (by omega))
    refine K_aload_n (dt_at dtX10_passDay 38 rfl) rfl rfl ?_
    refine K_get (a := w) (ci := 10) (k := 0) (v := vr (w + 1)) (dt_at dtX10_passDay 39 rfl) hW10 rfl (by decide) wF_X10_12 rfl ?_
    refine K_callV (M' := mX8_addDay) (a := (w + 1)) (ci := 8) (As := []) (st := []) (dt_at dtX10_passDay 40 rfl) (sX8_addDay (lay_10_0 hW10)) (lay_10_0 hW10) rfl wL_X10_84 vX8_addDay rfl npX8_addDay (by decide) (by decide) (Nat.le_of_ble_eq_true rfl) (by decide) (by decide) GK_E (fun v9 hc1 hq => ?_) (fun E h9 hq => by cases hq.1)
    have hqq2 := hq
    obtain ⟨e9q2, e8q2⟩ := hqq2
    obtain ⟨hfq2, frq2, hiq2, hrq2⟩ := sA_fx e8q2
    rw [hfh] at hfq2
    have Kwq2 := WK_A X Kwh (Or.inl rfl) frq2 hiq2 hrq2
    have htrq2 : hA hc1 (w + 4) = (trN S f tr k) := by rw [frq2 _ (by omega)]; exact htrh
    have hemq2 : hI hc1 w 6 = (emN S f em k) := by rw [hiq2]; exact hemh
    cases e9q2
    show K mX10_passDay _ _ 0 0 85 [(1, vi (k : Int)), (0, vr w)] [] hc1
    exact K_vret (dt_at dtX10_passDay 41 rfl) rfl (by decide) (by decide) (hQ _ (by unfold dayF; rw [← ek]; exact ⟨Kwq2, hfq2, htrq2, hemq2⟩))
  | succ d ih =>
    intro k hh hk Ph
    obtain ⟨hw, ht, hR5, hS, hB⟩ := id X
    obtain ⟨Kwh, hfh, htrh, hemh⟩ := id Ph
    have hW10 := TTw hw
    have hH := TTt ht
    have hNt := hB.1
    have hNp := hB.2.1
    obtain ⟨hTk, hlo, hhi⟩ := rowAt_ok hB hT hC k (by omega)
    have w1 := hTk.1.2 k (by omega) (by omega)
    have hCk := rowAt_C hB hT hC (k := k) (by omega) k (by omega) (by omega)
    obtain ⟨hTp, -⟩ := pkW_ok (p := (k : Int)) hB hTk ⟨by omega, by omega⟩ hCk
    have w2 := (hB.2.2.2.1 k (by omega) (by omega)).2.1
    have w3 := hTk.2.2.2.1
    have w4 := hTk.2.2.2.2.1
    refine K_iload_n (dt_at dtX10_passDay 2 rfl) rfl rfl ?_
    refine K_aload_n (dt_at dtX10_passDay 3 rfl) rfl rfl ?_
    refine K_get (a := w) (ci := 10) (k := 5) (v := vr t) (dt_at dtX10_passDay 4 rfl) hW10 rfl (by decide) wF_X10_40 (by show vr (hR hh w 5) = vr t; rw [Kwh.2.2.2, hR5]) ?_
    refine K_get (a := t) (ci := 3) (k := 11) (v := vi (sNp S : Int)) (dt_at dtX10_passDay 5 rfl) hH rfl (by decide) wF_X10_51 (by show vi (hI hh t 11) = vi (sNp S : Int); rw [(Kwh.2.2.1 t 11 (by omega)), hS.2.1.2]) ?_
    refine K_icmp_ge (tgt := 78) (dt_at dtX10_passDay 6 rfl) (by decide) (by first | assumption | exact ⟨by omega, by omega⟩) (by first | assumption | exact ⟨by omega, by omega⟩) (fun c1 => absurd c1 (by omega)) (fun c1 => ?_)
    refine K_aload_n (dt_at dtX10_passDay 7 rfl) rfl rfl ?_
    refine K_get (a := w) (ci := 10) (k := 0) (v := vr (w + 1)) (dt_at dtX10_passDay 8 rfl) hW10 rfl (by decide) wF_X10_12 rfl ?_
    refine K_iload_n (dt_at dtX10_passDay 9 rfl) rfl rfl ?_
    refine K_callV (M' := mX8_isIn) (a := (w + 1)) (ci := 8) (As := [vi (k : Int)]) (st := []) (dt_at dtX10_passDay 10 rfl) (sX8_isIn (lay_10_0 hW10) ⟨by omega, by omega⟩ (by rw [hfh]; exact ⟨by omega, by omega⟩)) (lay_10_0 hW10) rfl wL_X10_56 vX8_isIn rfl npX8_isIn (by decide) (by decide) (Nat.le_of_ble_eq_true rfl) (by decide) (by decide) GK_E (fun v9 h9 hq => ?_) (fun E h9 hq => by cases hq.1)
    obtain ⟨e9, e8⟩ := hq
    cases e9
    rw [e8]
    show K mX10_passDay _ _ 0 0 21 [(1, vi (k : Int)), (0, vr w)] [vi (if hA hh (w + 1 + 1) (1 + (k : Int)) = 0 then 1 else 0)] hh
    rw [hfh]
    by_cases z2 : ((rowAt S f k) (1 + (k : Int))) = 0
    · rw [if_pos z2]
      refine K_if_ne (tgt := 32) (dt_at dtX10_passDay 11 rfl) (by decide) (by first | assumption | exact ⟨by omega, by omega⟩) (fun c3 => ?_) (fun c3 => absurd c3 (by omega))
      refine K_aload_n (dt_at dtX10_passDay 16 rfl) rfl rfl ?_
      refine K_get (a := w) (ci := 10) (k := 5) (v := vr t) (dt_at dtX10_passDay 17 rfl) hW10 rfl (by decide) wF_X10_40 (by show vr (hR hh w 5) = vr t; rw [Kwh.2.2.2, hR5]) ?_
      refine K_get (a := t) (ci := 3) (k := 4) (v := vr (t + 5)) (dt_at dtX10_passDay 18 rfl) hH rfl (by decide) wF_X10_64 rfl ?_
      refine K_iload_n (dt_at dtX10_passDay 19 rfl) rfl rfl ?_
      refine K_iald (dt_at dtX10_passDay 20 rfl) (lay_3_4 hH) (by omega) (by omega) ?_
      rw [(Kwh.1 (t + 5) (by omega) (by omega) (by omega) (by omega) (by omega)), hS.1.2.2.2.1]
      refine K_aload_n (dt_at dtX10_passDay 21 rfl) rfl rfl ?_
      refine K_get (a := w) (ci := 10) (k := 0) (v := vr (w + 1)) (dt_at dtX10_passDay 22 rfl) hW10 rfl (by decide) wF_X10_12 rfl ?_
      refine K_callV (M' := mX8_day) (a := (w + 1)) (ci := 8) (As := []) (st := [vi ((sE S) (k : Int))]) (dt_at dtX10_passDay 23 rfl) (sX8_day (lay_10_0 hW10)) (lay_10_0 hW10) rfl wL_X10_67 vX8_day rfl npX8_day (by decide) (by decide) (Nat.le_of_ble_eq_true rfl) (by decide) (by decide) GK_E (fun v9 h9 hq => ?_) (fun E h9 hq => by cases hq.1)
      obtain ⟨e9, e8⟩ := hq
      cases e9
      rw [e8]
      show K mX10_passDay _ _ 0 0 48 [(1, vi (k : Int)), (0, vr w)] [vi (hA hh (w + 1 + 1) 0), vi ((sE S) (k : Int))] hh
      rw [hfh]
      refine K_callS (M' := mX10_leavesOn) (As := [vi ((sE S) (k : Int)), vi ((rowAt S f k) 0)]) (st := []) (dt_at dtX10_passDay 24 rfl) (sX10_leavesOn ⟨by omega, by omega⟩ ⟨by omega, by omega⟩) wL_X10_71 vX10_leavesOn rfl npX10_leavesOn (by decide) (by decide) (Nat.le_of_ble_eq_true rfl) (by decide) (by decide) GK_E (fun v9 h9 hq => ?_) (fun E h9 hq => by cases hq.1)
      obtain ⟨e9, e8⟩ := hq
      cases e9
      rw [e8]
      show K mX10_passDay _ _ 0 0 51 [(1, vi (k : Int)), (0, vr w)] [vi (if ((rowAt S f k) 0).tmod ((sE S) (k : Int)) = 0 then 1 else 0)] hh
      by_cases z4 : ((rowAt S f k) 0).tmod ((sE S) (k : Int)) = 0
      · rw [if_pos z4]
        refine K_if_eq (tgt := 72) (dt_at dtX10_passDay 25 rfl) (by decide) (by first | assumption | exact ⟨by omega, by omega⟩) (fun c5 => absurd c5 (by omega)) (fun c5 => ?_)
        refine K_aload_n (dt_at dtX10_passDay 26 rfl) rfl rfl ?_
        refine K_iload_n (dt_at dtX10_passDay 27 rfl) rfl rfl ?_
        refine K_callV (M' := mX10_isPackerIn) (a := w) (ci := 10) (As := [vi (k : Int)]) (st := []) (dt_at dtX10_passDay 28 rfl) (sX10_isPackerIn X ⟨Kwh, hfh, htrh, hemh⟩ hTk ⟨by omega, by omega⟩) hW10 rfl wL_X10_75 vX10_isPackerIn rfl npX10_isPackerIn (by decide) (by decide) (Nat.le_of_ble_eq_true rfl) (by decide) (by decide) GK_E (fun v9 hc1 hq => ?_) (fun E h9 hq => by cases hq.1)
        have hqq2 := hq
        obtain ⟨e9q2, Pq2⟩ := hqq2
        obtain ⟨Kwq2, hfq2, htrq2, hemq2⟩ := id Pq2
        cases e9q2
        show K mX10_passDay _ _ 0 0 59 [(1, vi (k : Int)), (0, vr w)] [vi (if inP (rowAt S f k) (k : Int) then 1 else 0)] hc1
        by_cases z6 : inP (rowAt S f k) (k : Int) = true
        · rw [if_pos z6]
          refine K_if_eq (tgt := 67) (dt_at dtX10_passDay 29 rfl) (by decide) (by first | assumption | exact ⟨by omega, by omega⟩) (fun c7 => absurd c7 (by omega)) (fun c7 => ?_)
          refine K_aload_n (dt_at dtX10_passDay 30 rfl) rfl rfl ?_
          refine K_iload_n (dt_at dtX10_passDay 31 rfl) rfl rfl ?_
          refine K_callV (M' := mX10_packFor) (a := w) (ci := 10) (As := [vi (k : Int)]) (st := []) (dt_at dtX10_passDay 32 rfl) (sX10_packFor X ⟨Kwq2, hfq2, htrq2, hemq2⟩ hTk ⟨by omega, by omega⟩ hCk) hW10 rfl wL_X10_78 vX10_packFor rfl npX10_packFor (by decide) (by decide) (Nat.le_of_ble_eq_true rfl) (by decide) (by decide) GK_E (fun v9 hc3 hq => ?_) (fun E h9 hq => by cases hq.1)
          have hqq4 := hq
          obtain ⟨e9q4, Pq4⟩ := hqq4
          obtain ⟨Kwq4, hfq4, htrq4, hemq4⟩ := id Pq4
          have ep : pkW S (rowAt S f k) (k : Int) = packF S (rowAt S f k) (k : Int) := if_pos (by assumption)
          cases e9q4
          show K mX10_passDay _ _ 0 0 67 [(1, vi (k : Int)), (0, vr w)] [] hc3
          refine K_aload_n (dt_at dtX10_passDay 33 rfl) rfl rfl ?_
          refine K_iload_n (dt_at dtX10_passDay 34 rfl) rfl rfl ?_
          refine K_callV (M' := mX10_leave) (a := w) (ci := 10) (As := [vi (k : Int)]) (st := []) (dt_at dtX10_passDay 35 rfl) (sX10_leave X ⟨Kwq4, hfq4, htrq4, hemq4⟩ (by have := hTp; rw [ep] at this; exact this) ⟨by omega, by omega⟩) hW10 rfl wL_X10_81 vX10_leave rfl npX10_leave (by decide) (by decide) (Nat.le_of_ble_eq_true rfl) (by decide) (by decide) GK_E (fun v9 hc5 hq => ?_) (fun E h9 hq => by cases hq.1)
          have hqq6 := hq
          obtain ⟨e9q6, Pq6⟩ := hqq6
          obtain ⟨Kwq6, hfq6, htrq6, hemq6⟩ := id Pq6
          cases e9q6
          show K mX10_passDay _ _ 0 0 72 [(1, vi (k : Int)), (0, vr w)] [] hc5
          refine K_iinc (ls' := [(1, vi ((k : Int) + 1)), (0, vr w)]) (dt_at dtX10_passDay 36 rfl) rfl (by decide) rfl ?_
          refine K_goto (tgt := 2) (dt_at dtX10_passDay 37 rfl) (by decide) ?_
          refine K_pk [0, 1] rfl ?_
          have dd := day_lv (S := S) (f := f) (tr := tr) (em := em) (k := k) (by assumption) (by assumption)
          exact ih (k + 1) hc5 (by omega) (by rw [dd.1, dd.2.1, dd.2.2]; rw [ep]; exact ⟨Kwq6, hfq6, htrq6, hemq6⟩)
        · rw [if_neg z6]
          refine K_if_eq (tgt := 67) (dt_at dtX10_passDay 29 rfl) (by decide) (by first | assumption | exact ⟨by omega, by omega⟩) (fun c8 => ?_) (fun c8 => absurd c8 (by omega))
          refine K_aload_n (dt_at dtX10_passDay 33 rfl) rfl rfl ?_
          refine K_iload_n (dt_at dtX10_passDay 34 rfl) rfl rfl ?_
          have ep : pkW S (rowAt S f k) (k : Int) = (rowAt S f k) := if_neg (by assumption)
          refine K_callV (M' := mX10_leave) (a := w) (ci := 10) (As := [vi (k : Int)]) (st := []) (dt_at dtX10_passDay 35 rfl) (sX10_leave X ⟨Kwq2, hfq2, htrq2, hemq2⟩ (by have := hTp; rw [ep] at this; exact this) ⟨by omega, by omega⟩) hW10 rfl wL_X10_81 vX10_leave rfl npX10_leave (by decide) (by decide) (Nat.le_of_ble_eq_true rfl) (by decide) (by decide) GK_E (fun v9 hc7 hq => ?_) (fun E h9 hq => by cases hq.1)
          have hqq8 := hq
          obtain ⟨e9q8, Pq8⟩ := hqq8
          obtain ⟨Kwq8, hfq8, htrq8, hemq8⟩ := id Pq8
          cases e9q8
          show K mX10_passDay _ _ 0 0 72 [(1, vi (k : Int)), (0, vr w)] [] hc7
          refine K_iinc (ls' := [(1, vi ((k : Int) + 1)), (0, vr w)]) (dt_at dtX10_passDay 36 rfl) rfl (by decide) rfl ?_
          refine K_goto (tgt := 2) (dt_at dtX10_passDay 37 rfl) (by decide) ?_
          refine K_pk [0, 1] rfl ?_
          have dd := day_lv (S := S) (f := f) (tr := tr) (em := em) (k := k) (by assumption) (by assumption)
          exact ih (k + 1) hc7 (by omega) (by rw [dd.1, dd.2.1, dd.2.2]; rw [ep]; exact ⟨Kwq8, hfq8, htrq8, hemq8⟩)
      · rw [if_neg z4]
        refine K_if_eq (tgt := 72) (dt_at dtX10_passDay 25 rfl) (by decide) (by first | assumption | exact ⟨by omega, by omega⟩) (fun c9 => ?_) (fun c9 => absurd c9 (by omega))
        refine K_iinc (ls' := [(1, vi ((k : Int) + 1)), (0, vr w)]) (dt_at dtX10_passDay 36 rfl) rfl (by decide) rfl ?_
        refine K_goto (tgt := 2) (dt_at dtX10_passDay 37 rfl) (by decide) ?_
        refine K_pk [0, 1] rfl ?_
        have dd := day_st (S := S) (f := f) (tr := tr) (em := em) (k := k) (by assumption) (by assumption)
        exact ih (k + 1) hh (by omega) (by rw [dd.1, dd.2.1, dd.2.2]; exact ⟨Kwh, hfh, htrh, hemh⟩)
    · rw [if_neg z2]
      refine K_if_ne (tgt := 32) (dt_at dtX10_passDay 11 rfl) (by decide) (by first | assumption | exact ⟨by omega, by omega⟩) (fun c10 => absurd c10 (by omega)) (fun c10 => ?_)
      refine K_aload_n (dt_at dtX10_passDay 12 rfl) rfl rfl ?_
      refine K_iload_n (dt_at dtX10_passDay 13 rfl) rfl rfl ?_
      refine K_callV (M' := mX10_stayOut) (a := w) (ci := 10) (As := [vi (k : Int)]) (st := []) (dt_at dtX10_passDay 14 rfl) (sX10_stayOut X ⟨Kwh, hfh, htrh, hemh⟩ hTk ⟨by omega, by omega⟩ (by assumption)) hW10 rfl wL_X10_60 vX10_stayOut rfl npX10_stayOut (by decide) (by decide) (Nat.le_of_ble_eq_true rfl) (by decide) (by decide) GK_E (fun v9 hc9 hq => ?_) (fun E h9 hq => by cases hq.1)
      have hqq10 := hq
      obtain ⟨e9q10, Pq10⟩ := hqq10
      obtain ⟨Kwq10, hfq10, htrq10, hemq10⟩ := id Pq10
      cases e9q10
      show K mX10_passDay _ _ 0 0 29 [(1, vi (k : Int)), (0, vr w)] [] hc9
      refine K_goto (tgt := 72) (dt_at dtX10_passDay 15 rfl) (by decide) ?_
      refine K_iinc (ls' := [(1, vi ((k : Int) + 1)), (0, vr w)]) (dt_at dtX10_passDay 36 rfl) rfl (by decide) rfl ?_
      refine K_goto (tgt := 2) (dt_at dtX10_passDay 37 rfl) (by decide) ?_
      refine K_pk [0, 1] rfl ?_
      have dd := day_so (S := S) (f := f) (tr := tr) (em := em) (k := k) (by assumption)
      exact ih (k + 1) hc9 (by omega) (by rw [dd.1, dd.2.1, dd.2.2]; exact ⟨Kwq10, hfq10, htrq10, hemq10⟩)
set_option maxHeartbeats 4000000 in
set_option maxRecDepth 100000 in
theorem sX10_passDay {h0 h : HP} {w t : Nat} {S : HS} {B : Int} {f tr : Int → Int} {em : Int} (X : WX h0 w t S) (P0 : PW h0 h w t f tr em) (hT : rT B f) (hC : rC S f) : SpecK mX10_passDay [vr w] h (fun o h' => o = .inl (none) ∧ PW h0 h' w t (dayF S f) (trN S f tr (sNp S)) (emN S f em (sNp S))) := by
  refine Spec_of (by decide +kernel) (Nat.le_of_ble_eq_true rfl) ?_
  obtain ⟨hw, ht, hR5, hS, hB⟩ := id X
  obtain ⟨Kw, hf, htr, hem⟩ := id P0
  have hW10 := TTw hw
  have hH := TTt ht
  have hNt := hB.1
  have hNp := hB.2.1
  refine K_iconst (dt_at dtX10_passDay 0 rfl) ?_
  refine K_istore_n (ls' := [(1, vi 0), (0, vr w)]) (dt_at dtX10_passDay 1 rfl) rfl (by decide) rfl ?_
  exact K_pk [0, 1] rfl (lp_X10_passDay X P0 hT hC (fun h1 q => ⟨rfl, q⟩) (sNp S) 0 h (by omega) P0)
/-- trips and empty cases over days -/
def trD (S : HS) (f tr : Int → Int) : Nat → Int → Int
  | 0 => tr
  | n + 1 => trN S (dysF S f n) (trD S f tr n) (sNp S)
def emD (S : HS) (f : Int → Int) (em : Int) : Nat → Int
  | 0 => em
  | n + 1 => emN S (dysF S f n) (emD S f em n) (sNp S)
def mX10_pass : MI := (yX10_pass, cX10_pass, 3, none, rmK 6 0)
def tX10_pass : List (Nat × Instr × Nat) := [(0, .iconst 0, 1), (1, .istore_n 2, 1), (2, .iload_n 2, 1), (3, .iload_n 1, 1), (4, .if_icmp .ge 13, 3), (7, .aload_n 0, 1), (8, .invokevirtual 48, 3), (11, .iinc 2 1, 3), (14, .goto (-12), 3), (17, .return_, 1)]
theorem dtX10_pass : tX10_pass.all (fun q => decide (decode cX10_pass q.1 = .ok (q.2.1, q.2.2))) = true := by decide +kernel
theorem npX10_pass : (parseMethodDescriptor (mY mX10_pass).desc).map (fun d => d.parameters.length) = some 1 := by decide +kernel
theorem vX10_pass : mV mX10_pass := ⟨wI_X10_pass, wS_X10_pass, wN_X10, wC_X10_pass, by decide +kernel, by decide +kernel⟩
set_option maxHeartbeats 4000000 in
set_option maxRecDepth 100000 in
theorem lp_X10_pass {Q : AO → HP → Prop} {h0 h : HP} {w t : Nat} {S : HS} {B : Int} {f tr : Int → Int} {em : Int} {n : Nat} (X : WX h0 w t S) (P0 : PW h0 h w t f tr em) (hT : rT B f) (hC : rC S f) (hD : f 0 + n ≤ 20000) (hQ : ∀ h1, PW h0 h1 w t (dysF S f n) (trD S f tr n) (emD S f em n) → Q (.inl none) h1) : ∀ (d k : Nat) (hh : HP), k + d = n → PW h0 hh w t (dysF S f k) (trD S f tr k) (emD S f em k) → K mX10_pass GK (ZK Q 0 0) 0 0 2 [(2, vi (k : Int)), (0, vr w), (1, vi (n : Int))] [] hh := by
  intro d
  induction d with
  | zero =>
    intro k hh hk Ph
    obtain ⟨hw, ht, hR5, hS, hB⟩ := id X
    obtain ⟨Kwh, hfh, htrh, hemh⟩ := id Ph
    have hW10 := TTw hw
    have hH := TTt ht
    have hNt := hB.1
    have hNp := hB.2.1
    obtain rfl : k = n := by omega
    have w4 := hT.2.2.2.1
    refine K_iload_n (dt_at dtX10_pass 2 rfl) rfl rfl ?_
    refine K_iload_n (dt_at dtX10_pass 3 rfl) rfl rfl ?_
    refine K_icmp_ge (tgt := 17) (dt_at dtX10_pass 4 rfl) (by decide) (by first | assumption | exact ⟨by omega, by omega⟩) (by first | assumption | exact ⟨by omega, by omega⟩) (fun c1 => ?_) (fun c1 => absurd c1 (by omega))
    exact K_vret (dt_at dtX10_pass 9 rfl) rfl (by decide) (by decide) (hQ _ ⟨Kwh, hfh, htrh, hemh⟩)
  | succ d ih =>
    intro k hh hk Ph
    obtain ⟨hw, ht, hR5, hS, hB⟩ := id X
    obtain ⟨Kwh, hfh, htrh, hemh⟩ := id Ph
    have hW10 := TTw hw
    have hH := TTt ht
    have hNt := hB.1
    have hNp := hB.2.1
    obtain ⟨hTk, hCk, hk0⟩ := dysF_ok hB hT hC k (by omega)
    have w4 := hT.2.2.2.1
    refine K_iload_n (dt_at dtX10_pass 2 rfl) rfl rfl ?_
    refine K_iload_n (dt_at dtX10_pass 3 rfl) rfl rfl ?_
    refine K_icmp_ge (tgt := 17) (dt_at dtX10_pass 4 rfl) (by decide) (by first | assumption | exact ⟨by omega, by omega⟩) (by first | assumption | exact ⟨by omega, by omega⟩) (fun c1 => absurd c1 (by omega)) (fun c1 => ?_)
    refine K_aload_n (dt_at dtX10_pass 5 rfl) rfl rfl ?_
    refine K_callV (M' := mX10_passDay) (a := w) (ci := 10) (As := []) (st := []) (dt_at dtX10_pass 6 rfl) (sX10_passDay X ⟨Kwh, hfh, htrh, hemh⟩ hTk hCk) hW10 rfl wL_X10_48 vX10_passDay rfl npX10_passDay (by decide) (by decide) (Nat.le_of_ble_eq_true rfl) (by decide) (by decide) GK_E (fun v9 hc1 hq => ?_) (fun E h9 hq => by cases hq.1)
    have hqq2 := hq
    obtain ⟨e9q2, Pq2⟩ := hqq2
    obtain ⟨Kwq2, hfq2, htrq2, hemq2⟩ := id Pq2
    cases e9q2
    show K mX10_pass _ _ 0 0 11 [(2, vi (k : Int)), (0, vr w), (1, vi (n : Int))] [] hc1
    refine K_iinc (ls' := [(2, vi ((k : Int) + 1)), (0, vr w), (1, vi (n : Int))]) (dt_at dtX10_pass 7 rfl) rfl (by decide) rfl ?_
    refine K_goto (tgt := 2) (dt_at dtX10_pass 8 rfl) (by decide) ?_
    refine K_pk [0, 1, 2] rfl ?_
    exact ih (k + 1) hc1 (by omega) ⟨Kwq2, hfq2, htrq2, hemq2⟩
set_option maxHeartbeats 4000000 in
set_option maxRecDepth 100000 in
theorem sX10_pass {h0 h : HP} {w t : Nat} {S : HS} {B : Int} {f tr : Int → Int} {em : Int} {n : Nat} (X : WX h0 w t S) (P0 : PW h0 h w t f tr em) (hT : rT B f) (hC : rC S f) (hD : f 0 + n ≤ 20000) : SpecK mX10_pass [vr w, vi (n : Int)] h (fun o h' => o = .inl (none) ∧ PW h0 h' w t (dysF S f n) (trD S f tr n) (emD S f em n)) := by
  refine Spec_of (by decide +kernel) (Nat.le_of_ble_eq_true rfl) ?_
  obtain ⟨hw, ht, hR5, hS, hB⟩ := id X
  obtain ⟨Kw, hf, htr, hem⟩ := id P0
  have hW10 := TTw hw
  have hH := TTt ht
  have hNt := hB.1
  have hNp := hB.2.1
  refine K_iconst (dt_at dtX10_pass 0 rfl) ?_
  refine K_istore_n (ls' := [(2, vi 0), (0, vr w), (1, vi (n : Int))]) (dt_at dtX10_pass 1 rfl) rfl (by decide) rfl ?_
  exact K_pk [0, 1, 2] rfl (lp_X10_pass X P0 hT hC hD (fun h1 q => ⟨rfl, q⟩) n 0 h (by omega) P0)
