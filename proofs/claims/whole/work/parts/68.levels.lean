set_option maxHeartbeats 4000000 in
set_option maxRecDepth 100000 in
theorem lp_X5_readProduct {d : Nat} {w : Int} {tp : Int → Int} {n r : Nat} {pu : Int} {h : HP} {L : List Int} {X : PR} (hr : RR r) (hS : SB (mX5_readPart d) w tp n r pu (paP tp n pu (exP tp n pu d))) : ∀ (d9 k : Nat) (hh : HP) (p : Nat) (N : List Int), k + d9 = 700 → GS hh tp n r pu (L ++ N) p → RF r h hh → L.length + N.length ≤ p → chP tp n (paP tp n pu (exP tp n pu d)) prdS d9 p N = X → K (mX5_readProduct d) GK (ZK (fun o h' => o = .inl none ∧ PS h' tp n r pu L X ∧ RF r h h') 0 0) 0 0 12 [(3, vi (k : Int)), (2, vi (prdS tp (tk tp n p))), (0, vr 63), (1, vi w)] [] hh := by
  intro d9
  induction d9 with
  | zero =>
    intro k hh p N hk Sh Fh hL hX
    have hn0 := GS_n Sh
    have sb9 := stp_b tp (tk tp n p)
    refine K_iload_n (dt_at dtX5_readProduct 8 rfl) rfl rfl ?_
    refine K_sipush (dt_at dtX5_readProduct 9 rfl) (by decide) ?_
    refine K_icmp_ge (tgt := 61) (dt_at dtX5_readProduct 10 rfl) (by decide) (by first | assumption | exact ⟨by omega, by omega⟩) (by first | assumption | exact ⟨by omega, by omega⟩) (fun c1 => ?_) (fun c1 => absurd c1 (by omega))
    exact K_vret (dt_at dtX5_readProduct 31 rfl) rfl (Nat.le_refl 0) (Nat.le_refl 0) ⟨rfl, by rw [← hX]; exact Sh, Fh⟩
  | succ d9 ih =>
    intro k hh p N hk Sh Fh hL hX
    have hn0 := GS_n Sh
    have sb9 := stp_b tp (tk tp n p)
    refine K_iload_n (dt_at dtX5_readProduct 8 rfl) rfl rfl ?_
    refine K_sipush (dt_at dtX5_readProduct 9 rfl) (by decide) ?_
    refine K_icmp_ge (tgt := 61) (dt_at dtX5_readProduct 10 rfl) (by decide) (by first | assumption | exact ⟨by omega, by omega⟩) (by first | assumption | exact ⟨by omega, by omega⟩) (fun c1 => absurd c1 (by omega)) (fun c1 => ?_)
    refine K_aload_n (dt_at dtX5_readProduct 11 rfl) rfl rfl ?_
    refine K_callV (M' := mX5_isGoing) (a := 63) (ci := 5) (As := []) (st := []) (dt_at dtX5_readProduct 12 rfl) (sX5_isGoing_t Sh.1.2.2.2) (show TT 63 = (0, 5) from rfl) rfl wL_X5_49 vX5_isGoing rfl npX5_isGoing (by simp only [mR, mL, rmK, mX5_readPart, mX5_readProduct, mX5_readSum, mX5_readTest, mX5_readNot, mX5_readAnd, mX5_readExpr, mX5_couldBegin, mX5_isGoing, mX5_productStep, mX5_readNumber, mX5_readSign, mX5_readValue, mX5_stop, mX5_sumStep, mX5_testStep, mX6_add, mX9_isAnyWord, mX9_isNumber, mX9_isSign, mX9_isWord, mX9_pass]; omega) (by simp only [mR, mL, rmK, mX5_readPart, mX5_readProduct, mX5_readSum, mX5_readTest, mX5_readNot, mX5_readAnd, mX5_readExpr, mX5_couldBegin, mX5_isGoing, mX5_productStep, mX5_readNumber, mX5_readSign, mX5_readValue, mX5_stop, mX5_sumStep, mX5_testStep, mX6_add, mX9_isAnyWord, mX9_isNumber, mX9_isSign, mX9_isWord, mX9_pass]; omega) (Nat.le_of_ble_eq_true rfl) (Nat.le_refl 0) (Nat.le_refl 0) GK_E (fun v9 h9 hq => ?_) (fun E h9 hq => by cases hq.1)
    obtain ⟨e9, e8⟩ := hq
    cases e9
    rw [e8]
    show K (mX5_readProduct d) _ _ 0 0 23 [(3, vi (k : Int)), (2, vi (prdS tp (tk tp n p))), (0, vr 63), (1, vi w)] [vi 1] hh
    refine K_if_eq (tgt := 61) (dt_at dtX5_readProduct 13 rfl) (by decide) (by first | assumption | exact ⟨by omega, by omega⟩) (fun c2 => absurd c2 (by omega)) (fun c2 => ?_)
    refine K_iload_n (dt_at dtX5_readProduct 14 rfl) rfl rfl ?_
    refine K_if_eq (tgt := 61) (dt_at dtX5_readProduct 15 rfl) (by decide) (by first | assumption | exact ⟨by omega, by omega⟩) (fun c3 => ?_) (fun c3 => ?_)
    · exact K_vret (dt_at dtX5_readProduct 31 rfl) rfl (Nat.le_refl 0) (Nat.le_refl 0) ⟨rfl, by rw [← hX, chP_0 (by assumption)]; exact Sh, Fh⟩
    · refine K_aload_n (dt_at dtX5_readProduct 16 rfl) rfl rfl ?_
      refine K_get (a := 63) (ci := 5) (k := 0) (v := vr 64) (dt_at dtX5_readProduct 17 rfl) (show TT 63 = (0, 5) from rfl) rfl (by decide) wF_X5_12 rfl ?_
      have hne : prdS tp (tk tp n p) ≠ 0 := by assumption
      have ht := tk_lt (GS_n Sh).1 (SO_p _ _ hne)
      refine K_callV (M' := mX9_pass) (a := 64) (ci := 9) (As := []) (st := []) (dt_at dtX5_readProduct 18 rfl) (pass_S hr Sh) (show TT 64 = (0, 9) from rfl) rfl wL_X5_97 vX9_pass rfl npX9_pass (by simp only [mR, mL, rmK, mX5_readPart, mX5_readProduct, mX5_readSum, mX5_readTest, mX5_readNot, mX5_readAnd, mX5_readExpr, mX5_couldBegin, mX5_isGoing, mX5_productStep, mX5_readNumber, mX5_readSign, mX5_readValue, mX5_stop, mX5_sumStep, mX5_testStep, mX6_add, mX9_isAnyWord, mX9_isNumber, mX9_isSign, mX9_isWord, mX9_pass]; omega) (by simp only [mR, mL, rmK, mX5_readPart, mX5_readProduct, mX5_readSum, mX5_readTest, mX5_readNot, mX5_readAnd, mX5_readExpr, mX5_couldBegin, mX5_isGoing, mX5_productStep, mX5_readNumber, mX5_readSign, mX5_readValue, mX5_stop, mX5_sumStep, mX5_testStep, mX6_add, mX9_isAnyWord, mX9_isNumber, mX9_isSign, mX9_isWord, mX9_pass]; omega) (Nat.le_of_ble_eq_true rfl) (Nat.le_refl 0) (Nat.le_refl 0) GK_E (fun v9 hc1 hq => ?_) (fun E h9 hq => by cases hq.1)
      have hqq2 := hq
      obtain ⟨e9q2, Sq2, Gq2⟩ := hqq2
      have Fq2 := RF_tr Fh Gq2
      cases e9q2
      show K (mX5_readProduct d) _ _ 0 0 37 [(3, vi (k : Int)), (2, vi (prdS tp (tk tp n p))), (0, vr 63), (1, vi w)] [] hc1
      refine K_aload_n (dt_at dtX5_readProduct 19 rfl) rfl rfl ?_
      refine K_iload_n (dt_at dtX5_readProduct 20 rfl) rfl rfl ?_
      refine K_callV (M' := (mX5_readPart d)) (a := 63) (ci := 5) (As := [vi w]) (st := []) (dt_at dtX5_readProduct 21 rfl) (hS _ _ _ Sq2 (by rw [List.length_append]; omega)) (show TT 63 = (0, 5) from rfl) rfl wL_X5_196 vX5_readPart rfl npX5_readPart (by simp only [mR, mL, rmK, mX5_readPart, mX5_readProduct, mX5_readSum, mX5_readTest, mX5_readNot, mX5_readAnd, mX5_readExpr, mX5_couldBegin, mX5_isGoing, mX5_productStep, mX5_readNumber, mX5_readSign, mX5_readValue, mX5_stop, mX5_sumStep, mX5_testStep, mX6_add, mX9_isAnyWord, mX9_isNumber, mX9_isSign, mX9_isWord, mX9_pass]; omega) (by simp only [mR, mL, rmK, mX5_readPart, mX5_readProduct, mX5_readSum, mX5_readTest, mX5_readNot, mX5_readAnd, mX5_readExpr, mX5_couldBegin, mX5_isGoing, mX5_productStep, mX5_readNumber, mX5_readSign, mX5_readValue, mX5_stop, mX5_sumStep, mX5_testStep, mX6_add, mX9_isAnyWord, mX9_isNumber, mX9_isSign, mX9_isWord, mX9_pass]; omega) (Nat.le_of_ble_eq_true rfl) (Nat.le_refl 0) (Nat.le_refl 0) GK_E (fun v9 hc3 hq => ?_) (fun E h9 hq => by cases hq.1)
      have hqq4 := hq
      obtain ⟨e9q4, Pq4, Gq4⟩ := hqq4
      have Fq4 := RF_tr Fq2 Gq4
      cases e9q4
      show K (mX5_readProduct d) _ _ 0 0 42 [(3, vi (k : Int)), (2, vi (prdS tp (tk tp n p))), (0, vr 63), (1, vi w)] [] hc3
      rcases uq4 : paP tp n pu (exP tp n pu d) ((tk tp n p).2.2) with ⟨ekq4, epq4⟩ | ⟨pq4, Mq4⟩
      · rw [uq4] at Pq4
        have Sq4 : ES hc3 tp n r (ekq4, epq4) := Pq4
        refine K_aload_n (dt_at dtX5_readProduct 22 rfl) rfl rfl ?_
        refine K_get (a := 63) (ci := 5) (k := 2) (v := vr r) (dt_at dtX5_readProduct 23 rfl) (show TT 63 = (0, 5) from rfl) rfl (by decide) wF_X5_39 (by show vr (hR hc3 63 2) = vr r; rw [Sq4.2.1]) ?_
        refine K_iload_n (dt_at dtX5_readProduct 24 rfl) rfl rfl ?_
        refine K_callV (M' := mX6_add) (a := r) (ci := 6) (As := [vi (prdS tp (tk tp n p))]) (st := []) (dt_at dtX5_readProduct 25 rfl) (add_E hr Sq4) (RR_T hr) rfl wL_X5_168 vX6_add rfl npX6_add (by simp only [mR, mL, rmK, mX5_readPart, mX5_readProduct, mX5_readSum, mX5_readTest, mX5_readNot, mX5_readAnd, mX5_readExpr, mX5_couldBegin, mX5_isGoing, mX5_productStep, mX5_readNumber, mX5_readSign, mX5_readValue, mX5_stop, mX5_sumStep, mX5_testStep, mX6_add, mX9_isAnyWord, mX9_isNumber, mX9_isSign, mX9_isWord, mX9_pass]; omega) (by simp only [mR, mL, rmK, mX5_readPart, mX5_readProduct, mX5_readSum, mX5_readTest, mX5_readNot, mX5_readAnd, mX5_readExpr, mX5_couldBegin, mX5_isGoing, mX5_productStep, mX5_readNumber, mX5_readSign, mX5_readValue, mX5_stop, mX5_sumStep, mX5_testStep, mX6_add, mX9_isAnyWord, mX9_isNumber, mX9_isSign, mX9_isWord, mX9_pass]; omega) (Nat.le_of_ble_eq_true rfl) (Nat.le_refl 0) (Nat.le_refl 0) GK_E (fun v9 hc5 hq => ?_) (fun E h9 hq => by cases hq.1)
        have hqq6 := hq
        obtain ⟨e9q6, Sq6, Gq6⟩ := hqq6
        have Fq6 := RF_tr Fq4 Gq6
        cases e9q6
        show K (mX5_readProduct d) _ _ 0 0 50 [(3, vi (k : Int)), (2, vi (prdS tp (tk tp n p))), (0, vr 63), (1, vi w)] [] hc5
        refine K_aload_n (dt_at dtX5_readProduct 26 rfl) rfl rfl ?_
        refine K_callV (M' := mX5_productStep) (a := 63) (ci := 5) (As := []) (st := []) (dt_at dtX5_readProduct 27 rfl) (sX5_productStep_e Sq6.1) (show TT 63 = (0, 5) from rfl) rfl wL_X5_199 vX5_productStep rfl npX5_productStep (by simp only [mR, mL, rmK, mX5_readPart, mX5_readProduct, mX5_readSum, mX5_readTest, mX5_readNot, mX5_readAnd, mX5_readExpr, mX5_couldBegin, mX5_isGoing, mX5_productStep, mX5_readNumber, mX5_readSign, mX5_readValue, mX5_stop, mX5_sumStep, mX5_testStep, mX6_add, mX9_isAnyWord, mX9_isNumber, mX9_isSign, mX9_isWord, mX9_pass]; omega) (by simp only [mR, mL, rmK, mX5_readPart, mX5_readProduct, mX5_readSum, mX5_readTest, mX5_readNot, mX5_readAnd, mX5_readExpr, mX5_couldBegin, mX5_isGoing, mX5_productStep, mX5_readNumber, mX5_readSign, mX5_readValue, mX5_stop, mX5_sumStep, mX5_testStep, mX6_add, mX9_isAnyWord, mX9_isNumber, mX9_isSign, mX9_isWord, mX9_pass]; omega) (Nat.le_of_ble_eq_true rfl) (Nat.le_refl 0) (Nat.le_refl 0) GK_E (fun v9 h9 hq => ?_) (fun E h9 hq => by obtain ⟨⟨_, _, e9⟩, _⟩ := hq; cases e9)
        obtain ⟨⟨x7, bx7, e9⟩, e8⟩ := hq
        cases e9
        rw [e8]
        show K (mX5_readProduct d) _ _ 0 0 54 [(3, vi (k : Int)), (2, vi (prdS tp (tk tp n p))), (0, vr 63), (1, vi w)] [vi x7] hc5
        refine K_istore_n (ls' := [(2, vi x7), (3, vi (k : Int)), (0, vr 63), (1, vi w)]) (dt_at dtX5_readProduct 28 rfl) rfl (Nat.le_of_ble_eq_true rfl) rfl ?_
        refine K_iinc (ls' := [(3, vi ((k : Int) + 1)), (2, vi x7), (0, vr 63), (1, vi w)]) (dt_at dtX5_readProduct 29 rfl) rfl (Nat.le_of_ble_eq_true rfl) rfl ?_
        refine K_goto (tgt := 12) (dt_at dtX5_readProduct 30 rfl) (by decide) ?_
        refine K_iload_n (dt_at dtX5_readProduct 8 rfl) rfl rfl ?_
        refine K_sipush (dt_at dtX5_readProduct 9 rfl) (by decide) ?_
        refine K_icmp_ge (tgt := 61) (dt_at dtX5_readProduct 10 rfl) (by decide) (by first | assumption | exact ⟨by omega, by omega⟩) (by first | assumption | exact ⟨by omega, by omega⟩) (fun c4 => ?_) (fun c4 => ?_)
        · exact K_vret (dt_at dtX5_readProduct 31 rfl) rfl (Nat.le_refl 0) (Nat.le_refl 0) ⟨rfl, by rw [← hX, chP_e hne uq4]; exact Sq6, Fq6⟩
        · refine K_aload_n (dt_at dtX5_readProduct 11 rfl) rfl rfl ?_
          refine K_callV (M' := mX5_isGoing) (a := 63) (ci := 5) (As := []) (st := []) (dt_at dtX5_readProduct 12 rfl) (sX5_isGoing_f Sq6.1.2.2.2.1 Sq6.1.2.2.1) (show TT 63 = (0, 5) from rfl) rfl wL_X5_49 vX5_isGoing rfl npX5_isGoing (by simp only [mR, mL, rmK, mX5_readPart, mX5_readProduct, mX5_readSum, mX5_readTest, mX5_readNot, mX5_readAnd, mX5_readExpr, mX5_couldBegin, mX5_isGoing, mX5_productStep, mX5_readNumber, mX5_readSign, mX5_readValue, mX5_stop, mX5_sumStep, mX5_testStep, mX6_add, mX9_isAnyWord, mX9_isNumber, mX9_isSign, mX9_isWord, mX9_pass]; omega) (by simp only [mR, mL, rmK, mX5_readPart, mX5_readProduct, mX5_readSum, mX5_readTest, mX5_readNot, mX5_readAnd, mX5_readExpr, mX5_couldBegin, mX5_isGoing, mX5_productStep, mX5_readNumber, mX5_readSign, mX5_readValue, mX5_stop, mX5_sumStep, mX5_testStep, mX6_add, mX9_isAnyWord, mX9_isNumber, mX9_isSign, mX9_isWord, mX9_pass]; omega) (Nat.le_of_ble_eq_true rfl) (Nat.le_refl 0) (Nat.le_refl 0) GK_E (fun v9 h9 hq => ?_) (fun E h9 hq => by cases hq.1)
          obtain ⟨e9, e8⟩ := hq
          cases e9
          rw [e8]
          show K (mX5_readProduct d) _ _ 0 0 23 [(3, vi ((k : Int) + 1)), (2, vi x7), (0, vr 63), (1, vi w)] [vi 0] hc5
          refine K_if_eq (tgt := 61) (dt_at dtX5_readProduct 13 rfl) (by decide) (by first | assumption | exact ⟨by omega, by omega⟩) (fun c5 => ?_) (fun c5 => absurd c5 (by omega))
          exact K_vret (dt_at dtX5_readProduct 31 rfl) rfl (Nat.le_refl 0) (Nat.le_refl 0) ⟨rfl, by rw [← hX, chP_e hne uq4]; exact Sq6, Fq6⟩
      · rw [uq4] at Pq4
        have Sq4 : GS hc3 tp n r pu ((L ++ N) ++ Mq4) pq4 := Pq4
        have bq4 := (PO_pa (PO_ex d)) _ _ _ (GS_n Sq2).1 uq4
        refine K_aload_n (dt_at dtX5_readProduct 22 rfl) rfl rfl ?_
        refine K_get (a := 63) (ci := 5) (k := 2) (v := vr r) (dt_at dtX5_readProduct 23 rfl) (show TT 63 = (0, 5) from rfl) rfl (by decide) wF_X5_39 (by show vr (hR hc3 63 2) = vr r; rw [Sq4.2.1]) ?_
        refine K_iload_n (dt_at dtX5_readProduct 24 rfl) rfl rfl ?_
        have hadd : ((L ++ N) ++ Mq4).length < 700 := by rw [List.length_append, List.length_append]; omega
        refine K_callV (M' := mX6_add) (a := r) (ci := 6) (As := [vi (prdS tp (tk tp n p))]) (st := []) (dt_at dtX5_readProduct 25 rfl) (add_G hr Sq4 (hadd)) (RR_T hr) rfl wL_X5_168 vX6_add rfl npX6_add (by simp only [mR, mL, rmK, mX5_readPart, mX5_readProduct, mX5_readSum, mX5_readTest, mX5_readNot, mX5_readAnd, mX5_readExpr, mX5_couldBegin, mX5_isGoing, mX5_productStep, mX5_readNumber, mX5_readSign, mX5_readValue, mX5_stop, mX5_sumStep, mX5_testStep, mX6_add, mX9_isAnyWord, mX9_isNumber, mX9_isSign, mX9_isWord, mX9_pass]; omega) (by simp only [mR, mL, rmK, mX5_readPart, mX5_readProduct, mX5_readSum, mX5_readTest, mX5_readNot, mX5_readAnd, mX5_readExpr, mX5_couldBegin, mX5_isGoing, mX5_productStep, mX5_readNumber, mX5_readSign, mX5_readValue, mX5_stop, mX5_sumStep, mX5_testStep, mX6_add, mX9_isAnyWord, mX9_isNumber, mX9_isSign, mX9_isWord, mX9_pass]; omega) (Nat.le_of_ble_eq_true rfl) (Nat.le_refl 0) (Nat.le_refl 0) GK_E (fun v9 hc8 hq => ?_) (fun E h9 hq => by cases hq.1)
        have hqq9 := hq
        obtain ⟨e9q9, Sq9, Gq9⟩ := hqq9
        have Fq9 := RF_tr Fq4 Gq9
        cases e9q9
        show K (mX5_readProduct d) _ _ 0 0 50 [(3, vi (k : Int)), (2, vi (prdS tp (tk tp n p))), (0, vr 63), (1, vi w)] [] hc8
        refine K_aload_n (dt_at dtX5_readProduct 26 rfl) rfl rfl ?_
        refine K_callV (M' := mX5_productStep) (a := 63) (ci := 5) (As := []) (st := []) (dt_at dtX5_readProduct 27 rfl) (sX5_productStep Sq9.1) (show TT 63 = (0, 5) from rfl) rfl wL_X5_199 vX5_productStep rfl npX5_productStep (by simp only [mR, mL, rmK, mX5_readPart, mX5_readProduct, mX5_readSum, mX5_readTest, mX5_readNot, mX5_readAnd, mX5_readExpr, mX5_couldBegin, mX5_isGoing, mX5_productStep, mX5_readNumber, mX5_readSign, mX5_readValue, mX5_stop, mX5_sumStep, mX5_testStep, mX6_add, mX9_isAnyWord, mX9_isNumber, mX9_isSign, mX9_isWord, mX9_pass]; omega) (by simp only [mR, mL, rmK, mX5_readPart, mX5_readProduct, mX5_readSum, mX5_readTest, mX5_readNot, mX5_readAnd, mX5_readExpr, mX5_couldBegin, mX5_isGoing, mX5_productStep, mX5_readNumber, mX5_readSign, mX5_readValue, mX5_stop, mX5_sumStep, mX5_testStep, mX6_add, mX9_isAnyWord, mX9_isNumber, mX9_isSign, mX9_isWord, mX9_pass]; omega) (Nat.le_of_ble_eq_true rfl) (Nat.le_refl 0) (Nat.le_refl 0) GK_E (fun v9 h9 hq => ?_) (fun E h9 hq => by cases hq.1)
        obtain ⟨e9, e8⟩ := hq
        cases e9
        rw [e8]
        show K (mX5_readProduct d) _ _ 0 0 54 [(3, vi (k : Int)), (2, vi (prdS tp (tk tp n p))), (0, vr 63), (1, vi w)] [vi (prdS tp (tk tp n pq4))] hc8
        refine K_istore_n (ls' := [(2, vi (prdS tp (tk tp n pq4))), (3, vi (k : Int)), (0, vr 63), (1, vi w)]) (dt_at dtX5_readProduct 28 rfl) rfl (Nat.le_of_ble_eq_true rfl) rfl ?_
        refine K_iinc (ls' := [(3, vi ((k : Int) + 1)), (2, vi (prdS tp (tk tp n pq4))), (0, vr 63), (1, vi w)]) (dt_at dtX5_readProduct 29 rfl) rfl (Nat.le_of_ble_eq_true rfl) rfl ?_
        refine K_goto (tgt := 12) (dt_at dtX5_readProduct 30 rfl) (by decide) ?_
        refine K_pk [0, 1, 2, 3] (ls' := [(3, vi ((k + 1 : Nat) : Int)), (2, vi (prdS tp (tk tp n pq4))), (0, vr 63), (1, vi w)]) rfl ?_
        exact ih (k + 1) hc8 pq4 (N ++ (Mq4 ++ [prdS tp (tk tp n p)])) (by omega) (by simpa only [List.append_assoc] using Sq9) Fq9 (by rw [List.length_append, List.length_append]; show _ + (_ + (_ + 1)) ≤ _; omega) (by rw [← hX, chP_g (by assumption) uq4])
set_option maxHeartbeats 4000000 in
set_option maxRecDepth 100000 in
theorem sX5_readProduct {d : Nat} {w : Int} {tp : Int → Int} {n r : Nat} {pu : Int} (hr : RR r) (hS : SB (mX5_readPart d) w tp n r pu (paP tp n pu (exP tp n pu d))) : SB (mX5_readProduct d) w tp n r pu (lvP tp n (paP tp n pu (exP tp n pu d)) prdS) := by
  intro h L p S hl
  refine Spec_of (by decide +kernel : plainName RX5 = true) (Nat.le_of_ble_eq_true rfl) ?_
  have hn0 := GS_n S
  refine K_aload_n (dt_at dtX5_readProduct 0 rfl) rfl rfl ?_
  refine K_iload_n (dt_at dtX5_readProduct 1 rfl) rfl rfl ?_
  refine K_callV (M' := (mX5_readPart d)) (a := 63) (ci := 5) (As := [vi w]) (st := []) (dt_at dtX5_readProduct 2 rfl) (hS _ _ _ S (by omega)) (show TT 63 = (0, 5) from rfl) rfl wL_X5_196 vX5_readPart rfl npX5_readPart (by simp only [mR, mL, rmK, mX5_readPart, mX5_readProduct, mX5_readSum, mX5_readTest, mX5_readNot, mX5_readAnd, mX5_readExpr, mX5_couldBegin, mX5_isGoing, mX5_productStep, mX5_readNumber, mX5_readSign, mX5_readValue, mX5_stop, mX5_sumStep, mX5_testStep, mX6_add, mX9_isAnyWord, mX9_isNumber, mX9_isSign, mX9_isWord, mX9_pass]; omega) (by simp only [mR, mL, rmK, mX5_readPart, mX5_readProduct, mX5_readSum, mX5_readTest, mX5_readNot, mX5_readAnd, mX5_readExpr, mX5_couldBegin, mX5_isGoing, mX5_productStep, mX5_readNumber, mX5_readSign, mX5_readValue, mX5_stop, mX5_sumStep, mX5_testStep, mX6_add, mX9_isAnyWord, mX9_isNumber, mX9_isSign, mX9_isWord, mX9_pass]; omega) (Nat.le_of_ble_eq_true rfl) (Nat.le_refl 0) (Nat.le_refl 0) GK_E (fun v9 hc1 hq => ?_) (fun E h9 hq => by cases hq.1)
  have hqq2 := hq
  obtain ⟨e9q2, Pq2, Gq2⟩ := hqq2
  have Fq2 := RF_tr (RF_rf : RF r h h) Gq2
  cases e9q2
  show K (mX5_readProduct d) _ _ 0 0 5 [(0, vr 63), (1, vi w)] [] hc1
  rcases uq2 : paP tp n pu (exP tp n pu d) p with ⟨ekq2, epq2⟩ | ⟨pq2, Mq2⟩
  · rw [uq2] at Pq2
    have Sq2 : ES hc1 tp n r (ekq2, epq2) := Pq2
    refine K_aload_n (dt_at dtX5_readProduct 3 rfl) rfl rfl ?_
    refine K_callV (M' := mX5_productStep) (a := 63) (ci := 5) (As := []) (st := []) (dt_at dtX5_readProduct 4 rfl) (sX5_productStep_e Sq2.1) (show TT 63 = (0, 5) from rfl) rfl wL_X5_199 vX5_productStep rfl npX5_productStep (by simp only [mR, mL, rmK, mX5_readPart, mX5_readProduct, mX5_readSum, mX5_readTest, mX5_readNot, mX5_readAnd, mX5_readExpr, mX5_couldBegin, mX5_isGoing, mX5_productStep, mX5_readNumber, mX5_readSign, mX5_readValue, mX5_stop, mX5_sumStep, mX5_testStep, mX6_add, mX9_isAnyWord, mX9_isNumber, mX9_isSign, mX9_isWord, mX9_pass]; omega) (by simp only [mR, mL, rmK, mX5_readPart, mX5_readProduct, mX5_readSum, mX5_readTest, mX5_readNot, mX5_readAnd, mX5_readExpr, mX5_couldBegin, mX5_isGoing, mX5_productStep, mX5_readNumber, mX5_readSign, mX5_readValue, mX5_stop, mX5_sumStep, mX5_testStep, mX6_add, mX9_isAnyWord, mX9_isNumber, mX9_isSign, mX9_isWord, mX9_pass]; omega) (Nat.le_of_ble_eq_true rfl) (Nat.le_refl 0) (Nat.le_refl 0) GK_E (fun v9 h9 hq => ?_) (fun E h9 hq => by obtain ⟨⟨_, _, e9⟩, _⟩ := hq; cases e9)
    obtain ⟨⟨x3, bx3, e9⟩, e8⟩ := hq
    cases e9
    rw [e8]
    show K (mX5_readProduct d) _ _ 0 0 9 [(0, vr 63), (1, vi w)] [vi x3] hc1
    refine K_istore_n (ls' := [(2, vi x3), (0, vr 63), (1, vi w)]) (dt_at dtX5_readProduct 5 rfl) rfl (Nat.le_of_ble_eq_true rfl) rfl ?_
    refine K_iconst (dt_at dtX5_readProduct 6 rfl) ?_
    refine K_istore_n (ls' := [(3, vi 0), (2, vi x3), (0, vr 63), (1, vi w)]) (dt_at dtX5_readProduct 7 rfl) rfl (Nat.le_of_ble_eq_true rfl) rfl ?_
    refine K_iload_n (dt_at dtX5_readProduct 8 rfl) rfl rfl ?_
    refine K_sipush (dt_at dtX5_readProduct 9 rfl) (by decide) ?_
    refine K_icmp_ge (tgt := 61) (dt_at dtX5_readProduct 10 rfl) (by decide) (by first | assumption | exact ⟨by omega, by omega⟩) (by first | assumption | exact ⟨by omega, by omega⟩) (fun c1 => absurd c1 (by omega)) (fun c1 => ?_)
    refine K_aload_n (dt_at dtX5_readProduct 11 rfl) rfl rfl ?_
    refine K_callV (M' := mX5_isGoing) (a := 63) (ci := 5) (As := []) (st := []) (dt_at dtX5_readProduct 12 rfl) (sX5_isGoing_f Sq2.1.2.2.2.1 Sq2.1.2.2.1) (show TT 63 = (0, 5) from rfl) rfl wL_X5_49 vX5_isGoing rfl npX5_isGoing (by simp only [mR, mL, rmK, mX5_readPart, mX5_readProduct, mX5_readSum, mX5_readTest, mX5_readNot, mX5_readAnd, mX5_readExpr, mX5_couldBegin, mX5_isGoing, mX5_productStep, mX5_readNumber, mX5_readSign, mX5_readValue, mX5_stop, mX5_sumStep, mX5_testStep, mX6_add, mX9_isAnyWord, mX9_isNumber, mX9_isSign, mX9_isWord, mX9_pass]; omega) (by simp only [mR, mL, rmK, mX5_readPart, mX5_readProduct, mX5_readSum, mX5_readTest, mX5_readNot, mX5_readAnd, mX5_readExpr, mX5_couldBegin, mX5_isGoing, mX5_productStep, mX5_readNumber, mX5_readSign, mX5_readValue, mX5_stop, mX5_sumStep, mX5_testStep, mX6_add, mX9_isAnyWord, mX9_isNumber, mX9_isSign, mX9_isWord, mX9_pass]; omega) (Nat.le_of_ble_eq_true rfl) (Nat.le_refl 0) (Nat.le_refl 0) GK_E (fun v9 h9 hq => ?_) (fun E h9 hq => by cases hq.1)
    obtain ⟨e9, e8⟩ := hq
    cases e9
    rw [e8]
    show K (mX5_readProduct d) _ _ 0 0 23 [(3, vi 0), (2, vi x3), (0, vr 63), (1, vi w)] [vi 0] hc1
    refine K_if_eq (tgt := 61) (dt_at dtX5_readProduct 13 rfl) (by decide) (by first | assumption | exact ⟨by omega, by omega⟩) (fun c2 => ?_) (fun c2 => absurd c2 (by omega))
    exact K_vret (dt_at dtX5_readProduct 31 rfl) rfl (Nat.le_refl 0) (Nat.le_refl 0) ⟨rfl, by rw [lvP_e uq2]; exact Sq2, Fq2⟩
  · rw [uq2] at Pq2
    have Sq2 : GS hc1 tp n r pu (L ++ Mq2) pq2 := Pq2
    have bq2 := (PO_pa (PO_ex d)) _ _ _ (GS_n S).1 uq2
    refine K_aload_n (dt_at dtX5_readProduct 3 rfl) rfl rfl ?_
    refine K_callV (M' := mX5_productStep) (a := 63) (ci := 5) (As := []) (st := []) (dt_at dtX5_readProduct 4 rfl) (sX5_productStep Sq2.1) (show TT 63 = (0, 5) from rfl) rfl wL_X5_199 vX5_productStep rfl npX5_productStep (by simp only [mR, mL, rmK, mX5_readPart, mX5_readProduct, mX5_readSum, mX5_readTest, mX5_readNot, mX5_readAnd, mX5_readExpr, mX5_couldBegin, mX5_isGoing, mX5_productStep, mX5_readNumber, mX5_readSign, mX5_readValue, mX5_stop, mX5_sumStep, mX5_testStep, mX6_add, mX9_isAnyWord, mX9_isNumber, mX9_isSign, mX9_isWord, mX9_pass]; omega) (by simp only [mR, mL, rmK, mX5_readPart, mX5_readProduct, mX5_readSum, mX5_readTest, mX5_readNot, mX5_readAnd, mX5_readExpr, mX5_couldBegin, mX5_isGoing, mX5_productStep, mX5_readNumber, mX5_readSign, mX5_readValue, mX5_stop, mX5_sumStep, mX5_testStep, mX6_add, mX9_isAnyWord, mX9_isNumber, mX9_isSign, mX9_isWord, mX9_pass]; omega) (Nat.le_of_ble_eq_true rfl) (Nat.le_refl 0) (Nat.le_refl 0) GK_E (fun v9 h9 hq => ?_) (fun E h9 hq => by cases hq.1)
    obtain ⟨e9, e8⟩ := hq
    cases e9
    rw [e8]
    show K (mX5_readProduct d) _ _ 0 0 9 [(0, vr 63), (1, vi w)] [vi (prdS tp (tk tp n pq2))] hc1
    refine K_istore_n (ls' := [(2, vi (prdS tp (tk tp n pq2))), (0, vr 63), (1, vi w)]) (dt_at dtX5_readProduct 5 rfl) rfl (Nat.le_of_ble_eq_true rfl) rfl ?_
    refine K_iconst (dt_at dtX5_readProduct 6 rfl) ?_
    refine K_istore_n (ls' := [(3, vi 0), (2, vi (prdS tp (tk tp n pq2))), (0, vr 63), (1, vi w)]) (dt_at dtX5_readProduct 7 rfl) rfl (Nat.le_of_ble_eq_true rfl) rfl ?_
    exact K_pk [0, 1, 2, 3] (ls' := [(3, vi ((0 : Nat) : Int)), (2, vi (prdS tp (tk tp n pq2))), (0, vr 63), (1, vi w)]) rfl (lp_X5_readProduct hr hS 700 0 hc1 pq2 Mq2 (by omega) Sq2 Fq2 (by omega) (by rw [lvP_g uq2]))
set_option maxHeartbeats 4000000 in
set_option maxRecDepth 100000 in
theorem lp_X5_readSum {d : Nat} {w : Int} {tp : Int → Int} {n r : Nat} {pu : Int} {h : HP} {L : List Int} {X : PR} (hr : RR r) (hS : SB (mX5_readProduct d) w tp n r pu (lvP tp n (paP tp n pu (exP tp n pu d)) prdS)) : ∀ (d9 k : Nat) (hh : HP) (p : Nat) (N : List Int), k + d9 = 700 → GS hh tp n r pu (L ++ N) p → RF r h hh → L.length + N.length ≤ p → chP tp n (lvP tp n (paP tp n pu (exP tp n pu d)) prdS) sumS d9 p N = X → K (mX5_readSum d) GK (ZK (fun o h' => o = .inl none ∧ PS h' tp n r pu L X ∧ RF r h h') 0 0) 0 0 12 [(3, vi (k : Int)), (2, vi (sumS tp (tk tp n p))), (0, vr 63), (1, vi w)] [] hh := by
  intro d9
  induction d9 with
  | zero =>
    intro k hh p N hk Sh Fh hL hX
    have hn0 := GS_n Sh
    have sb9 := stp_b tp (tk tp n p)
    refine K_iload_n (dt_at dtX5_readSum 8 rfl) rfl rfl ?_
    refine K_sipush (dt_at dtX5_readSum 9 rfl) (by decide) ?_
    refine K_icmp_ge (tgt := 61) (dt_at dtX5_readSum 10 rfl) (by decide) (by first | assumption | exact ⟨by omega, by omega⟩) (by first | assumption | exact ⟨by omega, by omega⟩) (fun c1 => ?_) (fun c1 => absurd c1 (by omega))
    exact K_vret (dt_at dtX5_readSum 31 rfl) rfl (Nat.le_refl 0) (Nat.le_refl 0) ⟨rfl, by rw [← hX]; exact Sh, Fh⟩
  | succ d9 ih =>
    intro k hh p N hk Sh Fh hL hX
    have hn0 := GS_n Sh
    have sb9 := stp_b tp (tk tp n p)
    refine K_iload_n (dt_at dtX5_readSum 8 rfl) rfl rfl ?_
    refine K_sipush (dt_at dtX5_readSum 9 rfl) (by decide) ?_
    refine K_icmp_ge (tgt := 61) (dt_at dtX5_readSum 10 rfl) (by decide) (by first | assumption | exact ⟨by omega, by omega⟩) (by first | assumption | exact ⟨by omega, by omega⟩) (fun c1 => absurd c1 (by omega)) (fun c1 => ?_)
    refine K_aload_n (dt_at dtX5_readSum 11 rfl) rfl rfl ?_
    refine K_callV (M' := mX5_isGoing) (a := 63) (ci := 5) (As := []) (st := []) (dt_at dtX5_readSum 12 rfl) (sX5_isGoing_t Sh.1.2.2.2) (show TT 63 = (0, 5) from rfl) rfl wL_X5_49 vX5_isGoing rfl npX5_isGoing (by simp only [mR, mL, rmK, mX5_readPart, mX5_readProduct, mX5_readSum, mX5_readTest, mX5_readNot, mX5_readAnd, mX5_readExpr, mX5_couldBegin, mX5_isGoing, mX5_productStep, mX5_readNumber, mX5_readSign, mX5_readValue, mX5_stop, mX5_sumStep, mX5_testStep, mX6_add, mX9_isAnyWord, mX9_isNumber, mX9_isSign, mX9_isWord, mX9_pass]; omega) (by simp only [mR, mL, rmK, mX5_readPart, mX5_readProduct, mX5_readSum, mX5_readTest, mX5_readNot, mX5_readAnd, mX5_readExpr, mX5_couldBegin, mX5_isGoing, mX5_productStep, mX5_readNumber, mX5_readSign, mX5_readValue, mX5_stop, mX5_sumStep, mX5_testStep, mX6_add, mX9_isAnyWord, mX9_isNumber, mX9_isSign, mX9_isWord, mX9_pass]; omega) (Nat.le_of_ble_eq_true rfl) (Nat.le_refl 0) (Nat.le_refl 0) GK_E (fun v9 h9 hq => ?_) (fun E h9 hq => by cases hq.1)
    obtain ⟨e9, e8⟩ := hq
    cases e9
    rw [e8]
    show K (mX5_readSum d) _ _ 0 0 23 [(3, vi (k : Int)), (2, vi (sumS tp (tk tp n p))), (0, vr 63), (1, vi w)] [vi 1] hh
    refine K_if_eq (tgt := 61) (dt_at dtX5_readSum 13 rfl) (by decide) (by first | assumption | exact ⟨by omega, by omega⟩) (fun c2 => absurd c2 (by omega)) (fun c2 => ?_)
    refine K_iload_n (dt_at dtX5_readSum 14 rfl) rfl rfl ?_
    refine K_if_eq (tgt := 61) (dt_at dtX5_readSum 15 rfl) (by decide) (by first | assumption | exact ⟨by omega, by omega⟩) (fun c3 => ?_) (fun c3 => ?_)
    · exact K_vret (dt_at dtX5_readSum 31 rfl) rfl (Nat.le_refl 0) (Nat.le_refl 0) ⟨rfl, by rw [← hX, chP_0 (by assumption)]; exact Sh, Fh⟩
    · refine K_aload_n (dt_at dtX5_readSum 16 rfl) rfl rfl ?_
      refine K_get (a := 63) (ci := 5) (k := 0) (v := vr 64) (dt_at dtX5_readSum 17 rfl) (show TT 63 = (0, 5) from rfl) rfl (by decide) wF_X5_12 rfl ?_
      have hne : sumS tp (tk tp n p) ≠ 0 := by assumption
      have ht := tk_lt (GS_n Sh).1 (SO_s _ _ hne)
      refine K_callV (M' := mX9_pass) (a := 64) (ci := 9) (As := []) (st := []) (dt_at dtX5_readSum 18 rfl) (pass_S hr Sh) (show TT 64 = (0, 9) from rfl) rfl wL_X5_97 vX9_pass rfl npX9_pass (by simp only [mR, mL, rmK, mX5_readPart, mX5_readProduct, mX5_readSum, mX5_readTest, mX5_readNot, mX5_readAnd, mX5_readExpr, mX5_couldBegin, mX5_isGoing, mX5_productStep, mX5_readNumber, mX5_readSign, mX5_readValue, mX5_stop, mX5_sumStep, mX5_testStep, mX6_add, mX9_isAnyWord, mX9_isNumber, mX9_isSign, mX9_isWord, mX9_pass]; omega) (by simp only [mR, mL, rmK, mX5_readPart, mX5_readProduct, mX5_readSum, mX5_readTest, mX5_readNot, mX5_readAnd, mX5_readExpr, mX5_couldBegin, mX5_isGoing, mX5_productStep, mX5_readNumber, mX5_readSign, mX5_readValue, mX5_stop, mX5_sumStep, mX5_testStep, mX6_add, mX9_isAnyWord, mX9_isNumber, mX9_isSign, mX9_isWord, mX9_pass]; omega) (Nat.le_of_ble_eq_true rfl) (Nat.le_refl 0) (Nat.le_refl 0) GK_E (fun v9 hc1 hq => ?_) (fun E h9 hq => by cases hq.1)
      have hqq2 := hq
      obtain ⟨e9q2, Sq2, Gq2⟩ := hqq2
      have Fq2 := RF_tr Fh Gq2
      cases e9q2
      show K (mX5_readSum d) _ _ 0 0 37 [(3, vi (k : Int)), (2, vi (sumS tp (tk tp n p))), (0, vr 63), (1, vi w)] [] hc1
      refine K_aload_n (dt_at dtX5_readSum 19 rfl) rfl rfl ?_
      refine K_iload_n (dt_at dtX5_readSum 20 rfl) rfl rfl ?_
      refine K_callV (M' := (mX5_readProduct d)) (a := 63) (ci := 5) (As := [vi w]) (st := []) (dt_at dtX5_readSum 21 rfl) (hS _ _ _ Sq2 (by rw [List.length_append]; omega)) (show TT 63 = (0, 5) from rfl) rfl wL_X5_190 vX5_readProduct rfl npX5_readProduct (by simp only [mR, mL, rmK, mX5_readPart, mX5_readProduct, mX5_readSum, mX5_readTest, mX5_readNot, mX5_readAnd, mX5_readExpr, mX5_couldBegin, mX5_isGoing, mX5_productStep, mX5_readNumber, mX5_readSign, mX5_readValue, mX5_stop, mX5_sumStep, mX5_testStep, mX6_add, mX9_isAnyWord, mX9_isNumber, mX9_isSign, mX9_isWord, mX9_pass]; omega) (by simp only [mR, mL, rmK, mX5_readPart, mX5_readProduct, mX5_readSum, mX5_readTest, mX5_readNot, mX5_readAnd, mX5_readExpr, mX5_couldBegin, mX5_isGoing, mX5_productStep, mX5_readNumber, mX5_readSign, mX5_readValue, mX5_stop, mX5_sumStep, mX5_testStep, mX6_add, mX9_isAnyWord, mX9_isNumber, mX9_isSign, mX9_isWord, mX9_pass]; omega) (Nat.le_of_ble_eq_true rfl) (Nat.le_refl 0) (Nat.le_refl 0) GK_E (fun v9 hc3 hq => ?_) (fun E h9 hq => by cases hq.1)
      have hqq4 := hq
      obtain ⟨e9q4, Pq4, Gq4⟩ := hqq4
      have Fq4 := RF_tr Fq2 Gq4
      cases e9q4
      show K (mX5_readSum d) _ _ 0 0 42 [(3, vi (k : Int)), (2, vi (sumS tp (tk tp n p))), (0, vr 63), (1, vi w)] [] hc3
      rcases uq4 : lvP tp n (paP tp n pu (exP tp n pu d)) prdS ((tk tp n p).2.2) with ⟨ekq4, epq4⟩ | ⟨pq4, Mq4⟩
      · rw [uq4] at Pq4
        have Sq4 : ES hc3 tp n r (ekq4, epq4) := Pq4
        refine K_aload_n (dt_at dtX5_readSum 22 rfl) rfl rfl ?_
        refine K_get (a := 63) (ci := 5) (k := 2) (v := vr r) (dt_at dtX5_readSum 23 rfl) (show TT 63 = (0, 5) from rfl) rfl (by decide) wF_X5_39 (by show vr (hR hc3 63 2) = vr r; rw [Sq4.2.1]) ?_
        refine K_iload_n (dt_at dtX5_readSum 24 rfl) rfl rfl ?_
        refine K_callV (M' := mX6_add) (a := r) (ci := 6) (As := [vi (sumS tp (tk tp n p))]) (st := []) (dt_at dtX5_readSum 25 rfl) (add_E hr Sq4) (RR_T hr) rfl wL_X5_168 vX6_add rfl npX6_add (by simp only [mR, mL, rmK, mX5_readPart, mX5_readProduct, mX5_readSum, mX5_readTest, mX5_readNot, mX5_readAnd, mX5_readExpr, mX5_couldBegin, mX5_isGoing, mX5_productStep, mX5_readNumber, mX5_readSign, mX5_readValue, mX5_stop, mX5_sumStep, mX5_testStep, mX6_add, mX9_isAnyWord, mX9_isNumber, mX9_isSign, mX9_isWord, mX9_pass]; omega) (by simp only [mR, mL, rmK, mX5_readPart, mX5_readProduct, mX5_readSum, mX5_readTest, mX5_readNot, mX5_readAnd, mX5_readExpr, mX5_couldBegin, mX5_isGoing, mX5_productStep, mX5_readNumber, mX5_readSign, mX5_readValue, mX5_stop, mX5_sumStep, mX5_testStep, mX6_add, mX9_isAnyWord, mX9_isNumber, mX9_isSign, mX9_isWord, mX9_pass]; omega) (Nat.le_of_ble_eq_true rfl) (Nat.le_refl 0) (Nat.le_refl 0) GK_E (fun v9 hc5 hq => ?_) (fun E h9 hq => by cases hq.1)
        have hqq6 := hq
        obtain ⟨e9q6, Sq6, Gq6⟩ := hqq6
        have Fq6 := RF_tr Fq4 Gq6
        cases e9q6
        show K (mX5_readSum d) _ _ 0 0 50 [(3, vi (k : Int)), (2, vi (sumS tp (tk tp n p))), (0, vr 63), (1, vi w)] [] hc5
        refine K_aload_n (dt_at dtX5_readSum 26 rfl) rfl rfl ?_
        refine K_callV (M' := mX5_sumStep) (a := 63) (ci := 5) (As := []) (st := []) (dt_at dtX5_readSum 27 rfl) (sX5_sumStep_e Sq6.1) (show TT 63 = (0, 5) from rfl) rfl wL_X5_193 vX5_sumStep rfl npX5_sumStep (by simp only [mR, mL, rmK, mX5_readPart, mX5_readProduct, mX5_readSum, mX5_readTest, mX5_readNot, mX5_readAnd, mX5_readExpr, mX5_couldBegin, mX5_isGoing, mX5_productStep, mX5_readNumber, mX5_readSign, mX5_readValue, mX5_stop, mX5_sumStep, mX5_testStep, mX6_add, mX9_isAnyWord, mX9_isNumber, mX9_isSign, mX9_isWord, mX9_pass]; omega) (by simp only [mR, mL, rmK, mX5_readPart, mX5_readProduct, mX5_readSum, mX5_readTest, mX5_readNot, mX5_readAnd, mX5_readExpr, mX5_couldBegin, mX5_isGoing, mX5_productStep, mX5_readNumber, mX5_readSign, mX5_readValue, mX5_stop, mX5_sumStep, mX5_testStep, mX6_add, mX9_isAnyWord, mX9_isNumber, mX9_isSign, mX9_isWord, mX9_pass]; omega) (Nat.le_of_ble_eq_true rfl) (Nat.le_refl 0) (Nat.le_refl 0) GK_E (fun v9 h9 hq => ?_) (fun E h9 hq => by obtain ⟨⟨_, _, e9⟩, _⟩ := hq; cases e9)
        obtain ⟨⟨x7, bx7, e9⟩, e8⟩ := hq
        cases e9
        rw [e8]
        show K (mX5_readSum d) _ _ 0 0 54 [(3, vi (k : Int)), (2, vi (sumS tp (tk tp n p))), (0, vr 63), (1, vi w)] [vi x7] hc5
        refine K_istore_n (ls' := [(2, vi x7), (3, vi (k : Int)), (0, vr 63), (1, vi w)]) (dt_at dtX5_readSum 28 rfl) rfl (Nat.le_of_ble_eq_true rfl) rfl ?_
        refine K_iinc (ls' := [(3, vi ((k : Int) + 1)), (2, vi x7), (0, vr 63), (1, vi w)]) (dt_at dtX5_readSum 29 rfl) rfl (Nat.le_of_ble_eq_true rfl) rfl ?_
        refine K_goto (tgt := 12) (dt_at dtX5_readSum 30 rfl) (by decide) ?_
        refine K_iload_n (dt_at dtX5_readSum 8 rfl) rfl rfl ?_
        refine K_sipush (dt_at dtX5_readSum 9 rfl) (by decide) ?_
        refine K_icmp_ge (tgt := 61) (dt_at dtX5_readSum 10 rfl) (by decide) (by first | assumption | exact ⟨by omega, by omega⟩) (by first | assumption | exact ⟨by omega, by omega⟩) (fun c4 => ?_) (fun c4 => ?_)
        · exact K_vret (dt_at dtX5_readSum 31 rfl) rfl (Nat.le_refl 0) (Nat.le_refl 0) ⟨rfl, by rw [← hX, chP_e hne uq4]; exact Sq6, Fq6⟩
        · refine K_aload_n (dt_at dtX5_readSum 11 rfl) rfl rfl ?_
          refine K_callV (M' := mX5_isGoing) (a := 63) (ci := 5) (As := []) (st := []) (dt_at dtX5_readSum 12 rfl) (sX5_isGoing_f Sq6.1.2.2.2.1 Sq6.1.2.2.1) (show TT 63 = (0, 5) from rfl) rfl wL_X5_49 vX5_isGoing rfl npX5_isGoing (by simp only [mR, mL, rmK, mX5_readPart, mX5_readProduct, mX5_readSum, mX5_readTest, mX5_readNot, mX5_readAnd, mX5_readExpr, mX5_couldBegin, mX5_isGoing, mX5_productStep, mX5_readNumber, mX5_readSign, mX5_readValue, mX5_stop, mX5_sumStep, mX5_testStep, mX6_add, mX9_isAnyWord, mX9_isNumber, mX9_isSign, mX9_isWord, mX9_pass]; omega) (by simp only [mR, mL, rmK, mX5_readPart, mX5_readProduct, mX5_readSum, mX5_readTest, mX5_readNot, mX5_readAnd, mX5_readExpr, mX5_couldBegin, mX5_isGoing, mX5_productStep, mX5_readNumber, mX5_readSign, mX5_readValue, mX5_stop, mX5_sumStep, mX5_testStep, mX6_add, mX9_isAnyWord, mX9_isNumber, mX9_isSign, mX9_isWord, mX9_pass]; omega) (Nat.le_of_ble_eq_true rfl) (Nat.le_refl 0) (Nat.le_refl 0) GK_E (fun v9 h9 hq => ?_) (fun E h9 hq => by cases hq.1)
          obtain ⟨e9, e8⟩ := hq
          cases e9
          rw [e8]
          show K (mX5_readSum d) _ _ 0 0 23 [(3, vi ((k : Int) + 1)), (2, vi x7), (0, vr 63), (1, vi w)] [vi 0] hc5
          refine K_if_eq (tgt := 61) (dt_at dtX5_readSum 13 rfl) (by decide) (by first | assumption | exact ⟨by omega, by omega⟩) (fun c5 => ?_) (fun c5 => absurd c5 (by omega))
          exact K_vret (dt_at dtX5_readSum 31 rfl) rfl (Nat.le_refl 0) (Nat.le_refl 0) ⟨rfl, by rw [← hX, chP_e hne uq4]; exact Sq6, Fq6⟩
      · rw [uq4] at Pq4
        have Sq4 : GS hc3 tp n r pu ((L ++ N) ++ Mq4) pq4 := Pq4
        have bq4 := (PO_lv (PO_pa (PO_ex d)) SO_p) _ _ _ (GS_n Sq2).1 uq4
        refine K_aload_n (dt_at dtX5_readSum 22 rfl) rfl rfl ?_
        refine K_get (a := 63) (ci := 5) (k := 2) (v := vr r) (dt_at dtX5_readSum 23 rfl) (show TT 63 = (0, 5) from rfl) rfl (by decide) wF_X5_39 (by show vr (hR hc3 63 2) = vr r; rw [Sq4.2.1]) ?_
        refine K_iload_n (dt_at dtX5_readSum 24 rfl) rfl rfl ?_
        have hadd : ((L ++ N) ++ Mq4).length < 700 := by rw [List.length_append, List.length_append]; omega
        refine K_callV (M' := mX6_add) (a := r) (ci := 6) (As := [vi (sumS tp (tk tp n p))]) (st := []) (dt_at dtX5_readSum 25 rfl) (add_G hr Sq4 (hadd)) (RR_T hr) rfl wL_X5_168 vX6_add rfl npX6_add (by simp only [mR, mL, rmK, mX5_readPart, mX5_readProduct, mX5_readSum, mX5_readTest, mX5_readNot, mX5_readAnd, mX5_readExpr, mX5_couldBegin, mX5_isGoing, mX5_productStep, mX5_readNumber, mX5_readSign, mX5_readValue, mX5_stop, mX5_sumStep, mX5_testStep, mX6_add, mX9_isAnyWord, mX9_isNumber, mX9_isSign, mX9_isWord, mX9_pass]; omega) (by simp only [mR, mL, rmK, mX5_readPart, mX5_readProduct, mX5_readSum, mX5_readTest, mX5_readNot, mX5_readAnd, mX5_readExpr, mX5_couldBegin, mX5_isGoing, mX5_productStep, mX5_readNumber, mX5_readSign, mX5_readValue, mX5_stop, mX5_sumStep, mX5_testStep, mX6_add, mX9_isAnyWord, mX9_isNumber, mX9_isSign, mX9_isWord, mX9_pass]; omega) (Nat.le_of_ble_eq_true rfl) (Nat.le_refl 0) (Nat.le_refl 0) GK_E (fun v9 hc8 hq => ?_) (fun E h9 hq => by cases hq.1)
        have hqq9 := hq
        obtain ⟨e9q9, Sq9, Gq9⟩ := hqq9
        have Fq9 := RF_tr Fq4 Gq9
        cases e9q9
        show K (mX5_readSum d) _ _ 0 0 50 [(3, vi (k : Int)), (2, vi (sumS tp (tk tp n p))), (0, vr 63), (1, vi w)] [] hc8
        refine K_aload_n (dt_at dtX5_readSum 26 rfl) rfl rfl ?_
        refine K_callV (M' := mX5_sumStep) (a := 63) (ci := 5) (As := []) (st := []) (dt_at dtX5_readSum 27 rfl) (sX5_sumStep Sq9.1) (show TT 63 = (0, 5) from rfl) rfl wL_X5_193 vX5_sumStep rfl npX5_sumStep (by simp only [mR, mL, rmK, mX5_readPart, mX5_readProduct, mX5_readSum, mX5_readTest, mX5_readNot, mX5_readAnd, mX5_readExpr, mX5_couldBegin, mX5_isGoing, mX5_productStep, mX5_readNumber, mX5_readSign, mX5_readValue, mX5_stop, mX5_sumStep, mX5_testStep, mX6_add, mX9_isAnyWord, mX9_isNumber, mX9_isSign, mX9_isWord, mX9_pass]; omega) (by simp only [mR, mL, rmK, mX5_readPart, mX5_readProduct, mX5_readSum, mX5_readTest, mX5_readNot, mX5_readAnd, mX5_readExpr, mX5_couldBegin, mX5_isGoing, mX5_productStep, mX5_readNumber, mX5_readSign, mX5_readValue, mX5_stop, mX5_sumStep, mX5_testStep, mX6_add, mX9_isAnyWord, mX9_isNumber, mX9_isSign, mX9_isWord, mX9_pass]; omega) (Nat.le_of_ble_eq_true rfl) (Nat.le_refl 0) (Nat.le_refl 0) GK_E (fun v9 h9 hq => ?_) (fun E h9 hq => by cases hq.1)
        obtain ⟨e9, e8⟩ := hq
        cases e9
        rw [e8]
        show K (mX5_readSum d) _ _ 0 0 54 [(3, vi (k : Int)), (2, vi (sumS tp (tk tp n p))), (0, vr 63), (1, vi w)] [vi (sumS tp (tk tp n pq4))] hc8
        refine K_istore_n (ls' := [(2, vi (sumS tp (tk tp n pq4))), (3, vi (k : Int)), (0, vr 63), (1, vi w)]) (dt_at dtX5_readSum 28 rfl) rfl (Nat.le_of_ble_eq_true rfl) rfl ?_
        refine K_iinc (ls' := [(3, vi ((k : Int) + 1)), (2, vi (sumS tp (tk tp n pq4))), (0, vr 63), (1, vi w)]) (dt_at dtX5_readSum 29 rfl) rfl (Nat.le_of_ble_eq_true rfl) rfl ?_
        refine K_goto (tgt := 12) (dt_at dtX5_readSum 30 rfl) (by decide) ?_
        refine K_pk [0, 1, 2, 3] (ls' := [(3, vi ((k + 1 : Nat) : Int)), (2, vi (sumS tp (tk tp n pq4))), (0, vr 63), (1, vi w)]) rfl ?_
        exact ih (k + 1) hc8 pq4 (N ++ (Mq4 ++ [sumS tp (tk tp n p)])) (by omega) (by simpa only [List.append_assoc] using Sq9) Fq9 (by rw [List.length_append, List.length_append]; show _ + (_ + (_ + 1)) ≤ _; omega) (by rw [← hX, chP_g (by assumption) uq4])
set_option maxHeartbeats 4000000 in
set_option maxRecDepth 100000 in
theorem sX5_readSum {d : Nat} {w : Int} {tp : Int → Int} {n r : Nat} {pu : Int} (hr : RR r) (hS : SB (mX5_readProduct d) w tp n r pu (lvP tp n (paP tp n pu (exP tp n pu d)) prdS)) : SB (mX5_readSum d) w tp n r pu (lvP tp n (lvP tp n (paP tp n pu (exP tp n pu d)) prdS) sumS) := by
  intro h L p S hl
  refine Spec_of (by decide +kernel : plainName RX5 = true) (Nat.le_of_ble_eq_true rfl) ?_
  have hn0 := GS_n S
  refine K_aload_n (dt_at dtX5_readSum 0 rfl) rfl rfl ?_
  refine K_iload_n (dt_at dtX5_readSum 1 rfl) rfl rfl ?_
  refine K_callV (M' := (mX5_readProduct d)) (a := 63) (ci := 5) (As := [vi w]) (st := []) (dt_at dtX5_readSum 2 rfl) (hS _ _ _ S (by omega)) (show TT 63 = (0, 5) from rfl) rfl wL_X5_190 vX5_readProduct rfl npX5_readProduct (by simp only [mR, mL, rmK, mX5_readPart, mX5_readProduct, mX5_readSum, mX5_readTest, mX5_readNot, mX5_readAnd, mX5_readExpr, mX5_couldBegin, mX5_isGoing, mX5_productStep, mX5_readNumber, mX5_readSign, mX5_readValue, mX5_stop, mX5_sumStep, mX5_testStep, mX6_add, mX9_isAnyWord, mX9_isNumber, mX9_isSign, mX9_isWord, mX9_pass]; omega) (by simp only [mR, mL, rmK, mX5_readPart, mX5_readProduct, mX5_readSum, mX5_readTest, mX5_readNot, mX5_readAnd, mX5_readExpr, mX5_couldBegin, mX5_isGoing, mX5_productStep, mX5_readNumber, mX5_readSign, mX5_readValue, mX5_stop, mX5_sumStep, mX5_testStep, mX6_add, mX9_isAnyWord, mX9_isNumber, mX9_isSign, mX9_isWord, mX9_pass]; omega) (Nat.le_of_ble_eq_true rfl) (Nat.le_refl 0) (Nat.le_refl 0) GK_E (fun v9 hc1 hq => ?_) (fun E h9 hq => by cases hq.1)
  have hqq2 := hq
  obtain ⟨e9q2, Pq2, Gq2⟩ := hqq2
  have Fq2 := RF_tr (RF_rf : RF r h h) Gq2
  cases e9q2
  show K (mX5_readSum d) _ _ 0 0 5 [(0, vr 63), (1, vi w)] [] hc1
  rcases uq2 : lvP tp n (paP tp n pu (exP tp n pu d)) prdS p with ⟨ekq2, epq2⟩ | ⟨pq2, Mq2⟩
  · rw [uq2] at Pq2
    have Sq2 : ES hc1 tp n r (ekq2, epq2) := Pq2
    refine K_aload_n (dt_at dtX5_readSum 3 rfl) rfl rfl ?_
    refine K_callV (M' := mX5_sumStep) (a := 63) (ci := 5) (As := []) (st := []) (dt_at dtX5_readSum 4 rfl) (sX5_sumStep_e Sq2.1) (show TT 63 = (0, 5) from rfl) rfl wL_X5_193 vX5_sumStep rfl npX5_sumStep (by simp only [mR, mL, rmK, mX5_readPart, mX5_readProduct, mX5_readSum, mX5_readTest, mX5_readNot, mX5_readAnd, mX5_readExpr, mX5_couldBegin, mX5_isGoing, mX5_productStep, mX5_readNumber, mX5_readSign, mX5_readValue, mX5_stop, mX5_sumStep, mX5_testStep, mX6_add, mX9_isAnyWord, mX9_isNumber, mX9_isSign, mX9_isWord, mX9_pass]; omega) (by simp only [mR, mL, rmK, mX5_readPart, mX5_readProduct, mX5_readSum, mX5_readTest, mX5_readNot, mX5_readAnd, mX5_readExpr, mX5_couldBegin, mX5_isGoing, mX5_productStep, mX5_readNumber, mX5_readSign, mX5_readValue, mX5_stop, mX5_sumStep, mX5_testStep, mX6_add, mX9_isAnyWord, mX9_isNumber, mX9_isSign, mX9_isWord, mX9_pass]; omega) (Nat.le_of_ble_eq_true rfl) (Nat.le_refl 0) (Nat.le_refl 0) GK_E (fun v9 h9 hq => ?_) (fun E h9 hq => by obtain ⟨⟨_, _, e9⟩, _⟩ := hq; cases e9)
    obtain ⟨⟨x3, bx3, e9⟩, e8⟩ := hq
    cases e9
    rw [e8]
    show K (mX5_readSum d) _ _ 0 0 9 [(0, vr 63), (1, vi w)] [vi x3] hc1
    refine K_istore_n (ls' := [(2, vi x3), (0, vr 63), (1, vi w)]) (dt_at dtX5_readSum 5 rfl) rfl (Nat.le_of_ble_eq_true rfl) rfl ?_
    refine K_iconst (dt_at dtX5_readSum 6 rfl) ?_
    refine K_istore_n (ls' := [(3, vi 0), (2, vi x3), (0, vr 63), (1, vi w)]) (dt_at dtX5_readSum 7 rfl) rfl (Nat.le_of_ble_eq_true rfl) rfl ?_
    refine K_iload_n (dt_at dtX5_readSum 8 rfl) rfl rfl ?_
    refine K_sipush (dt_at dtX5_readSum 9 rfl) (by decide) ?_
    refine K_icmp_ge (tgt := 61) (dt_at dtX5_readSum 10 rfl) (by decide) (by first | assumption | exact ⟨by omega, by omega⟩) (by first | assumption | exact ⟨by omega, by omega⟩) (fun c1 => absurd c1 (by omega)) (fun c1 => ?_)
    refine K_aload_n (dt_at dtX5_readSum 11 rfl) rfl rfl ?_
    refine K_callV (M' := mX5_isGoing) (a := 63) (ci := 5) (As := []) (st := []) (dt_at dtX5_readSum 12 rfl) (sX5_isGoing_f Sq2.1.2.2.2.1 Sq2.1.2.2.1) (show TT 63 = (0, 5) from rfl) rfl wL_X5_49 vX5_isGoing rfl npX5_isGoing (by simp only [mR, mL, rmK, mX5_readPart, mX5_readProduct, mX5_readSum, mX5_readTest, mX5_readNot, mX5_readAnd, mX5_readExpr, mX5_couldBegin, mX5_isGoing, mX5_productStep, mX5_readNumber, mX5_readSign, mX5_readValue, mX5_stop, mX5_sumStep, mX5_testStep, mX6_add, mX9_isAnyWord, mX9_isNumber, mX9_isSign, mX9_isWord, mX9_pass]; omega) (by simp only [mR, mL, rmK, mX5_readPart, mX5_readProduct, mX5_readSum, mX5_readTest, mX5_readNot, mX5_readAnd, mX5_readExpr, mX5_couldBegin, mX5_isGoing, mX5_productStep, mX5_readNumber, mX5_readSign, mX5_readValue, mX5_stop, mX5_sumStep, mX5_testStep, mX6_add, mX9_isAnyWord, mX9_isNumber, mX9_isSign, mX9_isWord, mX9_pass]; omega) (Nat.le_of_ble_eq_true rfl) (Nat.le_refl 0) (Nat.le_refl 0) GK_E (fun v9 h9 hq => ?_) (fun E h9 hq => by cases hq.1)
    obtain ⟨e9, e8⟩ := hq
    cases e9
    rw [e8]
    show K (mX5_readSum d) _ _ 0 0 23 [(3, vi 0), (2, vi x3), (0, vr 63), (1, vi w)] [vi 0] hc1
    refine K_if_eq (tgt := 61) (dt_at dtX5_readSum 13 rfl) (by decide) (by first | assumption | exact ⟨by omega, by omega⟩) (fun c2 => ?_) (fun c2 => absurd c2 (by omega))
    exact K_vret (dt_at dtX5_readSum 31 rfl) rfl (Nat.le_refl 0) (Nat.le_refl 0) ⟨rfl, by rw [lvP_e uq2]; exact Sq2, Fq2⟩
  · rw [uq2] at Pq2
    have Sq2 : GS hc1 tp n r pu (L ++ Mq2) pq2 := Pq2
    have bq2 := (PO_lv (PO_pa (PO_ex d)) SO_p) _ _ _ (GS_n S).1 uq2
    refine K_aload_n (dt_at dtX5_readSum 3 rfl) rfl rfl ?_
    refine K_callV (M' := mX5_sumStep) (a := 63) (ci := 5) (As := []) (st := []) (dt_at dtX5_readSum 4 rfl) (sX5_sumStep Sq2.1) (show TT 63 = (0, 5) from rfl) rfl wL_X5_193 vX5_sumStep rfl npX5_sumStep (by simp only [mR, mL, rmK, mX5_readPart, mX5_readProduct, mX5_readSum, mX5_readTest, mX5_readNot, mX5_readAnd, mX5_readExpr, mX5_couldBegin, mX5_isGoing, mX5_productStep, mX5_readNumber, mX5_readSign, mX5_readValue, mX5_stop, mX5_sumStep, mX5_testStep, mX6_add, mX9_isAnyWord, mX9_isNumber, mX9_isSign, mX9_isWord, mX9_pass]; omega) (by simp only [mR, mL, rmK, mX5_readPart, mX5_readProduct, mX5_readSum, mX5_readTest, mX5_readNot, mX5_readAnd, mX5_readExpr, mX5_couldBegin, mX5_isGoing, mX5_productStep, mX5_readNumber, mX5_readSign, mX5_readValue, mX5_stop, mX5_sumStep, mX5_testStep, mX6_add, mX9_isAnyWord, mX9_isNumber, mX9_isSign, mX9_isWord, mX9_pass]; omega) (Nat.le_of_ble_eq_true rfl) (Nat.le_refl 0) (Nat.le_refl 0) GK_E (fun v9 h9 hq => ?_) (fun E h9 hq => by cases hq.1)
    obtain ⟨e9, e8⟩ := hq
    cases e9
    rw [e8]
    show K (mX5_readSum d) _ _ 0 0 9 [(0, vr 63), (1, vi w)] [vi (sumS tp (tk tp n pq2))] hc1
    refine K_istore_n (ls' := [(2, vi (sumS tp (tk tp n pq2))), (0, vr 63), (1, vi w)]) (dt_at dtX5_readSum 5 rfl) rfl (Nat.le_of_ble_eq_true rfl) rfl ?_
    refine K_iconst (dt_at dtX5_readSum 6 rfl) ?_
    refine K_istore_n (ls' := [(3, vi 0), (2, vi (sumS tp (tk tp n pq2))), (0, vr 63), (1, vi w)]) (dt_at dtX5_readSum 7 rfl) rfl (Nat.le_of_ble_eq_true rfl) rfl ?_
    exact K_pk [0, 1, 2, 3] (ls' := [(3, vi ((0 : Nat) : Int)), (2, vi (sumS tp (tk tp n pq2))), (0, vr 63), (1, vi w)]) rfl (lp_X5_readSum hr hS 700 0 hc1 pq2 Mq2 (by omega) Sq2 Fq2 (by omega) (by rw [lvP_g uq2]))
set_option maxHeartbeats 4000000 in
set_option maxRecDepth 100000 in
theorem lp_X5_readAnd {d : Nat} {w : Int} {tp : Int → Int} {n r : Nat} {pu : Int} {h : HP} {L : List Int} {X : PR} (hr : RR r) (hS : SB (mX5_readNot d) w tp n r pu (noP tp n (tsP tp n (lvP tp n (lvP tp n (paP tp n pu (exP tp n pu d)) prdS) sumS)))) : ∀ (d9 k : Nat) (hh : HP) (p : Nat) (N : List Int), k + d9 = 700 → GS hh tp n r pu (L ++ N) p → RF r h hh → L.length + N.length ≤ p → chP tp n (noP tp n (tsP tp n (lvP tp n (lvP tp n (paP tp n pu (exP tp n pu d)) prdS) sumS))) andS d9 p N = X → K (mX5_readAnd d) GK (ZK (fun o h' => o = .inl none ∧ PS h' tp n r pu L X ∧ RF r h h') 0 0) 0 0 7 [(2, vi (k : Int)), (0, vr 63), (1, vi w)] [] hh := by
  intro d9
  induction d9 with
  | zero =>
    intro k hh p N hk Sh Fh hL hX
    have hn0 := GS_n Sh
    have sb9 := stp_b tp (tk tp n p)
    refine K_iload_n (dt_at dtX5_readAnd 5 rfl) rfl rfl ?_
    refine K_sipush (dt_at dtX5_readAnd 6 rfl) (by decide) ?_
    refine K_icmp_ge (tgt := 60) (dt_at dtX5_readAnd 7 rfl) (by decide) (by first | assumption | exact ⟨by omega, by omega⟩) (by first | assumption | exact ⟨by omega, by omega⟩) (fun c1 => ?_) (fun c1 => absurd c1 (by omega))
    exact K_vret (dt_at dtX5_readAnd 28 rfl) rfl (Nat.le_refl 0) (Nat.le_refl 0) ⟨rfl, by rw [← hX]; exact Sh, Fh⟩
  | succ d9 ih =>
    intro k hh p N hk Sh Fh hL hX
    have hn0 := GS_n Sh
    have sb9 := stp_b tp (tk tp n p)
    refine K_iload_n (dt_at dtX5_readAnd 5 rfl) rfl rfl ?_
    refine K_sipush (dt_at dtX5_readAnd 6 rfl) (by decide) ?_
    refine K_icmp_ge (tgt := 60) (dt_at dtX5_readAnd 7 rfl) (by decide) (by first | assumption | exact ⟨by omega, by omega⟩) (by first | assumption | exact ⟨by omega, by omega⟩) (fun c1 => absurd c1 (by omega)) (fun c1 => ?_)
    refine K_aload_n (dt_at dtX5_readAnd 8 rfl) rfl rfl ?_
    refine K_callV (M' := mX5_isGoing) (a := 63) (ci := 5) (As := []) (st := []) (dt_at dtX5_readAnd 9 rfl) (sX5_isGoing_t Sh.1.2.2.2) (show TT 63 = (0, 5) from rfl) rfl wL_X5_49 vX5_isGoing rfl npX5_isGoing (by simp only [mR, mL, rmK, mX5_readPart, mX5_readProduct, mX5_readSum, mX5_readTest, mX5_readNot, mX5_readAnd, mX5_readExpr, mX5_couldBegin, mX5_isGoing, mX5_productStep, mX5_readNumber, mX5_readSign, mX5_readValue, mX5_stop, mX5_sumStep, mX5_testStep, mX6_add, mX9_isAnyWord, mX9_isNumber, mX9_isSign, mX9_isWord, mX9_pass]; omega) (by simp only [mR, mL, rmK, mX5_readPart, mX5_readProduct, mX5_readSum, mX5_readTest, mX5_readNot, mX5_readAnd, mX5_readExpr, mX5_couldBegin, mX5_isGoing, mX5_productStep, mX5_readNumber, mX5_readSign, mX5_readValue, mX5_stop, mX5_sumStep, mX5_testStep, mX6_add, mX9_isAnyWord, mX9_isNumber, mX9_isSign, mX9_isWord, mX9_pass]; omega) (Nat.le_of_ble_eq_true rfl) (Nat.le_refl 0) (Nat.le_refl 0) GK_E (fun v9 h9 hq => ?_) (fun E h9 hq => by cases hq.1)
    obtain ⟨e9, e8⟩ := hq
    cases e9
    rw [e8]
    show K (mX5_readAnd d) _ _ 0 0 18 [(2, vi (k : Int)), (0, vr 63), (1, vi w)] [vi 1] hh
    refine K_if_eq (tgt := 60) (dt_at dtX5_readAnd 10 rfl) (by decide) (by first | assumption | exact ⟨by omega, by omega⟩) (fun c2 => absurd c2 (by omega)) (fun c2 => ?_)
    refine K_aload_n (dt_at dtX5_readAnd 11 rfl) rfl rfl ?_
    refine K_get (a := 63) (ci := 5) (k := 0) (v := vr 64) (dt_at dtX5_readAnd 12 rfl) (show TT 63 = (0, 5) from rfl) rfl (by decide) wF_X5_12 rfl ?_
    refine K_ldcS (i := 13) (dt_at dtX5_readAnd 13 rfl) rfl GK_E ?_
    refine K_callV (M' := mX9_isWord) (a := 64) (ci := 9) (As := [vs 14]) (st := []) (dt_at dtX5_readAnd 14 rfl) (sX9_isWord (i := 13) Sh.1.1 Sh.1.2.1 (tk_G Sh.1.2.2.1) (by decide)) (show TT 64 = (0, 9) from rfl) rfl wL_X5_65 vX9_isWord rfl npX9_isWord (by simp only [mR, mL, rmK, mX5_readPart, mX5_readProduct, mX5_readSum, mX5_readTest, mX5_readNot, mX5_readAnd, mX5_readExpr, mX5_couldBegin, mX5_isGoing, mX5_productStep, mX5_readNumber, mX5_readSign, mX5_readValue, mX5_stop, mX5_sumStep, mX5_testStep, mX6_add, mX9_isAnyWord, mX9_isNumber, mX9_isSign, mX9_isWord, mX9_pass]; omega) (by simp only [mR, mL, rmK, mX5_readPart, mX5_readProduct, mX5_readSum, mX5_readTest, mX5_readNot, mX5_readAnd, mX5_readExpr, mX5_couldBegin, mX5_isGoing, mX5_productStep, mX5_readNumber, mX5_readSign, mX5_readValue, mX5_stop, mX5_sumStep, mX5_testStep, mX6_add, mX9_isAnyWord, mX9_isNumber, mX9_isSign, mX9_isWord, mX9_pass]; omega) (Nat.le_of_ble_eq_true rfl) (Nat.le_refl 0) (Nat.le_refl 0) GK_E (fun v9 h9 hq => ?_) (fun E h9 hq => by cases hq.1)
    obtain ⟨e9, e8⟩ := hq
    cases e9
    rw [e8]
    show K (mX5_readAnd d) _ _ 0 0 30 [(2, vi (k : Int)), (0, vr 63), (1, vi w)] [vi (if isWb tp (tk tp n p) 13 = true then 1 else 0)] hh
    by_cases z3 : isWb tp (tk tp n p) 13 = true
    · rw [if_pos z3]
      refine K_if_eq (tgt := 60) (dt_at dtX5_readAnd 15 rfl) (by decide) (by first | assumption | exact ⟨by omega, by omega⟩) (fun c4 => absurd c4 (by omega)) (fun c4 => ?_)
      refine K_aload_n (dt_at dtX5_readAnd 16 rfl) rfl rfl ?_
      refine K_get (a := 63) (ci := 5) (k := 0) (v := vr 64) (dt_at dtX5_readAnd 17 rfl) (show TT 63 = (0, 5) from rfl) rfl (by decide) wF_X5_12 rfl ?_
      have hne : andS tp (tk tp n p) ≠ 0 := by rw [andS_t (by assumption)]; decide
      have ht := tk_lt (GS_n Sh).1 (SO_a _ _ hne)
      refine K_callV (M' := mX9_pass) (a := 64) (ci := 9) (As := []) (st := []) (dt_at dtX5_readAnd 18 rfl) (pass_S hr Sh) (show TT 64 = (0, 9) from rfl) rfl wL_X5_97 vX9_pass rfl npX9_pass (by simp only [mR, mL, rmK, mX5_readPart, mX5_readProduct, mX5_readSum, mX5_readTest, mX5_readNot, mX5_readAnd, mX5_readExpr, mX5_couldBegin, mX5_isGoing, mX5_productStep, mX5_readNumber, mX5_readSign, mX5_readValue, mX5_stop, mX5_sumStep, mX5_testStep, mX6_add, mX9_isAnyWord, mX9_isNumber, mX9_isSign, mX9_isWord, mX9_pass]; omega) (by simp only [mR, mL, rmK, mX5_readPart, mX5_readProduct, mX5_readSum, mX5_readTest, mX5_readNot, mX5_readAnd, mX5_readExpr, mX5_couldBegin, mX5_isGoing, mX5_productStep, mX5_readNumber, mX5_readSign, mX5_readValue, mX5_stop, mX5_sumStep, mX5_testStep, mX6_add, mX9_isAnyWord, mX9_isNumber, mX9_isSign, mX9_isWord, mX9_pass]; omega) (Nat.le_of_ble_eq_true rfl) (Nat.le_refl 0) (Nat.le_refl 0) GK_E (fun v9 hc1 hq => ?_) (fun E h9 hq => by cases hq.1)
      have hqq2 := hq
      obtain ⟨e9q2, Sq2, Gq2⟩ := hqq2
      have Fq2 := RF_tr Fh Gq2
      cases e9q2
      show K (mX5_readAnd d) _ _ 0 0 40 [(2, vi (k : Int)), (0, vr 63), (1, vi w)] [] hc1
      refine K_aload_n (dt_at dtX5_readAnd 19 rfl) rfl rfl ?_
      refine K_iload_n (dt_at dtX5_readAnd 20 rfl) rfl rfl ?_
      refine K_callV (M' := (mX5_readNot d)) (a := 63) (ci := 5) (As := [vi w]) (st := []) (dt_at dtX5_readAnd 21 rfl) (hS _ _ _ Sq2 (by rw [List.length_append]; omega)) (show TT 63 = (0, 5) from rfl) rfl wL_X5_174 vX5_readNot rfl npX5_readNot (by simp only [mR, mL, rmK, mX5_readPart, mX5_readProduct, mX5_readSum, mX5_readTest, mX5_readNot, mX5_readAnd, mX5_readExpr, mX5_couldBegin, mX5_isGoing, mX5_productStep, mX5_readNumber, mX5_readSign, mX5_readValue, mX5_stop, mX5_sumStep, mX5_testStep, mX6_add, mX9_isAnyWord, mX9_isNumber, mX9_isSign, mX9_isWord, mX9_pass]; omega) (by simp only [mR, mL, rmK, mX5_readPart, mX5_readProduct, mX5_readSum, mX5_readTest, mX5_readNot, mX5_readAnd, mX5_readExpr, mX5_couldBegin, mX5_isGoing, mX5_productStep, mX5_readNumber, mX5_readSign, mX5_readValue, mX5_stop, mX5_sumStep, mX5_testStep, mX6_add, mX9_isAnyWord, mX9_isNumber, mX9_isSign, mX9_isWord, mX9_pass]; omega) (Nat.le_of_ble_eq_true rfl) (Nat.le_refl 0) (Nat.le_refl 0) GK_E (fun v9 hc3 hq => ?_) (fun E h9 hq => by cases hq.1)
      have hqq4 := hq
      obtain ⟨e9q4, Pq4, Gq4⟩ := hqq4
      have Fq4 := RF_tr Fq2 Gq4
      cases e9q4
      show K (mX5_readAnd d) _ _ 0 0 45 [(2, vi (k : Int)), (0, vr 63), (1, vi w)] [] hc3
      rcases uq4 : noP tp n (tsP tp n (lvP tp n (lvP tp n (paP tp n pu (exP tp n pu d)) prdS) sumS)) ((tk tp n p).2.2) with ⟨ekq4, epq4⟩ | ⟨pq4, Mq4⟩
      · rw [uq4] at Pq4
        have Sq4 : ES hc3 tp n r (ekq4, epq4) := Pq4
        refine K_aload_n (dt_at dtX5_readAnd 22 rfl) rfl rfl ?_
        refine K_get (a := 63) (ci := 5) (k := 2) (v := vr r) (dt_at dtX5_readAnd 23 rfl) (show TT 63 = (0, 5) from rfl) rfl (by decide) wF_X5_39 (by show vr (hR hc3 63 2) = vr r; rw [Sq4.2.1]) ?_
        refine K_bipush (dt_at dtX5_readAnd 24 rfl) (by decide) ?_
        refine K_callV (M' := mX6_add) (a := r) (ci := 6) (As := [vi (-11)]) (st := []) (dt_at dtX5_readAnd 25 rfl) (add_E hr Sq4) (RR_T hr) rfl wL_X5_168 vX6_add rfl npX6_add (by simp only [mR, mL, rmK, mX5_readPart, mX5_readProduct, mX5_readSum, mX5_readTest, mX5_readNot, mX5_readAnd, mX5_readExpr, mX5_couldBegin, mX5_isGoing, mX5_productStep, mX5_readNumber, mX5_readSign, mX5_readValue, mX5_stop, mX5_sumStep, mX5_testStep, mX6_add, mX9_isAnyWord, mX9_isNumber, mX9_isSign, mX9_isWord, mX9_pass]; omega) (by simp only [mR, mL, rmK, mX5_readPart, mX5_readProduct, mX5_readSum, mX5_readTest, mX5_readNot, mX5_readAnd, mX5_readExpr, mX5_couldBegin, mX5_isGoing, mX5_productStep, mX5_readNumber, mX5_readSign, mX5_readValue, mX5_stop, mX5_sumStep, mX5_testStep, mX6_add, mX9_isAnyWord, mX9_isNumber, mX9_isSign, mX9_isWord, mX9_pass]; omega) (Nat.le_of_ble_eq_true rfl) (Nat.le_refl 0) (Nat.le_refl 0) GK_E (fun v9 hc5 hq => ?_) (fun E h9 hq => by cases hq.1)
        have hqq6 := hq
        obtain ⟨e9q6, Sq6, Gq6⟩ := hqq6
        have Fq6 := RF_tr Fq4 Gq6
        cases e9q6
        show K (mX5_readAnd d) _ _ 0 0 54 [(2, vi (k : Int)), (0, vr 63), (1, vi w)] [] hc5
        refine K_iinc (ls' := [(2, vi ((k : Int) + 1)), (0, vr 63), (1, vi w)]) (dt_at dtX5_readAnd 26 rfl) rfl (Nat.le_of_ble_eq_true rfl) rfl ?_
        refine K_goto (tgt := 7) (dt_at dtX5_readAnd 27 rfl) (by decide) ?_
        refine K_iload_n (dt_at dtX5_readAnd 5 rfl) rfl rfl ?_
        refine K_sipush (dt_at dtX5_readAnd 6 rfl) (by decide) ?_
        refine K_icmp_ge (tgt := 60) (dt_at dtX5_readAnd 7 rfl) (by decide) (by first | assumption | exact ⟨by omega, by omega⟩) (by first | assumption | exact ⟨by omega, by omega⟩) (fun c5 => ?_) (fun c5 => ?_)
        · exact K_vret (dt_at dtX5_readAnd 28 rfl) rfl (Nat.le_refl 0) (Nat.le_refl 0) ⟨rfl, by rw [← hX, chP_e hne uq4]; exact Sq6, Fq6⟩
        · refine K_aload_n (dt_at dtX5_readAnd 8 rfl) rfl rfl ?_
          refine K_callV (M' := mX5_isGoing) (a := 63) (ci := 5) (As := []) (st := []) (dt_at dtX5_readAnd 9 rfl) (sX5_isGoing_f Sq6.1.2.2.2.1 Sq6.1.2.2.1) (show TT 63 = (0, 5) from rfl) rfl wL_X5_49 vX5_isGoing rfl npX5_isGoing (by simp only [mR, mL, rmK, mX5_readPart, mX5_readProduct, mX5_readSum, mX5_readTest, mX5_readNot, mX5_readAnd, mX5_readExpr, mX5_couldBegin, mX5_isGoing, mX5_productStep, mX5_readNumber, mX5_readSign, mX5_readValue, mX5_stop, mX5_sumStep, mX5_testStep, mX6_add, mX9_isAnyWord, mX9_isNumber, mX9_isSign, mX9_isWord, mX9_pass]; omega) (by simp only [mR, mL, rmK, mX5_readPart, mX5_readProduct, mX5_readSum, mX5_readTest, mX5_readNot, mX5_readAnd, mX5_readExpr, mX5_couldBegin, mX5_isGoing, mX5_productStep, mX5_readNumber, mX5_readSign, mX5_readValue, mX5_stop, mX5_sumStep, mX5_testStep, mX6_add, mX9_isAnyWord, mX9_isNumber, mX9_isSign, mX9_isWord, mX9_pass]; omega) (Nat.le_of_ble_eq_true rfl) (Nat.le_refl 0) (Nat.le_refl 0) GK_E (fun v9 h9 hq => ?_) (fun E h9 hq => by cases hq.1)
          obtain ⟨e9, e8⟩ := hq
          cases e9
          rw [e8]
          show K (mX5_readAnd d) _ _ 0 0 18 [(2, vi ((k : Int) + 1)), (0, vr 63), (1, vi w)] [vi 0] hc5
          refine K_if_eq (tgt := 60) (dt_at dtX5_readAnd 10 rfl) (by decide) (by first | assumption | exact ⟨by omega, by omega⟩) (fun c6 => ?_) (fun c6 => absurd c6 (by omega))
          exact K_vret (dt_at dtX5_readAnd 28 rfl) rfl (Nat.le_refl 0) (Nat.le_refl 0) ⟨rfl, by rw [← hX, chP_e hne uq4]; exact Sq6, Fq6⟩
      · rw [uq4] at Pq4
        have Sq4 : GS hc3 tp n r pu ((L ++ N) ++ Mq4) pq4 := Pq4
        have bq4 := (PO_no (PO_ts (PO_lv (PO_lv (PO_pa (PO_ex d)) SO_p) SO_s))) _ _ _ (GS_n Sq2).1 uq4
        refine K_aload_n (dt_at dtX5_readAnd 22 rfl) rfl rfl ?_
        refine K_get (a := 63) (ci := 5) (k := 2) (v := vr r) (dt_at dtX5_readAnd 23 rfl) (show TT 63 = (0, 5) from rfl) rfl (by decide) wF_X5_39 (by show vr (hR hc3 63 2) = vr r; rw [Sq4.2.1]) ?_
        refine K_bipush (dt_at dtX5_readAnd 24 rfl) (by decide) ?_
        have hadd : ((L ++ N) ++ Mq4).length < 700 := by rw [List.length_append, List.length_append]; omega
        refine K_callV (M' := mX6_add) (a := r) (ci := 6) (As := [vi (-11)]) (st := []) (dt_at dtX5_readAnd 25 rfl) (add_G hr Sq4 (hadd)) (RR_T hr) rfl wL_X5_168 vX6_add rfl npX6_add (by simp only [mR, mL, rmK, mX5_readPart, mX5_readProduct, mX5_readSum, mX5_readTest, mX5_readNot, mX5_readAnd, mX5_readExpr, mX5_couldBegin, mX5_isGoing, mX5_productStep, mX5_readNumber, mX5_readSign, mX5_readValue, mX5_stop, mX5_sumStep, mX5_testStep, mX6_add, mX9_isAnyWord, mX9_isNumber, mX9_isSign, mX9_isWord, mX9_pass]; omega) (by simp only [mR, mL, rmK, mX5_readPart, mX5_readProduct, mX5_readSum, mX5_readTest, mX5_readNot, mX5_readAnd, mX5_readExpr, mX5_couldBegin, mX5_isGoing, mX5_productStep, mX5_readNumber, mX5_readSign, mX5_readValue, mX5_stop, mX5_sumStep, mX5_testStep, mX6_add, mX9_isAnyWord, mX9_isNumber, mX9_isSign, mX9_isWord, mX9_pass]; omega) (Nat.le_of_ble_eq_true rfl) (Nat.le_refl 0) (Nat.le_refl 0) GK_E (fun v9 hc7 hq => ?_) (fun E h9 hq => by cases hq.1)
        have hqq8 := hq
        obtain ⟨e9q8, Sq8, Gq8⟩ := hqq8
        have Fq8 := RF_tr Fq4 Gq8
        cases e9q8
        show K (mX5_readAnd d) _ _ 0 0 54 [(2, vi (k : Int)), (0, vr 63), (1, vi w)] [] hc7
        refine K_iinc (ls' := [(2, vi ((k : Int) + 1)), (0, vr 63), (1, vi w)]) (dt_at dtX5_readAnd 26 rfl) rfl (Nat.le_of_ble_eq_true rfl) rfl ?_
        refine K_goto (tgt := 7) (dt_at dtX5_readAnd 27 rfl) (by decide) ?_
        refine K_pk [0, 1, 2] (ls' := [(2, vi ((k + 1 : Nat) : Int)), (0, vr 63), (1, vi w)]) rfl ?_
        exact ih (k + 1) hc7 pq4 (N ++ (Mq4 ++ [-11])) (by omega) (by simpa only [List.append_assoc] using Sq8) Fq8 (by rw [List.length_append, List.length_append]; show _ + (_ + (_ + 1)) ≤ _; omega) (by rw [← hX, chP_g hne uq4, andS_t (by assumption)])
    · rw [if_neg z3]
      refine K_if_eq (tgt := 60) (dt_at dtX5_readAnd 15 rfl) (by decide) (by first | assumption | exact ⟨by omega, by omega⟩) (fun c7 => ?_) (fun c7 => absurd c7 (by omega))
      exact K_vret (dt_at dtX5_readAnd 28 rfl) rfl (Nat.le_refl 0) (Nat.le_refl 0) ⟨rfl, by rw [← hX, chP_0 (andS_f (by assumption))]; exact Sh, Fh⟩
set_option maxHeartbeats 4000000 in
set_option maxRecDepth 100000 in
theorem sX5_readAnd {d : Nat} {w : Int} {tp : Int → Int} {n r : Nat} {pu : Int} (hr : RR r) (hS : SB (mX5_readNot d) w tp n r pu (noP tp n (tsP tp n (lvP tp n (lvP tp n (paP tp n pu (exP tp n pu d)) prdS) sumS)))) : SB (mX5_readAnd d) w tp n r pu (lvP tp n (noP tp n (tsP tp n (lvP tp n (lvP tp n (paP tp n pu (exP tp n pu d)) prdS) sumS))) andS) := by
  intro h L p S hl
  refine Spec_of (by decide +kernel : plainName RX5 = true) (Nat.le_of_ble_eq_true rfl) ?_
  have hn0 := GS_n S
  refine K_aload_n (dt_at dtX5_readAnd 0 rfl) rfl rfl ?_
  refine K_iload_n (dt_at dtX5_readAnd 1 rfl) rfl rfl ?_
  refine K_callV (M' := (mX5_readNot d)) (a := 63) (ci := 5) (As := [vi w]) (st := []) (dt_at dtX5_readAnd 2 rfl) (hS _ _ _ S (by omega)) (show TT 63 = (0, 5) from rfl) rfl wL_X5_174 vX5_readNot rfl npX5_readNot (by simp only [mR, mL, rmK, mX5_readPart, mX5_readProduct, mX5_readSum, mX5_readTest, mX5_readNot, mX5_readAnd, mX5_readExpr, mX5_couldBegin, mX5_isGoing, mX5_productStep, mX5_readNumber, mX5_readSign, mX5_readValue, mX5_stop, mX5_sumStep, mX5_testStep, mX6_add, mX9_isAnyWord, mX9_isNumber, mX9_isSign, mX9_isWord, mX9_pass]; omega) (by simp only [mR, mL, rmK, mX5_readPart, mX5_readProduct, mX5_readSum, mX5_readTest, mX5_readNot, mX5_readAnd, mX5_readExpr, mX5_couldBegin, mX5_isGoing, mX5_productStep, mX5_readNumber, mX5_readSign, mX5_readValue, mX5_stop, mX5_sumStep, mX5_testStep, mX6_add, mX9_isAnyWord, mX9_isNumber, mX9_isSign, mX9_isWord, mX9_pass]; omega) (Nat.le_of_ble_eq_true rfl) (Nat.le_refl 0) (Nat.le_refl 0) GK_E (fun v9 hc1 hq => ?_) (fun E h9 hq => by cases hq.1)
  have hqq2 := hq
  obtain ⟨e9q2, Pq2, Gq2⟩ := hqq2
  have Fq2 := RF_tr (RF_rf : RF r h h) Gq2
  cases e9q2
  show K (mX5_readAnd d) _ _ 0 0 5 [(0, vr 63), (1, vi w)] [] hc1
  rcases uq2 : noP tp n (tsP tp n (lvP tp n (lvP tp n (paP tp n pu (exP tp n pu d)) prdS) sumS)) p with ⟨ekq2, epq2⟩ | ⟨pq2, Mq2⟩
  · rw [uq2] at Pq2
    have Sq2 : ES hc1 tp n r (ekq2, epq2) := Pq2
    refine K_iconst (dt_at dtX5_readAnd 3 rfl) ?_
    refine K_istore_n (ls' := [(2, vi 0), (0, vr 63), (1, vi w)]) (dt_at dtX5_readAnd 4 rfl) rfl (Nat.le_of_ble_eq_true rfl) rfl ?_
    refine K_iload_n (dt_at dtX5_readAnd 5 rfl) rfl rfl ?_
    refine K_sipush (dt_at dtX5_readAnd 6 rfl) (by decide) ?_
    refine K_icmp_ge (tgt := 60) (dt_at dtX5_readAnd 7 rfl) (by decide) (by first | assumption | exact ⟨by omega, by omega⟩) (by first | assumption | exact ⟨by omega, by omega⟩) (fun c1 => absurd c1 (by omega)) (fun c1 => ?_)
    refine K_aload_n (dt_at dtX5_readAnd 8 rfl) rfl rfl ?_
    refine K_callV (M' := mX5_isGoing) (a := 63) (ci := 5) (As := []) (st := []) (dt_at dtX5_readAnd 9 rfl) (sX5_isGoing_f Sq2.1.2.2.2.1 Sq2.1.2.2.1) (show TT 63 = (0, 5) from rfl) rfl wL_X5_49 vX5_isGoing rfl npX5_isGoing (by simp only [mR, mL, rmK, mX5_readPart, mX5_readProduct, mX5_readSum, mX5_readTest, mX5_readNot, mX5_readAnd, mX5_readExpr, mX5_couldBegin, mX5_isGoing, mX5_productStep, mX5_readNumber, mX5_readSign, mX5_readValue, mX5_stop, mX5_sumStep, mX5_testStep, mX6_add, mX9_isAnyWord, mX9_isNumber, mX9_isSign, mX9_isWord, mX9_pass]; omega) (by simp only [mR, mL, rmK, mX5_readPart, mX5_readProduct, mX5_readSum, mX5_readTest, mX5_readNot, mX5_readAnd, mX5_readExpr, mX5_couldBegin, mX5_isGoing, mX5_productStep, mX5_readNumber, mX5_readSign, mX5_readValue, mX5_stop, mX5_sumStep, mX5_testStep, mX6_add, mX9_isAnyWord, mX9_isNumber, mX9_isSign, mX9_isWord, mX9_pass]; omega) (Nat.le_of_ble_eq_true rfl) (Nat.le_refl 0) (Nat.le_refl 0) GK_E (fun v9 h9 hq => ?_) (fun E h9 hq => by cases hq.1)
    obtain ⟨e9, e8⟩ := hq
    cases e9
    rw [e8]
    show K (mX5_readAnd d) _ _ 0 0 18 [(2, vi 0), (0, vr 63), (1, vi w)] [vi 0] hc1
    refine K_if_eq (tgt := 60) (dt_at dtX5_readAnd 10 rfl) (by decide) (by first | assumption | exact ⟨by omega, by omega⟩) (fun c2 => ?_) (fun c2 => absurd c2 (by omega))
    exact K_vret (dt_at dtX5_readAnd 28 rfl) rfl (Nat.le_refl 0) (Nat.le_refl 0) ⟨rfl, by rw [lvP_e uq2]; exact Sq2, Fq2⟩
  · rw [uq2] at Pq2
    have Sq2 : GS hc1 tp n r pu (L ++ Mq2) pq2 := Pq2
    have bq2 := (PO_no (PO_ts (PO_lv (PO_lv (PO_pa (PO_ex d)) SO_p) SO_s))) _ _ _ (GS_n S).1 uq2
    refine K_iconst (dt_at dtX5_readAnd 3 rfl) ?_
    refine K_istore_n (ls' := [(2, vi 0), (0, vr 63), (1, vi w)]) (dt_at dtX5_readAnd 4 rfl) rfl (Nat.le_of_ble_eq_true rfl) rfl ?_
    exact K_pk [0, 1, 2] (ls' := [(2, vi ((0 : Nat) : Int)), (0, vr 63), (1, vi w)]) rfl (lp_X5_readAnd hr hS 700 0 hc1 pq2 Mq2 (by omega) Sq2 Fq2 (by omega) (by rw [lvP_g uq2]))
