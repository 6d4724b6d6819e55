set_option maxHeartbeats 4000000 in
set_option maxRecDepth 100000 in
theorem sX5_readTest {d : Nat} {w : Int} {tp : Int → Int} {n r : Nat} {pu : Int} (hr : RR r) (hS : SB (mX5_readSum d) w tp n r pu (lvP tp n (lvP tp n (paP tp n pu (exP tp n pu d)) prdS) sumS)) : SB (mX5_readTest d) w tp n r pu (tsP tp n (lvP tp n (lvP tp n (paP tp n pu (exP tp n pu d)) prdS) sumS)) := by
  intro h L p S hl
  refine Spec_of (by decide +kernel : plainName RX5 = true) (Nat.le_of_ble_eq_true rfl) ?_
  have hn0 := GS_n S
  refine K_aload_n (dt_at dtX5_readTest 0 rfl) rfl rfl ?_
  refine K_iload_n (dt_at dtX5_readTest 1 rfl) rfl rfl ?_
  refine K_callV (M' := (mX5_readSum d)) (a := 63) (ci := 5) (As := [vi w]) (st := []) (dt_at dtX5_readTest 2 rfl) (hS _ _ _ S (by omega)) (show TT 63 = (0, 5) from rfl) rfl wL_X5_184 vX5_readSum rfl npX5_readSum (by simp only [mR, mL, rmK, mX5_readPart, mX5_readProduct, mX5_readSum, mX5_readTest, mX5_readNot, mX5_readAnd, mX5_readExpr, mX5_couldBegin, mX5_isGoing, mX5_productStep, mX5_readNumber, mX5_readSign, mX5_readValue, mX5_stop, mX5_sumStep, mX5_testStep, mX6_add, mX9_isAnyWord, mX9_isNumber, mX9_isSign, mX9_isWord, mX9_pass]; omega) (by simp only [mR, mL, rmK, mX5_readPart, mX5_readProduct, mX5_readSum, mX5_readTest, mX5_readNot, mX5_readAnd, mX5_readExpr, mX5_couldBegin, mX5_isGoing, mX5_productStep, mX5_readNumber, mX5_readSign, mX5_readValue, mX5_stop, mX5_sumStep, mX5_testStep, mX6_add, mX9_isAnyWord, mX9_isNumber, mX9_isSign, mX9_isWord, mX9_pass]; omega) (Nat.le_of_ble_eq_true rfl) (Nat.le_refl 0) (Nat.le_refl 0) GK_E (fun v9 hc1 hq => ?_) (fun E h9 hq => by cases hq.1)
  have hqq2 := hq
  obtain ⟨e9q2, Pq2, Gq2⟩ := hqq2
  have Fq2 := RF_tr (RF_rf : RF r h h) Gq2
  cases e9q2
  show K (mX5_readTest d) _ _ 0 0 5 [(0, vr 63), (1, vi w)] [] hc1
  rcases uq2 : lvP tp n (lvP tp n (paP tp n pu (exP tp n pu d)) prdS) sumS p with ⟨ekq2, epq2⟩ | ⟨pq2, Mq2⟩
  · rw [uq2] at Pq2
    have Sq2 : ES hc1 tp n r (ekq2, epq2) := Pq2
    refine K_aload_n (dt_at dtX5_readTest 3 rfl) rfl rfl ?_
    refine K_callV (M' := mX5_isGoing) (a := 63) (ci := 5) (As := []) (st := []) (dt_at dtX5_readTest 4 rfl) (sX5_isGoing_f Sq2.1.2.2.2.1 Sq2.1.2.2.1) (show TT 63 = (0, 5) from rfl) rfl wL_X5_49 vX5_isGoing rfl npX5_isGoing (by simp only [mR, mL, rmK, mX5_readPart, mX5_readProduct, mX5_readSum, mX5_readTest, mX5_readNot, mX5_readAnd, mX5_readExpr, mX5_couldBegin, mX5_isGoing, mX5_productStep, mX5_readNumber, mX5_readSign, mX5_readValue, mX5_stop, mX5_sumStep, mX5_testStep, mX6_add, mX9_isAnyWord, mX9_isNumber, mX9_isSign, mX9_isWord, mX9_pass]; omega) (by simp only [mR, mL, rmK, mX5_readPart, mX5_readProduct, mX5_readSum, mX5_readTest, mX5_readNot, mX5_readAnd, mX5_readExpr, mX5_couldBegin, mX5_isGoing, mX5_productStep, mX5_readNumber, mX5_readSign, mX5_readValue, mX5_stop, mX5_sumStep, mX5_testStep, mX6_add, mX9_isAnyWord, mX9_isNumber, mX9_isSign, mX9_isWord, mX9_pass]; omega) (Nat.le_of_ble_eq_true rfl) (Nat.le_refl 0) (Nat.le_refl 0) GK_E (fun v9 h9 hq => ?_) (fun E h9 hq => by cases hq.1)
    obtain ⟨e9, e8⟩ := hq
    cases e9
    rw [e8]
    show K (mX5_readTest d) _ _ 0 0 9 [(0, vr 63), (1, vi w)] [vi 0] hc1
    refine K_if_ne (tgt := 13) (dt_at dtX5_readTest 5 rfl) (by decide) (by first | assumption | exact ⟨by omega, by omega⟩) (fun c1 => absurd c1 (by omega)) (fun c1 => ?_)
    exact K_vret (dt_at dtX5_readTest 6 rfl) rfl (Nat.le_refl 0) (Nat.le_refl 0) ⟨rfl, by rw [tsP_e uq2]; exact Sq2, Fq2⟩
  · rw [uq2] at Pq2
    have Sq2 : GS hc1 tp n r pu (L ++ Mq2) pq2 := Pq2
    have bq2 := (PO_lv (PO_lv (PO_pa (PO_ex d)) SO_p) SO_s) _ _ _ (GS_n S).1 uq2
    refine K_aload_n (dt_at dtX5_readTest 3 rfl) rfl rfl ?_
    refine K_callV (M' := mX5_isGoing) (a := 63) (ci := 5) (As := []) (st := []) (dt_at dtX5_readTest 4 rfl) (sX5_isGoing_t Sq2.1.2.2.2) (show TT 63 = (0, 5) from rfl) rfl wL_X5_49 vX5_isGoing rfl npX5_isGoing (by simp only [mR, mL, rmK, mX5_readPart, mX5_readProduct, mX5_readSum, mX5_readTest, mX5_readNot, mX5_readAnd, mX5_readExpr, mX5_couldBegin, mX5_isGoing, mX5_productStep, mX5_readNumber, mX5_readSign, mX5_readValue, mX5_stop, mX5_sumStep, mX5_testStep, mX6_add, mX9_isAnyWord, mX9_isNumber, mX9_isSign, mX9_isWord, mX9_pass]; omega) (by simp only [mR, mL, rmK, mX5_readPart, mX5_readProduct, mX5_readSum, mX5_readTest, mX5_readNot, mX5_readAnd, mX5_readExpr, mX5_couldBegin, mX5_isGoing, mX5_productStep, mX5_readNumber, mX5_readSign, mX5_readValue, mX5_stop, mX5_sumStep, mX5_testStep, mX6_add, mX9_isAnyWord, mX9_isNumber, mX9_isSign, mX9_isWord, mX9_pass]; omega) (Nat.le_of_ble_eq_true rfl) (Nat.le_refl 0) (Nat.le_refl 0) GK_E (fun v9 h9 hq => ?_) (fun E h9 hq => by cases hq.1)
    obtain ⟨e9, e8⟩ := hq
    cases e9
    rw [e8]
    show K (mX5_readTest d) _ _ 0 0 9 [(0, vr 63), (1, vi w)] [vi 1] hc1
    refine K_if_ne (tgt := 13) (dt_at dtX5_readTest 5 rfl) (by decide) (by first | assumption | exact ⟨by omega, by omega⟩) (fun c2 => ?_) (fun c2 => absurd c2 (by omega))
    refine K_aload_n (dt_at dtX5_readTest 7 rfl) rfl rfl ?_
    have sb9 := stp_b tp (tk tp n pq2)
    refine K_callV (M' := mX5_testStep) (a := 63) (ci := 5) (As := []) (st := []) (dt_at dtX5_readTest 8 rfl) (sX5_testStep Sq2.1) (show TT 63 = (0, 5) from rfl) rfl wL_X5_187 vX5_testStep rfl npX5_testStep (by simp only [mR, mL, rmK, mX5_readPart, mX5_readProduct, mX5_readSum, mX5_readTest, mX5_readNot, mX5_readAnd, mX5_readExpr, mX5_couldBegin, mX5_isGoing, mX5_productStep, mX5_readNumber, mX5_readSign, mX5_readValue, mX5_stop, mX5_sumStep, mX5_testStep, mX6_add, mX9_isAnyWord, mX9_isNumber, mX9_isSign, mX9_isWord, mX9_pass]; omega) (by simp only [mR, mL, rmK, mX5_readPart, mX5_readProduct, mX5_readSum, mX5_readTest, mX5_readNot, mX5_readAnd, mX5_readExpr, mX5_couldBegin, mX5_isGoing, mX5_productStep, mX5_readNumber, mX5_readSign, mX5_readValue, mX5_stop, mX5_sumStep, mX5_testStep, mX6_add, mX9_isAnyWord, mX9_isNumber, mX9_isSign, mX9_isWord, mX9_pass]; omega) (Nat.le_of_ble_eq_true rfl) (Nat.le_refl 0) (Nat.le_refl 0) GK_E (fun v9 h9 hq => ?_) (fun E h9 hq => by cases hq.1)
    obtain ⟨e9, e8⟩ := hq
    cases e9
    rw [e8]
    show K (mX5_readTest d) _ _ 0 0 17 [(0, vr 63), (1, vi w)] [vi (tstS tp (tk tp n pq2))] hc1
    refine K_istore_n (ls' := [(2, vi (tstS tp (tk tp n pq2))), (0, vr 63), (1, vi w)]) (dt_at dtX5_readTest 9 rfl) rfl (Nat.le_of_ble_eq_true rfl) rfl ?_
    refine K_iload_n (dt_at dtX5_readTest 10 rfl) rfl rfl ?_
    refine K_if_eq (tgt := 42) (dt_at dtX5_readTest 11 rfl) (by decide) (by first | assumption | exact ⟨by omega, by omega⟩) (fun c3 => ?_) (fun c3 => ?_)
    · exact K_vret (dt_at dtX5_readTest 22 rfl) rfl (Nat.le_refl 0) (Nat.le_refl 0) ⟨rfl, by rw [tsP_0 uq2 (by assumption)]; exact Sq2, Fq2⟩
    · refine K_aload_n (dt_at dtX5_readTest 12 rfl) rfl rfl ?_
      refine K_get (a := 63) (ci := 5) (k := 0) (v := vr 64) (dt_at dtX5_readTest 13 rfl) (show TT 63 = (0, 5) from rfl) rfl (by decide) wF_X5_12 rfl ?_
      have hne : tstS tp (tk tp n pq2) ≠ 0 := by assumption
      have ht := tk_lt (GS_n Sq2).1 (SO_t _ _ hne)
      refine K_callV (M' := mX9_pass) (a := 64) (ci := 9) (As := []) (st := []) (dt_at dtX5_readTest 14 rfl) (pass_S hr Sq2) (show TT 64 = (0, 9) from rfl) rfl wL_X5_97 vX9_pass rfl npX9_pass (by simp only [mR, mL, rmK, mX5_readPart, mX5_readProduct, mX5_readSum, mX5_readTest, mX5_readNot, mX5_readAnd, mX5_readExpr, mX5_couldBegin, mX5_isGoing, mX5_productStep, mX5_readNumber, mX5_readSign, mX5_readValue, mX5_stop, mX5_sumStep, mX5_testStep, mX6_add, mX9_isAnyWord, mX9_isNumber, mX9_isSign, mX9_isWord, mX9_pass]; omega) (by simp only [mR, mL, rmK, mX5_readPart, mX5_readProduct, mX5_readSum, mX5_readTest, mX5_readNot, mX5_readAnd, mX5_readExpr, mX5_couldBegin, mX5_isGoing, mX5_productStep, mX5_readNumber, mX5_readSign, mX5_readValue, mX5_stop, mX5_sumStep, mX5_testStep, mX6_add, mX9_isAnyWord, mX9_isNumber, mX9_isSign, mX9_isWord, mX9_pass]; omega) (Nat.le_of_ble_eq_true rfl) (Nat.le_refl 0) (Nat.le_refl 0) GK_E (fun v9 hc3 hq => ?_) (fun E h9 hq => by cases hq.1)
      have hqq4 := hq
      obtain ⟨e9q4, Sq4, Gq4⟩ := hqq4
      have Fq4 := RF_tr Fq2 Gq4
      cases e9q4
      show K (mX5_readTest d) _ _ 0 0 29 [(2, vi (tstS tp (tk tp n pq2))), (0, vr 63), (1, vi w)] [] hc3
      refine K_aload_n (dt_at dtX5_readTest 15 rfl) rfl rfl ?_
      refine K_iload_n (dt_at dtX5_readTest 16 rfl) rfl rfl ?_
      refine K_callV (M' := (mX5_readSum d)) (a := 63) (ci := 5) (As := [vi w]) (st := []) (dt_at dtX5_readTest 17 rfl) (hS _ _ _ Sq4 (by rw [List.length_append]; omega)) (show TT 63 = (0, 5) from rfl) rfl wL_X5_184 vX5_readSum rfl npX5_readSum (by simp only [mR, mL, rmK, mX5_readPart, mX5_readProduct, mX5_readSum, mX5_readTest, mX5_readNot, mX5_readAnd, mX5_readExpr, mX5_couldBegin, mX5_isGoing, mX5_productStep, mX5_readNumber, mX5_readSign, mX5_readValue, mX5_stop, mX5_sumStep, mX5_testStep, mX6_add, mX9_isAnyWord, mX9_isNumber, mX9_isSign, mX9_isWord, mX9_pass]; omega) (by simp only [mR, mL, rmK, mX5_readPart, mX5_readProduct, mX5_readSum, mX5_readTest, mX5_readNot, mX5_readAnd, mX5_readExpr, mX5_couldBegin, mX5_isGoing, mX5_productStep, mX5_readNumber, mX5_readSign, mX5_readValue, mX5_stop, mX5_sumStep, mX5_testStep, mX6_add, mX9_isAnyWord, mX9_isNumber, mX9_isSign, mX9_isWord, mX9_pass]; omega) (Nat.le_of_ble_eq_true rfl) (Nat.le_refl 0) (Nat.le_refl 0) GK_E (fun v9 hc5 hq => ?_) (fun E h9 hq => by cases hq.1)
      have hqq6 := hq
      obtain ⟨e9q6, Pq6, Gq6⟩ := hqq6
      have Fq6 := RF_tr Fq4 Gq6
      cases e9q6
      show K (mX5_readTest d) _ _ 0 0 34 [(2, vi (tstS tp (tk tp n pq2))), (0, vr 63), (1, vi w)] [] hc5
      rcases uq6 : lvP tp n (lvP tp n (paP tp n pu (exP tp n pu d)) prdS) sumS ((tk tp n pq2).2.2) with ⟨ekq6, epq6⟩ | ⟨pq6, Mq6⟩
      · rw [uq6] at Pq6
        have Sq6 : ES hc5 tp n r (ekq6, epq6) := Pq6
        refine K_aload_n (dt_at dtX5_readTest 18 rfl) rfl rfl ?_
        refine K_get (a := 63) (ci := 5) (k := 2) (v := vr r) (dt_at dtX5_readTest 19 rfl) (show TT 63 = (0, 5) from rfl) rfl (by decide) wF_X5_39 (by show vr (hR hc5 63 2) = vr r; rw [Sq6.2.1]) ?_
        refine K_iload_n (dt_at dtX5_readTest 20 rfl) rfl rfl ?_
        refine K_callV (M' := mX6_add) (a := r) (ci := 6) (As := [vi (tstS tp (tk tp n pq2))]) (st := []) (dt_at dtX5_readTest 21 rfl) (add_E hr Sq6) (RR_T hr) rfl wL_X5_168 vX6_add rfl npX6_add (by simp only [mR, mL, rmK, mX5_readPart, mX5_readProduct, mX5_readSum, mX5_readTest, mX5_readNot, mX5_readAnd, mX5_readExpr, mX5_couldBegin, mX5_isGoing, mX5_productStep, mX5_readNumber, mX5_readSign, mX5_readValue, mX5_stop, mX5_sumStep, mX5_testStep, mX6_add, mX9_isAnyWord, mX9_isNumber, mX9_isSign, mX9_isWord, mX9_pass]; omega) (by simp only [mR, mL, rmK, mX5_readPart, mX5_readProduct, mX5_readSum, mX5_readTest, mX5_readNot, mX5_readAnd, mX5_readExpr, mX5_couldBegin, mX5_isGoing, mX5_productStep, mX5_readNumber, mX5_readSign, mX5_readValue, mX5_stop, mX5_sumStep, mX5_testStep, mX6_add, mX9_isAnyWord, mX9_isNumber, mX9_isSign, mX9_isWord, mX9_pass]; omega) (Nat.le_of_ble_eq_true rfl) (Nat.le_refl 0) (Nat.le_refl 0) GK_E (fun v9 hc7 hq => ?_) (fun E h9 hq => by cases hq.1)
        have hqq8 := hq
        obtain ⟨e9q8, Sq8, Gq8⟩ := hqq8
        have Fq8 := RF_tr Fq6 Gq8
        cases e9q8
        show K (mX5_readTest d) _ _ 0 0 42 [(2, vi (tstS tp (tk tp n pq2))), (0, vr 63), (1, vi w)] [] hc7
        exact K_vret (dt_at dtX5_readTest 22 rfl) rfl (Nat.le_refl 0) (Nat.le_refl 0) ⟨rfl, by rw [tsP_f uq2 hne uq6]; exact Sq8, Fq8⟩
      · rw [uq6] at Pq6
        have Sq6 : GS hc5 tp n r pu ((L ++ Mq2) ++ Mq6) pq6 := Pq6
        have bq6 := (PO_lv (PO_lv (PO_pa (PO_ex d)) SO_p) SO_s) _ _ _ (GS_n Sq4).1 uq6
        refine K_aload_n (dt_at dtX5_readTest 18 rfl) rfl rfl ?_
        refine K_get (a := 63) (ci := 5) (k := 2) (v := vr r) (dt_at dtX5_readTest 19 rfl) (show TT 63 = (0, 5) from rfl) rfl (by decide) wF_X5_39 (by show vr (hR hc5 63 2) = vr r; rw [Sq6.2.1]) ?_
        refine K_iload_n (dt_at dtX5_readTest 20 rfl) rfl rfl ?_
        have hadd : (((L ++ Mq2) ++ Mq6)).length < 700 := by rw [List.length_append, List.length_append]; omega
        refine K_callV (M' := mX6_add) (a := r) (ci := 6) (As := [vi (tstS tp (tk tp n pq2))]) (st := []) (dt_at dtX5_readTest 21 rfl) (add_G hr Sq6 (hadd)) (RR_T hr) rfl wL_X5_168 vX6_add rfl npX6_add (by simp only [mR, mL, rmK, mX5_readPart, mX5_readProduct, mX5_readSum, mX5_readTest, mX5_readNot, mX5_readAnd, mX5_readExpr, mX5_couldBegin, mX5_isGoing, mX5_productStep, mX5_readNumber, mX5_readSign, mX5_readValue, mX5_stop, mX5_sumStep, mX5_testStep, mX6_add, mX9_isAnyWord, mX9_isNumber, mX9_isSign, mX9_isWord, mX9_pass]; omega) (by simp only [mR, mL, rmK, mX5_readPart, mX5_readProduct, mX5_readSum, mX5_readTest, mX5_readNot, mX5_readAnd, mX5_readExpr, mX5_couldBegin, mX5_isGoing, mX5_productStep, mX5_readNumber, mX5_readSign, mX5_readValue, mX5_stop, mX5_sumStep, mX5_testStep, mX6_add, mX9_isAnyWord, mX9_isNumber, mX9_isSign, mX9_isWord, mX9_pass]; omega) (Nat.le_of_ble_eq_true rfl) (Nat.le_refl 0) (Nat.le_refl 0) GK_E (fun v9 hc9 hq => ?_) (fun E h9 hq => by cases hq.1)
        have hqq10 := hq
        obtain ⟨e9q10, Sq10, Gq10⟩ := hqq10
        have Fq10 := RF_tr Fq6 Gq10
        cases e9q10
        show K (mX5_readTest d) _ _ 0 0 42 [(2, vi (tstS tp (tk tp n pq2))), (0, vr 63), (1, vi w)] [] hc9
        exact K_vret (dt_at dtX5_readTest 22 rfl) rfl (Nat.le_refl 0) (Nat.le_refl 0) ⟨rfl, by rw [tsP_g uq2 hne uq6]; show GS _ _ _ _ _ _ _; simpa only [List.append_assoc] using Sq10, Fq10⟩
section NT
variable {M : MI} {G : CT → Prop} {Z : CT → State → Prop} {nc ns pc : Nat} {ls : List (Nat × AV)} {st : List AV} {h : HP} {tp : Int → Int} {n k f p : Nat}
theorem nt_go (hw : isWb tp (tk tp n p) 4 = true) (z : K M G Z nc ns pc ((2, vi ((k + (ntP tp n (f + 1) p).1 : Nat) : Int)) :: ls) st h) : K M G Z nc ns pc ((2, vi ((k + 1 + (ntP tp n f (tk tp n p).2.2).1 : Nat) : Int)) :: ls) st h := by
  rw [ntP_t hw] at z
  have e : k + 1 + (ntP tp n f (tk tp n p).2.2).1 = k + ((ntP tp n f (tk tp n p).2.2).1 + 1) := by omega
  rw [e]
  exact z
theorem nt_no (hw : ¬ isWb tp (tk tp n p) 4 = true) (z : K M G Z nc ns pc ((2, vi ((k + (ntP tp n f p).1 : Nat) : Int)) :: ls) st h) : K M G Z nc ns pc ((2, vi (k : Int)) :: ls) st h := by
  rw [ntP_f hw] at z
  exact z
end NT
set_option maxHeartbeats 4000000 in
set_option maxRecDepth 100000 in
theorem lp_X5_readNot1 {Z : CT → State → Prop} {d : Nat} {w : Int} {tp : Int → Int} {n r : Nat} {pu : Int} {h : HP} {L : List Int} (hr : RR r) : ∀ (d9 k : Nat) (hh : HP) (p : Nat), k + d9 = 6 → GS hh tp n r pu L p → RF r h hh → (∀ h2 : HP, GS h2 tp n r pu L (ntP tp n d9 p).2 → RF r h h2 → K (mX5_readNot d) GK Z 0 0 33 [(2, vi ((k + (ntP tp n d9 p).1 : Nat) : Int)), (0, vr 63), (1, vi w)] [] h2) → K (mX5_readNot d) GK Z 0 0 2 [(2, vi (k : Int)), (0, vr 63), (1, vi w)] [] hh := by
  intro d9
  induction d9 with
  | zero =>
    intro k hh p hk Sh Fh kx
    refine K_iload_n (dt_at dtX5_readNot 2 rfl) rfl rfl ?_
    refine K_bipush (dt_at dtX5_readNot 3 rfl) (by decide) ?_
    refine K_icmp_ge (tgt := 33) (dt_at dtX5_readNot 4 rfl) (by decide) (by first | assumption | exact ⟨by omega, by omega⟩) (by first | assumption | exact ⟨by omega, by omega⟩) (fun c1 => ?_) (fun c1 => absurd c1 (by omega))
    exact kx hh Sh Fh
  | succ d9 ih =>
    intro k hh p hk Sh Fh kx
    refine K_iload_n (dt_at dtX5_readNot 2 rfl) rfl rfl ?_
    refine K_bipush (dt_at dtX5_readNot 3 rfl) (by decide) ?_
    refine K_icmp_ge (tgt := 33) (dt_at dtX5_readNot 4 rfl) (by decide) (by first | assumption | exact ⟨by omega, by omega⟩) (by first | assumption | exact ⟨by omega, by omega⟩) (fun c1 => absurd c1 (by omega)) (fun c1 => ?_)
    refine K_aload_n (dt_at dtX5_readNot 5 rfl) rfl rfl ?_
    refine K_get (a := 63) (ci := 5) (k := 0) (v := vr 64) (dt_at dtX5_readNot 6 rfl) (show TT 63 = (0, 5) from rfl) rfl (by decide) wF_X5_12 rfl ?_
    refine K_ldcS (i := 4) (dt_at dtX5_readNot 7 rfl) rfl GK_E ?_
    refine K_callV (M' := mX9_isWord) (a := 64) (ci := 9) (As := [vs 5]) (st := []) (dt_at dtX5_readNot 8 rfl) (sX9_isWord (i := 4) Sh.1.1 Sh.1.2.1 (tk_G Sh.1.2.2.1) (by decide)) (show TT 64 = (0, 9) from rfl) rfl wL_X5_65 vX9_isWord rfl npX9_isWord (by simp only [mR, mL, rmK, mX5_readPart, mX5_readProduct, mX5_readSum, mX5_readTest, mX5_readNot, mX5_readAnd, mX5_readExpr, mX5_couldBegin, mX5_isGoing, mX5_productStep, mX5_readNumber, mX5_readSign, mX5_readValue, mX5_stop, mX5_sumStep, mX5_testStep, mX6_add, mX9_isAnyWord, mX9_isNumber, mX9_isSign, mX9_isWord, mX9_pass]; omega) (by simp only [mR, mL, rmK, mX5_readPart, mX5_readProduct, mX5_readSum, mX5_readTest, mX5_readNot, mX5_readAnd, mX5_readExpr, mX5_couldBegin, mX5_isGoing, mX5_productStep, mX5_readNumber, mX5_readSign, mX5_readValue, mX5_stop, mX5_sumStep, mX5_testStep, mX6_add, mX9_isAnyWord, mX9_isNumber, mX9_isSign, mX9_isWord, mX9_pass]; omega) (Nat.le_of_ble_eq_true rfl) (Nat.le_refl 0) (Nat.le_refl 0) GK_E (fun v9 h9 hq => ?_) (fun E h9 hq => by cases hq.1)
    obtain ⟨e9, e8⟩ := hq
    cases e9
    rw [e8]
    show K (mX5_readNot d) _ _ 0 0 17 [(2, vi (k : Int)), (0, vr 63), (1, vi w)] [vi (if isWb tp (tk tp n p) 4 = true then 1 else 0)] hh
    by_cases z2 : isWb tp (tk tp n p) 4 = true
    · rw [if_pos z2]
      refine K_if_eq (tgt := 33) (dt_at dtX5_readNot 9 rfl) (by decide) (by first | assumption | exact ⟨by omega, by omega⟩) (fun c3 => absurd c3 (by omega)) (fun c3 => ?_)
      refine K_aload_n (dt_at dtX5_readNot 10 rfl) rfl rfl ?_
      refine K_get (a := 63) (ci := 5) (k := 0) (v := vr 64) (dt_at dtX5_readNot 11 rfl) (show TT 63 = (0, 5) from rfl) rfl (by decide) wF_X5_12 rfl ?_
      refine K_callV (M' := mX9_pass) (a := 64) (ci := 9) (As := []) (st := []) (dt_at dtX5_readNot 12 rfl) (pass_S hr Sh) (show TT 64 = (0, 9) from rfl) rfl wL_X5_97 vX9_pass rfl npX9_pass (by simp only [mR, mL, rmK, mX5_readPart, mX5_readProduct, mX5_readSum, mX5_readTest, mX5_readNot, mX5_readAnd, mX5_readExpr, mX5_couldBegin, mX5_isGoing, mX5_productStep, mX5_readNumber, mX5_readSign, mX5_readValue, mX5_stop, mX5_sumStep, mX5_testStep, mX6_add, mX9_isAnyWord, mX9_isNumber, mX9_isSign, mX9_isWord, mX9_pass]; omega) (by simp only [mR, mL, rmK, mX5_readPart, mX5_readProduct, mX5_readSum, mX5_readTest, mX5_readNot, mX5_readAnd, mX5_readExpr, mX5_couldBegin, mX5_isGoing, mX5_productStep, mX5_readNumber, mX5_readSign, mX5_readValue, mX5_stop, mX5_sumStep, mX5_testStep, mX6_add, mX9_isAnyWord, mX9_isNumber, mX9_isSign, mX9_isWord, mX9_pass]; omega) (Nat.le_of_ble_eq_true rfl) (Nat.le_refl 0) (Nat.le_refl 0) GK_E (fun v9 hc1 hq => ?_) (fun E h9 hq => by cases hq.1)
      have hqq2 := hq
      obtain ⟨e9q2, Sq2, Gq2⟩ := hqq2
      have Fq2 := RF_tr Fh Gq2
      cases e9q2
      show K (mX5_readNot d) _ _ 0 0 27 [(2, vi (k : Int)), (0, vr 63), (1, vi w)] [] hc1
      refine K_iinc (ls' := [(2, vi ((k : Int) + 1)), (0, vr 63), (1, vi w)]) (dt_at dtX5_readNot 13 rfl) rfl (Nat.le_of_ble_eq_true rfl) rfl ?_
      refine K_goto (tgt := 2) (dt_at dtX5_readNot 14 rfl) (by decide) ?_
      refine K_pk [0, 1, 2] (ls' := [(2, vi ((k + 1 : Nat) : Int)), (0, vr 63), (1, vi w)]) rfl ?_
      exact ih (k + 1) hc1 _ (by omega) Sq2 Fq2 (fun h2 s2 f2 => nt_go (by assumption) (kx h2 (by rw [ntP_t (by assumption)]; exact s2) f2))
    · rw [if_neg z2]
      refine K_if_eq (tgt := 33) (dt_at dtX5_readNot 9 rfl) (by decide) (by first | assumption | exact ⟨by omega, by omega⟩) (fun c4 => ?_) (fun c4 => absurd c4 (by omega))
      exact nt_no (by assumption) (kx hh (by rw [ntP_f (by assumption)]; exact Sh) Fh)
set_option maxHeartbeats 4000000 in
set_option maxRecDepth 100000 in
theorem lp_X5_readNot2 {Z : CT → State → Prop} {d : Nat} {w : Int} {tp : Int → Int} {n r : Nat} {pu : Int} {h : HP} {L : List Int} {q c : Nat} (hr : RR r) (hc : c ≤ 6) (hl : L.length + c ≤ 700) : ∀ (d9 k : Nat) (hh : HP), k + d9 = c → GS hh tp n r pu (L ++ List.replicate k (-9)) q → RF r h hh → (∀ h2 : HP, GS h2 tp n r pu (L ++ List.replicate c (-9)) q → RF r h h2 → K (mX5_readNot d) GK Z 0 0 84 [(3, vi (c : Int)), (2, vi (c : Int)), (0, vr 63), (1, vi w)] [] h2) → K (mX5_readNot d) GK Z 0 0 64 [(3, vi (k : Int)), (2, vi (c : Int)), (0, vr 63), (1, vi w)] [] hh := by
  intro d9
  induction d9 with
  | zero =>
    intro k hh hk Sh Fh kx
    obtain rfl : k = c := by omega
    refine K_iload_n (dt_at dtX5_readNot 32 rfl) rfl rfl ?_
    refine K_iload_n (dt_at dtX5_readNot 33 rfl) rfl rfl ?_
    refine K_icmp_ge (tgt := 84) (dt_at dtX5_readNot 34 rfl) (by decide) (by first | assumption | exact ⟨by omega, by omega⟩) (by first | assumption | exact ⟨by omega, by omega⟩) (fun c1 => ?_) (fun c1 => absurd c1 (by omega))
    exact kx hh Sh Fh
  | succ d9 ih =>
    intro k hh hk Sh Fh kx
    have hadd : (L ++ List.replicate k (-9)).length < 700 := by rw [List.length_append, List.length_replicate]; omega
    refine K_iload_n (dt_at dtX5_readNot 32 rfl) rfl rfl ?_
    refine K_iload_n (dt_at dtX5_readNot 33 rfl) rfl rfl ?_
    refine K_icmp_ge (tgt := 84) (dt_at dtX5_readNot 34 rfl) (by decide) (by first | assumption | exact ⟨by omega, by omega⟩) (by first | assumption | exact ⟨by omega, by omega⟩) (fun c1 => absurd c1 (by omega)) (fun c1 => ?_)
    refine K_aload_n (dt_at dtX5_readNot 35 rfl) rfl rfl ?_
    refine K_get (a := 63) (ci := 5) (k := 2) (v := vr r) (dt_at dtX5_readNot 36 rfl) (show TT 63 = (0, 5) from rfl) rfl (by decide) wF_X5_39 (by show vr (hR hh 63 2) = vr r; rw [Sh.2.1]) ?_
    refine K_bipush (dt_at dtX5_readNot 37 rfl) (by decide) ?_
    refine K_callV (M' := mX6_add) (a := r) (ci := 6) (As := [vi (-9)]) (st := []) (dt_at dtX5_readNot 38 rfl) (add_G hr Sh (hadd)) (RR_T hr) rfl wL_X5_168 vX6_add rfl npX6_add (by simp only [mR, mL, rmK, mX5_readPart, mX5_readProduct, mX5_readSum, mX5_readTest, mX5_readNot, mX5_readAnd, mX5_readExpr, mX5_couldBegin, mX5_isGoing, mX5_productStep, mX5_readNumber, mX5_readSign, mX5_readValue, mX5_stop, mX5_sumStep, mX5_testStep, mX6_add, mX9_isAnyWord, mX9_isNumber, mX9_isSign, mX9_isWord, mX9_pass]; omega) (by simp only [mR, mL, rmK, mX5_readPart, mX5_readProduct, mX5_readSum, mX5_readTest, mX5_readNot, mX5_readAnd, mX5_readExpr, mX5_couldBegin, mX5_isGoing, mX5_productStep, mX5_readNumber, mX5_readSign, mX5_readValue, mX5_stop, mX5_sumStep, mX5_testStep, mX6_add, mX9_isAnyWord, mX9_isNumber, mX9_isSign, mX9_isWord, mX9_pass]; omega) (Nat.le_of_ble_eq_true rfl) (Nat.le_refl 0) (Nat.le_refl 0) GK_E (fun v9 hc1 hq => ?_) (fun E h9 hq => by cases hq.1)
    have hqq2 := hq
    obtain ⟨e9q2, Sq2, Gq2⟩ := hqq2
    have Fq2 := RF_tr Fh Gq2
    cases e9q2
    show K (mX5_readNot d) _ _ 0 0 78 [(3, vi (k : Int)), (2, vi (c : Int)), (0, vr 63), (1, vi w)] [] hc1
    refine K_iinc (ls' := [(3, vi ((k : Int) + 1)), (2, vi (c : Int)), (0, vr 63), (1, vi w)]) (dt_at dtX5_readNot 39 rfl) rfl (Nat.le_of_ble_eq_true rfl) rfl ?_
    refine K_goto (tgt := 64) (dt_at dtX5_readNot 40 rfl) (by decide) ?_
    refine K_pk [0, 1, 2, 3] (ls' := [(3, vi ((k + 1 : Nat) : Int)), (2, vi (c : Int)), (0, vr 63), (1, vi w)]) rfl ?_
    exact ih (k + 1) hc1 (by omega) (by rw [List.replicate_succ', ← List.append_assoc]; exact Sq2) Fq2 kx
set_option maxHeartbeats 4000000 in
set_option maxRecDepth 100000 in
theorem lp_X5_readNot3 {Z : CT → State → Prop} {d : Nat} {w : Int} {tp : Int → Int} {n r : Nat} {h : HP} {e : Int × Nat} {c : Nat} (hr : RR r) (hc : c ≤ 6) : ∀ (d9 k : Nat) (hh : HP), k + d9 = c → ES hh tp n r e → RF r h hh → (∀ h2 : HP, ES h2 tp n r e → RF r h h2 → K (mX5_readNot d) GK Z 0 0 84 [(3, vi (c : Int)), (2, vi (c : Int)), (0, vr 63), (1, vi w)] [] h2) → K (mX5_readNot d) GK Z 0 0 64 [(3, vi (k : Int)), (2, vi (c : Int)), (0, vr 63), (1, vi w)] [] hh := by
  intro d9
  induction d9 with
  | zero =>
    intro k hh hk Sh Fh kx
    obtain rfl : k = c := by omega
    refine K_iload_n (dt_at dtX5_readNot 32 rfl) rfl rfl ?_
    refine K_iload_n (dt_at dtX5_readNot 33 rfl) rfl rfl ?_
    refine K_icmp_ge (tgt := 84) (dt_at dtX5_readNot 34 rfl) (by decide) (by first | assumption | exact ⟨by omega, by omega⟩) (by first | assumption | exact ⟨by omega, by omega⟩) (fun c1 => ?_) (fun c1 => absurd c1 (by omega))
    exact kx hh Sh Fh
  | succ d9 ih =>
    intro k hh hk Sh Fh kx
    refine K_iload_n (dt_at dtX5_readNot 32 rfl) rfl rfl ?_
    refine K_iload_n (dt_at dtX5_readNot 33 rfl) rfl rfl ?_
    refine K_icmp_ge (tgt := 84) (dt_at dtX5_readNot 34 rfl) (by decide) (by first | assumption | exact ⟨by omega, by omega⟩) (by first | assumption | exact ⟨by omega, by omega⟩) (fun c1 => absurd c1 (by omega)) (fun c1 => ?_)
    refine K_aload_n (dt_at dtX5_readNot 35 rfl) rfl rfl ?_
    refine K_get (a := 63) (ci := 5) (k := 2) (v := vr r) (dt_at dtX5_readNot 36 rfl) (show TT 63 = (0, 5) from rfl) rfl (by decide) wF_X5_39 (by show vr (hR hh 63 2) = vr r; rw [Sh.2.1]) ?_
    refine K_bipush (dt_at dtX5_readNot 37 rfl) (by decide) ?_
    refine K_callV (M' := mX6_add) (a := r) (ci := 6) (As := [vi (-9)]) (st := []) (dt_at dtX5_readNot 38 rfl) (add_E hr Sh) (RR_T hr) rfl wL_X5_168 vX6_add rfl npX6_add (by simp only [mR, mL, rmK, mX5_readPart, mX5_readProduct, mX5_readSum, mX5_readTest, mX5_readNot, mX5_readAnd, mX5_readExpr, mX5_couldBegin, mX5_isGoing, mX5_productStep, mX5_readNumber, mX5_readSign, mX5_readValue, mX5_stop, mX5_sumStep, mX5_testStep, mX6_add, mX9_isAnyWord, mX9_isNumber, mX9_isSign, mX9_isWord, mX9_pass]; omega) (by simp only [mR, mL, rmK, mX5_readPart, mX5_readProduct, mX5_readSum, mX5_readTest, mX5_readNot, mX5_readAnd, mX5_readExpr, mX5_couldBegin, mX5_isGoing, mX5_productStep, mX5_readNumber, mX5_readSign, mX5_readValue, mX5_stop, mX5_sumStep, mX5_testStep, mX6_add, mX9_isAnyWord, mX9_isNumber, mX9_isSign, mX9_isWord, mX9_pass]; omega) (Nat.le_of_ble_eq_true rfl) (Nat.le_refl 0) (Nat.le_refl 0) GK_E (fun v9 hc1 hq => ?_) (fun E h9 hq => by cases hq.1)
    have hqq2 := hq
    obtain ⟨e9q2, Sq2, Gq2⟩ := hqq2
    have Fq2 := RF_tr Fh Gq2
    cases e9q2
    show K (mX5_readNot d) _ _ 0 0 78 [(3, vi (k : Int)), (2, vi (c : Int)), (0, vr 63), (1, vi w)] [] hc1
    refine K_iinc (ls' := [(3, vi ((k : Int) + 1)), (2, vi (c : Int)), (0, vr 63), (1, vi w)]) (dt_at dtX5_readNot 39 rfl) rfl (Nat.le_of_ble_eq_true rfl) rfl ?_
    refine K_goto (tgt := 64) (dt_at dtX5_readNot 40 rfl) (by decide) ?_
    refine K_pk [0, 1, 2, 3] (ls' := [(3, vi ((k + 1 : Nat) : Int)), (2, vi (c : Int)), (0, vr 63), (1, vi w)]) rfl ?_
    exact ih (k + 1) hc1 (by omega) Sq2 Fq2 kx
set_option maxHeartbeats 4000000 in
set_option maxRecDepth 100000 in
theorem nt_X5_readNot {d : Nat} {w : Int} {tp : Int → Int} {n r : Nat} {pu : Int} {h : HP} {L : List Int} {hh : HP} {p c : Nat} (hr : RR r) (hS : SB (mX5_readTest d) w tp n r pu (tsP tp n (lvP tp n (lvP tp n (paP tp n pu (exP tp n pu d)) prdS) sumS))) (hc : c ≤ 6) (hl : L.length + c ≤ p) (Sh : GS hh tp n r pu L p) (Fh : RF r h hh) : K (mX5_readNot d) GK (ZK (fun o h' => o = .inl none ∧ PS h' tp n r pu L (noE tp n (tsP tp n (lvP tp n (lvP tp n (paP tp n pu (exP tp n pu d)) prdS) sumS)) c p) ∧ RF r h h') 0 0) 0 0 33 [(2, vi (c : Int)), (0, vr 63), (1, vi w)] [] hh := by
  have hn0 := GS_n Sh
  refine K_iload_n (dt_at dtX5_readNot 15 rfl) rfl rfl ?_
  refine K_bipush (dt_at dtX5_readNot 16 rfl) (by decide) ?_
  refine K_icmp_ne (tgt := 57) (dt_at dtX5_readNot 17 rfl) (by decide) (by first | assumption | exact ⟨by omega, by omega⟩) (by first | assumption | exact ⟨by omega, by omega⟩) (fun c1 => ?_) (fun c1 => ?_)
  · have hnn : ¬ (c = 6 ∧ isWb tp (tk tp n p) 4 = true) := by first | (intro z; omega) | (intro z; exact absurd z.2 (by assumption))
    refine K_aload_n (dt_at dtX5_readNot 27 rfl) rfl rfl ?_
    refine K_iload_n (dt_at dtX5_readNot 28 rfl) rfl rfl ?_
    refine K_callV (M' := (mX5_readTest d)) (a := 63) (ci := 5) (As := [vi w]) (st := []) (dt_at dtX5_readNot 29 rfl) (hS _ _ _ Sh (by omega)) (show TT 63 = (0, 5) from rfl) rfl wL_X5_181 vX5_readTest rfl npX5_readTest (by simp only [mR, mL, rmK, mX5_readPart, mX5_readProduct, mX5_readSum, mX5_readTest, mX5_readNot, mX5_readAnd, mX5_readExpr, mX5_couldBegin, mX5_isGoing, mX5_productStep, mX5_readNumber, mX5_readSign, mX5_readValue, mX5_stop, mX5_sumStep, mX5_testStep, mX6_add, mX9_isAnyWord, mX9_isNumber, mX9_isSign, mX9_isWord, mX9_pass]; omega) (by simp only [mR, mL, rmK, mX5_readPart, mX5_readProduct, mX5_readSum, mX5_readTest, mX5_readNot, mX5_readAnd, mX5_readExpr, mX5_couldBegin, mX5_isGoing, mX5_productStep, mX5_readNumber, mX5_readSign, mX5_readValue, mX5_stop, mX5_sumStep, mX5_testStep, mX6_add, mX9_isAnyWord, mX9_isNumber, mX9_isSign, mX9_isWord, mX9_pass]; omega) (Nat.le_of_ble_eq_true rfl) (Nat.le_refl 0) (Nat.le_refl 0) GK_E (fun v9 hc1 hq => ?_) (fun E h9 hq => by cases hq.1)
    have hqq2 := hq
    obtain ⟨e9q2, Pq2, Gq2⟩ := hqq2
    have Fq2 := RF_tr Fh Gq2
    cases e9q2
    show K (mX5_readNot d) _ _ 0 0 62 [(2, vi (c : Int)), (0, vr 63), (1, vi w)] [] hc1
    rcases uq2 : tsP tp n (lvP tp n (lvP tp n (paP tp n pu (exP tp n pu d)) prdS) sumS) p with ⟨ekq2, epq2⟩ | ⟨pq2, Mq2⟩
    · rw [uq2] at Pq2
      have Sq2 : ES hc1 tp n r (ekq2, epq2) := Pq2
      refine K_iconst (dt_at dtX5_readNot 30 rfl) ?_
      refine K_istore_n (ls' := [(3, vi 0), (2, vi (c : Int)), (0, vr 63), (1, vi w)]) (dt_at dtX5_readNot 31 rfl) rfl (Nat.le_of_ble_eq_true rfl) rfl ?_
      refine K_pk [0, 1, 2, 3] (ls' := [(3, vi ((0 : Nat) : Int)), (2, vi (c : Int)), (0, vr 63), (1, vi w)]) rfl (lp_X5_readNot3 (h := h) (e := (ekq2, epq2)) hr hc c 0 hc1 (by omega) Sq2 Fq2 (fun h3 S3 F3 => ?_))
      exact K_vret (dt_at dtX5_readNot 41 rfl) rfl (Nat.le_refl 0) (Nat.le_refl 0) ⟨rfl, by rw [noE_e hnn uq2]; exact S3, F3⟩
    · rw [uq2] at Pq2
      have Sq2 : GS hc1 tp n r pu (L ++ Mq2) pq2 := Pq2
      have bq2 := (PO_ts (PO_lv (PO_lv (PO_pa (PO_ex d)) SO_p) SO_s)) _ _ _ (GS_n Sh).1 uq2
      refine K_iconst (dt_at dtX5_readNot 30 rfl) ?_
      refine K_istore_n (ls' := [(3, vi 0), (2, vi (c : Int)), (0, vr 63), (1, vi w)]) (dt_at dtX5_readNot 31 rfl) rfl (Nat.le_of_ble_eq_true rfl) rfl ?_
      refine K_pk [0, 1, 2, 3] (ls' := [(3, vi ((0 : Nat) : Int)), (2, vi (c : Int)), (0, vr 63), (1, vi w)]) rfl (lp_X5_readNot2 (h := h) (L := L ++ Mq2) (q := pq2) hr hc (by rw [List.length_append]; omega) c 0 hc1 (by omega) (by rw [List.replicate_zero, List.append_nil]; exact Sq2) Fq2 (fun h3 S3 F3 => ?_))
      exact K_vret (dt_at dtX5_readNot 41 rfl) rfl (Nat.le_refl 0) (Nat.le_refl 0) ⟨rfl, by rw [noE_g hnn uq2]; show GS _ _ _ _ _ _ _; rw [← List.append_assoc]; exact S3, F3⟩
  · refine K_aload_n (dt_at dtX5_readNot 18 rfl) rfl rfl ?_
    refine K_get (a := 63) (ci := 5) (k := 0) (v := vr 64) (dt_at dtX5_readNot 19 rfl) (show TT 63 = (0, 5) from rfl) rfl (by decide) wF_X5_12 rfl ?_
    refine K_ldcS (i := 4) (dt_at dtX5_readNot 20 rfl) rfl GK_E ?_
    refine K_callV (M' := mX9_isWord) (a := 64) (ci := 9) (As := [vs 5]) (st := []) (dt_at dtX5_readNot 21 rfl) (sX9_isWord (i := 4) Sh.1.1 Sh.1.2.1 (tk_G Sh.1.2.2.1) (by decide)) (show TT 64 = (0, 9) from rfl) rfl wL_X5_65 vX9_isWord rfl npX9_isWord (by simp only [mR, mL, rmK, mX5_readPart, mX5_readProduct, mX5_readSum, mX5_readTest, mX5_readNot, mX5_readAnd, mX5_readExpr, mX5_couldBegin, mX5_isGoing, mX5_productStep, mX5_readNumber, mX5_readSign, mX5_readValue, mX5_stop, mX5_sumStep, mX5_testStep, mX6_add, mX9_isAnyWord, mX9_isNumber, mX9_isSign, mX9_isWord, mX9_pass]; omega) (by simp only [mR, mL, rmK, mX5_readPart, mX5_readProduct, mX5_readSum, mX5_readTest, mX5_readNot, mX5_readAnd, mX5_readExpr, mX5_couldBegin, mX5_isGoing, mX5_productStep, mX5_readNumber, mX5_readSign, mX5_readValue, mX5_stop, mX5_sumStep, mX5_testStep, mX6_add, mX9_isAnyWord, mX9_isNumber, mX9_isSign, mX9_isWord, mX9_pass]; omega) (Nat.le_of_ble_eq_true rfl) (Nat.le_refl 0) (Nat.le_refl 0) GK_E (fun v9 h9 hq => ?_) (fun E h9 hq => by cases hq.1)
    obtain ⟨e9, e8⟩ := hq
    cases e9
    rw [e8]
    show K (mX5_readNot d) _ _ 0 0 48 [(2, vi (c : Int)), (0, vr 63), (1, vi w)] [vi (if isWb tp (tk tp n p) 4 = true then 1 else 0)] hh
    by_cases z2 : isWb tp (tk tp n p) 4 = true
    · rw [if_pos z2]
      refine K_if_eq (tgt := 57) (dt_at dtX5_readNot 22 rfl) (by decide) (by first | assumption | exact ⟨by omega, by omega⟩) (fun c3 => absurd c3 (by omega)) (fun c3 => ?_)
      refine K_aload_n (dt_at dtX5_readNot 23 rfl) rfl rfl ?_
      refine K_iconst (dt_at dtX5_readNot 24 rfl) ?_
      refine K_callV (M' := mX5_stop) (a := 63) (ci := 5) (As := [vi 2]) (st := []) (dt_at dtX5_readNot 25 rfl) (stop_S hr Sh (by omega) ⟨by omega, by omega⟩) (show TT 63 = (0, 5) from rfl) rfl wL_X5_86 vX5_stop rfl npX5_stop (by simp only [mR, mL, rmK, mX5_readPart, mX5_readProduct, mX5_readSum, mX5_readTest, mX5_readNot, mX5_readAnd, mX5_readExpr, mX5_couldBegin, mX5_isGoing, mX5_productStep, mX5_readNumber, mX5_readSign, mX5_readValue, mX5_stop, mX5_sumStep, mX5_testStep, mX6_add, mX9_isAnyWord, mX9_isNumber, mX9_isSign, mX9_isWord, mX9_pass]; omega) (by simp only [mR, mL, rmK, mX5_readPart, mX5_readProduct, mX5_readSum, mX5_readTest, mX5_readNot, mX5_readAnd, mX5_readExpr, mX5_couldBegin, mX5_isGoing, mX5_productStep, mX5_readNumber, mX5_readSign, mX5_readValue, mX5_stop, mX5_sumStep, mX5_testStep, mX6_add, mX9_isAnyWord, mX9_isNumber, mX9_isSign, mX9_isWord, mX9_pass]; omega) (Nat.le_of_ble_eq_true rfl) (Nat.le_refl 0) (Nat.le_refl 0) GK_E (fun v9 hc3 hq => ?_) (fun E h9 hq => by cases hq.1)
      have hqq4 := hq
      obtain ⟨e9q4, Sq4, Gq4⟩ := hqq4
      have Fq4 := RF_tr Fh Gq4
      cases e9q4
      show K (mX5_readNot d) _ _ 0 0 56 [(2, vi (c : Int)), (0, vr 63), (1, vi w)] [] hc3
      exact K_vret (dt_at dtX5_readNot 26 rfl) rfl (Nat.le_refl 0) (Nat.le_refl 0) ⟨rfl, by rw [noE_x ⟨by omega, by assumption⟩]; exact Sq4, Fq4⟩
    · rw [if_neg z2]
      refine K_if_eq (tgt := 57) (dt_at dtX5_readNot 22 rfl) (by decide) (by first | assumption | exact ⟨by omega, by omega⟩) (fun c4 => ?_) (fun c4 => absurd c4 (by omega))
      have hnn : ¬ (c = 6 ∧ isWb tp (tk tp n p) 4 = true) := by first | (intro z; omega) | (intro z; exact absurd z.2 (by assumption))
      refine K_aload_n (dt_at dtX5_readNot 27 rfl) rfl rfl ?_
      refine K_iload_n (dt_at dtX5_readNot 28 rfl) rfl rfl ?_
      refine K_callV (M' := (mX5_readTest d)) (a := 63) (ci := 5) (As := [vi w]) (st := []) (dt_at dtX5_readNot 29 rfl) (hS _ _ _ Sh (by omega)) (show TT 63 = (0, 5) from rfl) rfl wL_X5_181 vX5_readTest rfl npX5_readTest (by simp only [mR, mL, rmK, mX5_readPart, mX5_readProduct, mX5_readSum, mX5_readTest, mX5_readNot, mX5_readAnd, mX5_readExpr, mX5_couldBegin, mX5_isGoing, mX5_productStep, mX5_readNumber, mX5_readSign, mX5_readValue, mX5_stop, mX5_sumStep, mX5_testStep, mX6_add, mX9_isAnyWord, mX9_isNumber, mX9_isSign, mX9_isWord, mX9_pass]; omega) (by simp only [mR, mL, rmK, mX5_readPart, mX5_readProduct, mX5_readSum, mX5_readTest, mX5_readNot, mX5_readAnd, mX5_readExpr, mX5_couldBegin, mX5_isGoing, mX5_productStep, mX5_readNumber, mX5_readSign, mX5_readValue, mX5_stop, mX5_sumStep, mX5_testStep, mX6_add, mX9_isAnyWord, mX9_isNumber, mX9_isSign, mX9_isWord, mX9_pass]; omega) (Nat.le_of_ble_eq_true rfl) (Nat.le_refl 0) (Nat.le_refl 0) GK_E (fun v9 hc5 hq => ?_) (fun E h9 hq => by cases hq.1)
      have hqq6 := hq
      obtain ⟨e9q6, Pq6, Gq6⟩ := hqq6
      have Fq6 := RF_tr Fh Gq6
      cases e9q6
      show K (mX5_readNot d) _ _ 0 0 62 [(2, vi (c : Int)), (0, vr 63), (1, vi w)] [] hc5
      rcases uq6 : tsP tp n (lvP tp n (lvP tp n (paP tp n pu (exP tp n pu d)) prdS) sumS) p with ⟨ekq6, epq6⟩ | ⟨pq6, Mq6⟩
      · rw [uq6] at Pq6
        have Sq6 : ES hc5 tp n r (ekq6, epq6) := Pq6
        refine K_iconst (dt_at dtX5_readNot 30 rfl) ?_
        refine K_istore_n (ls' := [(3, vi 0), (2, vi (c : Int)), (0, vr 63), (1, vi w)]) (dt_at dtX5_readNot 31 rfl) rfl (Nat.le_of_ble_eq_true rfl) rfl ?_
        refine K_pk [0, 1, 2, 3] (ls' := [(3, vi ((0 : Nat) : Int)), (2, vi (c : Int)), (0, vr 63), (1, vi w)]) rfl (lp_X5_readNot3 (h := h) (e := (ekq6, epq6)) hr hc c 0 hc5 (by omega) Sq6 Fq6 (fun h3 S3 F3 => ?_))
        exact K_vret (dt_at dtX5_readNot 41 rfl) rfl (Nat.le_refl 0) (Nat.le_refl 0) ⟨rfl, by rw [noE_e hnn uq6]; exact S3, F3⟩
      · rw [uq6] at Pq6
        have Sq6 : GS hc5 tp n r pu (L ++ Mq6) pq6 := Pq6
        have bq6 := (PO_ts (PO_lv (PO_lv (PO_pa (PO_ex d)) SO_p) SO_s)) _ _ _ (GS_n Sh).1 uq6
        refine K_iconst (dt_at dtX5_readNot 30 rfl) ?_
        refine K_istore_n (ls' := [(3, vi 0), (2, vi (c : Int)), (0, vr 63), (1, vi w)]) (dt_at dtX5_readNot 31 rfl) rfl (Nat.le_of_ble_eq_true rfl) rfl ?_
        refine K_pk [0, 1, 2, 3] (ls' := [(3, vi ((0 : Nat) : Int)), (2, vi (c : Int)), (0, vr 63), (1, vi w)]) rfl (lp_X5_readNot2 (h := h) (L := L ++ Mq6) (q := pq6) hr hc (by rw [List.length_append]; omega) c 0 hc5 (by omega) (by rw [List.replicate_zero, List.append_nil]; exact Sq6) Fq6 (fun h3 S3 F3 => ?_))
        exact K_vret (dt_at dtX5_readNot 41 rfl) rfl (Nat.le_refl 0) (Nat.le_refl 0) ⟨rfl, by rw [noE_g hnn uq6]; show GS _ _ _ _ _ _ _; rw [← List.append_assoc]; exact S3, F3⟩
set_option maxHeartbeats 4000000 in
set_option maxRecDepth 100000 in
theorem sX5_readNot {d : Nat} {w : Int} {tp : Int → Int} {n r : Nat} {pu : Int} (hr : RR r) (hS : SB (mX5_readTest d) w tp n r pu (tsP tp n (lvP tp n (lvP tp n (paP tp n pu (exP tp n pu d)) prdS) sumS))) : SB (mX5_readNot d) w tp n r pu (noP tp n (tsP tp n (lvP tp n (lvP tp n (paP tp n pu (exP tp n pu d)) prdS) sumS))) := by
  intro h L p S hl
  refine Spec_of (by decide +kernel : plainName RX5 = true) (Nat.le_of_ble_eq_true rfl) ?_
  have hn0 := GS_n S
  refine K_iconst (dt_at dtX5_readNot 0 rfl) ?_
  refine K_istore_n (ls' := [(2, vi 0), (0, vr 63), (1, vi w)]) (dt_at dtX5_readNot 1 rfl) rfl (Nat.le_of_ble_eq_true rfl) rfl ?_
  refine K_pk [0, 1, 2] (ls' := [(2, vi ((0 : Nat) : Int)), (0, vr 63), (1, vi w)]) rfl (lp_X5_readNot1 (h := h) (L := L) (pu := pu) (tp := tp) (n := n) (w := w) hr 6 0 h p (by omega) S RF_rf (fun h2 S2 F2 => ?_))
  have hb := ntP_b (tp := tp) (n := n) 6 p (GS_n S).1
  have e0 : noP tp n (tsP tp n (lvP tp n (lvP tp n (paP tp n pu (exP tp n pu d)) prdS) sumS)) p = noE tp n (tsP tp n (lvP tp n (lvP tp n (paP tp n pu (exP tp n pu d)) prdS) sumS)) (ntP tp n 6 p).1 (ntP tp n 6 p).2 := rfl
  rw [e0, Nat.zero_add]
  exact nt_X5_readNot hr hS (by omega) (by omega) S2 F2
set_option maxHeartbeats 4000000 in
set_option maxRecDepth 100000 in
theorem lp_X5_readExpr {d : Nat} {w : Int} {tp : Int → Int} {n r : Nat} {pu : Int} {h : HP} {L : List Int} {X : PR} (hr : RR r) (hS : SB (mX5_readAnd d) w tp n r pu (lvP tp n (noP tp n (tsP tp n (lvP tp n (lvP tp n (paP tp n pu (exP tp n pu d)) prdS) sumS))) andS)) : ∀ (d9 k : Nat) (hh : HP) (p : Nat) (N : List Int), k + d9 = 700 → GS hh tp n r pu (L ++ N) p → RF r h hh → L.length + N.length ≤ p → chP tp n (lvP tp n (noP tp n (tsP tp n (lvP tp n (lvP tp n (paP tp n pu (exP tp n pu d)) prdS) sumS))) andS) orS d9 p N = X → K (mX5_readExpr (d + 1)) GK (ZK (fun o h' => o = .inl none ∧ PS h' tp n r pu L X ∧ RF r h h') 0 0) 0 0 30 [(2, vi (k : Int)), (0, vr 63), (1, vi w)] [] hh := by
  intro d9
  induction d9 with
  | zero =>
    intro k hh p N hk Sh Fh hL hX
    have hn0 := GS_n Sh
    have sb9 := stp_b tp (tk tp n p)
    refine K_iload_n (dt_at dtX5_readExpr 17 rfl) rfl rfl ?_
    refine K_sipush (dt_at dtX5_readExpr 18 rfl) (by decide) ?_
    refine K_icmp_ge (tgt := 83) (dt_at dtX5_readExpr 19 rfl) (by decide) (by first | assumption | exact ⟨by omega, by omega⟩) (by first | assumption | exact ⟨by omega, by omega⟩) (fun c1 => ?_) (fun c1 => absurd c1 (by omega))
    exact K_vret (dt_at dtX5_readExpr 40 rfl) rfl (Nat.le_refl 0) (Nat.le_refl 0) ⟨rfl, by rw [← hX]; exact Sh, Fh⟩
  | succ d9 ih =>
    intro k hh p N hk Sh Fh hL hX
    have hn0 := GS_n Sh
    have sb9 := stp_b tp (tk tp n p)
    refine K_iload_n (dt_at dtX5_readExpr 17 rfl) rfl rfl ?_
    refine K_sipush (dt_at dtX5_readExpr 18 rfl) (by decide) ?_
    refine K_icmp_ge (tgt := 83) (dt_at dtX5_readExpr 19 rfl) (by decide) (by first | assumption | exact ⟨by omega, by omega⟩) (by first | assumption | exact ⟨by omega, by omega⟩) (fun c1 => absurd c1 (by omega)) (fun c1 => ?_)
    refine K_aload_n (dt_at dtX5_readExpr 20 rfl) rfl rfl ?_
    refine K_callV (M' := mX5_isGoing) (a := 63) (ci := 5) (As := []) (st := []) (dt_at dtX5_readExpr 21 rfl) (sX5_isGoing_t Sh.1.2.2.2) (show TT 63 = (0, 5) from rfl) rfl wL_X5_49 vX5_isGoing rfl npX5_isGoing (by simp only [mR, mL, rmK, mX5_readPart, mX5_readProduct, mX5_readSum, mX5_readTest, mX5_readNot, mX5_readAnd, mX5_readExpr, mX5_couldBegin, mX5_isGoing, mX5_productStep, mX5_readNumber, mX5_readSign, mX5_readValue, mX5_stop, mX5_sumStep, mX5_testStep, mX6_add, mX9_isAnyWord, mX9_isNumber, mX9_isSign, mX9_isWord, mX9_pass]; omega) (by simp only [mR, mL, rmK, mX5_readPart, mX5_readProduct, mX5_readSum, mX5_readTest, mX5_readNot, mX5_readAnd, mX5_readExpr, mX5_couldBegin, mX5_isGoing, mX5_productStep, mX5_readNumber, mX5_readSign, mX5_readValue, mX5_stop, mX5_sumStep, mX5_testStep, mX6_add, mX9_isAnyWord, mX9_isNumber, mX9_isSign, mX9_isWord, mX9_pass]; omega) (Nat.le_of_ble_eq_true rfl) (Nat.le_refl 0) (Nat.le_refl 0) GK_E (fun v9 h9 hq => ?_) (fun E h9 hq => by cases hq.1)
    obtain ⟨e9, e8⟩ := hq
    cases e9
    rw [e8]
    show K (mX5_readExpr (d + 1)) _ _ 0 0 41 [(2, vi (k : Int)), (0, vr 63), (1, vi w)] [vi 1] hh
    refine K_if_eq (tgt := 83) (dt_at dtX5_readExpr 22 rfl) (by decide) (by first | assumption | exact ⟨by omega, by omega⟩) (fun c2 => absurd c2 (by omega)) (fun c2 => ?_)
    refine K_aload_n (dt_at dtX5_readExpr 23 rfl) rfl rfl ?_
    refine K_get (a := 63) (ci := 5) (k := 0) (v := vr 64) (dt_at dtX5_readExpr 24 rfl) (show TT 63 = (0, 5) from rfl) rfl (by decide) wF_X5_12 rfl ?_
    refine K_ldcS (i := 14) (dt_at dtX5_readExpr 25 rfl) rfl GK_E ?_
    refine K_callV (M' := mX9_isWord) (a := 64) (ci := 9) (As := [vs 15]) (st := []) (dt_at dtX5_readExpr 26 rfl) (sX9_isWord (i := 14) Sh.1.1 Sh.1.2.1 (tk_G Sh.1.2.2.1) (by decide)) (show TT 64 = (0, 9) from rfl) rfl wL_X5_65 vX9_isWord rfl npX9_isWord (by simp only [mR, mL, rmK, mX5_readPart, mX5_readProduct, mX5_readSum, mX5_readTest, mX5_readNot, mX5_readAnd, mX5_readExpr, mX5_couldBegin, mX5_isGoing, mX5_productStep, mX5_readNumber, mX5_readSign, mX5_readValue, mX5_stop, mX5_sumStep, mX5_testStep, mX6_add, mX9_isAnyWord, mX9_isNumber, mX9_isSign, mX9_isWord, mX9_pass]; omega) (by simp only [mR, mL, rmK, mX5_readPart, mX5_readProduct, mX5_readSum, mX5_readTest, mX5_readNot, mX5_readAnd, mX5_readExpr, mX5_couldBegin, mX5_isGoing, mX5_productStep, mX5_readNumber, mX5_readSign, mX5_readValue, mX5_stop, mX5_sumStep, mX5_testStep, mX6_add, mX9_isAnyWord, mX9_isNumber, mX9_isSign, mX9_isWord, mX9_pass]; omega) (Nat.le_of_ble_eq_true rfl) (Nat.le_refl 0) (Nat.le_refl 0) GK_E (fun v9 h9 hq => ?_) (fun E h9 hq => by cases hq.1)
    obtain ⟨e9, e8⟩ := hq
    cases e9
    rw [e8]
    show K (mX5_readExpr (d + 1)) _ _ 0 0 53 [(2, vi (k : Int)), (0, vr 63), (1, vi w)] [vi (if isWb tp (tk tp n p) 14 = true then 1 else 0)] hh
    by_cases z3 : isWb tp (tk tp n p) 14 = true
    · rw [if_pos z3]
      refine K_if_eq (tgt := 83) (dt_at dtX5_readExpr 27 rfl) (by decide) (by first | assumption | exact ⟨by omega, by omega⟩) (fun c4 => absurd c4 (by omega)) (fun c4 => ?_)
      refine K_aload_n (dt_at dtX5_readExpr 28 rfl) rfl rfl ?_
      refine K_get (a := 63) (ci := 5) (k := 0) (v := vr 64) (dt_at dtX5_readExpr 29 rfl) (show TT 63 = (0, 5) from rfl) rfl (by decide) wF_X5_12 rfl ?_
      have hne : orS tp (tk tp n p) ≠ 0 := by rw [orS_t (by assumption)]; decide
      have ht := tk_lt (GS_n Sh).1 (SO_o _ _ hne)
      refine K_callV (M' := mX9_pass) (a := 64) (ci := 9) (As := []) (st := []) (dt_at dtX5_readExpr 30 rfl) (pass_S hr Sh) (show TT 64 = (0, 9) from rfl) rfl wL_X5_97 vX9_pass rfl npX9_pass (by simp only [mR, mL, rmK, mX5_readPart, mX5_readProduct, mX5_readSum, mX5_readTest, mX5_readNot, mX5_readAnd, mX5_readExpr, mX5_couldBegin, mX5_isGoing, mX5_productStep, mX5_readNumber, mX5_readSign, mX5_readValue, mX5_stop, mX5_sumStep, mX5_testStep, mX6_add, mX9_isAnyWord, mX9_isNumber, mX9_isSign, mX9_isWord, mX9_pass]; omega) (by simp only [mR, mL, rmK, mX5_readPart, mX5_readProduct, mX5_readSum, mX5_readTest, mX5_readNot, mX5_readAnd, mX5_readExpr, mX5_couldBegin, mX5_isGoing, mX5_productStep, mX5_readNumber, mX5_readSign, mX5_readValue, mX5_stop, mX5_sumStep, mX5_testStep, mX6_add, mX9_isAnyWord, mX9_isNumber, mX9_isSign, mX9_isWord, mX9_pass]; omega) (Nat.le_of_ble_eq_true rfl) (Nat.le_refl 0) (Nat.le_refl 0) GK_E (fun v9 hc1 hq => ?_) (fun E h9 hq => by cases hq.1)
      have hqq2 := hq
      obtain ⟨e9q2, Sq2, Gq2⟩ := hqq2
      have Fq2 := RF_tr Fh Gq2
      cases e9q2
      show K (mX5_readExpr (d + 1)) _ _ 0 0 63 [(2, vi (k : Int)), (0, vr 63), (1, vi w)] [] hc1
      refine K_aload_n (dt_at dtX5_readExpr 31 rfl) rfl rfl ?_
      refine K_iload_n (dt_at dtX5_readExpr 32 rfl) rfl rfl ?_
      refine K_callV (M' := (mX5_readAnd d)) (a := 63) (ci := 5) (As := [vi w]) (st := []) (dt_at dtX5_readExpr 33 rfl) (hS _ _ _ Sq2 (by rw [List.length_append]; omega)) (show TT 63 = (0, 5) from rfl) rfl wL_X5_163 vX5_readAnd rfl npX5_readAnd (by simp only [mR, mL, rmK, mX5_readPart, mX5_readProduct, mX5_readSum, mX5_readTest, mX5_readNot, mX5_readAnd, mX5_readExpr, mX5_couldBegin, mX5_isGoing, mX5_productStep, mX5_readNumber, mX5_readSign, mX5_readValue, mX5_stop, mX5_sumStep, mX5_testStep, mX6_add, mX9_isAnyWord, mX9_isNumber, mX9_isSign, mX9_isWord, mX9_pass]; omega) (by simp only [mR, mL, rmK, mX5_readPart, mX5_readProduct, mX5_readSum, mX5_readTest, mX5_readNot, mX5_readAnd, mX5_readExpr, mX5_couldBegin, mX5_isGoing, mX5_productStep, mX5_readNumber, mX5_readSign, mX5_readValue, mX5_stop, mX5_sumStep, mX5_testStep, mX6_add, mX9_isAnyWord, mX9_isNumber, mX9_isSign, mX9_isWord, mX9_pass]; omega) (Nat.le_of_ble_eq_true rfl) (Nat.le_refl 0) (Nat.le_refl 0) GK_E (fun v9 hc3 hq => ?_) (fun E h9 hq => by cases hq.1)
      have hqq4 := hq
      obtain ⟨e9q4, Pq4, Gq4⟩ := hqq4
      have Fq4 := RF_tr Fq2 Gq4
      cases e9q4
      show K (mX5_readExpr (d + 1)) _ _ 0 0 68 [(2, vi (k : Int)), (0, vr 63), (1, vi w)] [] hc3
      rcases uq4 : lvP tp n (noP tp n (tsP tp n (lvP tp n (lvP tp n (paP tp n pu (exP tp n pu d)) prdS) sumS))) andS ((tk tp n p).2.2) with ⟨ekq4, epq4⟩ | ⟨pq4, Mq4⟩
      · rw [uq4] at Pq4
        have Sq4 : ES hc3 tp n r (ekq4, epq4) := Pq4
        refine K_aload_n (dt_at dtX5_readExpr 34 rfl) rfl rfl ?_
        refine K_get (a := 63) (ci := 5) (k := 2) (v := vr r) (dt_at dtX5_readExpr 35 rfl) (show TT 63 = (0, 5) from rfl) rfl (by decide) wF_X5_39 (by show vr (hR hc3 63 2) = vr r; rw [Sq4.2.1]) ?_
        refine K_bipush (dt_at dtX5_readExpr 36 rfl) (by decide) ?_
        refine K_callV (M' := mX6_add) (a := r) (ci := 6) (As := [vi (-10)]) (st := []) (dt_at dtX5_readExpr 37 rfl) (add_E hr Sq4) (RR_T hr) rfl wL_X5_168 vX6_add rfl npX6_add (by simp only [mR, mL, rmK, mX5_readPart, mX5_readProduct, mX5_readSum, mX5_readTest, mX5_readNot, mX5_readAnd, mX5_readExpr, mX5_couldBegin, mX5_isGoing, mX5_productStep, mX5_readNumber, mX5_readSign, mX5_readValue, mX5_stop, mX5_sumStep, mX5_testStep, mX6_add, mX9_isAnyWord, mX9_isNumber, mX9_isSign, mX9_isWord, mX9_pass]; omega) (by simp only [mR, mL, rmK, mX5_readPart, mX5_readProduct, mX5_readSum, mX5_readTest, mX5_readNot, mX5_readAnd, mX5_readExpr, mX5_couldBegin, mX5_isGoing, mX5_productStep, mX5_readNumber, mX5_readSign, mX5_readValue, mX5_stop, mX5_sumStep, mX5_testStep, mX6_add, mX9_isAnyWord, mX9_isNumber, mX9_isSign, mX9_isWord, mX9_pass]; omega) (Nat.le_of_ble_eq_true rfl) (Nat.le_refl 0) (Nat.le_refl 0) GK_E (fun v9 hc5 hq => ?_) (fun E h9 hq => by cases hq.1)
        have hqq6 := hq
        obtain ⟨e9q6, Sq6, Gq6⟩ := hqq6
        have Fq6 := RF_tr Fq4 Gq6
        cases e9q6
        show K (mX5_readExpr (d + 1)) _ _ 0 0 77 [(2, vi (k : Int)), (0, vr 63), (1, vi w)] [] hc5
        refine K_iinc (ls' := [(2, vi ((k : Int) + 1)), (0, vr 63), (1, vi w)]) (dt_at dtX5_readExpr 38 rfl) rfl (Nat.le_of_ble_eq_true rfl) rfl ?_
        refine K_goto (tgt := 30) (dt_at dtX5_readExpr 39 rfl) (by decide) ?_
        refine K_iload_n (dt_at dtX5_readExpr 17 rfl) rfl rfl ?_
        refine K_sipush (dt_at dtX5_readExpr 18 rfl) (by decide) ?_
        refine K_icmp_ge (tgt := 83) (dt_at dtX5_readExpr 19 rfl) (by decide) (by first | assumption | exact ⟨by omega, by omega⟩) (by first | assumption | exact ⟨by omega, by omega⟩) (fun c5 => ?_) (fun c5 => ?_)
        · exact K_vret (dt_at dtX5_readExpr 40 rfl) rfl (Nat.le_refl 0) (Nat.le_refl 0) ⟨rfl, by rw [← hX, chP_e hne uq4]; exact Sq6, Fq6⟩
        · refine K_aload_n (dt_at dtX5_readExpr 20 rfl) rfl rfl ?_
          refine K_callV (M' := mX5_isGoing) (a := 63) (ci := 5) (As := []) (st := []) (dt_at dtX5_readExpr 21 rfl) (sX5_isGoing_f Sq6.1.2.2.2.1 Sq6.1.2.2.1) (show TT 63 = (0, 5) from rfl) rfl wL_X5_49 vX5_isGoing rfl npX5_isGoing (by simp only [mR, mL, rmK, mX5_readPart, mX5_readProduct, mX5_readSum, mX5_readTest, mX5_readNot, mX5_readAnd, mX5_readExpr, mX5_couldBegin, mX5_isGoing, mX5_productStep, mX5_readNumber, mX5_readSign, mX5_readValue, mX5_stop, mX5_sumStep, mX5_testStep, mX6_add, mX9_isAnyWord, mX9_isNumber, mX9_isSign, mX9_isWord, mX9_pass]; omega) (by simp only [mR, mL, rmK, mX5_readPart, mX5_readProduct, mX5_readSum, mX5_readTest, mX5_readNot, mX5_readAnd, mX5_readExpr, mX5_couldBegin, mX5_isGoing, mX5_productStep, mX5_readNumber, mX5_readSign, mX5_readValue, mX5_stop, mX5_sumStep, mX5_testStep, mX6_add, mX9_isAnyWord, mX9_isNumber, mX9_isSign, mX9_isWord, mX9_pass]; omega) (Nat.le_of_ble_eq_true rfl) (Nat.le_refl 0) (Nat.le_refl 0) GK_E (fun v9 h9 hq => ?_) (fun E h9 hq => by cases hq.1)
          obtain ⟨e9, e8⟩ := hq
          cases e9
          rw [e8]
          show K (mX5_readExpr (d + 1)) _ _ 0 0 41 [(2, vi ((k : Int) + 1)), (0, vr 63), (1, vi w)] [vi 0] hc5
          refine K_if_eq (tgt := 83) (dt_at dtX5_readExpr 22 rfl) (by decide) (by first | assumption | exact ⟨by omega, by omega⟩) (fun c6 => ?_) (fun c6 => absurd c6 (by omega))
          exact K_vret (dt_at dtX5_readExpr 40 rfl) rfl (Nat.le_refl 0) (Nat.le_refl 0) ⟨rfl, by rw [← hX, chP_e hne uq4]; exact Sq6, Fq6⟩
      · rw [uq4] at Pq4
        have Sq4 : GS hc3 tp n r pu ((L ++ N) ++ Mq4) pq4 := Pq4
        have bq4 := (PO_lv (PO_no (PO_ts (PO_lv (PO_lv (PO_pa (PO_ex d)) SO_p) SO_s))) SO_a) _ _ _ (GS_n Sq2).1 uq4
        refine K_aload_n (dt_at dtX5_readExpr 34 rfl) rfl rfl ?_
        refine K_get (a := 63) (ci := 5) (k := 2) (v := vr r) (dt_at dtX5_readExpr 35 rfl) (show TT 63 = (0, 5) from rfl) rfl (by decide) wF_X5_39 (by show vr (hR hc3 63 2) = vr r; rw [Sq4.2.1]) ?_
        refine K_bipush (dt_at dtX5_readExpr 36 rfl) (by decide) ?_
        have hadd : ((L ++ N) ++ Mq4).length < 700 := by rw [List.length_append, List.length_append]; omega
        refine K_callV (M' := mX6_add) (a := r) (ci := 6) (As := [vi (-10)]) (st := []) (dt_at dtX5_readExpr 37 rfl) (add_G hr Sq4 (hadd)) (RR_T hr) rfl wL_X5_168 vX6_add rfl npX6_add (by simp only [mR, mL, rmK, mX5_readPart, mX5_readProduct, mX5_readSum, mX5_readTest, mX5_readNot, mX5_readAnd, mX5_readExpr, mX5_couldBegin, mX5_isGoing, mX5_productStep, mX5_readNumber, mX5_readSign, mX5_readValue, mX5_stop, mX5_sumStep, mX5_testStep, mX6_add, mX9_isAnyWord, mX9_isNumber, mX9_isSign, mX9_isWord, mX9_pass]; omega) (by simp only [mR, mL, rmK, mX5_readPart, mX5_readProduct, mX5_readSum, mX5_readTest, mX5_readNot, mX5_readAnd, mX5_readExpr, mX5_couldBegin, mX5_isGoing, mX5_productStep, mX5_readNumber, mX5_readSign, mX5_readValue, mX5_stop, mX5_sumStep, mX5_testStep, mX6_add, mX9_isAnyWord, mX9_isNumber, mX9_isSign, mX9_isWord, mX9_pass]; omega) (Nat.le_of_ble_eq_true rfl) (Nat.le_refl 0) (Nat.le_refl 0) GK_E (fun v9 hc7 hq => ?_) (fun E h9 hq => by cases hq.1)
        have hqq8 := hq
        obtain ⟨e9q8, Sq8, Gq8⟩ := hqq8
        have Fq8 := RF_tr Fq4 Gq8
        cases e9q8
        show K (mX5_readExpr (d + 1)) _ _ 0 0 77 [(2, vi (k : Int)), (0, vr 63), (1, vi w)] [] hc7
        refine K_iinc (ls' := [(2, vi ((k : Int) + 1)), (0, vr 63), (1, vi w)]) (dt_at dtX5_readExpr 38 rfl) rfl (Nat.le_of_ble_eq_true rfl) rfl ?_
        refine K_goto (tgt := 30) (dt_at dtX5_readExpr 39 rfl) (by decide) ?_
        refine K_pk [0, 1, 2] (ls' := [(2, vi ((k + 1 : Nat) : Int)), (0, vr 63), (1, vi w)]) rfl ?_
        exact ih (k + 1) hc7 pq4 (N ++ (Mq4 ++ [-10])) (by omega) (by simpa only [List.append_assoc] using Sq8) Fq8 (by rw [List.length_append, List.length_append]; show _ + (_ + (_ + 1)) ≤ _; omega) (by rw [← hX, chP_g hne uq4, orS_t (by assumption)])
    · rw [if_neg z3]
      refine K_if_eq (tgt := 83) (dt_at dtX5_readExpr 27 rfl) (by decide) (by first | assumption | exact ⟨by omega, by omega⟩) (fun c7 => ?_) (fun c7 => absurd c7 (by omega))
      exact K_vret (dt_at dtX5_readExpr 40 rfl) rfl (Nat.le_refl 0) (Nat.le_refl 0) ⟨rfl, by rw [← hX, chP_0 (orS_f (by assumption))]; exact Sh, Fh⟩
set_option maxHeartbeats 4000000 in
set_option maxRecDepth 100000 in
theorem sX5_readExpr {d : Nat} {w : Int} {tp : Int → Int} {n r : Nat} {pu : Int} (hr : RR r) (hw : w + ((d + 1 : Nat) : Int) = 6) (hd : d < 7) (hS : SB (mX5_readAnd d) w tp n r pu (lvP tp n (noP tp n (tsP tp n (lvP tp n (lvP tp n (paP tp n pu (exP tp n pu d)) prdS) sumS))) andS)) : SB (mX5_readExpr (d + 1)) w tp n r pu (lvP tp n (lvP tp n (noP tp n (tsP tp n (lvP tp n (lvP tp n (paP tp n pu (exP tp n pu d)) prdS) sumS))) andS) orS) := by
  intro h L p S hl
  refine Spec_of (by decide +kernel : plainName RX5 = true) (Nat.le_of_ble_eq_true rfl) ?_
  have hn0 := GS_n S
  refine K_iload_n (dt_at dtX5_readExpr 0 rfl) rfl rfl ?_
  refine K_bipush (dt_at dtX5_readExpr 1 rfl) (by decide) ?_
  refine K_icmp_lt (tgt := 23) (dt_at dtX5_readExpr 2 rfl) (by decide) (by first | assumption | exact ⟨by omega, by omega⟩) (by first | assumption | exact ⟨by omega, by omega⟩) (fun c1 => ?_) (fun c1 => absurd c1 (by omega))
  refine K_aload_n (dt_at dtX5_readExpr 12 rfl) rfl rfl ?_
  refine K_iload_n (dt_at dtX5_readExpr 13 rfl) rfl rfl ?_
  refine K_callV (M' := (mX5_readAnd d)) (a := 63) (ci := 5) (As := [vi w]) (st := []) (dt_at dtX5_readExpr 14 rfl) (hS _ _ _ S (by omega)) (show TT 63 = (0, 5) from rfl) rfl wL_X5_163 vX5_readAnd rfl npX5_readAnd (by simp only [mR, mL, rmK, mX5_readPart, mX5_readProduct, mX5_readSum, mX5_readTest, mX5_readNot, mX5_readAnd, mX5_readExpr, mX5_couldBegin, mX5_isGoing, mX5_productStep, mX5_readNumber, mX5_readSign, mX5_readValue, mX5_stop, mX5_sumStep, mX5_testStep, mX6_add, mX9_isAnyWord, mX9_isNumber, mX9_isSign, mX9_isWord, mX9_pass]; omega) (by simp only [mR, mL, rmK, mX5_readPart, mX5_readProduct, mX5_readSum, mX5_readTest, mX5_readNot, mX5_readAnd, mX5_readExpr, mX5_couldBegin, mX5_isGoing, mX5_productStep, mX5_readNumber, mX5_readSign, mX5_readValue, mX5_stop, mX5_sumStep, mX5_testStep, mX6_add, mX9_isAnyWord, mX9_isNumber, mX9_isSign, mX9_isWord, mX9_pass]; omega) (Nat.le_of_ble_eq_true rfl) (Nat.le_refl 0) (Nat.le_refl 0) GK_E (fun v9 hc1 hq => ?_) (fun E h9 hq => by cases hq.1)
  have hqq2 := hq
  obtain ⟨e9q2, Pq2, Gq2⟩ := hqq2
  have Fq2 := RF_tr (RF_rf : RF r h h) Gq2
  cases e9q2
  show K (mX5_readExpr (d + 1)) _ _ 0 0 28 [(0, vr 63), (1, vi w)] [] hc1
  rcases uq2 : lvP tp n (noP tp n (tsP tp n (lvP tp n (lvP tp n (paP tp n pu (exP tp n pu d)) prdS) sumS))) andS p with ⟨ekq2, epq2⟩ | ⟨pq2, Mq2⟩
  · rw [uq2] at Pq2
    have Sq2 : ES hc1 tp n r (ekq2, epq2) := Pq2
    refine K_iconst (dt_at dtX5_readExpr 15 rfl) ?_
    refine K_istore_n (ls' := [(2, vi 0), (0, vr 63), (1, vi w)]) (dt_at dtX5_readExpr 16 rfl) rfl (Nat.le_of_ble_eq_true rfl) rfl ?_
    refine K_iload_n (dt_at dtX5_readExpr 17 rfl) rfl rfl ?_
    refine K_sipush (dt_at dtX5_readExpr 18 rfl) (by decide) ?_
    refine K_icmp_ge (tgt := 83) (dt_at dtX5_readExpr 19 rfl) (by decide) (by first | assumption | exact ⟨by omega, by omega⟩) (by first | assumption | exact ⟨by omega, by omega⟩) (fun c2 => absurd c2 (by omega)) (fun c2 => ?_)
    refine K_aload_n (dt_at dtX5_readExpr 20 rfl) rfl rfl ?_
    refine K_callV (M' := mX5_isGoing) (a := 63) (ci := 5) (As := []) (st := []) (dt_at dtX5_readExpr 21 rfl) (sX5_isGoing_f Sq2.1.2.2.2.1 Sq2.1.2.2.1) (show TT 63 = (0, 5) from rfl) rfl wL_X5_49 vX5_isGoing rfl npX5_isGoing (by simp only [mR, mL, rmK, mX5_readPart, mX5_readProduct, mX5_readSum, mX5_readTest, mX5_readNot, mX5_readAnd, mX5_readExpr, mX5_couldBegin, mX5_isGoing, mX5_productStep, mX5_readNumber, mX5_readSign, mX5_readValue, mX5_stop, mX5_sumStep, mX5_testStep, mX6_add, mX9_isAnyWord, mX9_isNumber, mX9_isSign, mX9_isWord, mX9_pass]; omega) (by simp only [mR, mL, rmK, mX5_readPart, mX5_readProduct, mX5_readSum, mX5_readTest, mX5_readNot, mX5_readAnd, mX5_readExpr, mX5_couldBegin, mX5_isGoing, mX5_productStep, mX5_readNumber, mX5_readSign, mX5_readValue, mX5_stop, mX5_sumStep, mX5_testStep, mX6_add, mX9_isAnyWord, mX9_isNumber, mX9_isSign, mX9_isWord, mX9_pass]; omega) (Nat.le_of_ble_eq_true rfl) (Nat.le_refl 0) (Nat.le_refl 0) GK_E (fun v9 h9 hq => ?_) (fun E h9 hq => by cases hq.1)
    obtain ⟨e9, e8⟩ := hq
    cases e9
    rw [e8]
    show K (mX5_readExpr (d + 1)) _ _ 0 0 41 [(2, vi 0), (0, vr 63), (1, vi w)] [vi 0] hc1
    refine K_if_eq (tgt := 83) (dt_at dtX5_readExpr 22 rfl) (by decide) (by first | assumption | exact ⟨by omega, by omega⟩) (fun c3 => ?_) (fun c3 => absurd c3 (by omega))
    exact K_vret (dt_at dtX5_readExpr 40 rfl) rfl (Nat.le_refl 0) (Nat.le_refl 0) ⟨rfl, by rw [lvP_e uq2]; exact Sq2, Fq2⟩
  · rw [uq2] at Pq2
    have Sq2 : GS hc1 tp n r pu (L ++ Mq2) pq2 := Pq2
    have bq2 := (PO_lv (PO_no (PO_ts (PO_lv (PO_lv (PO_pa (PO_ex d)) SO_p) SO_s))) SO_a) _ _ _ (GS_n S).1 uq2
    refine K_iconst (dt_at dtX5_readExpr 15 rfl) ?_
    refine K_istore_n (ls' := [(2, vi 0), (0, vr 63), (1, vi w)]) (dt_at dtX5_readExpr 16 rfl) rfl (Nat.le_of_ble_eq_true rfl) rfl ?_
    exact K_pk [0, 1, 2] (ls' := [(2, vi ((0 : Nat) : Int)), (0, vr 63), (1, vi w)]) rfl (lp_X5_readExpr hr hS 700 0 hc1 pq2 Mq2 (by omega) Sq2 Fq2 (by omega) (by rw [lvP_g uq2]))
set_option maxHeartbeats 4000000 in
set_option maxRecDepth 100000 in
theorem sX5_readExpr_0 {tp : Int → Int} {n r : Nat} {pu : Int} (hr : RR r) : SB (mX5_readExpr 0) 6 tp n r pu (exP tp n pu 0) := by
  intro h L p S hl
  refine Spec_of (by decide +kernel : plainName RX5 = true) (Nat.le_of_ble_eq_true rfl) ?_
  have hn0 := GS_n S
  refine K_iload_n (dt_at dtX5_readExpr 0 rfl) rfl rfl ?_
  refine K_bipush (dt_at dtX5_readExpr 1 rfl) (by decide) ?_
  refine K_icmp_lt (tgt := 23) (dt_at dtX5_readExpr 2 rfl) (by decide) (by first | assumption | exact ⟨by omega, by omega⟩) (by first | assumption | exact ⟨by omega, by omega⟩) (fun c1 => absurd c1 (by omega)) (fun c1 => ?_)
  refine K_aload_n (dt_at dtX5_readExpr 3 rfl) rfl rfl ?_
  refine K_aload_n (dt_at dtX5_readExpr 4 rfl) rfl rfl ?_
  refine K_callV (M' := mX5_couldBegin) (a := 63) (ci := 5) (As := []) (st := [vr 63]) (dt_at dtX5_readExpr 5 rfl) (sX5_couldBegin S.1) (show TT 63 = (0, 5) from rfl) rfl wL_X5_160 vX5_couldBegin rfl npX5_couldBegin (by simp only [mR, mL, rmK, mX5_readPart, mX5_readProduct, mX5_readSum, mX5_readTest, mX5_readNot, mX5_readAnd, mX5_readExpr, mX5_couldBegin, mX5_isGoing, mX5_productStep, mX5_readNumber, mX5_readSign, mX5_readValue, mX5_stop, mX5_sumStep, mX5_testStep, mX6_add, mX9_isAnyWord, mX9_isNumber, mX9_isSign, mX9_isWord, mX9_pass]; omega) (by simp only [mR, mL, rmK, mX5_readPart, mX5_readProduct, mX5_readSum, mX5_readTest, mX5_readNot, mX5_readAnd, mX5_readExpr, mX5_couldBegin, mX5_isGoing, mX5_productStep, mX5_readNumber, mX5_readSign, mX5_readValue, mX5_stop, mX5_sumStep, mX5_testStep, mX6_add, mX9_isAnyWord, mX9_isNumber, mX9_isSign, mX9_isWord, mX9_pass]; omega) (Nat.le_of_ble_eq_true rfl) (Nat.le_refl 0) (Nat.le_refl 0) GK_E (fun v9 h9 hq => ?_) (fun E h9 hq => by cases hq.1)
  obtain ⟨e9, e8⟩ := hq
  cases e9
  rw [e8]
  show K (mX5_readExpr 0) _ _ 0 0 11 [(0, vr 63), (1, vi 6)] [vi (if (tk tp n p).1 = 2 ∨ (tk tp n p).1 = 1 ∨ Sg tp (tk tp n p) 40 then 1 else 0), vr 63] h
  by_cases z2 : (tk tp n p).1 = 2 ∨ (tk tp n p).1 = 1 ∨ Sg tp (tk tp n p) 40
  · rw [if_pos z2]
    refine K_if_eq (tgt := 18) (dt_at dtX5_readExpr 6 rfl) (by decide) (by first | assumption | exact ⟨by omega, by omega⟩) (fun c3 => absurd c3 (by omega)) (fun c3 => ?_)
    refine K_iconst (dt_at dtX5_readExpr 7 rfl) ?_
    refine K_goto (tgt := 19) (dt_at dtX5_readExpr 8 rfl) (by decide) ?_
    refine K_callV (M' := mX5_stop) (a := 63) (ci := 5) (As := [vi 2]) (st := []) (dt_at dtX5_readExpr 10 rfl) (stop_S hr S (by omega) ⟨by omega, by omega⟩) (show TT 63 = (0, 5) from rfl) rfl wL_X5_86 vX5_stop rfl npX5_stop (by simp only [mR, mL, rmK, mX5_readPart, mX5_readProduct, mX5_readSum, mX5_readTest, mX5_readNot, mX5_readAnd, mX5_readExpr, mX5_couldBegin, mX5_isGoing, mX5_productStep, mX5_readNumber, mX5_readSign, mX5_readValue, mX5_stop, mX5_sumStep, mX5_testStep, mX6_add, mX9_isAnyWord, mX9_isNumber, mX9_isSign, mX9_isWord, mX9_pass]; omega) (by simp only [mR, mL, rmK, mX5_readPart, mX5_readProduct, mX5_readSum, mX5_readTest, mX5_readNot, mX5_readAnd, mX5_readExpr, mX5_couldBegin, mX5_isGoing, mX5_productStep, mX5_readNumber, mX5_readSign, mX5_readValue, mX5_stop, mX5_sumStep, mX5_testStep, mX6_add, mX9_isAnyWord, mX9_isNumber, mX9_isSign, mX9_isWord, mX9_pass]; omega) (Nat.le_of_ble_eq_true rfl) (Nat.le_refl 0) (Nat.le_refl 0) GK_E (fun v9 hc1 hq => ?_) (fun E h9 hq => by cases hq.1)
    have hqq2 := hq
    obtain ⟨e9q2, Sq2, Gq2⟩ := hqq2
    have Fq2 := RF_tr (RF_rf : RF r h h) Gq2
    cases e9q2
    show K (mX5_readExpr 0) _ _ 0 0 22 [(0, vr 63), (1, vi 6)] [] hc1
    exact K_vret (dt_at dtX5_readExpr 11 rfl) rfl (Nat.le_refl 0) (Nat.le_refl 0) ⟨rfl, by unfold exP; rw [if_pos (by assumption)]; exact Sq2, Fq2⟩
  · rw [if_neg z2]
    refine K_if_eq (tgt := 18) (dt_at dtX5_readExpr 6 rfl) (by decide) (by first | assumption | exact ⟨by omega, by omega⟩) (fun c4 => ?_) (fun c4 => absurd c4 (by omega))
    refine K_iconst (dt_at dtX5_readExpr 9 rfl) ?_
    refine K_callV (M' := mX5_stop) (a := 63) (ci := 5) (As := [vi 1]) (st := []) (dt_at dtX5_readExpr 10 rfl) (stop_S hr S (by omega) ⟨by omega, by omega⟩) (show TT 63 = (0, 5) from rfl) rfl wL_X5_86 vX5_stop rfl npX5_stop (by simp only [mR, mL, rmK, mX5_readPart, mX5_readProduct, mX5_readSum, mX5_readTest, mX5_readNot, mX5_readAnd, mX5_readExpr, mX5_couldBegin, mX5_isGoing, mX5_productStep, mX5_readNumber, mX5_readSign, mX5_readValue, mX5_stop, mX5_sumStep, mX5_testStep, mX6_add, mX9_isAnyWord, mX9_isNumber, mX9_isSign, mX9_isWord, mX9_pass]; omega) (by simp only [mR, mL, rmK, mX5_readPart, mX5_readProduct, mX5_readSum, mX5_readTest, mX5_readNot, mX5_readAnd, mX5_readExpr, mX5_couldBegin, mX5_isGoing, mX5_productStep, mX5_readNumber, mX5_readSign, mX5_readValue, mX5_stop, mX5_sumStep, mX5_testStep, mX6_add, mX9_isAnyWord, mX9_isNumber, mX9_isSign, mX9_isWord, mX9_pass]; omega) (Nat.le_of_ble_eq_true rfl) (Nat.le_refl 0) (Nat.le_refl 0) GK_E (fun v9 hc3 hq => ?_) (fun E h9 hq => by cases hq.1)
    have hqq4 := hq
    obtain ⟨e9q4, Sq4, Gq4⟩ := hqq4
    have Fq4 := RF_tr (RF_rf : RF r h h) Gq4
    cases e9q4
    show K (mX5_readExpr 0) _ _ 0 0 22 [(0, vr 63), (1, vi 6)] [] hc3
    exact K_vret (dt_at dtX5_readExpr 11 rfl) rfl (Nat.le_refl 0) (Nat.le_refl 0) ⟨rfl, by unfold exP; rw [if_neg (by assumption)]; exact Sq4, Fq4⟩
theorem readExpr_all {tp : Int → Int} {n r : Nat} {pu : Int} (hr : RR r) (hpu : pu = 0 ∨ pu = 1) : ∀ (d : Nat) (w : Int), w + (d : Int) = 6 → d < 8 → SB (mX5_readExpr d) w tp n r pu (exP tp n pu d)
  | 0, w, hw, _ => by
    have e : w = 6 := by omega
    rw [e]
    exact sX5_readExpr_0 hr
  | d + 1, w, hw, hd => sX5_readExpr hr hw (by omega) (sX5_readAnd hr (sX5_readNot hr (sX5_readTest hr (sX5_readSum hr (sX5_readProduct hr (sX5_readPart hr hpu (readExpr_all hr hpu d (w + 1) (by omega) (by omega))))))))
