/-! a rule of the class being read -/
def rlD (h : HP) (r : Nat) : Option (List Int) → Prop
  | none => hI h r 3 = 0 ∧ hI h r 2 = 0
  | some L => hI h r 3 = 1 ∧ hI h r 2 = (L.length : Int) ∧ L.length ≤ 700 ∧ ∀ j : Nat, j < L.length → hA h (r + 1) (j : Int) = L.getD j 0
/-- only a rule's cells and the reader's -/
def RK (r : Nat) (h h' : HP) : Prop := (∀ a, a ≠ r + 1 → hA h' a = hA h a) ∧ (∀ a k, a ≠ r → a ≠ 63 → a ≠ 64 → hI h' a k = hI h a k) ∧ (∀ a k, a ≠ 64 → ¬ (a = 63 ∧ k = 2) → hR h' a k = hR h a k)
theorem RK_rf {r : Nat} {h : HP} : RK r h h := ⟨fun _ _ => rfl, fun _ _ _ _ _ => rfl, fun _ _ _ _ => rfl⟩
theorem RK_tr {r : Nat} {h h1 h2 : HP} (a : RK r h h1) (b : RK r h1 h2) : RK r h h2 := ⟨fun x hx => (b.1 x hx).trans (a.1 x hx), fun x k h1 h2 h3 => (b.2.1 x k h1 h2 h3).trans (a.2.1 x k h1 h2 h3), fun x k h1 h2 => (b.2.2 x k h1 h2).trans (a.2.2 x k h1 h2)⟩
theorem TR_63 {a k : Nat} (h1 : a ≠ 63) (h2 : a ≠ 64) : TR.contains (a, k) = false := by
  simp [TR, h1, h2]
theorem RK_RF {r : Nat} {h h' : HP} (F : RF r h h') : RK r h h' := ⟨F.1, fun a k h1 h2 h3 => F.2.1 a k (fun z => h1 z.1) (TR_63 h2 h3), fun a k _ _ => by rw [F.2.2]⟩
theorem RK_FL {r : Nat} {h h' : HP} (F : FL [] TR [] h h') : RK r h h' := RK_RF (RF_FL F)
theorem PO_6 {tp : Int → Int} {n p q : Nat} {pu : Int} {L : List Int} (hp : p ≤ n) (hn : n ≤ 700) (hu : exP tp n pu 6 p = .inr (q, L)) : L.length ≤ 700 := by
  have := PO_ex (tp := tp) (pu := pu) 6 _ _ _ hp hu
  omega
def RUr (h : HP) (tp : Int → Int) (n r : Nat) : PR → Prop
  | .inl e => TE h tp n e
  | .inr (q, L) => TG h tp n q ∧ rlD h r (some L)
theorem RU_PS {h : HP} {tp : Int → Int} {n r p : Nat} {pu : Int} (hr : RR r) (hp : p ≤ n) (hn : n ≤ 700) (h3 : hI h r 3 = 1) (P : PS h tp n r pu [] (exP tp n pu 6 p)) : RUr h tp n r (exP tp n pu 6 p) := by
  rcases hu : exP tp n pu 6 p with e | ⟨q, L⟩
  · rw [hu] at P
    exact P.1
  · rw [hu] at P
    have P : GS h tp n r pu ([] ++ L) q := P
    rw [List.nil_append] at P
    exact ⟨P.1, h3, P.2.2.2.1, PO_6 hp hn hu, P.2.2.2.2⟩
def mX5_readRule : MI := (yX5_readRule, cX5_readRule, 3, none, rmK 64 0)
def tX5_readRule : List (Nat × Instr × Nat) := [(0, .aload_n 1, 1), (1, .invokevirtual 150, 3), (4, .ifCond .eq 9, 3), (7, .aload_n 0, 1), (8, .iconst 5, 1), (9, .invokevirtual 86, 3), (12, .return_, 1), (13, .aload_n 1, 1), (14, .invokevirtual 155, 3), (17, .aload_n 0, 1), (18, .aload_n 1, 1), (19, .putfield 39, 3), (22, .aload_n 0, 1), (23, .iload_n 2, 1), (24, .putfield 18, 3), (27, .aload_n 0, 1), (28, .getfield 12, 3), (31, .invokevirtual 97, 3), (34, .aload_n 0, 1), (35, .iconst 0, 1), (36, .invokevirtual 157, 3), (39, .return_, 1)]
theorem dtX5_readRule : tX5_readRule.all (fun q => decide (decode cX5_readRule q.1 = .ok (q.2.1, q.2.2))) = true := by decide +kernel
theorem npX5_readRule : (parseMethodDescriptor (mY mX5_readRule).desc).map (fun d => d.parameters.length) = some 2 := by decide +kernel
theorem vX5_readRule : mV mX5_readRule := ⟨wI_X5_readRule, wS_X5_readRule, wN_X5, wC_X5_readRule, by decide +kernel, by decide +kernel⟩
set_option maxHeartbeats 4000000 in
set_option maxRecDepth 100000 in
theorem sX5_readRule_42_x {h : HP} {tp : Int → Int} {n p : Nat} {pu : Int} (A : TG h tp n p) (d3 : hI h 42 3 = 1) : SpecK mX5_readRule [vr 63, vr 42, vi pu] h (fun o h' => o = .inl none ∧ TE h' tp n (5, (tk tp n p).2.1) ∧ FL [] TR [] h h') := by
  refine Spec_of (by decide +kernel) (Nat.le_of_ble_eq_true rfl) ?_
  refine K_aload_n (dt_at dtX5_readRule 0 rfl) rfl rfl ?_
  refine K_callV (M' := mX6_told) (a := 42) (ci := 6) (As := []) (st := []) (dt_at dtX5_readRule 1 rfl) (sX6_told (show TT 42 = (0, 6) from rfl) (by omega)) (show TT 42 = (0, 6) from rfl) rfl wL_X5_150 vX6_told rfl npX6_told (by decide) (by decide) (Nat.le_of_ble_eq_true rfl) (by decide) (by decide) GK_E (fun v9 h9 hq => ?_) (fun E h9 hq => by cases hq.1)
  obtain ⟨e9, e8⟩ := hq
  cases e9
  rw [e8]
  show K mX5_readRule _ _ 0 0 4 [(0, vr 63), (1, vr 42), (2, vi pu)] [vi (hI h 42 3)] h
  rw [d3]
  refine K_if_eq (tgt := 13) (dt_at dtX5_readRule 2 rfl) (by decide) (by first | assumption | exact ⟨by omega, by omega⟩) (fun c1 => absurd c1 (by omega)) (fun c1 => ?_)
  refine K_aload_n (dt_at dtX5_readRule 3 rfl) rfl rfl ?_
  refine K_iconst (dt_at dtX5_readRule 4 rfl) ?_
  have Aq1 : TG h tp n p := A
  refine K_callV (M' := mX5_stop) (a := 63) (ci := 5) (As := [vi 5]) (st := []) (dt_at dtX5_readRule 5 rfl) (sX5_stop Aq1 ⟨by omega, by omega⟩) (show TT 63 = (0, 5) from rfl) rfl wL_X5_86 vX5_stop rfl npX5_stop (by decide) (by decide) (Nat.le_of_ble_eq_true rfl) (by decide) (by decide) GK_E (fun v9 hc2 hq => ?_) (fun E h9 hq => by cases hq.1)
  have hqq3 := hq
  obtain ⟨e9q3, Bq3, Fq3⟩ := hqq3
  cases e9q3
  show K mX5_readRule _ _ 0 0 12 [(0, vr 63), (1, vr 42), (2, vi pu)] [] hc2
  exact K_vret (dt_at dtX5_readRule 6 rfl) rfl (by decide) (by decide) ⟨rfl, Bq3, (FL_tr (FL_rf : FL [] TR [] h h) (FL_up Fq3 rfl rfl rfl))⟩
set_option maxHeartbeats 4000000 in
set_option maxRecDepth 100000 in
theorem sX5_readRule_42 {h : HP} {tp : Int → Int} {n p : Nat} {pu : Int} (A : TG h tp n p) (hpu : pu = 0 ∨ pu = 1) (d3 : hI h 42 3 = 0) (d2 : hI h 42 2 = 0) : SpecK mX5_readRule [vr 63, vr 42, vi pu] h (fun o h' => o = .inl none ∧ RUr h' tp n 42 (exP tp n pu 6 (tk tp n p).2.2) ∧ RK 42 h h') := by
  refine Spec_of (by decide +kernel) (Nat.le_of_ble_eq_true rfl) ?_
  refine K_aload_n (dt_at dtX5_readRule 0 rfl) rfl rfl ?_
  refine K_callV (M' := mX6_told) (a := 42) (ci := 6) (As := []) (st := []) (dt_at dtX5_readRule 1 rfl) (sX6_told (show TT 42 = (0, 6) from rfl) (by omega)) (show TT 42 = (0, 6) from rfl) rfl wL_X5_150 vX6_told rfl npX6_told (by decide) (by decide) (Nat.le_of_ble_eq_true rfl) (by decide) (by decide) GK_E (fun v9 h9 hq => ?_) (fun E h9 hq => by cases hq.1)
  obtain ⟨e9, e8⟩ := hq
  cases e9
  rw [e8]
  show K mX5_readRule _ _ 0 0 4 [(0, vr 63), (1, vr 42), (2, vi pu)] [vi (hI h 42 3)] h
  rw [d3]
  refine K_if_eq (tgt := 13) (dt_at dtX5_readRule 2 rfl) (by decide) (by first | assumption | exact ⟨by omega, by omega⟩) (fun c1 => ?_) (fun c1 => absurd c1 (by omega))
  refine K_aload_n (dt_at dtX5_readRule 7 rfl) rfl rfl ?_
  refine K_callV (M' := mX6_open) (a := 42) (ci := 6) (As := []) (st := []) (dt_at dtX5_readRule 8 rfl) (sX6_open (show TT 42 = (0, 6) from rfl)) (show TT 42 = (0, 6) from rfl) rfl wL_X5_155 vX6_open rfl npX6_open (by decide) (by decide) (Nat.le_of_ble_eq_true rfl) (by decide) (by decide) GK_E (fun v9 h9 hq => ?_) (fun E h9 hq => by cases hq.1)
  obtain ⟨e9, e8⟩ := hq
  cases e9
  rw [e8]
  show K mX5_readRule _ _ 0 0 17 [(0, vr 63), (1, vr 42), (2, vi pu)] [] (sI h 42 3 1)
  obtain ⟨hq1, eq1⟩ : ∃ z, z = sI h 42 3 1 := ⟨_, rfl⟩
  rw [← eq1]
  obtain ⟨iq1, fq1, aq1, rq1⟩ := sI_fx eq1
  refine K_aload_n (dt_at dtX5_readRule 9 rfl) rfl rfl ?_
  refine K_aload_n (dt_at dtX5_readRule 10 rfl) rfl rfl ?_
  refine K_putR (a := 63) (ci := 5) (k := 2) (dt_at dtX5_readRule 11 rfl) (show TT 63 = (0, 5) from rfl) rfl (by decide) wF_X5_39 rfl rfl (fun _ => rfl) (fun _ => rfl) ?_
  obtain ⟨hq2, eq2⟩ : ∃ z, z = sR hq1 63 2 42 := ⟨_, rfl⟩
  rw [← eq2]
  obtain ⟨rq2, fq2, aq2, iq2⟩ := sR_fx eq2
  refine K_aload_n (dt_at dtX5_readRule 12 rfl) rfl rfl ?_
  refine K_iload_n (dt_at dtX5_readRule 13 rfl) rfl rfl ?_
  refine K_putI (a := 63) (ci := 5) (k := 3) (dt_at dtX5_readRule 14 rfl) (show TT 63 = (0, 5) from rfl) rfl (by decide) wF_X5_18 rfl (Or.inr rfl) (nr_bool hpu) (ft_bool hpu) ?_
  obtain ⟨hq3, eq3⟩ : ∃ z, z = sI hq2 63 3 pu := ⟨_, rfl⟩
  rw [← eq3]
  obtain ⟨iq3, fq3, aq3, rq3⟩ := sI_fx eq3
  refine K_aload_n (dt_at dtX5_readRule 15 rfl) rfl rfl ?_
  refine K_get (a := 63) (ci := 5) (k := 0) (v := vr 64) (dt_at dtX5_readRule 16 rfl) (show TT 63 = (0, 5) from rfl) rfl (by decide) wF_X5_12 rfl ?_
  have F0 : FL [] [(42, 3), (63, 3)] [(63, 2)] h hq3 := (FL_tr (FL_tr (FL_tr (FL_rf : FL [] [(42, 3), (63, 3)] [(63, 2)] h h) (FL_eI eq1 rfl)) (FL_eR eq2 rfl)) (FL_eI eq3 rfl))
  have A0 : TG hq3 tp n p := TG_up A F0 rfl rfl rfl
  have B0 : RuL hq3 42 pu [] := ⟨by rw [rq3, rq2], by rw [iq3], by rw [(fq3 42 2 (by omega)), iq2, (fq1 42 2 (by omega)), d2]; rfl, fun j hj => absurd hj (Nat.not_lt_zero j)⟩
  have c0 : hI hq3 42 3 = 1 := by rw [(fq3 42 3 (by omega)), iq2, iq1]
  have K0 : RK 42 h hq3 := ⟨fun a _ => F0.1 a rfl, fun a k h1 h2 h3 => F0.2.1 a k (by simp [h1, h2]), fun a k h1 h2 => F0.2.2 a k (by simp; omega)⟩
  refine K_callV (M' := mX9_pass) (a := 64) (ci := 9) (As := []) (st := []) (dt_at dtX5_readRule 17 rfl) (pass_S (by unfold RR; omega : RR 42) ⟨A0, B0⟩) (show TT 64 = (0, 9) from rfl) rfl wL_X5_97 vX9_pass rfl npX9_pass (by decide) (by decide) (Nat.le_of_ble_eq_true rfl) (by decide) (by decide) GK_E (fun v9 hc4 hq => ?_) (fun E h9 hq => by cases hq.1)
  have hqq5 := hq
  obtain ⟨e9q5, Sq5, Gq5⟩ := hqq5
  cases e9q5
  show K mX5_readRule _ _ 0 0 34 [(0, vr 63), (1, vr 42), (2, vi pu)] [] hc4
  refine K_aload_n (dt_at dtX5_readRule 18 rfl) rfl rfl ?_
  refine K_iconst (dt_at dtX5_readRule 19 rfl) ?_
  have hn0 := GS_n Sq5
  refine K_callV (M' := mX5_readExpr 6) (a := 63) (ci := 5) (As := [vi 0]) (st := []) (dt_at dtX5_readRule 20 rfl) (readExpr_all (by unfold RR; omega : RR 42) hpu 6 0 (by decide) (by decide) _ _ _ Sq5 (Nat.zero_le _)) (show TT 63 = (0, 5) from rfl) rfl wL_X5_157 vX5_readExpr rfl npX5_readExpr (by decide) (by decide) (Nat.le_of_ble_eq_true rfl) (by decide) (by decide) GK_E (fun v9 hc6 hq => ?_) (fun E h9 hq => by cases hq.1)
  have hqq7 := hq
  obtain ⟨e9q7, Pq7, Gq7⟩ := hqq7
  cases e9q7
  show K mX5_readRule _ _ 0 0 39 [(0, vr 63), (1, vr 42), (2, vi pu)] [] hc6
  have G9 := RF_tr Gq5 Gq7
  have c9 : hI hc6 42 3 = 1 := by rw [G9.2.1 42 3 (by omega) rfl]; exact c0
  exact K_vret (dt_at dtX5_readRule 21 rfl) rfl (by decide) (by decide) ⟨rfl, RU_PS (by unfold RR; omega : RR 42) hn0.1 hn0.2 c9 Pq7, RK_tr K0 (RK_RF G9)⟩
set_option maxHeartbeats 4000000 in
set_option maxRecDepth 100000 in
theorem sX5_readRule_45_x {h : HP} {tp : Int → Int} {n p : Nat} {pu : Int} (A : TG h tp n p) (d3 : hI h 45 3 = 1) : SpecK mX5_readRule [vr 63, vr 45, vi pu] h (fun o h' => o = .inl none ∧ TE h' tp n (5, (tk tp n p).2.1) ∧ FL [] TR [] h h') := by
  refine Spec_of (by decide +kernel) (Nat.le_of_ble_eq_true rfl) ?_
  refine K_aload_n (dt_at dtX5_readRule 0 rfl) rfl rfl ?_
  refine K_callV (M' := mX6_told) (a := 45) (ci := 6) (As := []) (st := []) (dt_at dtX5_readRule 1 rfl) (sX6_told (show TT 45 = (0, 6) from rfl) (by omega)) (show TT 45 = (0, 6) from rfl) rfl wL_X5_150 vX6_told rfl npX6_told (by decide) (by decide) (Nat.le_of_ble_eq_true rfl) (by decide) (by decide) GK_E (fun v9 h9 hq => ?_) (fun E h9 hq => by cases hq.1)
  obtain ⟨e9, e8⟩ := hq
  cases e9
  rw [e8]
  show K mX5_readRule _ _ 0 0 4 [(0, vr 63), (1, vr 45), (2, vi pu)] [vi (hI h 45 3)] h
  rw [d3]
  refine K_if_eq (tgt := 13) (dt_at dtX5_readRule 2 rfl) (by decide) (by first | assumption | exact ⟨by omega, by omega⟩) (fun c1 => absurd c1 (by omega)) (fun c1 => ?_)
  refine K_aload_n (dt_at dtX5_readRule 3 rfl) rfl rfl ?_
  refine K_iconst (dt_at dtX5_readRule 4 rfl) ?_
  have Aq1 : TG h tp n p := A
  refine K_callV (M' := mX5_stop) (a := 63) (ci := 5) (As := [vi 5]) (st := []) (dt_at dtX5_readRule 5 rfl) (sX5_stop Aq1 ⟨by omega, by omega⟩) (show TT 63 = (0, 5) from rfl) rfl wL_X5_86 vX5_stop rfl npX5_stop (by decide) (by decide) (Nat.le_of_ble_eq_true rfl) (by decide) (by decide) GK_E (fun v9 hc2 hq => ?_) (fun E h9 hq => by cases hq.1)
  have hqq3 := hq
  obtain ⟨e9q3, Bq3, Fq3⟩ := hqq3
  cases e9q3
  show K mX5_readRule _ _ 0 0 12 [(0, vr 63), (1, vr 45), (2, vi pu)] [] hc2
  exact K_vret (dt_at dtX5_readRule 6 rfl) rfl (by decide) (by decide) ⟨rfl, Bq3, (FL_tr (FL_rf : FL [] TR [] h h) (FL_up Fq3 rfl rfl rfl))⟩
set_option maxHeartbeats 4000000 in
set_option maxRecDepth 100000 in
theorem sX5_readRule_45 {h : HP} {tp : Int → Int} {n p : Nat} {pu : Int} (A : TG h tp n p) (hpu : pu = 0 ∨ pu = 1) (d3 : hI h 45 3 = 0) (d2 : hI h 45 2 = 0) : SpecK mX5_readRule [vr 63, vr 45, vi pu] h (fun o h' => o = .inl none ∧ RUr h' tp n 45 (exP tp n pu 6 (tk tp n p).2.2) ∧ RK 45 h h') := by
  refine Spec_of (by decide +kernel) (Nat.le_of_ble_eq_true rfl) ?_
  refine K_aload_n (dt_at dtX5_readRule 0 rfl) rfl rfl ?_
  refine K_callV (M' := mX6_told) (a := 45) (ci := 6) (As := []) (st := []) (dt_at dtX5_readRule 1 rfl) (sX6_told (show TT 45 = (0, 6) from rfl) (by omega)) (show TT 45 = (0, 6) from rfl) rfl wL_X5_150 vX6_told rfl npX6_told (by decide) (by decide) (Nat.le_of_ble_eq_true rfl) (by decide) (by decide) GK_E (fun v9 h9 hq => ?_) (fun E h9 hq => by cases hq.1)
  obtain ⟨e9, e8⟩ := hq
  cases e9
  rw [e8]
  show K mX5_readRule _ _ 0 0 4 [(0, vr 63), (1, vr 45), (2, vi pu)] [vi (hI h 45 3)] h
  rw [d3]
  refine K_if_eq (tgt := 13) (dt_at dtX5_readRule 2 rfl) (by decide) (by first | assumption | exact ⟨by omega, by omega⟩) (fun c1 => ?_) (fun c1 => absurd c1 (by omega))
  refine K_aload_n (dt_at dtX5_readRule 7 rfl) rfl rfl ?_
  refine K_callV (M' := mX6_open) (a := 45) (ci := 6) (As := []) (st := []) (dt_at dtX5_readRule 8 rfl) (sX6_open (show TT 45 = (0, 6) from rfl)) (show TT 45 = (0, 6) from rfl) rfl wL_X5_155 vX6_open rfl npX6_open (by decide) (by decide) (Nat.le_of_ble_eq_true rfl) (by decide) (by decide) GK_E (fun v9 h9 hq => ?_) (fun E h9 hq => by cases hq.1)
  obtain ⟨e9, e8⟩ := hq
  cases e9
  rw [e8]
  show K mX5_readRule _ _ 0 0 17 [(0, vr 63), (1, vr 45), (2, vi pu)] [] (sI h 45 3 1)
  obtain ⟨hq1, eq1⟩ : ∃ z, z = sI h 45 3 1 := ⟨_, rfl⟩
  rw [← eq1]
  obtain ⟨iq1, fq1, aq1, rq1⟩ := sI_fx eq1
  refine K_aload_n (dt_at dtX5_readRule 9 rfl) rfl rfl ?_
  refine K_aload_n (dt_at dtX5_readRule 10 rfl) rfl rfl ?_
  refine K_putR (a := 63) (ci := 5) (k := 2) (dt_at dtX5_readRule 11 rfl) (show TT 63 = (0, 5) from rfl) rfl (by decide) wF_X5_39 rfl rfl (fun _ => rfl) (fun _ => rfl) ?_
  obtain ⟨hq2, eq2⟩ : ∃ z, z = sR hq1 63 2 45 := ⟨_, rfl⟩
  rw [← eq2]
  obtain ⟨rq2, fq2, aq2, iq2⟩ := sR_fx eq2
  refine K_aload_n (dt_at dtX5_readRule 12 rfl) rfl rfl ?_
  refine K_iload_n (dt_at dtX5_readRule 13 rfl) rfl rfl ?_
  refine K_putI (a := 63) (ci := 5) (k := 3) (dt_at dtX5_readRule 14 rfl) (show TT 63 = (0, 5) from rfl) rfl (by decide) wF_X5_18 rfl (Or.inr rfl) (nr_bool hpu) (ft_bool hpu) ?_
  obtain ⟨hq3, eq3⟩ : ∃ z, z = sI hq2 63 3 pu := ⟨_, rfl⟩
  rw [← eq3]
  obtain ⟨iq3, fq3, aq3, rq3⟩ := sI_fx eq3
  refine K_aload_n (dt_at dtX5_readRule 15 rfl) rfl rfl ?_
  refine K_get (a := 63) (ci := 5) (k := 0) (v := vr 64) (dt_at dtX5_readRule 16 rfl) (show TT 63 = (0, 5) from rfl) rfl (by decide) wF_X5_12 rfl ?_
  have F0 : FL [] [(45, 3), (63, 3)] [(63, 2)] h hq3 := (FL_tr (FL_tr (FL_tr (FL_rf : FL [] [(45, 3), (63, 3)] [(63, 2)] h h) (FL_eI eq1 rfl)) (FL_eR eq2 rfl)) (FL_eI eq3 rfl))
  have A0 : TG hq3 tp n p := TG_up A F0 rfl rfl rfl
  have B0 : RuL hq3 45 pu [] := ⟨by rw [rq3, rq2], by rw [iq3], by rw [(fq3 45 2 (by omega)), iq2, (fq1 45 2 (by omega)), d2]; rfl, fun j hj => absurd hj (Nat.not_lt_zero j)⟩
  have c0 : hI hq3 45 3 = 1 := by rw [(fq3 45 3 (by omega)), iq2, iq1]
  have K0 : RK 45 h hq3 := ⟨fun a _ => F0.1 a rfl, fun a k h1 h2 h3 => F0.2.1 a k (by simp [h1, h2]), fun a k h1 h2 => F0.2.2 a k (by simp; omega)⟩
  refine K_callV (M' := mX9_pass) (a := 64) (ci := 9) (As := []) (st := []) (dt_at dtX5_readRule 17 rfl) (pass_S (by unfold RR; omega : RR 45) ⟨A0, B0⟩) (show TT 64 = (0, 9) from rfl) rfl wL_X5_97 vX9_pass rfl npX9_pass (by decide) (by decide) (Nat.le_of_ble_eq_true rfl) (by decide) (by decide) GK_E (fun v9 hc4 hq => ?_) (fun E h9 hq => by cases hq.1)
  have hqq5 := hq
  obtain ⟨e9q5, Sq5, Gq5⟩ := hqq5
  cases e9q5
  show K mX5_readRule _ _ 0 0 34 [(0, vr 63), (1, vr 45), (2, vi pu)] [] hc4
  refine K_aload_n (dt_at dtX5_readRule 18 rfl) rfl rfl ?_
  refine K_iconst (dt_at dtX5_readRule 19 rfl) ?_
  have hn0 := GS_n Sq5
  refine K_callV (M' := mX5_readExpr 6) (a := 63) (ci := 5) (As := [vi 0]) (st := []) (dt_at dtX5_readRule 20 rfl) (readExpr_all (by unfold RR; omega : RR 45) hpu 6 0 (by decide) (by decide) _ _ _ Sq5 (Nat.zero_le _)) (show TT 63 = (0, 5) from rfl) rfl wL_X5_157 vX5_readExpr rfl npX5_readExpr (by decide) (by decide) (Nat.le_of_ble_eq_true rfl) (by decide) (by decide) GK_E (fun v9 hc6 hq => ?_) (fun E h9 hq => by cases hq.1)
  have hqq7 := hq
  obtain ⟨e9q7, Pq7, Gq7⟩ := hqq7
  cases e9q7
  show K mX5_readRule _ _ 0 0 39 [(0, vr 63), (1, vr 45), (2, vi pu)] [] hc6
  have G9 := RF_tr Gq5 Gq7
  have c9 : hI hc6 45 3 = 1 := by rw [G9.2.1 45 3 (by omega) rfl]; exact c0
  exact K_vret (dt_at dtX5_readRule 21 rfl) rfl (by decide) (by decide) ⟨rfl, RU_PS (by unfold RR; omega : RR 45) hn0.1 hn0.2 c9 Pq7, RK_tr K0 (RK_RF G9)⟩
set_option maxHeartbeats 4000000 in
set_option maxRecDepth 100000 in
theorem sX5_readRule_57_x {h : HP} {tp : Int → Int} {n p : Nat} {pu : Int} (A : TG h tp n p) (d3 : hI h 57 3 = 1) : SpecK mX5_readRule [vr 63, vr 57, vi pu] h (fun o h' => o = .inl none ∧ TE h' tp n (5, (tk tp n p).2.1) ∧ FL [] TR [] h h') := by
  refine Spec_of (by decide +kernel) (Nat.le_of_ble_eq_true rfl) ?_
  refine K_aload_n (dt_at dtX5_readRule 0 rfl) rfl rfl ?_
  refine K_callV (M' := mX6_told) (a := 57) (ci := 6) (As := []) (st := []) (dt_at dtX5_readRule 1 rfl) (sX6_told (show TT 57 = (0, 6) from rfl) (by omega)) (show TT 57 = (0, 6) from rfl) rfl wL_X5_150 vX6_told rfl npX6_told (by decide) (by decide) (Nat.le_of_ble_eq_true rfl) (by decide) (by decide) GK_E (fun v9 h9 hq => ?_) (fun E h9 hq => by cases hq.1)
  obtain ⟨e9, e8⟩ := hq
  cases e9
  rw [e8]
  show K mX5_readRule _ _ 0 0 4 [(0, vr 63), (1, vr 57), (2, vi pu)] [vi (hI h 57 3)] h
  rw [d3]
  refine K_if_eq (tgt := 13) (dt_at dtX5_readRule 2 rfl) (by decide) (by first | assumption | exact ⟨by omega, by omega⟩) (fun c1 => absurd c1 (by omega)) (fun c1 => ?_)
  refine K_aload_n (dt_at dtX5_readRule 3 rfl) rfl rfl ?_
  refine K_iconst (dt_at dtX5_readRule 4 rfl) ?_
  have Aq1 : TG h tp n p := A
  refine K_callV (M' := mX5_stop) (a := 63) (ci := 5) (As := [vi 5]) (st := []) (dt_at dtX5_readRule 5 rfl) (sX5_stop Aq1 ⟨by omega, by omega⟩) (show TT 63 = (0, 5) from rfl) rfl wL_X5_86 vX5_stop rfl npX5_stop (by decide) (by decide) (Nat.le_of_ble_eq_true rfl) (by decide) (by decide) GK_E (fun v9 hc2 hq => ?_) (fun E h9 hq => by cases hq.1)
  have hqq3 := hq
  obtain ⟨e9q3, Bq3, Fq3⟩ := hqq3
  cases e9q3
  show K mX5_readRule _ _ 0 0 12 [(0, vr 63), (1, vr 57), (2, vi pu)] [] hc2
  exact K_vret (dt_at dtX5_readRule 6 rfl) rfl (by decide) (by decide) ⟨rfl, Bq3, (FL_tr (FL_rf : FL [] TR [] h h) (FL_up Fq3 rfl rfl rfl))⟩
set_option maxHeartbeats 4000000 in
set_option maxRecDepth 100000 in
theorem sX5_readRule_57 {h : HP} {tp : Int → Int} {n p : Nat} {pu : Int} (A : TG h tp n p) (hpu : pu = 0 ∨ pu = 1) (d3 : hI h 57 3 = 0) (d2 : hI h 57 2 = 0) : SpecK mX5_readRule [vr 63, vr 57, vi pu] h (fun o h' => o = .inl none ∧ RUr h' tp n 57 (exP tp n pu 6 (tk tp n p).2.2) ∧ RK 57 h h') := by
  refine Spec_of (by decide +kernel) (Nat.le_of_ble_eq_true rfl) ?_
  refine K_aload_n (dt_at dtX5_readRule 0 rfl) rfl rfl ?_
  refine K_callV (M' := mX6_told) (a := 57) (ci := 6) (As := []) (st := []) (dt_at dtX5_readRule 1 rfl) (sX6_told (show TT 57 = (0, 6) from rfl) (by omega)) (show TT 57 = (0, 6) from rfl) rfl wL_X5_150 vX6_told rfl npX6_told (by decide) (by decide) (Nat.le_of_ble_eq_true rfl) (by decide) (by decide) GK_E (fun v9 h9 hq => ?_) (fun E h9 hq => by cases hq.1)
  obtain ⟨e9, e8⟩ := hq
  cases e9
  rw [e8]
  show K mX5_readRule _ _ 0 0 4 [(0, vr 63), (1, vr 57), (2, vi pu)] [vi (hI h 57 3)] h
  rw [d3]
  refine K_if_eq (tgt := 13) (dt_at dtX5_readRule 2 rfl) (by decide) (by first | assumption | exact ⟨by omega, by omega⟩) (fun c1 => ?_) (fun c1 => absurd c1 (by omega))
  refine K_aload_n (dt_at dtX5_readRule 7 rfl) rfl rfl ?_
  refine K_callV (M' := mX6_open) (a := 57) (ci := 6) (As := []) (st := []) (dt_at dtX5_readRule 8 rfl) (sX6_open (show TT 57 = (0, 6) from rfl)) (show TT 57 = (0, 6) from rfl) rfl wL_X5_155 vX6_open rfl npX6_open (by decide) (by decide) (Nat.le_of_ble_eq_true rfl) (by decide) (by decide) GK_E (fun v9 h9 hq => ?_) (fun E h9 hq => by cases hq.1)
  obtain ⟨e9, e8⟩ := hq
  cases e9
  rw [e8]
  show K mX5_readRule _ _ 0 0 17 [(0, vr 63), (1, vr 57), (2, vi pu)] [] (sI h 57 3 1)
  obtain ⟨hq1, eq1⟩ : ∃ z, z = sI h 57 3 1 := ⟨_, rfl⟩
  rw [← eq1]
  obtain ⟨iq1, fq1, aq1, rq1⟩ := sI_fx eq1
  refine K_aload_n (dt_at dtX5_readRule 9 rfl) rfl rfl ?_
  refine K_aload_n (dt_at dtX5_readRule 10 rfl) rfl rfl ?_
  refine K_putR (a := 63) (ci := 5) (k := 2) (dt_at dtX5_readRule 11 rfl) (show TT 63 = (0, 5) from rfl) rfl (by decide) wF_X5_39 rfl rfl (fun _ => rfl) (fun _ => rfl) ?_
  obtain ⟨hq2, eq2⟩ : ∃ z, z = sR hq1 63 2 57 := ⟨_, rfl⟩
  rw [← eq2]
  obtain ⟨rq2, fq2, aq2, iq2⟩ := sR_fx eq2
  refine K_aload_n (dt_at dtX5_readRule 12 rfl) rfl rfl ?_
  refine K_iload_n (dt_at dtX5_readRule 13 rfl) rfl rfl ?_
  refine K_putI (a := 63) (ci := 5) (k := 3) (dt_at dtX5_readRule 14 rfl) (show TT 63 = (0, 5) from rfl) rfl (by decide) wF_X5_18 rfl (Or.inr rfl) (nr_bool hpu) (ft_bool hpu) ?_
  obtain ⟨hq3, eq3⟩ : ∃ z, z = sI hq2 63 3 pu := ⟨_, rfl⟩
  rw [← eq3]
  obtain ⟨iq3, fq3, aq3, rq3⟩ := sI_fx eq3
  refine K_aload_n (dt_at dtX5_readRule 15 rfl) rfl rfl ?_
  refine K_get (a := 63) (ci := 5) (k := 0) (v := vr 64) (dt_at dtX5_readRule 16 rfl) (show TT 63 = (0, 5) from rfl) rfl (by decide) wF_X5_12 rfl ?_
  have F0 : FL [] [(57, 3), (63, 3)] [(63, 2)] h hq3 := (FL_tr (FL_tr (FL_tr (FL_rf : FL [] [(57, 3), (63, 3)] [(63, 2)] h h) (FL_eI eq1 rfl)) (FL_eR eq2 rfl)) (FL_eI eq3 rfl))
  have A0 : TG hq3 tp n p := TG_up A F0 rfl rfl rfl
  have B0 : RuL hq3 57 pu [] := ⟨by rw [rq3, rq2], by rw [iq3], by rw [(fq3 57 2 (by omega)), iq2, (fq1 57 2 (by omega)), d2]; rfl, fun j hj => absurd hj (Nat.not_lt_zero j)⟩
  have c0 : hI hq3 57 3 = 1 := by rw [(fq3 57 3 (by omega)), iq2, iq1]
  have K0 : RK 57 h hq3 := ⟨fun a _ => F0.1 a rfl, fun a k h1 h2 h3 => F0.2.1 a k (by simp [h1, h2]), fun a k h1 h2 => F0.2.2 a k (by simp; omega)⟩
  refine K_callV (M' := mX9_pass) (a := 64) (ci := 9) (As := []) (st := []) (dt_at dtX5_readRule 17 rfl) (pass_S (by unfold RR; omega : RR 57) ⟨A0, B0⟩) (show TT 64 = (0, 9) from rfl) rfl wL_X5_97 vX9_pass rfl npX9_pass (by decide) (by decide) (Nat.le_of_ble_eq_true rfl) (by decide) (by decide) GK_E (fun v9 hc4 hq => ?_) (fun E h9 hq => by cases hq.1)
  have hqq5 := hq
  obtain ⟨e9q5, Sq5, Gq5⟩ := hqq5
  cases e9q5
  show K mX5_readRule _ _ 0 0 34 [(0, vr 63), (1, vr 57), (2, vi pu)] [] hc4
  refine K_aload_n (dt_at dtX5_readRule 18 rfl) rfl rfl ?_
  refine K_iconst (dt_at dtX5_readRule 19 rfl) ?_
  have hn0 := GS_n Sq5
  refine K_callV (M' := mX5_readExpr 6) (a := 63) (ci := 5) (As := [vi 0]) (st := []) (dt_at dtX5_readRule 20 rfl) (readExpr_all (by unfold RR; omega : RR 57) hpu 6 0 (by decide) (by decide) _ _ _ Sq5 (Nat.zero_le _)) (show TT 63 = (0, 5) from rfl) rfl wL_X5_157 vX5_readExpr rfl npX5_readExpr (by decide) (by decide) (Nat.le_of_ble_eq_true rfl) (by decide) (by decide) GK_E (fun v9 hc6 hq => ?_) (fun E h9 hq => by cases hq.1)
  have hqq7 := hq
  obtain ⟨e9q7, Pq7, Gq7⟩ := hqq7
  cases e9q7
  show K mX5_readRule _ _ 0 0 39 [(0, vr 63), (1, vr 57), (2, vi pu)] [] hc6
  have G9 := RF_tr Gq5 Gq7
  have c9 : hI hc6 57 3 = 1 := by rw [G9.2.1 57 3 (by omega) rfl]; exact c0
  exact K_vret (dt_at dtX5_readRule 21 rfl) rfl (by decide) (by decide) ⟨rfl, RU_PS (by unfold RR; omega : RR 57) hn0.1 hn0.2 c9 Pq7, RK_tr K0 (RK_RF G9)⟩
set_option maxHeartbeats 4000000 in
set_option maxRecDepth 100000 in
theorem sX5_readRule_60_x {h : HP} {tp : Int → Int} {n p : Nat} {pu : Int} (A : TG h tp n p) (d3 : hI h 60 3 = 1) : SpecK mX5_readRule [vr 63, vr 60, vi pu] h (fun o h' => o = .inl none ∧ TE h' tp n (5, (tk tp n p).2.1) ∧ FL [] TR [] h h') := by
  refine Spec_of (by decide +kernel) (Nat.le_of_ble_eq_true rfl) ?_
  refine K_aload_n (dt_at dtX5_readRule 0 rfl) rfl rfl ?_
  refine K_callV (M' := mX6_told) (a := 60) (ci := 6) (As := []) (st := []) (dt_at dtX5_readRule 1 rfl) (sX6_told (show TT 60 = (0, 6) from rfl) (by omega)) (show TT 60 = (0, 6) from rfl) rfl wL_X5_150 vX6_told rfl npX6_told (by decide) (by decide) (Nat.le_of_ble_eq_true rfl) (by decide) (by decide) GK_E (fun v9 h9 hq => ?_) (fun E h9 hq => by cases hq.1)
  obtain ⟨e9, e8⟩ := hq
  cases e9
  rw [e8]
  show K mX5_readRule _ _ 0 0 4 [(0, vr 63), (1, vr 60), (2, vi pu)] [vi (hI h 60 3)] h
  rw [d3]
  refine K_if_eq (tgt := 13) (dt_at dtX5_readRule 2 rfl) (by decide) (by first | assumption | exact ⟨by omega, by omega⟩) (fun c1 => absurd c1 (by omega)) (fun c1 => ?_)
  refine K_aload_n (dt_at dtX5_readRule 3 rfl) rfl rfl ?_
  refine K_iconst (dt_at dtX5_readRule 4 rfl) ?_
  have Aq1 : TG h tp n p := A
  refine K_callV (M' := mX5_stop) (a := 63) (ci := 5) (As := [vi 5]) (st := []) (dt_at dtX5_readRule 5 rfl) (sX5_stop Aq1 ⟨by omega, by omega⟩) (show TT 63 = (0, 5) from rfl) rfl wL_X5_86 vX5_stop rfl npX5_stop (by decide) (by decide) (Nat.le_of_ble_eq_true rfl) (by decide) (by decide) GK_E (fun v9 hc2 hq => ?_) (fun E h9 hq => by cases hq.1)
  have hqq3 := hq
  obtain ⟨e9q3, Bq3, Fq3⟩ := hqq3
  cases e9q3
  show K mX5_readRule _ _ 0 0 12 [(0, vr 63), (1, vr 60), (2, vi pu)] [] hc2
  exact K_vret (dt_at dtX5_readRule 6 rfl) rfl (by decide) (by decide) ⟨rfl, Bq3, (FL_tr (FL_rf : FL [] TR [] h h) (FL_up Fq3 rfl rfl rfl))⟩
set_option maxHeartbeats 4000000 in
set_option maxRecDepth 100000 in
theorem sX5_readRule_60 {h : HP} {tp : Int → Int} {n p : Nat} {pu : Int} (A : TG h tp n p) (hpu : pu = 0 ∨ pu = 1) (d3 : hI h 60 3 = 0) (d2 : hI h 60 2 = 0) : SpecK mX5_readRule [vr 63, vr 60, vi pu] h (fun o h' => o = .inl none ∧ RUr h' tp n 60 (exP tp n pu 6 (tk tp n p).2.2) ∧ RK 60 h h') := by
  refine Spec_of (by decide +kernel) (Nat.le_of_ble_eq_true rfl) ?_
  refine K_aload_n (dt_at dtX5_readRule 0 rfl) rfl rfl ?_
  refine K_callV (M' := mX6_told) (a := 60) (ci := 6) (As := []) (st := []) (dt_at dtX5_readRule 1 rfl) (sX6_told (show TT 60 = (0, 6) from rfl) (by omega)) (show TT 60 = (0, 6) from rfl) rfl wL_X5_150 vX6_told rfl npX6_told (by decide) (by decide) (Nat.le_of_ble_eq_true rfl) (by decide) (by decide) GK_E (fun v9 h9 hq => ?_) (fun E h9 hq => by cases hq.1)
  obtain ⟨e9, e8⟩ := hq
  cases e9
  rw [e8]
  show K mX5_readRule _ _ 0 0 4 [(0, vr 63), (1, vr 60), (2, vi pu)] [vi (hI h 60 3)] h
  rw [d3]
  refine K_if_eq (tgt := 13) (dt_at dtX5_readRule 2 rfl) (by decide) (by first | assumption | exact ⟨by omega, by omega⟩) (fun c1 => ?_) (fun c1 => absurd c1 (by omega))
  refine K_aload_n (dt_at dtX5_readRule 7 rfl) rfl rfl ?_
  refine K_callV (M' := mX6_open) (a := 60) (ci := 6) (As := []) (st := []) (dt_at dtX5_readRule 8 rfl) (sX6_open (show TT 60 = (0, 6) from rfl)) (show TT 60 = (0, 6) from rfl) rfl wL_X5_155 vX6_open rfl npX6_open (by decide) (by decide) (Nat.le_of_ble_eq_true rfl) (by decide) (by decide) GK_E (fun v9 h9 hq => ?_) (fun E h9 hq => by cases hq.1)
  obtain ⟨e9, e8⟩ := hq
  cases e9
  rw [e8]
  show K mX5_readRule _ _ 0 0 17 [(0, vr 63), (1, vr 60), (2, vi pu)] [] (sI h 60 3 1)
  obtain ⟨hq1, eq1⟩ : ∃ z, z = sI h 60 3 1 := ⟨_, rfl⟩
  rw [← eq1]
  obtain ⟨iq1, fq1, aq1, rq1⟩ := sI_fx eq1
  refine K_aload_n (dt_at dtX5_readRule 9 rfl) rfl rfl ?_
  refine K_aload_n (dt_at dtX5_readRule 10 rfl) rfl rfl ?_
  refine K_putR (a := 63) (ci := 5) (k := 2) (dt_at dtX5_readRule 11 rfl) (show TT 63 = (0, 5) from rfl) rfl (by decide) wF_X5_39 rfl rfl (fun _ => rfl) (fun _ => rfl) ?_
  obtain ⟨hq2, eq2⟩ : ∃ z, z = sR hq1 63 2 60 := ⟨_, rfl⟩
  rw [← eq2]
  obtain ⟨rq2, fq2, aq2, iq2⟩ := sR_fx eq2
  refine K_aload_n (dt_at dtX5_readRule 12 rfl) rfl rfl ?_
  refine K_iload_n (dt_at dtX5_readRule 13 rfl) rfl rfl ?_
  refine K_putI (a := 63) (ci := 5) (k := 3) (dt_at dtX5_readRule 14 rfl) (show TT 63 = (0, 5) from rfl) rfl (by decide) wF_X5_18 rfl (Or.inr rfl) (nr_bool hpu) (ft_bool hpu) ?_
  obtain ⟨hq3, eq3⟩ : ∃ z, z = sI hq2 63 3 pu := ⟨_, rfl⟩
  rw [← eq3]
  obtain ⟨iq3, fq3, aq3, rq3⟩ := sI_fx eq3
  refine K_aload_n (dt_at dtX5_readRule 15 rfl) rfl rfl ?_
  refine K_get (a := 63) (ci := 5) (k := 0) (v := vr 64) (dt_at dtX5_readRule 16 rfl) (show TT 63 = (0, 5) from rfl) rfl (by decide) wF_X5_12 rfl ?_
  have F0 : FL [] [(60, 3), (63, 3)] [(63, 2)] h hq3 := (FL_tr (FL_tr (FL_tr (FL_rf : FL [] [(60, 3), (63, 3)] [(63, 2)] h h) (FL_eI eq1 rfl)) (FL_eR eq2 rfl)) (FL_eI eq3 rfl))
  have A0 : TG hq3 tp n p := TG_up A F0 rfl rfl rfl
  have B0 : RuL hq3 60 pu [] := ⟨by rw [rq3, rq2], by rw [iq3], by rw [(fq3 60 2 (by omega)), iq2, (fq1 60 2 (by omega)), d2]; rfl, fun j hj => absurd hj (Nat.not_lt_zero j)⟩
  have c0 : hI hq3 60 3 = 1 := by rw [(fq3 60 3 (by omega)), iq2, iq1]
  have K0 : RK 60 h hq3 := ⟨fun a _ => F0.1 a rfl, fun a k h1 h2 h3 => F0.2.1 a k (by simp [h1, h2]), fun a k h1 h2 => F0.2.2 a k (by simp; omega)⟩
  refine K_callV (M' := mX9_pass) (a := 64) (ci := 9) (As := []) (st := []) (dt_at dtX5_readRule 17 rfl) (pass_S (by unfold RR; omega : RR 60) ⟨A0, B0⟩) (show TT 64 = (0, 9) from rfl) rfl wL_X5_97 vX9_pass rfl npX9_pass (by decide) (by decide) (Nat.le_of_ble_eq_true rfl) (by decide) (by decide) GK_E (fun v9 hc4 hq => ?_) (fun E h9 hq => by cases hq.1)
  have hqq5 := hq
  obtain ⟨e9q5, Sq5, Gq5⟩ := hqq5
  cases e9q5
  show K mX5_readRule _ _ 0 0 34 [(0, vr 63), (1, vr 60), (2, vi pu)] [] hc4
  refine K_aload_n (dt_at dtX5_readRule 18 rfl) rfl rfl ?_
  refine K_iconst (dt_at dtX5_readRule 19 rfl) ?_
  have hn0 := GS_n Sq5
  refine K_callV (M' := mX5_readExpr 6) (a := 63) (ci := 5) (As := [vi 0]) (st := []) (dt_at dtX5_readRule 20 rfl) (readExpr_all (by unfold RR; omega : RR 60) hpu 6 0 (by decide) (by decide) _ _ _ Sq5 (Nat.zero_le _)) (show TT 63 = (0, 5) from rfl) rfl wL_X5_157 vX5_readExpr rfl npX5_readExpr (by decide) (by decide) (Nat.le_of_ble_eq_true rfl) (by decide) (by decide) GK_E (fun v9 hc6 hq => ?_) (fun E h9 hq => by cases hq.1)
  have hqq7 := hq
  obtain ⟨e9q7, Pq7, Gq7⟩ := hqq7
  cases e9q7
  show K mX5_readRule _ _ 0 0 39 [(0, vr 63), (1, vr 60), (2, vi pu)] [] hc6
  have G9 := RF_tr Gq5 Gq7
  have c9 : hI hc6 60 3 = 1 := by rw [G9.2.1 60 3 (by omega) rfl]; exact c0
  exact K_vret (dt_at dtX5_readRule 21 rfl) rfl (by decide) (by decide) ⟨rfl, RU_PS (by unfold RR; omega : RR 60) hn0.1 hn0.2 c9 Pq7, RK_tr K0 (RK_RF G9)⟩
