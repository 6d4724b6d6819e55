/-! the reader: what it reads, purely; its state -/
abbrev PR : Type := (Int × Nat) ⊕ (Nat × List Int)
abbrev Sg (tp : Int → Int) (t : TK) (c : Int) : Prop := t.1 = 3 ∧ tp (t.2.1 : Int) = c
def tstS (tp : Int → Int) (t : TK) : Int := if Sg tp t 60 then -12 else if Sg tp t 61 then -13 else 0
def sumS (tp : Int → Int) (t : TK) : Int := if Sg tp t 43 then -14 else if Sg tp t 45 then -15 else 0
def prdS (tp : Int → Int) (t : TK) : Int := if Sg tp t 42 then -16 else if Sg tp t 47 then -17 else 0
def andS (tp : Int → Int) (t : TK) : Int := if isWb tp t 13 = true then -11 else 0
def orS (tp : Int → Int) (t : TK) : Int := if isWb tp t 14 = true then -10 else 0
def vBo (tp : Int → Int) (t : TK) : Int := if isWb tp t 5 = true then -1 else if isWb tp t 6 = true then -2 else 0
def vPu (tp : Int → Int) (t : TK) : Int := if isWb tp t 7 = true then -3 else if isWb tp t 8 = true then -4 else if isWb tp t 9 = true then -5 else if isWb tp t 10 = true then -6 else 0
def vFe (tp : Int → Int) (t : TK) : Int := if isWb tp t 11 = true then -7 else if isWb tp t 12 = true then -8 else 0
def vaW (tp : Int → Int) (pu : Int) (t : TK) : Int := if vBo tp t = 0 then (if pu = 0 then vFe tp t else vPu tp t) else vBo tp t
def chP (tp : Int → Int) (n : Nat) (sub : Nat → PR) (stp : (Int → Int) → TK → Int) : Nat → Nat → List Int → PR
  | 0, p, L => .inr (p, L)
  | f + 1, p, L => if stp tp (tk tp n p) = 0 then .inr (p, L) else match sub (tk tp n p).2.2 with
    | .inl e => .inl e
    | .inr (q, M) => chP tp n sub stp f q (L ++ (M ++ [stp tp (tk tp n p)]))
def lvP (tp : Int → Int) (n : Nat) (sub : Nat → PR) (stp : (Int → Int) → TK → Int) (p : Nat) : PR := match sub p with
  | .inl e => .inl e
  | .inr (q, M) => chP tp n sub stp 700 q M
def tsP (tp : Int → Int) (n : Nat) (sub : Nat → PR) (p : Nat) : PR := match sub p with
  | .inl e => .inl e
  | .inr (q, L) => if tstS tp (tk tp n q) = 0 then .inr (q, L) else match sub (tk tp n q).2.2 with
    | .inl e => .inl e
    | .inr (u, M) => .inr (u, L ++ (M ++ [tstS tp (tk tp n q)]))
def ntP (tp : Int → Int) (n : Nat) : Nat → Nat → Nat × Nat
  | 0, p => (0, p)
  | f + 1, p => if isWb tp (tk tp n p) 4 = true then ((ntP tp n f (tk tp n p).2.2).1 + 1, (ntP tp n f (tk tp n p).2.2).2) else (0, p)
def noE (tp : Int → Int) (n : Nat) (sub : Nat → PR) (k p : Nat) : PR := if k = 6 ∧ isWb tp (tk tp n p) 4 = true then .inl (2, (tk tp n p).2.1) else match sub p with
  | .inl e => .inl e
  | .inr (q, L) => .inr (q, L ++ List.replicate k (-9))
def noP (tp : Int → Int) (n : Nat) (sub : Nat → PR) (p : Nat) : PR := noE tp n sub (ntP tp n 6 p).1 (ntP tp n 6 p).2
def clP (tp : Int → Int) (n : Nat) (c : Int) : PR → PR
  | .inl e => .inl e
  | .inr (q, L) => if Sg tp (tk tp n q) c then .inr ((tk tp n q).2.2, L) else .inl (1, (tk tp n q).2.1)
def paP (tp : Int → Int) (n : Nat) (pu : Int) (E : Nat → PR) (p : Nat) : PR :=
  if (tk tp n p).1 = 2 then (if (tk tp n p).2.1 + 4 < (tk tp n p).2.2 then .inl (2, (tk tp n p).2.1) else .inr ((tk tp n p).2.2, [nmT tp (tk tp n p)]))
  else if (tk tp n p).1 = 1 then (if vaW tp pu (tk tp n p) = 0 then .inl (3, (tk tp n p).2.1) else .inr ((tk tp n p).2.2, [vaW tp pu (tk tp n p)]))
  else if Sg tp (tk tp n p) 40 then clP tp n 41 (E (tk tp n p).2.2)
  else .inl (1, (tk tp n p).2.1)
def exP (tp : Int → Int) (n : Nat) (pu : Int) : Nat → Nat → PR
  | 0, p => .inl ((if (tk tp n p).1 = 2 ∨ (tk tp n p).1 = 1 ∨ Sg tp (tk tp n p) 40 then 2 else 1), (tk tp n p).2.1)
  | d + 1, p => lvP tp n (lvP tp n (noP tp n (tsP tp n (lvP tp n (lvP tp n (paP tp n pu (exP tp n pu d)) prdS) sumS))) andS) orS p
/-! the class's reader -/
def TG (h : HP) (tp : Int → Int) (n p : Nat) : Prop := TxR h tp n ∧ TkR h (tk tp n p) ∧ p ≤ n ∧ hI h 63 4 = 0
def TE (h : HP) (tp : Int → Int) (n : Nat) (e : Int × Nat) : Prop := TxR h tp n ∧ (∃ t, TkR h t ∧ TkG tp n t) ∧ (1 ≤ e.1 ∧ e.1 ≤ 5) ∧ hI h 63 4 = e.1 ∧ hI h 63 5 = (e.2 : Int)
abbrev TR : List (Nat × Nat) := [(64, 2), (64, 3), (64, 4), (63, 4), (63, 5)]
def RR (r : Nat) : Prop := r = 42 ∨ r = 45 ∨ r = 57 ∨ r = 60
theorem RR_T {r : Nat} (h : RR r) : TT r = (0, 6) := by rcases h with rfl | rfl | rfl | rfl <;> decide
def RuL (h : HP) (r : Nat) (pu : Int) (L : List Int) : Prop := hR h 63 2 = r ∧ hI h 63 3 = pu ∧ hI h r 2 = (L.length : Int) ∧ ∀ j : Nat, j < L.length → hA h (r + 1) (j : Int) = L.getD j 0
def RuE (h : HP) (r : Nat) : Prop := hR h 63 2 = r ∧ 0 ≤ hI h r 2 ∧ hI h r 2 ≤ 700
/-- only a rule's cells, and what TR names -/
def RF (r : Nat) (h h' : HP) : Prop := (∀ a, a ≠ r + 1 → hA h' a = hA h a) ∧ (∀ a k, ¬ (a = r ∧ k = 2) → TR.contains (a, k) = false → hI h' a k = hI h a k) ∧ hR h' = hR h
theorem RF_rf {r : Nat} {h : HP} : RF r h h := ⟨fun _ _ => rfl, fun _ _ _ _ => rfl, rfl⟩
theorem RF_tr {r : Nat} {h h1 h2 : HP} (a : RF r h h1) (b : RF r h1 h2) : RF r h h2 := ⟨fun x hx => (b.1 x hx).trans (a.1 x hx), fun x k hx hy => (b.2.1 x k hx hy).trans (a.2.1 x k hx hy), b.2.2.trans a.2.2⟩
theorem RF_FL {r : Nat} {h h' : HP} (F : FL [] TR [] h h') : RF r h h' := ⟨fun a _ => F.1 a rfl, fun a k _ hk => F.2.1 a k hk, by
  funext a k
  exact F.2.2 a k rfl⟩
def GS (h : HP) (tp : Int → Int) (n r : Nat) (pu : Int) (L : List Int) (p : Nat) : Prop := TG h tp n p ∧ RuL h r pu L
def ES (h : HP) (tp : Int → Int) (n r : Nat) (e : Int × Nat) : Prop := TE h tp n e ∧ RuE h r
def PS (h : HP) (tp : Int → Int) (n r : Nat) (pu : Int) (L : List Int) : PR → Prop
  | .inl e => ES h tp n r e
  | .inr (q, M) => GS h tp n r pu (L ++ M) q
theorem TR_r {r k : Nat} (hr : RR r) : TR.contains (r, k) = false := by
  rcases hr with rfl | rfl | rfl | rfl <;> simp [TR]
theorem RuL_FL {h h' : HP} {r : Nat} {pu : Int} {L : List Int} (hr : RR r) (B : RuL h r pu L) (F : FL [] TR [] h h') : RuL h' r pu L :=
  ⟨by rw [F.2.2 63 2 rfl]; exact B.1, by rw [F.2.1 63 3 rfl]; exact B.2.1, by rw [F.2.1 r 2 (TR_r hr)]; exact B.2.2.1, fun j hj => by rw [F.1 _ rfl]; exact B.2.2.2 j hj⟩
theorem RuE_FL {h h' : HP} {r : Nat} (hr : RR r) (B : RuE h r) (F : FL [] TR [] h h') : RuE h' r :=
  ⟨by rw [F.2.2 63 2 rfl]; exact B.1, by rw [F.2.1 r 2 (TR_r hr)]; exact B.2⟩
theorem RuL_E {h : HP} {r : Nat} {pu : Int} {L : List Int} (B : RuL h r pu L) (hl : L.length ≤ 700) : RuE h r := ⟨B.1, by rw [B.2.2.1]; omega, by rw [B.2.2.1]; omega⟩
/-- only a rule's cells -/
def RA (r : Nat) (h h' : HP) : Prop := (∀ a, a ≠ r + 1 → hA h' a = hA h a) ∧ (∀ a k, ¬ (a = r ∧ k = 2) → hI h' a k = hI h a k) ∧ hR h' = hR h
theorem RF_RA {r : Nat} {h h' : HP} (F : RA r h h') : RF r h h' := ⟨F.1, fun a k z _ => F.2.1 a k z, F.2.2⟩
theorem TxR_RA {r : Nat} {h h' : HP} {tp : Int → Int} {n : Nat} (hr : RR r) (F : RA r h h') (T : TxR h tp n) : TxR h' tp n :=
  ⟨by rw [F.2.2]; exact T.1, by rw [F.2.1 64 1 (by omega)]; exact T.2.1, T.2.2.1, fun i a b => by rw [F.1 31 (by rcases hr with rfl | rfl | rfl | rfl <;> decide)]; exact T.2.2.2 i a b⟩
theorem TkR_RA {r : Nat} {h h' : HP} {t : TK} (hr : RR r) (F : RA r h h') (T : TkR h t) : TkR h' t := by
  have h0 : 64 ≠ r := by rcases hr with rfl | rfl | rfl | rfl <;> decide
  exact ⟨by rw [F.2.1 64 4 (by omega)]; exact T.1, by rw [F.2.1 64 2 (by omega)]; exact T.2.1, by rw [F.2.1 64 3 (by omega)]; exact T.2.2⟩
theorem TG_RA {r : Nat} {h h' : HP} {tp : Int → Int} {n p : Nat} (hr : RR r) (F : RA r h h') (A : TG h tp n p) : TG h' tp n p := by
  have h0 : 63 ≠ r := by rcases hr with rfl | rfl | rfl | rfl <;> decide
  exact ⟨TxR_RA hr F A.1, TkR_RA hr F A.2.1, A.2.2.1, by rw [F.2.1 63 4 (by omega)]; exact A.2.2.2⟩
theorem TE_RA {r : Nat} {h h' : HP} {tp : Int → Int} {n : Nat} {e : Int × Nat} (hr : RR r) (F : RA r h h') (A : TE h tp n e) : TE h' tp n e := by
  have h0 : 63 ≠ r := by rcases hr with rfl | rfl | rfl | rfl <;> decide
  obtain ⟨a1, ⟨t, a2, a3⟩, a4, a5, a6⟩ := A
  exact ⟨TxR_RA hr F a1, ⟨t, TkR_RA hr F a2, a3⟩, a4, by rw [F.2.1 63 4 (by omega)]; exact a5, by rw [F.2.1 63 5 (by omega)]; exact a6⟩
theorem RA_add {r : Nat} {h : HP} {i x y : Int} : RA r h (sI (sA h (r + 1) i x) r 2 y) := by
  obtain ⟨g, eg⟩ : ∃ g, g = sA h (r + 1) i x := ⟨_, rfl⟩
  obtain ⟨g2, eg2⟩ : ∃ g2, g2 = sI g r 2 y := ⟨_, rfl⟩
  rw [← eg, ← eg2]
  obtain ⟨a1, f1, i1, r1⟩ := sA_fx eg
  obtain ⟨i2, f2, a2, r2⟩ := sI_fx eg2
  exact ⟨fun a ha => by rw [a2, f1 a ha], fun a k hk => by rw [f2 a k (by omega), i1], by rw [r2, r1]⟩
theorem RuL_add {r : Nat} {h : HP} {pu x : Int} {L : List Int} (hr : RR r) (B : RuL h r pu L) : RuL (sI (sA h (r + 1) (hI h r 2) x) r 2 (hI h r 2 + 1)) r pu (L ++ [x]) := by
  have h0 : 63 ≠ r := by rcases hr with rfl | rfl | rfl | rfl <;> decide
  obtain ⟨b1, b2, b3, b4⟩ := B
  have F := RA_add (r := r) (h := h) (i := hI h r 2) (x := x) (y := hI h r 2 + 1)
  obtain ⟨g, eg⟩ : ∃ g, g = sA h (r + 1) (hI h r 2) x := ⟨_, rfl⟩
  obtain ⟨g2, eg2⟩ : ∃ g2, g2 = sI g r 2 (hI h r 2 + 1) := ⟨_, rfl⟩
  rw [← eg, ← eg2] at F ⊢
  obtain ⟨a1, f1, i1, r1⟩ := sA_fx eg
  obtain ⟨i2, f2, a2, r2⟩ := sI_fx eg2
  refine ⟨by rw [F.2.2]; exact b1, by rw [F.2.1 63 3 (by omega)]; exact b2, by rw [i2, b3, List.length_append]; rfl, fun j hj => ?_⟩
  rw [List.length_append] at hj
  have hj : j < L.length + 1 := hj
  rw [a2, a1, b3]
  by_cases q : j = L.length
  · rw [q]
    simp [upI]
  · have e9 : (L ++ [x]).getD j 0 = L.getD j 0 := by rw [List.getD_eq_getElem?_getD, List.getD_eq_getElem?_getD, List.getElem?_append_left (by omega)]
    rw [e9, ← b4 j (by omega)]
    unfold upI
    rw [if_neg (by omega)]
theorem TG_FL {h h' : HP} {tp : Int → Int} {n p : Nat} (A : TG h tp n p) (F : FL [] [] [] h h') : TG h' tp n p :=
  ⟨TxR_FL A.1 F rfl rfl rfl, TkR_FL A.2.1 F rfl rfl rfl, A.2.2.1, by rw [F.2.1 63 4 rfl]; exact A.2.2.2⟩
theorem tk_e {tp : Int → Int} {n p : Nat} (hp : p ≤ n) : (tk tp n p).2.2 ≤ n := (tk_is hp).2.2.1
def mX5_isGoing : MI := (yX5_isGoing, cX5_isGoing, 1, (some .boolean), rmK 1 0)
def tX5_isGoing : List (Nat × Instr × Nat) := [(0, .aload_n 0, 1), (1, .getfield 22, 3), (4, .ifCond .ne 7, 3), (7, .iconst 1, 1), (8, .goto 4, 3), (11, .iconst 0, 1), (12, .ireturn, 1)]
theorem dtX5_isGoing : tX5_isGoing.all (fun q => decide (decode cX5_isGoing q.1 = .ok (q.2.1, q.2.2))) = true := by decide +kernel
theorem npX5_isGoing : (parseMethodDescriptor (mY mX5_isGoing).desc).map (fun d => d.parameters.length) = some 0 := by decide +kernel
theorem vX5_isGoing : mV mX5_isGoing := ⟨wI_X5_isGoing, wS_X5_isGoing, wN_X5, wC_X5_isGoing, by decide +kernel, by decide +kernel⟩
set_option maxHeartbeats 4000000 in
set_option maxRecDepth 100000 in
theorem sX5_isGoing_t {h : HP} (z : hI h 63 4 = 0) : SpecK mX5_isGoing [vr 63] h (fun o h' => o = .inl (some (vi 1)) ∧ h' = h) := by
  refine Spec_of (by decide +kernel) (Nat.le_of_ble_eq_true rfl) ?_
  refine K_aload_n (dt_at dtX5_isGoing 0 rfl) rfl rfl ?_
  refine K_get (a := 63) (ci := 5) (k := 4) (v := vi 0) (dt_at dtX5_isGoing 1 rfl) (show TT 63 = (0, 5) from rfl) rfl (by decide) wF_X5_22 (by show vi (hI h 63 4) = vi 0; rw [z]) ?_
  refine K_if_ne (tgt := 11) (dt_at dtX5_isGoing 2 rfl) (by decide) (by first | assumption | exact ⟨by omega, by omega⟩) (fun c1 => absurd c1 (by omega)) (fun c1 => ?_)
  refine K_iconst (dt_at dtX5_isGoing 3 rfl) ?_
  refine K_goto (tgt := 12) (dt_at dtX5_isGoing 4 rfl) (by decide) ?_
  exact K_iret (dt_at dtX5_isGoing 6 rfl) rfl (by decide) (by decide) (by decide) ⟨rfl, rfl⟩
set_option maxHeartbeats 4000000 in
set_option maxRecDepth 100000 in
theorem sX5_isGoing_f {h : HP} {k : Int} (z : hI h 63 4 = k) (hk9 : 1 ≤ k ∧ k ≤ 5) : SpecK mX5_isGoing [vr 63] h (fun o h' => o = .inl (some (vi 0)) ∧ h' = h) := by
  refine Spec_of (by decide +kernel) (Nat.le_of_ble_eq_true rfl) ?_
  refine K_aload_n (dt_at dtX5_isGoing 0 rfl) rfl rfl ?_
  refine K_get (a := 63) (ci := 5) (k := 4) (v := vi k) (dt_at dtX5_isGoing 1 rfl) (show TT 63 = (0, 5) from rfl) rfl (by decide) wF_X5_22 (by show vi (hI h 63 4) = vi k; rw [z]) ?_
  refine K_if_ne (tgt := 11) (dt_at dtX5_isGoing 2 rfl) (by decide) (by first | assumption | exact ⟨by omega, by omega⟩) (fun c1 => ?_) (fun c1 => absurd c1 (by omega))
  refine K_iconst (dt_at dtX5_isGoing 5 rfl) ?_
  exact K_iret (dt_at dtX5_isGoing 6 rfl) rfl (by decide) (by decide) (by decide) ⟨rfl, rfl⟩
def mX5_stop : MI := (yX5_stop, cX5_stop, 2, none, rmK 2 0)
def tX5_stop : List (Nat × Instr × Nat) := [(0, .aload_n 0, 1), (1, .invokevirtual 49, 3), (4, .ifCond .eq 19, 3), (7, .aload_n 0, 1), (8, .iload_n 1, 1), (9, .putfield 22, 3), (12, .aload_n 0, 1), (13, .aload_n 0, 1), (14, .getfield 12, 3), (17, .invokevirtual 59, 3), (20, .putfield 26, 3), (23, .return_, 1)]
theorem dtX5_stop : tX5_stop.all (fun q => decide (decode cX5_stop q.1 = .ok (q.2.1, q.2.2))) = true := by decide +kernel
theorem npX5_stop : (parseMethodDescriptor (mY mX5_stop).desc).map (fun d => d.parameters.length) = some 1 := by decide +kernel
theorem vX5_stop : mV mX5_stop := ⟨wI_X5_stop, wS_X5_stop, wN_X5, wC_X5_stop, by decide +kernel, by decide +kernel⟩
set_option maxHeartbeats 4000000 in
set_option maxRecDepth 100000 in
theorem sX5_stop {h : HP} {tp : Int → Int} {n p : Nat} {k : Int} (A : TG h tp n p) (hk9 : 1 ≤ k ∧ k ≤ 5) : SpecK mX5_stop [vr 63, vi k] h (fun o h' => o = .inl none ∧ TE h' tp n (k, (tk tp n p).2.1) ∧ FL [] TR [] h h') := by
  refine Spec_of (by decide +kernel) (Nat.le_of_ble_eq_true rfl) ?_
  refine K_aload_n (dt_at dtX5_stop 0 rfl) rfl rfl ?_
  refine K_callV (M' := mX5_isGoing) (a := 63) (ci := 5) (As := []) (st := []) (dt_at dtX5_stop 1 rfl) (sX5_isGoing_t A.2.2.2) (show TT 63 = (0, 5) from rfl) rfl wL_X5_49 vX5_isGoing rfl npX5_isGoing (by decide) (by decide) (Nat.le_of_ble_eq_true rfl) (by decide) (by decide) GK_E (fun v9 h9 hq => ?_) (fun E h9 hq => by cases hq.1)
  obtain ⟨e9, e8⟩ := hq
  cases e9
  rw [e8]
  show K mX5_stop _ _ 0 0 4 [(0, vr 63), (1, vi k)] [vi 1] h
  refine K_if_eq (tgt := 23) (dt_at dtX5_stop 2 rfl) (by decide) (by first | assumption | exact ⟨by omega, by omega⟩) (fun c1 => absurd c1 (by omega)) (fun c1 => ?_)
  refine K_aload_n (dt_at dtX5_stop 3 rfl) rfl rfl ?_
  refine K_iload_n (dt_at dtX5_stop 4 rfl) rfl rfl ?_
  refine K_putI (a := 63) (ci := 5) (k := 4) (dt_at dtX5_stop 5 rfl) (show TT 63 = (0, 5) from rfl) rfl (by decide) wF_X5_22 rfl (Or.inl rfl) rfl rfl ?_
  obtain ⟨hq1, eq1⟩ : ∃ z, z = sI h 63 4 k := ⟨_, rfl⟩
  rw [← eq1]
  obtain ⟨iq1, fq1, aq1, rq1⟩ := sI_fx eq1
  refine K_aload_n (dt_at dtX5_stop 6 rfl) rfl rfl ?_
  refine K_aload_n (dt_at dtX5_stop 7 rfl) rfl rfl ?_
  refine K_get (a := 63) (ci := 5) (k := 0) (v := vr 64) (dt_at dtX5_stop 8 rfl) (show TT 63 = (0, 5) from rfl) rfl (by decide) wF_X5_12 rfl ?_
  have F1 : FL [] TR [] h hq1 := FL_eI eq1 rfl
  have T1 := TxR_FL A.1 F1 rfl rfl rfl
  have E1 : TkR hq1 (tk tp n p) := TkR_FL A.2.1 (FL_eI eq1 rfl : FL [] [(63, 4)] [] h hq1) rfl rfl rfl
  refine K_callV (M' := mX9_start) (a := 64) (ci := 9) (As := []) (st := [vr 63]) (dt_at dtX5_stop 9 rfl) (sX9_start T1 E1 (tk_G A.2.2.1)) (show TT 64 = (0, 9) from rfl) rfl wL_X5_59 vX9_start rfl npX9_start (by decide) (by decide) (Nat.le_of_ble_eq_true rfl) (by decide) (by decide) GK_E (fun v9 h9 hq => ?_) (fun E h9 hq => by cases hq.1)
  obtain ⟨e9, e8⟩ := hq
  cases e9
  rw [e8]
  show K mX5_stop _ _ 0 0 20 [(0, vr 63), (1, vi k)] [vi ((tk tp n p).2.1 : Int), vr 63] hq1
  refine K_putI (a := 63) (ci := 5) (k := 5) (dt_at dtX5_stop 10 rfl) (show TT 63 = (0, 5) from rfl) rfl (by decide) wF_X5_26 rfl (Or.inl rfl) rfl rfl ?_
  obtain ⟨hq2, eq2⟩ : ∃ z, z = sI hq1 63 5 ((tk tp n p).2.1 : Int) := ⟨_, rfl⟩
  rw [← eq2]
  obtain ⟨iq2, fq2, aq2, rq2⟩ := sI_fx eq2
  have F2 : FL [] TR [] h hq2 := FL_tr F1 (FL_eI eq2 rfl)
  exact K_vret (dt_at dtX5_stop 11 rfl) rfl (by decide) (by decide) ⟨rfl, ⟨TxR_FL A.1 F2 rfl rfl rfl, ⟨_, TkR_FL E1 (FL_eI eq2 rfl : FL [] [(63, 5)] [] hq1 hq2) rfl rfl rfl, tk_G A.2.2.1⟩, hk9, by rw [fq2 63 4 (by omega)]; exact iq1, iq2⟩, F2⟩
theorem pass_G {h : HP} {tp : Int → Int} {n p : Nat} (A : TG h tp n p) : SpecK mX9_pass [vr 64] h (fun o h' => o = .inl none ∧ TG h' tp n (tk tp n p).2.2 ∧ FL [] TR [] h h') :=
  Spec_mono (fun o h' q => ⟨q.1, ⟨TxR_FL A.1 q.2.2 rfl rfl rfl, q.2.1, tk_e A.2.2.1, by rw [q.2.2.2.1 63 4 rfl]; exact A.2.2.2⟩, FL_up q.2.2 rfl rfl rfl⟩) (sX9_pass A.1 A.2.1.2.2 (tk_e A.2.2.1))
def mX5_readSign : MI := (yX5_readSign, cX5_readSign, 2, none, rmK 3 0)
def tX5_readSign : List (Nat × Instr × Nat) := [(0, .aload_n 0, 1), (1, .invokevirtual 49, 3), (4, .ifCond .ne 4, 3), (7, .return_, 1), (8, .aload_n 0, 1), (9, .getfield 12, 3), (12, .iload_n 1, 1), (13, .invokevirtual 146, 3), (16, .ifCond .eq 13, 3), (19, .aload_n 0, 1), (20, .getfield 12, 3), (23, .invokevirtual 97, 3), (26, .goto 8, 3), (29, .aload_n 0, 1), (30, .iconst 1, 1), (31, .invokevirtual 86, 3), (34, .return_, 1)]
theorem dtX5_readSign : tX5_readSign.all (fun q => decide (decode cX5_readSign q.1 = .ok (q.2.1, q.2.2))) = true := by decide +kernel
theorem npX5_readSign : (parseMethodDescriptor (mY mX5_readSign).desc).map (fun d => d.parameters.length) = some 1 := by decide +kernel
theorem vX5_readSign : mV mX5_readSign := ⟨wI_X5_readSign, wS_X5_readSign, wN_X5, wC_X5_readSign, by decide +kernel, by decide +kernel⟩
set_option maxHeartbeats 4000000 in
set_option maxRecDepth 100000 in
theorem sX5_readSign_t {h : HP} {tp : Int → Int} {n p : Nat} {c : Int} (A : TG h tp n p) (hc : 0 ≤ c ∧ c < 128) (hs : Sg tp (tk tp n p) c) : SpecK mX5_readSign [vr 63, vi c] h (fun o h' => o = .inl none ∧ TG h' tp n (tk tp n p).2.2 ∧ FL [] TR [] h h') := by
  refine Spec_of (by decide +kernel) (Nat.le_of_ble_eq_true rfl) ?_
  refine K_aload_n (dt_at dtX5_readSign 0 rfl) rfl rfl ?_
  refine K_callV (M' := mX5_isGoing) (a := 63) (ci := 5) (As := []) (st := []) (dt_at dtX5_readSign 1 rfl) (sX5_isGoing_t A.2.2.2) (show TT 63 = (0, 5) from rfl) rfl wL_X5_49 vX5_isGoing rfl npX5_isGoing (by decide) (by decide) (Nat.le_of_ble_eq_true rfl) (by decide) (by decide) GK_E (fun v9 h9 hq => ?_) (fun E h9 hq => by cases hq.1)
  obtain ⟨e9, e8⟩ := hq
  cases e9
  rw [e8]
  show K mX5_readSign _ _ 0 0 4 [(0, vr 63), (1, vi c)] [vi 1] h
  refine K_if_ne (tgt := 8) (dt_at dtX5_readSign 2 rfl) (by decide) (by first | assumption | exact ⟨by omega, by omega⟩) (fun c1 => ?_) (fun c1 => absurd c1 (by omega))
  refine K_aload_n (dt_at dtX5_readSign 4 rfl) rfl rfl ?_
  refine K_get (a := 63) (ci := 5) (k := 0) (v := vr 64) (dt_at dtX5_readSign 5 rfl) (show TT 63 = (0, 5) from rfl) rfl (by decide) wF_X5_12 rfl ?_
  refine K_iload_n (dt_at dtX5_readSign 6 rfl) rfl rfl ?_
  refine K_callV (M' := mX9_isSign) (a := 64) (ci := 9) (As := [vi c]) (st := []) (dt_at dtX5_readSign 7 rfl) (sX9_isSign A.1 A.2.1 (tk_G A.2.2.1) ⟨by omega, by omega⟩) (show TT 64 = (0, 9) from rfl) rfl wL_X5_146 vX9_isSign rfl npX9_isSign (by decide) (by decide) (Nat.le_of_ble_eq_true rfl) (by decide) (by decide) GK_E (fun v9 h9 hq => ?_) (fun E h9 hq => by cases hq.1)
  obtain ⟨e9, e8⟩ := hq
  cases e9
  rw [e8]
  show K mX5_readSign _ _ 0 0 16 [(0, vr 63), (1, vi c)] [vi (if (tk tp n p).1 = 3 ∧ tp ((tk tp n p).2.1 : Int) = c then 1 else 0)] h
  rw [if_pos hs]
  refine K_if_eq (tgt := 29) (dt_at dtX5_readSign 8 rfl) (by decide) (by first | assumption | exact ⟨by omega, by omega⟩) (fun c2 => absurd c2 (by omega)) (fun c2 => ?_)
  refine K_aload_n (dt_at dtX5_readSign 9 rfl) rfl rfl ?_
  refine K_get (a := 63) (ci := 5) (k := 0) (v := vr 64) (dt_at dtX5_readSign 10 rfl) (show TT 63 = (0, 5) from rfl) rfl (by decide) wF_X5_12 rfl ?_
  refine K_callV (M' := mX9_pass) (a := 64) (ci := 9) (As := []) (st := []) (dt_at dtX5_readSign 11 rfl) (pass_G A) (show TT 64 = (0, 9) from rfl) rfl wL_X5_97 vX9_pass rfl npX9_pass (by decide) (by decide) (Nat.le_of_ble_eq_true rfl) (by decide) (by decide) GK_E (fun v9 hc1 hq => ?_) (fun E h9 hq => by cases hq.1)
  have hqq2 := hq
  obtain ⟨e9q2, Aq2, Fq2⟩ := hqq2
  cases e9q2
  show K mX5_readSign _ _ 0 0 26 [(0, vr 63), (1, vi c)] [] hc1
  refine K_goto (tgt := 34) (dt_at dtX5_readSign 12 rfl) (by decide) ?_
  exact K_vret (dt_at dtX5_readSign 16 rfl) rfl (by decide) (by decide) ⟨rfl, Aq2, Fq2⟩
set_option maxHeartbeats 4000000 in
set_option maxRecDepth 100000 in
theorem sX5_readSign_f {h : HP} {tp : Int → Int} {n p : Nat} {c : Int} (A : TG h tp n p) (hc : 0 ≤ c ∧ c < 128) (hs : ¬ Sg tp (tk tp n p) c) : SpecK mX5_readSign [vr 63, vi c] h (fun o h' => o = .inl none ∧ TE h' tp n (1, (tk tp n p).2.1) ∧ FL [] TR [] h h') := by
  refine Spec_of (by decide +kernel) (Nat.le_of_ble_eq_true rfl) ?_
  refine K_aload_n (dt_at dtX5_readSign 0 rfl) rfl rfl ?_
  refine K_callV (M' := mX5_isGoing) (a := 63) (ci := 5) (As := []) (st := []) (dt_at dtX5_readSign 1 rfl) (sX5_isGoing_t A.2.2.2) (show TT 63 = (0, 5) from rfl) rfl wL_X5_49 vX5_isGoing rfl npX5_isGoing (by decide) (by decide) (Nat.le_of_ble_eq_true rfl) (by decide) (by decide) GK_E (fun v9 h9 hq => ?_) (fun E h9 hq => by cases hq.1)
  obtain ⟨e9, e8⟩ := hq
  cases e9
  rw [e8]
  show K mX5_readSign _ _ 0 0 4 [(0, vr 63), (1, vi c)] [vi 1] h
  refine K_if_ne (tgt := 8) (dt_at dtX5_readSign 2 rfl) (by decide) (by first | assumption | exact ⟨by omega, by omega⟩) (fun c1 => ?_) (fun c1 => absurd c1 (by omega))
  refine K_aload_n (dt_at dtX5_readSign 4 rfl) rfl rfl ?_
  refine K_get (a := 63) (ci := 5) (k := 0) (v := vr 64) (dt_at dtX5_readSign 5 rfl) (show TT 63 = (0, 5) from rfl) rfl (by decide) wF_X5_12 rfl ?_
  refine K_iload_n (dt_at dtX5_readSign 6 rfl) rfl rfl ?_
  refine K_callV (M' := mX9_isSign) (a := 64) (ci := 9) (As := [vi c]) (st := []) (dt_at dtX5_readSign 7 rfl) (sX9_isSign A.1 A.2.1 (tk_G A.2.2.1) ⟨by omega, by omega⟩) (show TT 64 = (0, 9) from rfl) rfl wL_X5_146 vX9_isSign rfl npX9_isSign (by decide) (by decide) (Nat.le_of_ble_eq_true rfl) (by decide) (by decide) GK_E (fun v9 h9 hq => ?_) (fun E h9 hq => by cases hq.1)
  obtain ⟨e9, e8⟩ := hq
  cases e9
  rw [e8]
  show K mX5_readSign _ _ 0 0 16 [(0, vr 63), (1, vi c)] [vi (if (tk tp n p).1 = 3 ∧ tp ((tk tp n p).2.1 : Int) = c then 1 else 0)] h
  rw [if_neg hs]
  refine K_if_eq (tgt := 29) (dt_at dtX5_readSign 8 rfl) (by decide) (by first | assumption | exact ⟨by omega, by omega⟩) (fun c2 => ?_) (fun c2 => absurd c2 (by omega))
  refine K_aload_n (dt_at dtX5_readSign 13 rfl) rfl rfl ?_
  refine K_iconst (dt_at dtX5_readSign 14 rfl) ?_
  refine K_callV (M' := mX5_stop) (a := 63) (ci := 5) (As := [vi 1]) (st := []) (dt_at dtX5_readSign 15 rfl) (sX5_stop A ⟨by omega, by omega⟩) (show TT 63 = (0, 5) from rfl) rfl wL_X5_86 vX5_stop rfl npX5_stop (by decide) (by decide) (Nat.le_of_ble_eq_true rfl) (by decide) (by decide) GK_E (fun v9 hc1 hq => ?_) (fun E h9 hq => by cases hq.1)
  have hqq2 := hq
  obtain ⟨e9q2, Aq2, Fq2⟩ := hqq2
  cases e9q2
  show K mX5_readSign _ _ 0 0 34 [(0, vr 63), (1, vi c)] [] hc1
  exact K_vret (dt_at dtX5_readSign 16 rfl) rfl (by decide) (by decide) ⟨rfl, Aq2, Fq2⟩
set_option maxHeartbeats 4000000 in
set_option maxRecDepth 100000 in
theorem sX5_readSign_e {h : HP} {tp : Int → Int} {n : Nat} {e : Int × Nat} {c : Int} (A : TE h tp n e) : SpecK mX5_readSign [vr 63, vi c] h (fun o h' => o = .inl (none) ∧ h' = h) := by
  refine Spec_of (by decide +kernel) (Nat.le_of_ble_eq_true rfl) ?_
  refine K_aload_n (dt_at dtX5_readSign 0 rfl) rfl rfl ?_
  refine K_callV (M' := mX5_isGoing) (a := 63) (ci := 5) (As := []) (st := []) (dt_at dtX5_readSign 1 rfl) (sX5_isGoing_f A.2.2.2.1 A.2.2.1) (show TT 63 = (0, 5) from rfl) rfl wL_X5_49 vX5_isGoing rfl npX5_isGoing (by decide) (by decide) (Nat.le_of_ble_eq_true rfl) (by decide) (by decide) GK_E (fun v9 h9 hq => ?_) (fun E h9 hq => by cases hq.1)
  obtain ⟨e9, e8⟩ := hq
  cases e9
  rw [e8]
  show K mX5_readSign _ _ 0 0 4 [(0, vr 63), (1, vi c)] [vi 0] h
  refine K_if_ne (tgt := 8) (dt_at dtX5_readSign 2 rfl) (by decide) (by first | assumption | exact ⟨by omega, by omega⟩) (fun c1 => absurd c1 (by omega)) (fun c1 => ?_)
  exact K_vret (dt_at dtX5_readSign 3 rfl) rfl (by decide) (by decide) ⟨rfl, rfl⟩
def mX5_readNumber : MI := (yX5_readNumber, cX5_readNumber, 4, (some .int), rmK 3 0)
def tX5_readNumber : List (Nat × Instr × Nat) := [(0, .aload_n 0, 1), (1, .invokevirtual 49, 3), (4, .ifCond .ne 5, 3), (7, .iconst 0, 1), (8, .ireturn, 1), (9, .aload_n 0, 1), (10, .getfield 12, 3), (13, .invokevirtual 137, 3), (16, .ifCond .ne 10, 3), (19, .aload_n 0, 1), (20, .iconst 1, 1), (21, .invokevirtual 86, 3), (24, .iconst 0, 1), (25, .ireturn, 1), (26, .aload_n 0, 1), (27, .getfield 12, 3), (30, .invokevirtual 143, 3), (33, .istore_n 3, 1), (34, .aload_n 0, 1), (35, .getfield 12, 3), (38, .invokevirtual 140, 3), (41, .ifCond .ne 13, 3), (44, .iload_n 3, 1), (45, .iload_n 1, 1), (46, .if_icmp .lt 8, 3), (49, .iload_n 3, 1), (50, .iload_n 2, 1), (51, .if_icmp .le 10, 3), (54, .aload_n 0, 1), (55, .iconst 2, 1), (56, .invokevirtual 86, 3), (59, .iconst 0, 1), (60, .ireturn, 1), (61, .aload_n 0, 1), (62, .getfield 12, 3), (65, .invokevirtual 97, 3), (68, .iload_n 3, 1), (69, .ireturn, 1)]
theorem dtX5_readNumber : tX5_readNumber.all (fun q => decide (decode cX5_readNumber q.1 = .ok (q.2.1, q.2.2))) = true := by decide +kernel
theorem npX5_readNumber : (parseMethodDescriptor (mY mX5_readNumber).desc).map (fun d => d.parameters.length) = some 2 := by decide +kernel
theorem vX5_readNumber : mV mX5_readNumber := ⟨wI_X5_readNumber, wS_X5_readNumber, wN_X5, wC_X5_readNumber, by decide +kernel, by decide +kernel⟩
set_option maxHeartbeats 4000000 in
set_option maxRecDepth 100000 in
theorem sX5_readNumber_t {h : HP} {tp : Int → Int} {n p : Nat} {lo up : Int} (A : TG h tp n p) (hlo : i32 lo) (hup : i32 up) (h2 : (tk tp n p).1 = 2) (h3 : ¬ (tk tp n p).2.1 + 4 < (tk tp n p).2.2) (h4 : lo ≤ nmT tp (tk tp n p) ∧ nmT tp (tk tp n p) ≤ up) : SpecK mX5_readNumber [vr 63, vi lo, vi up] h (fun o h' => o = .inl (some (vi (nmT tp (tk tp n p)))) ∧ TG h' tp n (tk tp n p).2.2 ∧ FL [] TR [] h h') := by
  refine Spec_of (by decide +kernel) (Nat.le_of_ble_eq_true rfl) ?_
  have hnb := nmT_b (tk_G A.2.2.1) h2
  refine K_aload_n (dt_at dtX5_readNumber 0 rfl) rfl rfl ?_
  refine K_callV (M' := mX5_isGoing) (a := 63) (ci := 5) (As := []) (st := []) (dt_at dtX5_readNumber 1 rfl) (sX5_isGoing_t A.2.2.2) (show TT 63 = (0, 5) from rfl) rfl wL_X5_49 vX5_isGoing rfl npX5_isGoing (by decide) (by decide) (Nat.le_of_ble_eq_true rfl) (by decide) (by decide) GK_E (fun v9 h9 hq => ?_) (fun E h9 hq => by cases hq.1)
  obtain ⟨e9, e8⟩ := hq
  cases e9
  rw [e8]
  show K mX5_readNumber _ _ 0 0 4 [(0, vr 63), (1, vi lo), (2, vi up)] [vi 1] h
  refine K_if_ne (tgt := 9) (dt_at dtX5_readNumber 2 rfl) (by decide) (by first | assumption | exact ⟨by omega, by omega⟩) (fun c1 => ?_) (fun c1 => absurd c1 (by omega))
  refine K_aload_n (dt_at dtX5_readNumber 5 rfl) rfl rfl ?_
  refine K_get (a := 63) (ci := 5) (k := 0) (v := vr 64) (dt_at dtX5_readNumber 6 rfl) (show TT 63 = (0, 5) from rfl) rfl (by decide) wF_X5_12 rfl ?_
  refine K_callV (M' := mX9_isNumber) (a := 64) (ci := 9) (As := []) (st := []) (dt_at dtX5_readNumber 7 rfl) (sX9_isNumber A.1 A.2.1 (tk_G A.2.2.1)) (show TT 64 = (0, 9) from rfl) rfl wL_X5_137 vX9_isNumber rfl npX9_isNumber (by decide) (by decide) (Nat.le_of_ble_eq_true rfl) (by decide) (by decide) GK_E (fun v9 h9 hq => ?_) (fun E h9 hq => by cases hq.1)
  obtain ⟨e9, e8⟩ := hq
  cases e9
  rw [e8]
  show K mX5_readNumber _ _ 0 0 16 [(0, vr 63), (1, vi lo), (2, vi up)] [vi (if (tk tp n p).1 = 2 then 1 else 0)] h
  rw [if_pos h2]
  refine K_if_ne (tgt := 26) (dt_at dtX5_readNumber 8 rfl) (by decide) (by first | assumption | exact ⟨by omega, by omega⟩) (fun c2 => ?_) (fun c2 => absurd c2 (by omega))
  refine K_aload_n (dt_at dtX5_readNumber 14 rfl) rfl rfl ?_
  refine K_get (a := 63) (ci := 5) (k := 0) (v := vr 64) (dt_at dtX5_readNumber 15 rfl) (show TT 63 = (0, 5) from rfl) rfl (by decide) wF_X5_12 rfl ?_
  refine K_callV (M' := mX9_number) (a := 64) (ci := 9) (As := []) (st := []) (dt_at dtX5_readNumber 16 rfl) (sX9_number A.1 A.2.1 (tk_G A.2.2.1) h2) (show TT 64 = (0, 9) from rfl) rfl wL_X5_143 vX9_number rfl npX9_number (by decide) (by decide) (Nat.le_of_ble_eq_true rfl) (by decide) (by decide) GK_E (fun v9 h9 hq => ?_) (fun E h9 hq => by cases hq.1)
  obtain ⟨e9, e8⟩ := hq
  cases e9
  rw [e8]
  show K mX5_readNumber _ _ 0 0 33 [(0, vr 63), (1, vi lo), (2, vi up)] [vi (nmT tp (tk tp n p))] h
  refine K_istore_n (ls' := [(3, vi (nmT tp (tk tp n p))), (0, vr 63), (1, vi lo), (2, vi up)]) (dt_at dtX5_readNumber 17 rfl) rfl (by decide) rfl ?_
  refine K_aload_n (dt_at dtX5_readNumber 18 rfl) rfl rfl ?_
  refine K_get (a := 63) (ci := 5) (k := 0) (v := vr 64) (dt_at dtX5_readNumber 19 rfl) (show TT 63 = (0, 5) from rfl) rfl (by decide) wF_X5_12 rfl ?_
  refine K_callV (M' := mX9_isTooLong) (a := 64) (ci := 9) (As := []) (st := []) (dt_at dtX5_readNumber 20 rfl) (sX9_isTooLong A.1 A.2.1 (tk_G A.2.2.1)) (show TT 64 = (0, 9) from rfl) rfl wL_X5_140 vX9_isTooLong rfl npX9_isTooLong (by decide) (by decide) (Nat.le_of_ble_eq_true rfl) (by decide) (by decide) GK_E (fun v9 h9 hq => ?_) (fun E h9 hq => by cases hq.1)
  obtain ⟨e9, e8⟩ := hq
  cases e9
  rw [e8]
  show K mX5_readNumber _ _ 0 0 41 [(3, vi (nmT tp (tk tp n p))), (0, vr 63), (1, vi lo), (2, vi up)] [vi (if (tk tp n p).2.1 + 4 < (tk tp n p).2.2 then 1 else 0)] h
  rw [if_neg h3]
  refine K_if_ne (tgt := 54) (dt_at dtX5_readNumber 21 rfl) (by decide) (by first | assumption | exact ⟨by omega, by omega⟩) (fun c3 => absurd c3 (by omega)) (fun c3 => ?_)
  refine K_iload_n (dt_at dtX5_readNumber 22 rfl) rfl rfl ?_
  refine K_iload_n (dt_at dtX5_readNumber 23 rfl) rfl rfl ?_
  refine K_icmp_lt (tgt := 54) (dt_at dtX5_readNumber 24 rfl) (by decide) ⟨by omega, by omega⟩ hlo (fun c4 => absurd c4 (by omega)) (fun c4 => ?_)
  refine K_iload_n (dt_at dtX5_readNumber 25 rfl) rfl rfl ?_
  refine K_iload_n (dt_at dtX5_readNumber 26 rfl) rfl rfl ?_
  refine K_icmp_le (tgt := 61) (dt_at dtX5_readNumber 27 rfl) (by decide) ⟨by omega, by omega⟩ hup (fun c5 => ?_) (fun c5 => absurd c5 (by omega))
  refine K_aload_n (dt_at dtX5_readNumber 33 rfl) rfl rfl ?_
  refine K_get (a := 63) (ci := 5) (k := 0) (v := vr 64) (dt_at dtX5_readNumber 34 rfl) (show TT 63 = (0, 5) from rfl) rfl (by decide) wF_X5_12 rfl ?_
  refine K_callV (M' := mX9_pass) (a := 64) (ci := 9) (As := []) (st := []) (dt_at dtX5_readNumber 35 rfl) (pass_G A) (show TT 64 = (0, 9) from rfl) rfl wL_X5_97 vX9_pass rfl npX9_pass (by decide) (by decide) (Nat.le_of_ble_eq_true rfl) (by decide) (by decide) GK_E (fun v9 hc1 hq => ?_) (fun E h9 hq => by cases hq.1)
  have hqq2 := hq
  obtain ⟨e9q2, Aq2, Fq2⟩ := hqq2
  cases e9q2
  show K mX5_readNumber _ _ 0 0 68 [(3, vi (nmT tp (tk tp n p))), (0, vr 63), (1, vi lo), (2, vi up)] [] hc1
  refine K_iload_n (dt_at dtX5_readNumber 36 rfl) rfl rfl ?_
  exact K_iret (dt_at dtX5_readNumber 37 rfl) rfl rfl (by decide) (by decide) ⟨rfl, Aq2, Fq2⟩
set_option maxHeartbeats 4000000 in
set_option maxRecDepth 100000 in
theorem sX5_readNumber_f {h : HP} {tp : Int → Int} {n p : Nat} {lo up : Int} (A : TG h tp n p) (hlo : i32 lo) (hup : i32 up) (h2 : ¬ (tk tp n p).1 = 2) : SpecK mX5_readNumber [vr 63, vi lo, vi up] h (fun o h' => o = .inl (some (vi 0)) ∧ TE h' tp n (1, (tk tp n p).2.1) ∧ FL [] TR [] h h') := by
  refine Spec_of (by decide +kernel) (Nat.le_of_ble_eq_true rfl) ?_
  refine K_aload_n (dt_at dtX5_readNumber 0 rfl) rfl rfl ?_
  refine K_callV (M' := mX5_isGoing) (a := 63) (ci := 5) (As := []) (st := []) (dt_at dtX5_readNumber 1 rfl) (sX5_isGoing_t A.2.2.2) (show TT 63 = (0, 5) from rfl) rfl wL_X5_49 vX5_isGoing rfl npX5_isGoing (by decide) (by decide) (Nat.le_of_ble_eq_true rfl) (by decide) (by decide) GK_E (fun v9 h9 hq => ?_) (fun E h9 hq => by cases hq.1)
  obtain ⟨e9, e8⟩ := hq
  cases e9
  rw [e8]
  show K mX5_readNumber _ _ 0 0 4 [(0, vr 63), (1, vi lo), (2, vi up)] [vi 1] h
  refine K_if_ne (tgt := 9) (dt_at dtX5_readNumber 2 rfl) (by decide) (by first | assumption | exact ⟨by omega, by omega⟩) (fun c1 => ?_) (fun c1 => absurd c1 (by omega))
  refine K_aload_n (dt_at dtX5_readNumber 5 rfl) rfl rfl ?_
  refine K_get (a := 63) (ci := 5) (k := 0) (v := vr 64) (dt_at dtX5_readNumber 6 rfl) (show TT 63 = (0, 5) from rfl) rfl (by decide) wF_X5_12 rfl ?_
  refine K_callV (M' := mX9_isNumber) (a := 64) (ci := 9) (As := []) (st := []) (dt_at dtX5_readNumber 7 rfl) (sX9_isNumber A.1 A.2.1 (tk_G A.2.2.1)) (show TT 64 = (0, 9) from rfl) rfl wL_X5_137 vX9_isNumber rfl npX9_isNumber (by decide) (by decide) (Nat.le_of_ble_eq_true rfl) (by decide) (by decide) GK_E (fun v9 h9 hq => ?_) (fun E h9 hq => by cases hq.1)
  obtain ⟨e9, e8⟩ := hq
  cases e9
  rw [e8]
  show K mX5_readNumber _ _ 0 0 16 [(0, vr 63), (1, vi lo), (2, vi up)] [vi (if (tk tp n p).1 = 2 then 1 else 0)] h
  rw [if_neg h2]
  refine K_if_ne (tgt := 26) (dt_at dtX5_readNumber 8 rfl) (by decide) (by first | assumption | exact ⟨by omega, by omega⟩) (fun c2 => absurd c2 (by omega)) (fun c2 => ?_)
  refine K_aload_n (dt_at dtX5_readNumber 9 rfl) rfl rfl ?_
  refine K_iconst (dt_at dtX5_readNumber 10 rfl) ?_
  refine K_callV (M' := mX5_stop) (a := 63) (ci := 5) (As := [vi 1]) (st := []) (dt_at dtX5_readNumber 11 rfl) (sX5_stop A ⟨by omega, by omega⟩) (show TT 63 = (0, 5) from rfl) rfl wL_X5_86 vX5_stop rfl npX5_stop (by decide) (by decide) (Nat.le_of_ble_eq_true rfl) (by decide) (by decide) GK_E (fun v9 hc1 hq => ?_) (fun E h9 hq => by cases hq.1)
  have hqq2 := hq
  obtain ⟨e9q2, Aq2, Fq2⟩ := hqq2
  cases e9q2
  show K mX5_readNumber _ _ 0 0 24 [(0, vr 63), (1, vi lo), (2, vi up)] [] hc1
  refine K_iconst (dt_at dtX5_readNumber 12 rfl) ?_
  exact K_iret (dt_at dtX5_readNumber 13 rfl) rfl rfl (by decide) (by decide) ⟨rfl, Aq2, Fq2⟩
set_option maxHeartbeats 4000000 in
set_option maxRecDepth 100000 in
theorem sX5_readNumber_g {h : HP} {tp : Int → Int} {n p : Nat} {lo up : Int} (A : TG h tp n p) (hlo : i32 lo) (hup : i32 up) (h2 : (tk tp n p).1 = 2) (h3 : (tk tp n p).2.1 + 4 < (tk tp n p).2.2 ∨ nmT tp (tk tp n p) < lo ∨ up < nmT tp (tk tp n p)) : SpecK mX5_readNumber [vr 63, vi lo, vi up] h (fun o h' => o = .inl (some (vi 0)) ∧ TE h' tp n (2, (tk tp n p).2.1) ∧ FL [] TR [] h h') := by
  refine Spec_of (by decide +kernel) (Nat.le_of_ble_eq_true rfl) ?_
  have hnb := nmT_b (tk_G A.2.2.1) h2
  refine K_aload_n (dt_at dtX5_readNumber 0 rfl) rfl rfl ?_
  refine K_callV (M' := mX5_isGoing) (a := 63) (ci := 5) (As := []) (st := []) (dt_at dtX5_readNumber 1 rfl) (sX5_isGoing_t A.2.2.2) (show TT 63 = (0, 5) from rfl) rfl wL_X5_49 vX5_isGoing rfl npX5_isGoing (by decide) (by decide) (Nat.le_of_ble_eq_true rfl) (by decide) (by decide) GK_E (fun v9 h9 hq => ?_) (fun E h9 hq => by cases hq.1)
  obtain ⟨e9, e8⟩ := hq
  cases e9
  rw [e8]
  show K mX5_readNumber _ _ 0 0 4 [(0, vr 63), (1, vi lo), (2, vi up)] [vi 1] h
  refine K_if_ne (tgt := 9) (dt_at dtX5_readNumber 2 rfl) (by decide) (by first | assumption | exact ⟨by omega, by omega⟩) (fun c1 => ?_) (fun c1 => absurd c1 (by omega))
  refine K_aload_n (dt_at dtX5_readNumber 5 rfl) rfl rfl ?_
  refine K_get (a := 63) (ci := 5) (k := 0) (v := vr 64) (dt_at dtX5_readNumber 6 rfl) (show TT 63 = (0, 5) from rfl) rfl (by decide) wF_X5_12 rfl ?_
  refine K_callV (M' := mX9_isNumber) (a := 64) (ci := 9) (As := []) (st := []) (dt_at dtX5_readNumber 7 rfl) (sX9_isNumber A.1 A.2.1 (tk_G A.2.2.1)) (show TT 64 = (0, 9) from rfl) rfl wL_X5_137 vX9_isNumber rfl npX9_isNumber (by decide) (by decide) (Nat.le_of_ble_eq_true rfl) (by decide) (by decide) GK_E (fun v9 h9 hq => ?_) (fun E h9 hq => by cases hq.1)
  obtain ⟨e9, e8⟩ := hq
  cases e9
  rw [e8]
  show K mX5_readNumber _ _ 0 0 16 [(0, vr 63), (1, vi lo), (2, vi up)] [vi (if (tk tp n p).1 = 2 then 1 else 0)] h
  rw [if_pos h2]
  refine K_if_ne (tgt := 26) (dt_at dtX5_readNumber 8 rfl) (by decide) (by first | assumption | exact ⟨by omega, by omega⟩) (fun c2 => ?_) (fun c2 => absurd c2 (by omega))
  refine K_aload_n (dt_at dtX5_readNumber 14 rfl) rfl rfl ?_
  refine K_get (a := 63) (ci := 5) (k := 0) (v := vr 64) (dt_at dtX5_readNumber 15 rfl) (show TT 63 = (0, 5) from rfl) rfl (by decide) wF_X5_12 rfl ?_
  refine K_callV (M' := mX9_number) (a := 64) (ci := 9) (As := []) (st := []) (dt_at dtX5_readNumber 16 rfl) (sX9_number A.1 A.2.1 (tk_G A.2.2.1) h2) (show TT 64 = (0, 9) from rfl) rfl wL_X5_143 vX9_number rfl npX9_number (by decide) (by decide) (Nat.le_of_ble_eq_true rfl) (by decide) (by decide) GK_E (fun v9 h9 hq => ?_) (fun E h9 hq => by cases hq.1)
  obtain ⟨e9, e8⟩ := hq
  cases e9
  rw [e8]
  show K mX5_readNumber _ _ 0 0 33 [(0, vr 63), (1, vi lo), (2, vi up)] [vi (nmT tp (tk tp n p))] h
  refine K_istore_n (ls' := [(3, vi (nmT tp (tk tp n p))), (0, vr 63), (1, vi lo), (2, vi up)]) (dt_at dtX5_readNumber 17 rfl) rfl (by decide) rfl ?_
  refine K_aload_n (dt_at dtX5_readNumber 18 rfl) rfl rfl ?_
  refine K_get (a := 63) (ci := 5) (k := 0) (v := vr 64) (dt_at dtX5_readNumber 19 rfl) (show TT 63 = (0, 5) from rfl) rfl (by decide) wF_X5_12 rfl ?_
  refine K_callV (M' := mX9_isTooLong) (a := 64) (ci := 9) (As := []) (st := []) (dt_at dtX5_readNumber 20 rfl) (sX9_isTooLong A.1 A.2.1 (tk_G A.2.2.1)) (show TT 64 = (0, 9) from rfl) rfl wL_X5_140 vX9_isTooLong rfl npX9_isTooLong (by decide) (by decide) (Nat.le_of_ble_eq_true rfl) (by decide) (by decide) GK_E (fun v9 h9 hq => ?_) (fun E h9 hq => by cases hq.1)
  obtain ⟨e9, e8⟩ := hq
  cases e9
  rw [e8]
  show K mX5_readNumber _ _ 0 0 41 [(3, vi (nmT tp (tk tp n p))), (0, vr 63), (1, vi lo), (2, vi up)] [vi (if (tk tp n p).2.1 + 4 < (tk tp n p).2.2 then 1 else 0)] h
  by_cases z3 : (tk tp n p).2.1 + 4 < (tk tp n p).2.2
  · rw [if_pos z3]
    refine K_if_ne (tgt := 54) (dt_at dtX5_readNumber 21 rfl) (by decide) (by first | assumption | exact ⟨by omega, by omega⟩) (fun c4 => ?_) (fun c4 => absurd c4 (by omega))
    refine K_aload_n (dt_at dtX5_readNumber 28 rfl) rfl rfl ?_
    refine K_iconst (dt_at dtX5_readNumber 29 rfl) ?_
    refine K_callV (M' := mX5_stop) (a := 63) (ci := 5) (As := [vi 2]) (st := []) (dt_at dtX5_readNumber 30 rfl) (sX5_stop A ⟨by omega, by omega⟩) (show TT 63 = (0, 5) from rfl) rfl wL_X5_86 vX5_stop rfl npX5_stop (by decide) (by decide) (Nat.le_of_ble_eq_true rfl) (by decide) (by decide) GK_E (fun v9 hc1 hq => ?_) (fun E h9 hq => by cases hq.1)
    have hqq2 := hq
    obtain ⟨e9q2, Aq2, Fq2⟩ := hqq2
    cases e9q2
    show K mX5_readNumber _ _ 0 0 59 [(3, vi (nmT tp (tk tp n p))), (0, vr 63), (1, vi lo), (2, vi up)] [] hc1
    refine K_iconst (dt_at dtX5_readNumber 31 rfl) ?_
    exact K_iret (dt_at dtX5_readNumber 32 rfl) rfl rfl (by decide) (by decide) ⟨rfl, Aq2, Fq2⟩
  · rw [if_neg z3]
    refine K_if_ne (tgt := 54) (dt_at dtX5_readNumber 21 rfl) (by decide) (by first | assumption | exact ⟨by omega, by omega⟩) (fun c5 => absurd c5 (by omega)) (fun c5 => ?_)
    refine K_iload_n (dt_at dtX5_readNumber 22 rfl) rfl rfl ?_
    refine K_iload_n (dt_at dtX5_readNumber 23 rfl) rfl rfl ?_
    refine K_icmp_lt (tgt := 54) (dt_at dtX5_readNumber 24 rfl) (by decide) ⟨by omega, by omega⟩ hlo (fun c6 => ?_) (fun c6 => ?_)
    · refine K_aload_n (dt_at dtX5_readNumber 28 rfl) rfl rfl ?_
      refine K_iconst (dt_at dtX5_readNumber 29 rfl) ?_
      refine K_callV (M' := mX5_stop) (a := 63) (ci := 5) (As := [vi 2]) (st := []) (dt_at dtX5_readNumber 30 rfl) (sX5_stop A ⟨by omega, by omega⟩) (show TT 63 = (0, 5) from rfl) rfl wL_X5_86 vX5_stop rfl npX5_stop (by decide) (by decide) (Nat.le_of_ble_eq_true rfl) (by decide) (by decide) GK_E (fun v9 hc3 hq => ?_) (fun E h9 hq => by cases hq.1)
      have hqq4 := hq
      obtain ⟨e9q4, Aq4, Fq4⟩ := hqq4
      cases e9q4
      show K mX5_readNumber _ _ 0 0 59 [(3, vi (nmT tp (tk tp n p))), (0, vr 63), (1, vi lo), (2, vi up)] [] hc3
      refine K_iconst (dt_at dtX5_readNumber 31 rfl) ?_
      exact K_iret (dt_at dtX5_readNumber 32 rfl) rfl rfl (by decide) (by decide) ⟨rfl, Aq4, Fq4⟩
    · refine K_iload_n (dt_at dtX5_readNumber 25 rfl) rfl rfl ?_
      refine K_iload_n (dt_at dtX5_readNumber 26 rfl) rfl rfl ?_
      refine K_icmp_le (tgt := 61) (dt_at dtX5_readNumber 27 rfl) (by decide) ⟨by omega, by omega⟩ hup (fun c7 => ?_) (fun c7 => ?_)
      · exact absurd h3 (by omega)
      · refine K_aload_n (dt_at dtX5_readNumber 28 rfl) rfl rfl ?_
        refine K_iconst (dt_at dtX5_readNumber 29 rfl) ?_
        refine K_callV (M' := mX5_stop) (a := 63) (ci := 5) (As := [vi 2]) (st := []) (dt_at dtX5_readNumber 30 rfl) (sX5_stop A ⟨by omega, by omega⟩) (show TT 63 = (0, 5) from rfl) rfl wL_X5_86 vX5_stop rfl npX5_stop (by decide) (by decide) (Nat.le_of_ble_eq_true rfl) (by decide) (by decide) GK_E (fun v9 hc5 hq => ?_) (fun E h9 hq => by cases hq.1)
        have hqq6 := hq
        obtain ⟨e9q6, Aq6, Fq6⟩ := hqq6
        cases e9q6
        show K mX5_readNumber _ _ 0 0 59 [(3, vi (nmT tp (tk tp n p))), (0, vr 63), (1, vi lo), (2, vi up)] [] hc5
        refine K_iconst (dt_at dtX5_readNumber 31 rfl) ?_
        exact K_iret (dt_at dtX5_readNumber 32 rfl) rfl rfl (by decide) (by decide) ⟨rfl, Aq6, Fq6⟩
set_option maxHeartbeats 4000000 in
set_option maxRecDepth 100000 in
theorem sX5_readNumber_e {h : HP} {tp : Int → Int} {n : Nat} {e : Int × Nat} {lo up : Int} (A : TE h tp n e) : SpecK mX5_readNumber [vr 63, vi lo, vi up] h (fun o h' => o = .inl (some (vi 0)) ∧ h' = h) := by
  refine Spec_of (by decide +kernel) (Nat.le_of_ble_eq_true rfl) ?_
  refine K_aload_n (dt_at dtX5_readNumber 0 rfl) rfl rfl ?_
  refine K_callV (M' := mX5_isGoing) (a := 63) (ci := 5) (As := []) (st := []) (dt_at dtX5_readNumber 1 rfl) (sX5_isGoing_f A.2.2.2.1 A.2.2.1) (show TT 63 = (0, 5) from rfl) rfl wL_X5_49 vX5_isGoing rfl npX5_isGoing (by decide) (by decide) (Nat.le_of_ble_eq_true rfl) (by decide) (by decide) GK_E (fun v9 h9 hq => ?_) (fun E h9 hq => by cases hq.1)
  obtain ⟨e9, e8⟩ := hq
  cases e9
  rw [e8]
  show K mX5_readNumber _ _ 0 0 4 [(0, vr 63), (1, vi lo), (2, vi up)] [vi 0] h
  refine K_if_ne (tgt := 9) (dt_at dtX5_readNumber 2 rfl) (by decide) (by first | assumption | exact ⟨by omega, by omega⟩) (fun c1 => absurd c1 (by omega)) (fun c1 => ?_)
  refine K_iconst (dt_at dtX5_readNumber 3 rfl) ?_
  exact K_iret (dt_at dtX5_readNumber 4 rfl) rfl rfl (by decide) (by decide) ⟨rfl, rfl⟩
theorem cb_or {a b c : Prop} (h : a ∨ b ∨ c) : a ∨ b ∨ c := h
def mX5_couldBegin : MI := (yX5_couldBegin, cX5_couldBegin, 1, (some .boolean), rmK 2 0)
def tX5_couldBegin : List (Nat × Instr × Nat) := [(0, .aload_n 0, 1), (1, .getfield 12, 3), (4, .invokevirtual 137, 3), (7, .ifCond .ne 25, 3), (10, .aload_n 0, 1), (11, .getfield 12, 3), (14, .invokevirtual 171, 3), (17, .ifCond .ne 15, 3), (20, .aload_n 0, 1), (21, .getfield 12, 3), (24, .bipush 40, 2), (26, .invokevirtual 146, 3), (29, .ifCond .eq 7, 3), (32, .iconst 1, 1), (33, .goto 4, 3), (36, .iconst 0, 1), (37, .ireturn, 1)]
theorem dtX5_couldBegin : tX5_couldBegin.all (fun q => decide (decode cX5_couldBegin q.1 = .ok (q.2.1, q.2.2))) = true := by decide +kernel
theorem npX5_couldBegin : (parseMethodDescriptor (mY mX5_couldBegin).desc).map (fun d => d.parameters.length) = some 0 := by decide +kernel
theorem vX5_couldBegin : mV mX5_couldBegin := ⟨wI_X5_couldBegin, wS_X5_couldBegin, wN_X5, wC_X5_couldBegin, by decide +kernel, by decide +kernel⟩
set_option maxHeartbeats 4000000 in
set_option maxRecDepth 100000 in
theorem sX5_couldBegin {h : HP} {tp : Int → Int} {n p : Nat} (A : TG h tp n p) : SpecK mX5_couldBegin [vr 63] h (fun o h' => o = .inl (some (vi (if (tk tp n p).1 = 2 ∨ (tk tp n p).1 = 1 ∨ Sg tp (tk tp n p) 40 then 1 else 0))) ∧ h' = h) := by
  refine Spec_of (by decide +kernel) (Nat.le_of_ble_eq_true rfl) ?_
  refine K_aload_n (dt_at dtX5_couldBegin 0 rfl) rfl rfl ?_
  refine K_get (a := 63) (ci := 5) (k := 0) (v := vr 64) (dt_at dtX5_couldBegin 1 rfl) (show TT 63 = (0, 5) from rfl) rfl (by decide) wF_X5_12 rfl ?_
  refine K_callV (M' := mX9_isNumber) (a := 64) (ci := 9) (As := []) (st := []) (dt_at dtX5_couldBegin 2 rfl) (sX9_isNumber A.1 A.2.1 (tk_G A.2.2.1)) (show TT 64 = (0, 9) from rfl) rfl wL_X5_137 vX9_isNumber rfl npX9_isNumber (by decide) (by decide) (Nat.le_of_ble_eq_true rfl) (by decide) (by decide) GK_E (fun v9 h9 hq => ?_) (fun E h9 hq => by cases hq.1)
  obtain ⟨e9, e8⟩ := hq
  cases e9
  rw [e8]
  show K mX5_couldBegin _ _ 0 0 7 [(0, vr 63)] [vi (if (tk tp n p).1 = 2 then 1 else 0)] h
  by_cases z1 : (tk tp n p).1 = 2
  · rw [if_pos z1]
    refine K_if_ne (tgt := 32) (dt_at dtX5_couldBegin 3 rfl) (by decide) (by first | assumption | exact ⟨by omega, by omega⟩) (fun c2 => ?_) (fun c2 => absurd c2 (by omega))
    refine K_iconst (dt_at dtX5_couldBegin 13 rfl) ?_
    refine K_goto (tgt := 37) (dt_at dtX5_couldBegin 14 rfl) (by decide) ?_
    exact K_iret (dt_at dtX5_couldBegin 16 rfl) rfl (by decide) (by decide) (by decide) ⟨by rw [if_pos (cb_or (by first | exact Or.inl (by assumption) | exact Or.inr (Or.inl (by assumption)) | exact Or.inr (Or.inr (by assumption))))], rfl⟩
  · rw [if_neg z1]
    refine K_if_ne (tgt := 32) (dt_at dtX5_couldBegin 3 rfl) (by decide) (by first | assumption | exact ⟨by omega, by omega⟩) (fun c3 => absurd c3 (by omega)) (fun c3 => ?_)
    refine K_aload_n (dt_at dtX5_couldBegin 4 rfl) rfl rfl ?_
    refine K_get (a := 63) (ci := 5) (k := 0) (v := vr 64) (dt_at dtX5_couldBegin 5 rfl) (show TT 63 = (0, 5) from rfl) rfl (by decide) wF_X5_12 rfl ?_
    refine K_callV (M' := mX9_isAnyWord) (a := 64) (ci := 9) (As := []) (st := []) (dt_at dtX5_couldBegin 6 rfl) (sX9_isAnyWord A.1 A.2.1 (tk_G A.2.2.1)) (show TT 64 = (0, 9) from rfl) rfl wL_X5_171 vX9_isAnyWord rfl npX9_isAnyWord (by decide) (by decide) (Nat.le_of_ble_eq_true rfl) (by decide) (by decide) GK_E (fun v9 h9 hq => ?_) (fun E h9 hq => by cases hq.1)
    obtain ⟨e9, e8⟩ := hq
    cases e9
    rw [e8]
    show K mX5_couldBegin _ _ 0 0 17 [(0, vr 63)] [vi (if (tk tp n p).1 = 1 then 1 else 0)] h
    by_cases z4 : (tk tp n p).1 = 1
    · rw [if_pos z4]
      refine K_if_ne (tgt := 32) (dt_at dtX5_couldBegin 7 rfl) (by decide) (by first | assumption | exact ⟨by omega, by omega⟩) (fun c5 => ?_) (fun c5 => absurd c5 (by omega))
      refine K_iconst (dt_at dtX5_couldBegin 13 rfl) ?_
      refine K_goto (tgt := 37) (dt_at dtX5_couldBegin 14 rfl) (by decide) ?_
      exact K_iret (dt_at dtX5_couldBegin 16 rfl) rfl (by decide) (by decide) (by decide) ⟨by rw [if_pos (cb_or (by first | exact Or.inl (by assumption) | exact Or.inr (Or.inl (by assumption)) | exact Or.inr (Or.inr (by assumption))))], rfl⟩
    · rw [if_neg z4]
      refine K_if_ne (tgt := 32) (dt_at dtX5_couldBegin 7 rfl) (by decide) (by first | assumption | exact ⟨by omega, by omega⟩) (fun c6 => absurd c6 (by omega)) (fun c6 => ?_)
      refine K_aload_n (dt_at dtX5_couldBegin 8 rfl) rfl rfl ?_
      refine K_get (a := 63) (ci := 5) (k := 0) (v := vr 64) (dt_at dtX5_couldBegin 9 rfl) (show TT 63 = (0, 5) from rfl) rfl (by decide) wF_X5_12 rfl ?_
      refine K_bipush (dt_at dtX5_couldBegin 10 rfl) (by decide) ?_
      refine K_callV (M' := mX9_isSign) (a := 64) (ci := 9) (As := [vi 40]) (st := []) (dt_at dtX5_couldBegin 11 rfl) (sX9_isSign A.1 A.2.1 (tk_G A.2.2.1) ⟨by omega, by omega⟩) (show TT 64 = (0, 9) from rfl) rfl wL_X5_146 vX9_isSign rfl npX9_isSign (by decide) (by decide) (Nat.le_of_ble_eq_true rfl) (by decide) (by decide) GK_E (fun v9 h9 hq => ?_) (fun E h9 hq => by cases hq.1)
      obtain ⟨e9, e8⟩ := hq
      cases e9
      rw [e8]
      show K mX5_couldBegin _ _ 0 0 29 [(0, vr 63)] [vi (if (tk tp n p).1 = 3 ∧ tp ((tk tp n p).2.1 : Int) = 40 then 1 else 0)] h
      by_cases z7 : (tk tp n p).1 = 3 ∧ tp ((tk tp n p).2.1 : Int) = 40
      · rw [if_pos z7]
        refine K_if_eq (tgt := 36) (dt_at dtX5_couldBegin 12 rfl) (by decide) (by first | assumption | exact ⟨by omega, by omega⟩) (fun c8 => absurd c8 (by omega)) (fun c8 => ?_)
        refine K_iconst (dt_at dtX5_couldBegin 13 rfl) ?_
        refine K_goto (tgt := 37) (dt_at dtX5_couldBegin 14 rfl) (by decide) ?_
        exact K_iret (dt_at dtX5_couldBegin 16 rfl) rfl (by decide) (by decide) (by decide) ⟨by rw [if_pos (cb_or (by first | exact Or.inl (by assumption) | exact Or.inr (Or.inl (by assumption)) | exact Or.inr (Or.inr (by assumption))))], rfl⟩
      · rw [if_neg z7]
        refine K_if_eq (tgt := 36) (dt_at dtX5_couldBegin 12 rfl) (by decide) (by first | assumption | exact ⟨by omega, by omega⟩) (fun c9 => ?_) (fun c9 => absurd c9 (by omega))
        refine K_iconst (dt_at dtX5_couldBegin 15 rfl) ?_
        exact K_iret (dt_at dtX5_couldBegin 16 rfl) rfl (by decide) (by decide) (by decide) ⟨by rw [if_neg (fun z => by rcases z with z | z | z <;> contradiction)], rfl⟩
def mX5_testStep : MI := (yX5_testStep, cX5_testStep, 1, (some .int), rmK 2 0)
def tX5_testStep : List (Nat × Instr × Nat) := [(0, .aload_n 0, 1), (1, .getfield 12, 3), (4, .bipush 60, 2), (6, .invokevirtual 146, 3), (9, .ifCond .eq 6, 3), (12, .bipush (-12), 2), (14, .ireturn, 1), (15, .aload_n 0, 1), (16, .getfield 12, 3), (19, .bipush 61, 2), (21, .invokevirtual 146, 3), (24, .ifCond .eq 8, 3), (27, .bipush (-13), 2), (29, .goto 4, 3), (32, .iconst 0, 1), (33, .ireturn, 1)]
theorem dtX5_testStep : tX5_testStep.all (fun q => decide (decode cX5_testStep q.1 = .ok (q.2.1, q.2.2))) = true := by decide +kernel
theorem npX5_testStep : (parseMethodDescriptor (mY mX5_testStep).desc).map (fun d => d.parameters.length) = some 0 := by decide +kernel
theorem vX5_testStep : mV mX5_testStep := ⟨wI_X5_testStep, wS_X5_testStep, wN_X5, wC_X5_testStep, by decide +kernel, by decide +kernel⟩
set_option maxHeartbeats 4000000 in
set_option maxRecDepth 100000 in
theorem sX5_testStep {h : HP} {tp : Int → Int} {n p : Nat} (A : TG h tp n p) : SpecK mX5_testStep [vr 63] h (fun o h' => o = .inl (some (vi (tstS tp (tk tp n p)))) ∧ h' = h) := by
  refine Spec_of (by decide +kernel) (Nat.le_of_ble_eq_true rfl) ?_
  refine K_aload_n (dt_at dtX5_testStep 0 rfl) rfl rfl ?_
  refine K_get (a := 63) (ci := 5) (k := 0) (v := vr 64) (dt_at dtX5_testStep 1 rfl) (show TT 63 = (0, 5) from rfl) rfl (by decide) wF_X5_12 rfl ?_
  refine K_bipush (dt_at dtX5_testStep 2 rfl) (by decide) ?_
  refine K_callV (M' := mX9_isSign) (a := 64) (ci := 9) (As := [vi 60]) (st := []) (dt_at dtX5_testStep 3 rfl) (sX9_isSign A.1 A.2.1 (tk_G A.2.2.1) ⟨by omega, by omega⟩) (show TT 64 = (0, 9) from rfl) rfl wL_X5_146 vX9_isSign rfl npX9_isSign (by decide) (by decide) (Nat.le_of_ble_eq_true rfl) (by decide) (by decide) GK_E (fun v9 h9 hq => ?_) (fun E h9 hq => by cases hq.1)
  obtain ⟨e9, e8⟩ := hq
  cases e9
  rw [e8]
  show K mX5_testStep _ _ 0 0 9 [(0, vr 63)] [vi (if (tk tp n p).1 = 3 ∧ tp ((tk tp n p).2.1 : Int) = 60 then 1 else 0)] h
  by_cases z1 : (tk tp n p).1 = 3 ∧ tp ((tk tp n p).2.1 : Int) = 60
  · rw [if_pos z1]
    refine K_if_eq (tgt := 15) (dt_at dtX5_testStep 4 rfl) (by decide) (by first | assumption | exact ⟨by omega, by omega⟩) (fun c2 => absurd c2 (by omega)) (fun c2 => ?_)
    refine K_bipush (dt_at dtX5_testStep 5 rfl) (by decide) ?_
    exact K_iret (dt_at dtX5_testStep 6 rfl) rfl rfl (by decide) (by decide) ⟨by unfold tstS; rw [if_pos (by assumption)], rfl⟩
  · rw [if_neg z1]
    refine K_if_eq (tgt := 15) (dt_at dtX5_testStep 4 rfl) (by decide) (by first | assumption | exact ⟨by omega, by omega⟩) (fun c3 => ?_) (fun c3 => absurd c3 (by omega))
    refine K_aload_n (dt_at dtX5_testStep 7 rfl) rfl rfl ?_
    refine K_get (a := 63) (ci := 5) (k := 0) (v := vr 64) (dt_at dtX5_testStep 8 rfl) (show TT 63 = (0, 5) from rfl) rfl (by decide) wF_X5_12 rfl ?_
    refine K_bipush (dt_at dtX5_testStep 9 rfl) (by decide) ?_
    refine K_callV (M' := mX9_isSign) (a := 64) (ci := 9) (As := [vi 61]) (st := []) (dt_at dtX5_testStep 10 rfl) (sX9_isSign A.1 A.2.1 (tk_G A.2.2.1) ⟨by omega, by omega⟩) (show TT 64 = (0, 9) from rfl) rfl wL_X5_146 vX9_isSign rfl npX9_isSign (by decide) (by decide) (Nat.le_of_ble_eq_true rfl) (by decide) (by decide) GK_E (fun v9 h9 hq => ?_) (fun E h9 hq => by cases hq.1)
    obtain ⟨e9, e8⟩ := hq
    cases e9
    rw [e8]
    show K mX5_testStep _ _ 0 0 24 [(0, vr 63)] [vi (if (tk tp n p).1 = 3 ∧ tp ((tk tp n p).2.1 : Int) = 61 then 1 else 0)] h
    by_cases z4 : (tk tp n p).1 = 3 ∧ tp ((tk tp n p).2.1 : Int) = 61
    · rw [if_pos z4]
      refine K_if_eq (tgt := 32) (dt_at dtX5_testStep 11 rfl) (by decide) (by first | assumption | exact ⟨by omega, by omega⟩) (fun c5 => absurd c5 (by omega)) (fun c5 => ?_)
      refine K_bipush (dt_at dtX5_testStep 12 rfl) (by decide) ?_
      refine K_goto (tgt := 33) (dt_at dtX5_testStep 13 rfl) (by decide) ?_
      exact K_iret (dt_at dtX5_testStep 15 rfl) rfl rfl (by decide) (by decide) ⟨by unfold tstS; rw [if_neg (by assumption), if_pos (by assumption)], rfl⟩
    · rw [if_neg z4]
      refine K_if_eq (tgt := 32) (dt_at dtX5_testStep 11 rfl) (by decide) (by first | assumption | exact ⟨by omega, by omega⟩) (fun c6 => ?_) (fun c6 => absurd c6 (by omega))
      refine K_iconst (dt_at dtX5_testStep 14 rfl) ?_
      exact K_iret (dt_at dtX5_testStep 15 rfl) rfl rfl (by decide) (by decide) ⟨by unfold tstS; rw [if_neg (by assumption), if_neg (by assumption)], rfl⟩
def mX5_sumStep : MI := (yX5_sumStep, cX5_sumStep, 1, (some .int), rmK 2 0)
def tX5_sumStep : List (Nat × Instr × Nat) := [(0, .aload_n 0, 1), (1, .getfield 12, 3), (4, .bipush 43, 2), (6, .invokevirtual 146, 3), (9, .ifCond .eq 6, 3), (12, .bipush (-14), 2), (14, .ireturn, 1), (15, .aload_n 0, 1), (16, .getfield 12, 3), (19, .bipush 45, 2), (21, .invokevirtual 146, 3), (24, .ifCond .eq 8, 3), (27, .bipush (-15), 2), (29, .goto 4, 3), (32, .iconst 0, 1), (33, .ireturn, 1)]
theorem dtX5_sumStep : tX5_sumStep.all (fun q => decide (decode cX5_sumStep q.1 = .ok (q.2.1, q.2.2))) = true := by decide +kernel
theorem npX5_sumStep : (parseMethodDescriptor (mY mX5_sumStep).desc).map (fun d => d.parameters.length) = some 0 := by decide +kernel
theorem vX5_sumStep : mV mX5_sumStep := ⟨wI_X5_sumStep, wS_X5_sumStep, wN_X5, wC_X5_sumStep, by decide +kernel, by decide +kernel⟩
set_option maxHeartbeats 4000000 in
set_option maxRecDepth 100000 in
theorem sX5_sumStep {h : HP} {tp : Int → Int} {n p : Nat} (A : TG h tp n p) : SpecK mX5_sumStep [vr 63] h (fun o h' => o = .inl (some (vi (sumS tp (tk tp n p)))) ∧ h' = h) := by
  refine Spec_of (by decide +kernel) (Nat.le_of_ble_eq_true rfl) ?_
  refine K_aload_n (dt_at dtX5_sumStep 0 rfl) rfl rfl ?_
  refine K_get (a := 63) (ci := 5) (k := 0) (v := vr 64) (dt_at dtX5_sumStep 1 rfl) (show TT 63 = (0, 5) from rfl) rfl (by decide) wF_X5_12 rfl ?_
  refine K_bipush (dt_at dtX5_sumStep 2 rfl) (by decide) ?_
  refine K_callV (M' := mX9_isSign) (a := 64) (ci := 9) (As := [vi 43]) (st := []) (dt_at dtX5_sumStep 3 rfl) (sX9_isSign A.1 A.2.1 (tk_G A.2.2.1) ⟨by omega, by omega⟩) (show TT 64 = (0, 9) from rfl) rfl wL_X5_146 vX9_isSign rfl npX9_isSign (by decide) (by decide) (Nat.le_of_ble_eq_true rfl) (by decide) (by decide) GK_E (fun v9 h9 hq => ?_) (fun E h9 hq => by cases hq.1)
  obtain ⟨e9, e8⟩ := hq
  cases e9
  rw [e8]
  show K mX5_sumStep _ _ 0 0 9 [(0, vr 63)] [vi (if (tk tp n p).1 = 3 ∧ tp ((tk tp n p).2.1 : Int) = 43 then 1 else 0)] h
  by_cases z1 : (tk tp n p).1 = 3 ∧ tp ((tk tp n p).2.1 : Int) = 43
  · rw [if_pos z1]
    refine K_if_eq (tgt := 15) (dt_at dtX5_sumStep 4 rfl) (by decide) (by first | assumption | exact ⟨by omega, by omega⟩) (fun c2 => absurd c2 (by omega)) (fun c2 => ?_)
    refine K_bipush (dt_at dtX5_sumStep 5 rfl) (by decide) ?_
    exact K_iret (dt_at dtX5_sumStep 6 rfl) rfl rfl (by decide) (by decide) ⟨by unfold sumS; rw [if_pos (by assumption)], rfl⟩
  · rw [if_neg z1]
    refine K_if_eq (tgt := 15) (dt_at dtX5_sumStep 4 rfl) (by decide) (by first | assumption | exact ⟨by omega, by omega⟩) (fun c3 => ?_) (fun c3 => absurd c3 (by omega))
    refine K_aload_n (dt_at dtX5_sumStep 7 rfl) rfl rfl ?_
    refine K_get (a := 63) (ci := 5) (k := 0) (v := vr 64) (dt_at dtX5_sumStep 8 rfl) (show TT 63 = (0, 5) from rfl) rfl (by decide) wF_X5_12 rfl ?_
    refine K_bipush (dt_at dtX5_sumStep 9 rfl) (by decide) ?_
    refine K_callV (M' := mX9_isSign) (a := 64) (ci := 9) (As := [vi 45]) (st := []) (dt_at dtX5_sumStep 10 rfl) (sX9_isSign A.1 A.2.1 (tk_G A.2.2.1) ⟨by omega, by omega⟩) (show TT 64 = (0, 9) from rfl) rfl wL_X5_146 vX9_isSign rfl npX9_isSign (by decide) (by decide) (Nat.le_of_ble_eq_true rfl) (by decide) (by decide) GK_E (fun v9 h9 hq => ?_) (fun E h9 hq => by cases hq.1)
    obtain ⟨e9, e8⟩ := hq
    cases e9
    rw [e8]
    show K mX5_sumStep _ _ 0 0 24 [(0, vr 63)] [vi (if (tk tp n p).1 = 3 ∧ tp ((tk tp n p).2.1 : Int) = 45 then 1 else 0)] h
    by_cases z4 : (tk tp n p).1 = 3 ∧ tp ((tk tp n p).2.1 : Int) = 45
    · rw [if_pos z4]
      refine K_if_eq (tgt := 32) (dt_at dtX5_sumStep 11 rfl) (by decide) (by first | assumption | exact ⟨by omega, by omega⟩) (fun c5 => absurd c5 (by omega)) (fun c5 => ?_)
      refine K_bipush (dt_at dtX5_sumStep 12 rfl) (by decide) ?_
      refine K_goto (tgt := 33) (dt_at dtX5_sumStep 13 rfl) (by decide) ?_
      exact K_iret (dt_at dtX5_sumStep 15 rfl) rfl rfl (by decide) (by decide) ⟨by unfold sumS; rw [if_neg (by assumption), if_pos (by assumption)], rfl⟩
    · rw [if_neg z4]
      refine K_if_eq (tgt := 32) (dt_at dtX5_sumStep 11 rfl) (by decide) (by first | assumption | exact ⟨by omega, by omega⟩) (fun c6 => ?_) (fun c6 => absurd c6 (by omega))
      refine K_iconst (dt_at dtX5_sumStep 14 rfl) ?_
      exact K_iret (dt_at dtX5_sumStep 15 rfl) rfl rfl (by decide) (by decide) ⟨by unfold sumS; rw [if_neg (by assumption), if_neg (by assumption)], rfl⟩
def mX5_productStep : MI := (yX5_productStep, cX5_productStep, 1, (some .int), rmK 2 0)
def tX5_productStep : List (Nat × Instr × Nat) := [(0, .aload_n 0, 1), (1, .getfield 12, 3), (4, .bipush 42, 2), (6, .invokevirtual 146, 3), (9, .ifCond .eq 6, 3), (12, .bipush (-16), 2), (14, .ireturn, 1), (15, .aload_n 0, 1), (16, .getfield 12, 3), (19, .bipush 47, 2), (21, .invokevirtual 146, 3), (24, .ifCond .eq 8, 3), (27, .bipush (-17), 2), (29, .goto 4, 3), (32, .iconst 0, 1), (33, .ireturn, 1)]
theorem dtX5_productStep : tX5_productStep.all (fun q => decide (decode cX5_productStep q.1 = .ok (q.2.1, q.2.2))) = true := by decide +kernel
theorem npX5_productStep : (parseMethodDescriptor (mY mX5_productStep).desc).map (fun d => d.parameters.length) = some 0 := by decide +kernel
theorem vX5_productStep : mV mX5_productStep := ⟨wI_X5_productStep, wS_X5_productStep, wN_X5, wC_X5_productStep, by decide +kernel, by decide +kernel⟩
set_option maxHeartbeats 4000000 in
set_option maxRecDepth 100000 in
theorem sX5_productStep {h : HP} {tp : Int → Int} {n p : Nat} (A : TG h tp n p) : SpecK mX5_productStep [vr 63] h (fun o h' => o = .inl (some (vi (prdS tp (tk tp n p)))) ∧ h' = h) := by
  refine Spec_of (by decide +kernel) (Nat.le_of_ble_eq_true rfl) ?_
  refine K_aload_n (dt_at dtX5_productStep 0 rfl) rfl rfl ?_
  refine K_get (a := 63) (ci := 5) (k := 0) (v := vr 64) (dt_at dtX5_productStep 1 rfl) (show TT 63 = (0, 5) from rfl) rfl (by decide) wF_X5_12 rfl ?_
  refine K_bipush (dt_at dtX5_productStep 2 rfl) (by decide) ?_
  refine K_callV (M' := mX9_isSign) (a := 64) (ci := 9) (As := [vi 42]) (st := []) (dt_at dtX5_productStep 3 rfl) (sX9_isSign A.1 A.2.1 (tk_G A.2.2.1) ⟨by omega, by omega⟩) (show TT 64 = (0, 9) from rfl) rfl wL_X5_146 vX9_isSign rfl npX9_isSign (by decide) (by decide) (Nat.le_of_ble_eq_true rfl) (by decide) (by decide) GK_E (fun v9 h9 hq => ?_) (fun E h9 hq => by cases hq.1)
  obtain ⟨e9, e8⟩ := hq
  cases e9
  rw [e8]
  show K mX5_productStep _ _ 0 0 9 [(0, vr 63)] [vi (if (tk tp n p).1 = 3 ∧ tp ((tk tp n p).2.1 : Int) = 42 then 1 else 0)] h
  by_cases z1 : (tk tp n p).1 = 3 ∧ tp ((tk tp n p).2.1 : Int) = 42
  · rw [if_pos z1]
    refine K_if_eq (tgt := 15) (dt_at dtX5_productStep 4 rfl) (by decide) (by first | assumption | exact ⟨by omega, by omega⟩) (fun c2 => absurd c2 (by omega)) (fun c2 => ?_)
    refine K_bipush (dt_at dtX5_productStep 5 rfl) (by decide) ?_
    exact K_iret (dt_at dtX5_productStep 6 rfl) rfl rfl (by decide) (by decide) ⟨by unfold prdS; rw [if_pos (by assumption)], rfl⟩
  · rw [if_neg z1]
    refine K_if_eq (tgt := 15) (dt_at dtX5_productStep 4 rfl) (by decide) (by first | assumption | exact ⟨by omega, by omega⟩) (fun c3 => ?_) (fun c3 => absurd c3 (by omega))
    refine K_aload_n (dt_at dtX5_productStep 7 rfl) rfl rfl ?_
    refine K_get (a := 63) (ci := 5) (k := 0) (v := vr 64) (dt_at dtX5_productStep 8 rfl) (show TT 63 = (0, 5) from rfl) rfl (by decide) wF_X5_12 rfl ?_
    refine K_bipush (dt_at dtX5_productStep 9 rfl) (by decide) ?_
    refine K_callV (M' := mX9_isSign) (a := 64) (ci := 9) (As := [vi 47]) (st := []) (dt_at dtX5_productStep 10 rfl) (sX9_isSign A.1 A.2.1 (tk_G A.2.2.1) ⟨by omega, by omega⟩) (show TT 64 = (0, 9) from rfl) rfl wL_X5_146 vX9_isSign rfl npX9_isSign (by decide) (by decide) (Nat.le_of_ble_eq_true rfl) (by decide) (by decide) GK_E (fun v9 h9 hq => ?_) (fun E h9 hq => by cases hq.1)
    obtain ⟨e9, e8⟩ := hq
    cases e9
    rw [e8]
    show K mX5_productStep _ _ 0 0 24 [(0, vr 63)] [vi (if (tk tp n p).1 = 3 ∧ tp ((tk tp n p).2.1 : Int) = 47 then 1 else 0)] h
    by_cases z4 : (tk tp n p).1 = 3 ∧ tp ((tk tp n p).2.1 : Int) = 47
    · rw [if_pos z4]
      refine K_if_eq (tgt := 32) (dt_at dtX5_productStep 11 rfl) (by decide) (by first | assumption | exact ⟨by omega, by omega⟩) (fun c5 => absurd c5 (by omega)) (fun c5 => ?_)
      refine K_bipush (dt_at dtX5_productStep 12 rfl) (by decide) ?_
      refine K_goto (tgt := 33) (dt_at dtX5_productStep 13 rfl) (by decide) ?_
      exact K_iret (dt_at dtX5_productStep 15 rfl) rfl rfl (by decide) (by decide) ⟨by unfold prdS; rw [if_neg (by assumption), if_pos (by assumption)], rfl⟩
    · rw [if_neg z4]
      refine K_if_eq (tgt := 32) (dt_at dtX5_productStep 11 rfl) (by decide) (by first | assumption | exact ⟨by omega, by omega⟩) (fun c6 => ?_) (fun c6 => absurd c6 (by omega))
      refine K_iconst (dt_at dtX5_productStep 14 rfl) ?_
      exact K_iret (dt_at dtX5_productStep 15 rfl) rfl rfl (by decide) (by decide) ⟨by unfold prdS; rw [if_neg (by assumption), if_neg (by assumption)], rfl⟩
def mX5_valueOfBoth : MI := (yX5_valueOfBoth, cX5_valueOfBoth, 1, (some .int), rmK 6 0)
def tX5_valueOfBoth : List (Nat × Instr × Nat) := [(0, .aload_n 0, 1), (1, .getfield 12, 3), (4, .ldc 222, 2), (6, .invokevirtual 65, 3), (9, .ifCond .eq 5, 3), (12, .iconst (-1), 1), (13, .ireturn, 1), (14, .aload_n 0, 1), (15, .getfield 12, 3), (18, .ldc 223, 2), (20, .invokevirtual 65, 3), (23, .ifCond .eq 8, 3), (26, .bipush (-2), 2), (28, .goto 4, 3), (31, .iconst 0, 1), (32, .ireturn, 1)]
theorem dtX5_valueOfBoth : tX5_valueOfBoth.all (fun q => decide (decode cX5_valueOfBoth q.1 = .ok (q.2.1, q.2.2))) = true := by decide +kernel
theorem npX5_valueOfBoth : (parseMethodDescriptor (mY mX5_valueOfBoth).desc).map (fun d => d.parameters.length) = some 0 := by decide +kernel
theorem vX5_valueOfBoth : mV mX5_valueOfBoth := ⟨wI_X5_valueOfBoth, wS_X5_valueOfBoth, wN_X5, wC_X5_valueOfBoth, by decide +kernel, by decide +kernel⟩
set_option maxHeartbeats 4000000 in
set_option maxRecDepth 100000 in
theorem sX5_valueOfBoth {h : HP} {tp : Int → Int} {n p : Nat} (A : TG h tp n p) : SpecK mX5_valueOfBoth [vr 63] h (fun o h' => o = .inl (some (vi (vBo tp (tk tp n p)))) ∧ h' = h) := by
  refine Spec_of (by decide +kernel) (Nat.le_of_ble_eq_true rfl) ?_
  refine K_aload_n (dt_at dtX5_valueOfBoth 0 rfl) rfl rfl ?_
  refine K_get (a := 63) (ci := 5) (k := 0) (v := vr 64) (dt_at dtX5_valueOfBoth 1 rfl) (show TT 63 = (0, 5) from rfl) rfl (by decide) wF_X5_12 rfl ?_
  refine K_ldcS (i := 5) (dt_at dtX5_valueOfBoth 2 rfl) rfl GK_E ?_
  refine K_callV (M' := mX9_isWord) (a := 64) (ci := 9) (As := [vs 6]) (st := []) (dt_at dtX5_valueOfBoth 3 rfl) (sX9_isWord (i := 5) A.1 A.2.1 (tk_G A.2.2.1) (by decide)) (show TT 64 = (0, 9) from rfl) rfl wL_X5_65 vX9_isWord rfl npX9_isWord (by decide) (by decide) (Nat.le_of_ble_eq_true rfl) (by decide) (by decide) GK_E (fun v9 h9 hq => ?_) (fun E h9 hq => by cases hq.1)
  obtain ⟨e9, e8⟩ := hq
  cases e9
  rw [e8]
  show K mX5_valueOfBoth _ _ 0 0 9 [(0, vr 63)] [vi (if isWb tp (tk tp n p) 5 = true then 1 else 0)] h
  by_cases z1 : isWb tp (tk tp n p) 5 = true
  · rw [if_pos z1]
    refine K_if_eq (tgt := 14) (dt_at dtX5_valueOfBoth 4 rfl) (by decide) (by first | assumption | exact ⟨by omega, by omega⟩) (fun c2 => absurd c2 (by omega)) (fun c2 => ?_)
    refine K_iconst (dt_at dtX5_valueOfBoth 5 rfl) ?_
    exact K_iret (dt_at dtX5_valueOfBoth 6 rfl) rfl rfl (by decide) (by decide) ⟨by unfold vBo; rw [if_pos (by assumption)], rfl⟩
  · rw [if_neg z1]
    refine K_if_eq (tgt := 14) (dt_at dtX5_valueOfBoth 4 rfl) (by decide) (by first | assumption | exact ⟨by omega, by omega⟩) (fun c3 => ?_) (fun c3 => absurd c3 (by omega))
    refine K_aload_n (dt_at dtX5_valueOfBoth 7 rfl) rfl rfl ?_
    refine K_get (a := 63) (ci := 5) (k := 0) (v := vr 64) (dt_at dtX5_valueOfBoth 8 rfl) (show TT 63 = (0, 5) from rfl) rfl (by decide) wF_X5_12 rfl ?_
    refine K_ldcS (i := 6) (dt_at dtX5_valueOfBoth 9 rfl) rfl GK_E ?_
    refine K_callV (M' := mX9_isWord) (a := 64) (ci := 9) (As := [vs 7]) (st := []) (dt_at dtX5_valueOfBoth 10 rfl) (sX9_isWord (i := 6) A.1 A.2.1 (tk_G A.2.2.1) (by decide)) (show TT 64 = (0, 9) from rfl) rfl wL_X5_65 vX9_isWord rfl npX9_isWord (by decide) (by decide) (Nat.le_of_ble_eq_true rfl) (by decide) (by decide) GK_E (fun v9 h9 hq => ?_) (fun E h9 hq => by cases hq.1)
    obtain ⟨e9, e8⟩ := hq
    cases e9
    rw [e8]
    show K mX5_valueOfBoth _ _ 0 0 23 [(0, vr 63)] [vi (if isWb tp (tk tp n p) 6 = true then 1 else 0)] h
    by_cases z4 : isWb tp (tk tp n p) 6 = true
    · rw [if_pos z4]
      refine K_if_eq (tgt := 31) (dt_at dtX5_valueOfBoth 11 rfl) (by decide) (by first | assumption | exact ⟨by omega, by omega⟩) (fun c5 => absurd c5 (by omega)) (fun c5 => ?_)
      refine K_bipush (dt_at dtX5_valueOfBoth 12 rfl) (by decide) ?_
      refine K_goto (tgt := 32) (dt_at dtX5_valueOfBoth 13 rfl) (by decide) ?_
      exact K_iret (dt_at dtX5_valueOfBoth 15 rfl) rfl rfl (by decide) (by decide) ⟨by unfold vBo; rw [if_neg (by assumption), if_pos (by assumption)], rfl⟩
    · rw [if_neg z4]
      refine K_if_eq (tgt := 31) (dt_at dtX5_valueOfBoth 11 rfl) (by decide) (by first | assumption | exact ⟨by omega, by omega⟩) (fun c6 => ?_) (fun c6 => absurd c6 (by omega))
      refine K_iconst (dt_at dtX5_valueOfBoth 14 rfl) ?_
      exact K_iret (dt_at dtX5_valueOfBoth 15 rfl) rfl rfl (by decide) (by decide) ⟨by unfold vBo; rw [if_neg (by assumption), if_neg (by assumption)], rfl⟩
def mX5_valueOfPuts : MI := (yX5_valueOfPuts, cX5_valueOfPuts, 1, (some .int), rmK 6 0)
def tX5_valueOfPuts : List (Nat × Instr × Nat) := [(0, .aload_n 0, 1), (1, .getfield 12, 3), (4, .ldc 214, 2), (6, .invokevirtual 65, 3), (9, .ifCond .eq 6, 3), (12, .bipush (-3), 2), (14, .ireturn, 1), (15, .aload_n 0, 1), (16, .getfield 12, 3), (19, .ldc 215, 2), (21, .invokevirtual 65, 3), (24, .ifCond .eq 6, 3), (27, .bipush (-4), 2), (29, .ireturn, 1), (30, .aload_n 0, 1), (31, .getfield 12, 3), (34, .ldc 216, 2), (36, .invokevirtual 65, 3), (39, .ifCond .eq 6, 3), (42, .bipush (-5), 2), (44, .ireturn, 1), (45, .aload_n 0, 1), (46, .getfield 12, 3), (49, .ldc 217, 2), (51, .invokevirtual 65, 3), (54, .ifCond .eq 8, 3), (57, .bipush (-6), 2), (59, .goto 4, 3), (62, .iconst 0, 1), (63, .ireturn, 1)]
theorem dtX5_valueOfPuts : tX5_valueOfPuts.all (fun q => decide (decode cX5_valueOfPuts q.1 = .ok (q.2.1, q.2.2))) = true := by decide +kernel
theorem npX5_valueOfPuts : (parseMethodDescriptor (mY mX5_valueOfPuts).desc).map (fun d => d.parameters.length) = some 0 := by decide +kernel
theorem vX5_valueOfPuts : mV mX5_valueOfPuts := ⟨wI_X5_valueOfPuts, wS_X5_valueOfPuts, wN_X5, wC_X5_valueOfPuts, by decide +kernel, by decide +kernel⟩
set_option maxHeartbeats 4000000 in
set_option maxRecDepth 100000 in
theorem sX5_valueOfPuts {h : HP} {tp : Int → Int} {n p : Nat} (A : TG h tp n p) : SpecK mX5_valueOfPuts [vr 63] h (fun o h' => o = .inl (some (vi (vPu tp (tk tp n p)))) ∧ h' = h) := by
  refine Spec_of (by decide +kernel) (Nat.le_of_ble_eq_true rfl) ?_
  refine K_aload_n (dt_at dtX5_valueOfPuts 0 rfl) rfl rfl ?_
  refine K_get (a := 63) (ci := 5) (k := 0) (v := vr 64) (dt_at dtX5_valueOfPuts 1 rfl) (show TT 63 = (0, 5) from rfl) rfl (by decide) wF_X5_12 rfl ?_
  refine K_ldcS (i := 7) (dt_at dtX5_valueOfPuts 2 rfl) rfl GK_E ?_
  refine K_callV (M' := mX9_isWord) (a := 64) (ci := 9) (As := [vs 8]) (st := []) (dt_at dtX5_valueOfPuts 3 rfl) (sX9_isWord (i := 7) A.1 A.2.1 (tk_G A.2.2.1) (by decide)) (show TT 64 = (0, 9) from rfl) rfl wL_X5_65 vX9_isWord rfl npX9_isWord (by decide) (by decide) (Nat.le_of_ble_eq_true rfl) (by decide) (by decide) GK_E (fun v9 h9 hq => ?_) (fun E h9 hq => by cases hq.1)
  obtain ⟨e9, e8⟩ := hq
  cases e9
  rw [e8]
  show K mX5_valueOfPuts _ _ 0 0 9 [(0, vr 63)] [vi (if isWb tp (tk tp n p) 7 = true then 1 else 0)] h
  by_cases z1 : isWb tp (tk tp n p) 7 = true
  · rw [if_pos z1]
    refine K_if_eq (tgt := 15) (dt_at dtX5_valueOfPuts 4 rfl) (by decide) (by first | assumption | exact ⟨by omega, by omega⟩) (fun c2 => absurd c2 (by omega)) (fun c2 => ?_)
    refine K_bipush (dt_at dtX5_valueOfPuts 5 rfl) (by decide) ?_
    exact K_iret (dt_at dtX5_valueOfPuts 6 rfl) rfl rfl (by decide) (by decide) ⟨by unfold vPu; rw [if_pos (by assumption)], rfl⟩
  · rw [if_neg z1]
    refine K_if_eq (tgt := 15) (dt_at dtX5_valueOfPuts 4 rfl) (by decide) (by first | assumption | exact ⟨by omega, by omega⟩) (fun c3 => ?_) (fun c3 => absurd c3 (by omega))
    refine K_aload_n (dt_at dtX5_valueOfPuts 7 rfl) rfl rfl ?_
    refine K_get (a := 63) (ci := 5) (k := 0) (v := vr 64) (dt_at dtX5_valueOfPuts 8 rfl) (show TT 63 = (0, 5) from rfl) rfl (by decide) wF_X5_12 rfl ?_
    refine K_ldcS (i := 8) (dt_at dtX5_valueOfPuts 9 rfl) rfl GK_E ?_
    refine K_callV (M' := mX9_isWord) (a := 64) (ci := 9) (As := [vs 9]) (st := []) (dt_at dtX5_valueOfPuts 10 rfl) (sX9_isWord (i := 8) A.1 A.2.1 (tk_G A.2.2.1) (by decide)) (show TT 64 = (0, 9) from rfl) rfl wL_X5_65 vX9_isWord rfl npX9_isWord (by decide) (by decide) (Nat.le_of_ble_eq_true rfl) (by decide) (by decide) GK_E (fun v9 h9 hq => ?_) (fun E h9 hq => by cases hq.1)
    obtain ⟨e9, e8⟩ := hq
    cases e9
    rw [e8]
    show K mX5_valueOfPuts _ _ 0 0 24 [(0, vr 63)] [vi (if isWb tp (tk tp n p) 8 = true then 1 else 0)] h
    by_cases z4 : isWb tp (tk tp n p) 8 = true
    · rw [if_pos z4]
      refine K_if_eq (tgt := 30) (dt_at dtX5_valueOfPuts 11 rfl) (by decide) (by first | assumption | exact ⟨by omega, by omega⟩) (fun c5 => absurd c5 (by omega)) (fun c5 => ?_)
      refine K_bipush (dt_at dtX5_valueOfPuts 12 rfl) (by decide) ?_
      exact K_iret (dt_at dtX5_valueOfPuts 13 rfl) rfl rfl (by decide) (by decide) ⟨by unfold vPu; rw [if_neg (by assumption), if_pos (by assumption)], rfl⟩
    · rw [if_neg z4]
      refine K_if_eq (tgt := 30) (dt_at dtX5_valueOfPuts 11 rfl) (by decide) (by first | assumption | exact ⟨by omega, by omega⟩) (fun c6 => ?_) (fun c6 => absurd c6 (by omega))
      refine K_aload_n (dt_at dtX5_valueOfPuts 14 rfl) rfl rfl ?_
      refine K_get (a := 63) (ci := 5) (k := 0) (v := vr 64) (dt_at dtX5_valueOfPuts 15 rfl) (show TT 63 = (0, 5) from rfl) rfl (by decide) wF_X5_12 rfl ?_
      refine K_ldcS (i := 9) (dt_at dtX5_valueOfPuts 16 rfl) rfl GK_E ?_
      refine K_callV (M' := mX9_isWord) (a := 64) (ci := 9) (As := [vs 10]) (st := []) (dt_at dtX5_valueOfPuts 17 rfl) (sX9_isWord (i := 9) A.1 A.2.1 (tk_G A.2.2.1) (by decide)) (show TT 64 = (0, 9) from rfl) rfl wL_X5_65 vX9_isWord rfl npX9_isWord (by decide) (by decide) (Nat.le_of_ble_eq_true rfl) (by decide) (by decide) GK_E (fun v9 h9 hq => ?_) (fun E h9 hq => by cases hq.1)
      obtain ⟨e9, e8⟩ := hq
      cases e9
      rw [e8]
      show K mX5_valueOfPuts _ _ 0 0 39 [(0, vr 63)] [vi (if isWb tp (tk tp n p) 9 = true then 1 else 0)] h
      by_cases z7 : isWb tp (tk tp n p) 9 = true
      · rw [if_pos z7]
        refine K_if_eq (tgt := 45) (dt_at dtX5_valueOfPuts 18 rfl) (by decide) (by first | assumption | exact ⟨by omega, by omega⟩) (fun c8 => absurd c8 (by omega)) (fun c8 => ?_)
        refine K_bipush (dt_at dtX5_valueOfPuts 19 rfl) (by decide) ?_
        exact K_iret (dt_at dtX5_valueOfPuts 20 rfl) rfl rfl (by decide) (by decide) ⟨by unfold vPu; rw [if_neg (by assumption), if_neg (by assumption), if_pos (by assumption)], rfl⟩
      · rw [if_neg z7]
        refine K_if_eq (tgt := 45) (dt_at dtX5_valueOfPuts 18 rfl) (by decide) (by first | assumption | exact ⟨by omega, by omega⟩) (fun c9 => ?_) (fun c9 => absurd c9 (by omega))
        refine K_aload_n (dt_at dtX5_valueOfPuts 21 rfl) rfl rfl ?_
        refine K_get (a := 63) (ci := 5) (k := 0) (v := vr 64) (dt_at dtX5_valueOfPuts 22 rfl) (show TT 63 = (0, 5) from rfl) rfl (by decide) wF_X5_12 rfl ?_
        refine K_ldcS (i := 10) (dt_at dtX5_valueOfPuts 23 rfl) rfl GK_E ?_
        refine K_callV (M' := mX9_isWord) (a := 64) (ci := 9) (As := [vs 11]) (st := []) (dt_at dtX5_valueOfPuts 24 rfl) (sX9_isWord (i := 10) A.1 A.2.1 (tk_G A.2.2.1) (by decide)) (show TT 64 = (0, 9) from rfl) rfl wL_X5_65 vX9_isWord rfl npX9_isWord (by decide) (by decide) (Nat.le_of_ble_eq_true rfl) (by decide) (by decide) GK_E (fun v9 h9 hq => ?_) (fun E h9 hq => by cases hq.1)
        obtain ⟨e9, e8⟩ := hq
        cases e9
        rw [e8]
        show K mX5_valueOfPuts _ _ 0 0 54 [(0, vr 63)] [vi (if isWb tp (tk tp n p) 10 = true then 1 else 0)] h
        by_cases z10 : isWb tp (tk tp n p) 10 = true
        · rw [if_pos z10]
          refine K_if_eq (tgt := 62) (dt_at dtX5_valueOfPuts 25 rfl) (by decide) (by first | assumption | exact ⟨by omega, by omega⟩) (fun c11 => absurd c11 (by omega)) (fun c11 => ?_)
          refine K_bipush (dt_at dtX5_valueOfPuts 26 rfl) (by decide) ?_
          refine K_goto (tgt := 63) (dt_at dtX5_valueOfPuts 27 rfl) (by decide) ?_
          exact K_iret (dt_at dtX5_valueOfPuts 29 rfl) rfl rfl (by decide) (by decide) ⟨by unfold vPu; rw [if_neg (by assumption), if_neg (by assumption), if_neg (by assumption), if_pos (by assumption)], rfl⟩
        · rw [if_neg z10]
          refine K_if_eq (tgt := 62) (dt_at dtX5_valueOfPuts 25 rfl) (by decide) (by first | assumption | exact ⟨by omega, by omega⟩) (fun c12 => ?_) (fun c12 => absurd c12 (by omega))
          refine K_iconst (dt_at dtX5_valueOfPuts 28 rfl) ?_
          exact K_iret (dt_at dtX5_valueOfPuts 29 rfl) rfl rfl (by decide) (by decide) ⟨by unfold vPu; rw [if_neg (by assumption), if_neg (by assumption), if_neg (by assumption), if_neg (by assumption)], rfl⟩
def mX5_valueOfFeels : MI := (yX5_valueOfFeels, cX5_valueOfFeels, 1, (some .int), rmK 6 0)
def tX5_valueOfFeels : List (Nat × Instr × Nat) := [(0, .aload_n 0, 1), (1, .getfield 12, 3), (4, .ldc 219, 2), (6, .invokevirtual 65, 3), (9, .ifCond .eq 6, 3), (12, .bipush (-7), 2), (14, .ireturn, 1), (15, .aload_n 0, 1), (16, .getfield 12, 3), (19, .ldc 221, 2), (21, .invokevirtual 65, 3), (24, .ifCond .eq 8, 3), (27, .bipush (-8), 2), (29, .goto 4, 3), (32, .iconst 0, 1), (33, .ireturn, 1)]
theorem dtX5_valueOfFeels : tX5_valueOfFeels.all (fun q => decide (decode cX5_valueOfFeels q.1 = .ok (q.2.1, q.2.2))) = true := by decide +kernel
theorem npX5_valueOfFeels : (parseMethodDescriptor (mY mX5_valueOfFeels).desc).map (fun d => d.parameters.length) = some 0 := by decide +kernel
theorem vX5_valueOfFeels : mV mX5_valueOfFeels := ⟨wI_X5_valueOfFeels, wS_X5_valueOfFeels, wN_X5, wC_X5_valueOfFeels, by decide +kernel, by decide +kernel⟩
set_option maxHeartbeats 4000000 in
set_option maxRecDepth 100000 in
theorem sX5_valueOfFeels {h : HP} {tp : Int → Int} {n p : Nat} (A : TG h tp n p) : SpecK mX5_valueOfFeels [vr 63] h (fun o h' => o = .inl (some (vi (vFe tp (tk tp n p)))) ∧ h' = h) := by
  refine Spec_of (by decide +kernel) (Nat.le_of_ble_eq_true rfl) ?_
  refine K_aload_n (dt_at dtX5_valueOfFeels 0 rfl) rfl rfl ?_
  refine K_get (a := 63) (ci := 5) (k := 0) (v := vr 64) (dt_at dtX5_valueOfFeels 1 rfl) (show TT 63 = (0, 5) from rfl) rfl (by decide) wF_X5_12 rfl ?_
  refine K_ldcS (i := 11) (dt_at dtX5_valueOfFeels 2 rfl) rfl GK_E ?_
  refine K_callV (M' := mX9_isWord) (a := 64) (ci := 9) (As := [vs 12]) (st := []) (dt_at dtX5_valueOfFeels 3 rfl) (sX9_isWord (i := 11) A.1 A.2.1 (tk_G A.2.2.1) (by decide)) (show TT 64 = (0, 9) from rfl) rfl wL_X5_65 vX9_isWord rfl npX9_isWord (by decide) (by decide) (Nat.le_of_ble_eq_true rfl) (by decide) (by decide) GK_E (fun v9 h9 hq => ?_) (fun E h9 hq => by cases hq.1)
  obtain ⟨e9, e8⟩ := hq
  cases e9
  rw [e8]
  show K mX5_valueOfFeels _ _ 0 0 9 [(0, vr 63)] [vi (if isWb tp (tk tp n p) 11 = true then 1 else 0)] h
  by_cases z1 : isWb tp (tk tp n p) 11 = true
  · rw [if_pos z1]
    refine K_if_eq (tgt := 15) (dt_at dtX5_valueOfFeels 4 rfl) (by decide) (by first | assumption | exact ⟨by omega, by omega⟩) (fun c2 => absurd c2 (by omega)) (fun c2 => ?_)
    refine K_bipush (dt_at dtX5_valueOfFeels 5 rfl) (by decide) ?_
    exact K_iret (dt_at dtX5_valueOfFeels 6 rfl) rfl rfl (by decide) (by decide) ⟨by unfold vFe; rw [if_pos (by assumption)], rfl⟩
  · rw [if_neg z1]
    refine K_if_eq (tgt := 15) (dt_at dtX5_valueOfFeels 4 rfl) (by decide) (by first | assumption | exact ⟨by omega, by omega⟩) (fun c3 => ?_) (fun c3 => absurd c3 (by omega))
    refine K_aload_n (dt_at dtX5_valueOfFeels 7 rfl) rfl rfl ?_
    refine K_get (a := 63) (ci := 5) (k := 0) (v := vr 64) (dt_at dtX5_valueOfFeels 8 rfl) (show TT 63 = (0, 5) from rfl) rfl (by decide) wF_X5_12 rfl ?_
    refine K_ldcS (i := 12) (dt_at dtX5_valueOfFeels 9 rfl) rfl GK_E ?_
    refine K_callV (M' := mX9_isWord) (a := 64) (ci := 9) (As := [vs 13]) (st := []) (dt_at dtX5_valueOfFeels 10 rfl) (sX9_isWord (i := 12) A.1 A.2.1 (tk_G A.2.2.1) (by decide)) (show TT 64 = (0, 9) from rfl) rfl wL_X5_65 vX9_isWord rfl npX9_isWord (by decide) (by decide) (Nat.le_of_ble_eq_true rfl) (by decide) (by decide) GK_E (fun v9 h9 hq => ?_) (fun E h9 hq => by cases hq.1)
    obtain ⟨e9, e8⟩ := hq
    cases e9
    rw [e8]
    show K mX5_valueOfFeels _ _ 0 0 24 [(0, vr 63)] [vi (if isWb tp (tk tp n p) 12 = true then 1 else 0)] h
    by_cases z4 : isWb tp (tk tp n p) 12 = true
    · rw [if_pos z4]
      refine K_if_eq (tgt := 32) (dt_at dtX5_valueOfFeels 11 rfl) (by decide) (by first | assumption | exact ⟨by omega, by omega⟩) (fun c5 => absurd c5 (by omega)) (fun c5 => ?_)
      refine K_bipush (dt_at dtX5_valueOfFeels 12 rfl) (by decide) ?_
      refine K_goto (tgt := 33) (dt_at dtX5_valueOfFeels 13 rfl) (by decide) ?_
      exact K_iret (dt_at dtX5_valueOfFeels 15 rfl) rfl rfl (by decide) (by decide) ⟨by unfold vFe; rw [if_neg (by assumption), if_pos (by assumption)], rfl⟩
    · rw [if_neg z4]
      refine K_if_eq (tgt := 32) (dt_at dtX5_valueOfFeels 11 rfl) (by decide) (by first | assumption | exact ⟨by omega, by omega⟩) (fun c6 => ?_) (fun c6 => absurd c6 (by omega))
      refine K_iconst (dt_at dtX5_valueOfFeels 14 rfl) ?_
      exact K_iret (dt_at dtX5_valueOfFeels 15 rfl) rfl rfl (by decide) (by decide) ⟨by unfold vFe; rw [if_neg (by assumption), if_neg (by assumption)], rfl⟩
set_option maxHeartbeats 4000000 in
set_option maxRecDepth 100000 in
theorem sX5_sumStep_e {h : HP} {tp : Int → Int} {n : Nat} {e : Int × Nat} (A : TE h tp n e) : SpecK mX5_sumStep [vr 63] h (fun o h' => (∃ x : Int, (-17 ≤ x ∧ x ≤ 0) ∧ o = .inl (some (vi x))) ∧ h' = h) := by
  refine Spec_of (by decide +kernel) (Nat.le_of_ble_eq_true rfl) ?_
  obtain ⟨t, E9, g9⟩ := A.2.1
  refine K_aload_n (dt_at dtX5_sumStep 0 rfl) rfl rfl ?_
  refine K_get (a := 63) (ci := 5) (k := 0) (v := vr 64) (dt_at dtX5_sumStep 1 rfl) (show TT 63 = (0, 5) from rfl) rfl (by decide) wF_X5_12 rfl ?_
  refine K_bipush (dt_at dtX5_sumStep 2 rfl) (by decide) ?_
  refine K_callV (M' := mX9_isSign) (a := 64) (ci := 9) (As := [vi 43]) (st := []) (dt_at dtX5_sumStep 3 rfl) (sX9_isSign A.1 E9 g9 ⟨by omega, by omega⟩) (show TT 64 = (0, 9) from rfl) rfl wL_X5_146 vX9_isSign rfl npX9_isSign (by decide) (by decide) (Nat.le_of_ble_eq_true rfl) (by decide) (by decide) GK_E (fun v9 h9 hq => ?_) (fun E h9 hq => by cases hq.1)
  obtain ⟨e9, e8⟩ := hq
  cases e9
  rw [e8]
  show K mX5_sumStep _ _ 0 0 9 [(0, vr 63)] [vi (if t.1 = 3 ∧ tp (t.2.1 : Int) = 43 then 1 else 0)] h
  by_cases z1 : t.1 = 3 ∧ tp (t.2.1 : Int) = 43
  · rw [if_pos z1]
    refine K_if_eq (tgt := 15) (dt_at dtX5_sumStep 4 rfl) (by decide) (by first | assumption | exact ⟨by omega, by omega⟩) (fun c2 => absurd c2 (by omega)) (fun c2 => ?_)
    refine K_bipush (dt_at dtX5_sumStep 5 rfl) (by decide) ?_
    exact K_iret (dt_at dtX5_sumStep 6 rfl) rfl rfl (by decide) (by decide) ⟨⟨_, by omega, rfl⟩, rfl⟩
  · rw [if_neg z1]
    refine K_if_eq (tgt := 15) (dt_at dtX5_sumStep 4 rfl) (by decide) (by first | assumption | exact ⟨by omega, by omega⟩) (fun c3 => ?_) (fun c3 => absurd c3 (by omega))
    refine K_aload_n (dt_at dtX5_sumStep 7 rfl) rfl rfl ?_
    refine K_get (a := 63) (ci := 5) (k := 0) (v := vr 64) (dt_at dtX5_sumStep 8 rfl) (show TT 63 = (0, 5) from rfl) rfl (by decide) wF_X5_12 rfl ?_
    refine K_bipush (dt_at dtX5_sumStep 9 rfl) (by decide) ?_
    refine K_callV (M' := mX9_isSign) (a := 64) (ci := 9) (As := [vi 45]) (st := []) (dt_at dtX5_sumStep 10 rfl) (sX9_isSign A.1 E9 g9 ⟨by omega, by omega⟩) (show TT 64 = (0, 9) from rfl) rfl wL_X5_146 vX9_isSign rfl npX9_isSign (by decide) (by decide) (Nat.le_of_ble_eq_true rfl) (by decide) (by decide) GK_E (fun v9 h9 hq => ?_) (fun E h9 hq => by cases hq.1)
    obtain ⟨e9, e8⟩ := hq
    cases e9
    rw [e8]
    show K mX5_sumStep _ _ 0 0 24 [(0, vr 63)] [vi (if t.1 = 3 ∧ tp (t.2.1 : Int) = 45 then 1 else 0)] h
    by_cases z4 : t.1 = 3 ∧ tp (t.2.1 : Int) = 45
    · rw [if_pos z4]
      refine K_if_eq (tgt := 32) (dt_at dtX5_sumStep 11 rfl) (by decide) (by first | assumption | exact ⟨by omega, by omega⟩) (fun c5 => absurd c5 (by omega)) (fun c5 => ?_)
      refine K_bipush (dt_at dtX5_sumStep 12 rfl) (by decide) ?_
      refine K_goto (tgt := 33) (dt_at dtX5_sumStep 13 rfl) (by decide) ?_
      exact K_iret (dt_at dtX5_sumStep 15 rfl) rfl rfl (by decide) (by decide) ⟨⟨_, by omega, rfl⟩, rfl⟩
    · rw [if_neg z4]
      refine K_if_eq (tgt := 32) (dt_at dtX5_sumStep 11 rfl) (by decide) (by first | assumption | exact ⟨by omega, by omega⟩) (fun c6 => ?_) (fun c6 => absurd c6 (by omega))
      refine K_iconst (dt_at dtX5_sumStep 14 rfl) ?_
      exact K_iret (dt_at dtX5_sumStep 15 rfl) rfl rfl (by decide) (by decide) ⟨⟨_, by omega, rfl⟩, rfl⟩
set_option maxHeartbeats 4000000 in
set_option maxRecDepth 100000 in
theorem sX5_productStep_e {h : HP} {tp : Int → Int} {n : Nat} {e : Int × Nat} (A : TE h tp n e) : SpecK mX5_productStep [vr 63] h (fun o h' => (∃ x : Int, (-17 ≤ x ∧ x ≤ 0) ∧ o = .inl (some (vi x))) ∧ h' = h) := by
  refine Spec_of (by decide +kernel) (Nat.le_of_ble_eq_true rfl) ?_
  obtain ⟨t, E9, g9⟩ := A.2.1
  refine K_aload_n (dt_at dtX5_productStep 0 rfl) rfl rfl ?_
  refine K_get (a := 63) (ci := 5) (k := 0) (v := vr 64) (dt_at dtX5_productStep 1 rfl) (show TT 63 = (0, 5) from rfl) rfl (by decide) wF_X5_12 rfl ?_
  refine K_bipush (dt_at dtX5_productStep 2 rfl) (by decide) ?_
  refine K_callV (M' := mX9_isSign) (a := 64) (ci := 9) (As := [vi 42]) (st := []) (dt_at dtX5_productStep 3 rfl) (sX9_isSign A.1 E9 g9 ⟨by omega, by omega⟩) (show TT 64 = (0, 9) from rfl) rfl wL_X5_146 vX9_isSign rfl npX9_isSign (by decide) (by decide) (Nat.le_of_ble_eq_true rfl) (by decide) (by decide) GK_E (fun v9 h9 hq => ?_) (fun E h9 hq => by cases hq.1)
  obtain ⟨e9, e8⟩ := hq
  cases e9
  rw [e8]
  show K mX5_productStep _ _ 0 0 9 [(0, vr 63)] [vi (if t.1 = 3 ∧ tp (t.2.1 : Int) = 42 then 1 else 0)] h
  by_cases z1 : t.1 = 3 ∧ tp (t.2.1 : Int) = 42
  · rw [if_pos z1]
    refine K_if_eq (tgt := 15) (dt_at dtX5_productStep 4 rfl) (by decide) (by first | assumption | exact ⟨by omega, by omega⟩) (fun c2 => absurd c2 (by omega)) (fun c2 => ?_)
    refine K_bipush (dt_at dtX5_productStep 5 rfl) (by decide) ?_
    exact K_iret (dt_at dtX5_productStep 6 rfl) rfl rfl (by decide) (by decide) ⟨⟨_, by omega, rfl⟩, rfl⟩
  · rw [if_neg z1]
    refine K_if_eq (tgt := 15) (dt_at dtX5_productStep 4 rfl) (by decide) (by first | assumption | exact ⟨by omega, by omega⟩) (fun c3 => ?_) (fun c3 => absurd c3 (by omega))
    refine K_aload_n (dt_at dtX5_productStep 7 rfl) rfl rfl ?_
    refine K_get (a := 63) (ci := 5) (k := 0) (v := vr 64) (dt_at dtX5_productStep 8 rfl) (show TT 63 = (0, 5) from rfl) rfl (by decide) wF_X5_12 rfl ?_
    refine K_bipush (dt_at dtX5_productStep 9 rfl) (by decide) ?_
    refine K_callV (M' := mX9_isSign) (a := 64) (ci := 9) (As := [vi 47]) (st := []) (dt_at dtX5_productStep 10 rfl) (sX9_isSign A.1 E9 g9 ⟨by omega, by omega⟩) (show TT 64 = (0, 9) from rfl) rfl wL_X5_146 vX9_isSign rfl npX9_isSign (by decide) (by decide) (Nat.le_of_ble_eq_true rfl) (by decide) (by decide) GK_E (fun v9 h9 hq => ?_) (fun E h9 hq => by cases hq.1)
    obtain ⟨e9, e8⟩ := hq
    cases e9
    rw [e8]
    show K mX5_productStep _ _ 0 0 24 [(0, vr 63)] [vi (if t.1 = 3 ∧ tp (t.2.1 : Int) = 47 then 1 else 0)] h
    by_cases z4 : t.1 = 3 ∧ tp (t.2.1 : Int) = 47
    · rw [if_pos z4]
      refine K_if_eq (tgt := 32) (dt_at dtX5_productStep 11 rfl) (by decide) (by first | assumption | exact ⟨by omega, by omega⟩) (fun c5 => absurd c5 (by omega)) (fun c5 => ?_)
      refine K_bipush (dt_at dtX5_productStep 12 rfl) (by decide) ?_
      refine K_goto (tgt := 33) (dt_at dtX5_productStep 13 rfl) (by decide) ?_
      exact K_iret (dt_at dtX5_productStep 15 rfl) rfl rfl (by decide) (by decide) ⟨⟨_, by omega, rfl⟩, rfl⟩
    · rw [if_neg z4]
      refine K_if_eq (tgt := 32) (dt_at dtX5_productStep 11 rfl) (by decide) (by first | assumption | exact ⟨by omega, by omega⟩) (fun c6 => ?_) (fun c6 => absurd c6 (by omega))
      refine K_iconst (dt_at dtX5_productStep 14 rfl) ?_
      exact K_iret (dt_at dtX5_productStep 15 rfl) rfl rfl (by decide) (by decide) ⟨⟨_, by omega, rfl⟩, rfl⟩
