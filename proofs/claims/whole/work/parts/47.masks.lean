/-! questions to the reference: only its second row, a rule's values, its pile and some more change -/
def mqA (a : Nat) : Bool := [18, 20, 21, 22, 24, 25].contains a
def mqI (a k : Nat) : Bool := [(0, 0), (0, 47), (0, 48), (0, 55)].contains (a, k)
def FQ (h h' : HP) : Prop := (∀ a, mqA a = false → hA h' a = hA h a) ∧ (∀ i, i < 77 → hA h' 18 i = hA h 18 i) ∧ (∀ a k, mqI a k = false → hI h' a k = hI h a k) ∧ hR h' = hR h ∧ ∀ i, i32 (hA h' 20 i)
theorem FQ_rf {h : HP} (g : ∀ i, i32 (hA h 20 i)) : FQ h h := ⟨fun _ _ => rfl, fun _ _ => rfl, fun _ _ _ => rfl, rfl, g⟩
theorem FQ_tr {h h1 h2 : HP} (a : FQ h h1) (b : FQ h1 h2) : FQ h h2 := ⟨fun x hx => (b.1 x hx).trans (a.1 x hx), fun i hi => (b.2.1 i hi).trans (a.2.1 i hi), fun x k hx => (b.2.2.1 x k hx).trans (a.2.2.1 x k hx), b.2.2.2.1.trans a.2.2.2.1, b.2.2.2.2⟩
theorem mqA_b {a : Nat} (h : a ≠ 18 ∧ a ≠ 20 ∧ a ≠ 21 ∧ a ≠ 22 ∧ a ≠ 24 ∧ a ≠ 25) : mqA a = false := by
  unfold mqA
  simp [h.1, h.2.1, h.2.2.1, h.2.2.2.1, h.2.2.2.2.1, h.2.2.2.2.2]
theorem mqA_n {a : Nat} (h : mqA a = false) : a ≠ 18 ∧ a ≠ 20 ∧ a ≠ 21 ∧ a ≠ 22 ∧ a ≠ 24 ∧ a ≠ 25 := by
  refine ⟨?_, ?_, ?_, ?_, ?_, ?_⟩ <;> (intro e; subst e; cases h)
theorem mqI_n {a k : Nat} (h : mqI a k = false) : (a ≠ 0 ∨ (k ≠ 47 ∧ k ≠ 48)) ∧ (a ≠ 0 ∨ k ≠ 0) ∧ (a ≠ 0 ∨ k ≠ 55) := by
  by_cases e : a = 0
  · subst e
    refine ⟨Or.inr ⟨?_, ?_⟩, Or.inr ?_, Or.inr ?_⟩ <;> (intro e; subst e; cases h)
  · exact ⟨Or.inl e, Or.inl e, Or.inl e⟩
theorem FQ_MFr {h h' : HP} (F : MFr 77 h h') (g : ∀ i, i32 (hA h' 20 i)) : FQ h h' :=
  ⟨fun a ha => F.1 a (mqA_n ha).1 (mqA_n ha).2.1 (mqA_n ha).2.2.1, fun i hi => F.2.1 i (Or.inl hi), fun a k ha => F.2.2.1 a k (mqI_n ha).1, F.2.2.2, g⟩
theorem FQ_I {h g : HP} {k : Nat} {x : Int} (e : g = sI h 0 k x) (hk : mqI 0 k = true) (h20 : ∀ i, i32 (hA h 20 i)) : FQ h g := by
  obtain ⟨i1, f1, a1, r1⟩ := sI_fx e
  refine ⟨fun a _ => by rw [a1], fun i _ => by rw [a1], fun a j ha => f1 a j ?_, r1, by rw [a1]; exact h20⟩
  by_cases z : a = 0
  · refine Or.inr (fun w => ?_)
    rw [z, w, hk] at ha
    cases ha
  · exact Or.inl z
theorem FQ_A {h g : HP} {a : Nat} {i x : Int} (e : g = sA h a i x) (ha : a = 22 ∨ a = 24 ∨ a = 25) (h20 : ∀ i, i32 (hA h 20 i)) : FQ h g := by
  obtain ⟨a1, f1, i1, r1⟩ := sA_fx e
  exact ⟨fun b hb => f1 b (by have := mqA_n hb; omega), fun i _ => by rw [f1 18 (by omega)], fun _ _ _ => by rw [i1], r1, by rw [f1 20 (by omega)]; exact h20⟩
theorem MS_FQ {h h' : HP} {S : HS} (m : MS h S) (F : FQ h h') : MS h' S := by
  obtain ⟨m1, ⟨m2, m3⟩, m4, m5, m6, m7⟩ := m
  have e3 : ∀ o, mRl h 3 mkP inPu o → mRl h' 3 mkP inPu o := by
    intro o q
    cases o with
    | none => show hI h' 0 3 = -1; rw [F.2.2.1 0 3 rfl]; exact q
    | some G => obtain ⟨a, L, q1, q2, q3, q4⟩ := q; exact ⟨a, L, q1, by rw [F.2.2.1 0 3 rfl]; exact q2, by rw [F.1 6 rfl]; exact q3, q4⟩
  have e4 : ∀ o, mRl h 4 mkF inFe o → mRl h' 4 mkF inFe o := by
    intro o q
    cases o with
    | none => show hI h' 0 4 = -1; rw [F.2.2.1 0 4 rfl]; exact q
    | some G => obtain ⟨a, L, q1, q2, q3, q4⟩ := q; exact ⟨a, L, q1, by rw [F.2.2.1 0 4 rfl]; exact q2, by rw [F.1 6 rfl]; exact q3, q4⟩
  exact ⟨m1, ⟨by rw [F.2.2.1 0 1 rfl]; exact m2, by rw [F.2.2.1 0 2 rfl]; exact m3⟩, by rw [F.1 1 rfl, F.1 2 rfl]; exact m4, by rw [F.1 3 rfl, F.1 4 rfl, F.1 5 rfl]; exact m5, e3 _ m6, e4 _ m7⟩
theorem RV0_FQ {h h' : HP} {f : Int → Int} (v : RV h 0 f) (F : FQ h h') : RV h' 0 f := fun j j0 j1 => by
  have := pm_b j0 j1
  rw [F.2.1 _ (by omega)]; exact v j j0 j1
/-- what a question finds -/
def MAsk (h : HP) (S : HS) (f : Int → Int) : Prop := MS h S ∧ RV h 0 f ∧ (∀ i, i32 (hA h 20 i)) ∧ hI h 0 49 = 0 ∧ rowOK S f
/-- while it is answered: the row now, the row that is tried -/
def MG (h0 h : HP) (S : HS) (f g : Int → Int) : Prop := MAsk h0 S f ∧ FQ h0 h ∧ RV h 77 g ∧ hI h 0 0 = 0
def g0F (h : HP) : Int → Int := fun j => hA h 18 (77 + pm j)
theorem MG_0 {h g : HP} {S : HS} {f : Int → Int} (q : MAsk h S f) (e : g = sI h 0 0 0) : MG h g S f (g0F g) :=
  ⟨q, FQ_I e rfl q.2.2.1, fun _ _ _ => rfl, (sI_fx e).1⟩
theorem MG_49 {h0 h : HP} {S : HS} {f g : Int → Int} (G : MG h0 h S f g) : hI h 0 49 = 0 := by rw [G.2.1.2.2.1 0 49 rfl]; exact G.1.2.2.2.1
theorem MG_D7 {h0 h : HP} {S : HS} {f g : Int → Int} (G : MG h0 h S f g) : MD h h 77 S g := ⟨MS_FQ G.1.1 G.2.1, Or.inr rfl, ⟨MFr_rf, G.2.1.2.2.2.2⟩, G.2.2.1⟩
theorem MG_D0 {h0 h : HP} {S : HS} {f g : Int → Int} (G : MG h0 h S f g) : MD h h 0 S f := ⟨MS_FQ G.1.1 G.2.1, Or.inl rfl, ⟨MFr_rf, G.2.1.2.2.2.2⟩, RV0_FQ G.1.2.1 G.2.1⟩
theorem MG_day {h0 h h' : HP} {S : HS} {f g g' : Int → Int} (G : MG h0 h S f g) (d : MD h h' 77 S g') : MG h0 h' S f g' :=
  ⟨G.1, FQ_tr G.2.1 (FQ_MFr d.2.2.1.1 d.2.2.1.2), d.2.2.2, by rw [d.2.2.1.1.2.2.1 0 0 (Or.inr (by decide))]; exact G.2.2.2⟩
theorem MG_up {h0 h h' : HP} {S : HS} {f g : Int → Int} {i j x : Int} (G : MG h0 h S f g) (h1 : 0 ≤ j) (h2 : j < 77) (hi : i = 77 + pm j) (e : h' = sA h 18 i x) : MG h0 h' S f (upI g j x) := MG_day G (MD_up (MG_D7 G) h1 h2 hi e)
theorem MG_I {h0 h h' : HP} {S : HS} {f g : Int → Int} {k : Nat} {x : Int} (G : MG h0 h S f g) (e : h' = sI h 0 k x) (hk : k = 47 ∨ k = 48 ∨ k = 55) : MG h0 h' S f g := by
  obtain ⟨i1, f1, a1, r1⟩ := sI_fx e
  exact ⟨G.1, FQ_tr G.2.1 (FQ_I e (by rcases hk with rfl | rfl | rfl <;> rfl) G.2.1.2.2.2.2), fun j j0 j1 => by rw [a1]; exact G.2.2.1 j j0 j1, by rw [f1 0 0 (by omega)]; exact G.2.2.2⟩
theorem MG_A {h0 h h' : HP} {S : HS} {f g : Int → Int} {a : Nat} {i x : Int} (G : MG h0 h S f g) (e : h' = sA h a i x) (ha : a = 22 ∨ a = 24 ∨ a = 25) : MG h0 h' S f g := by
  obtain ⟨a1, f1, i1, r1⟩ := sA_fx e
  exact ⟨G.1, FQ_tr G.2.1 (FQ_A e ha G.2.1.2.2.2.2), fun j j0 j1 => by rw [f1 18 (by omega)]; exact G.2.2.1 j j0 j1, by rw [i1]; exact G.2.2.2⟩
theorem MG_try {h0 h h' : HP} {S : HS} {f g : Int → Int} (G : MG h0 h S f g) (e : hA h' 18 = tryF (hA h 18) 77) (fa : ∀ b, b ≠ 18 → hA h' b = hA h b) (fi : hI h' = hI h) (fr : hR h' = hR h) : MG h0 h' S f f := by
  refine ⟨G.1, FQ_tr G.2.1 ⟨fun a ha => fa a (mqA_n ha).1, fun i hi => by rw [e]; exact if_neg (by omega), fun _ _ _ => by rw [fi], fr, by rw [fa 20 (by decide)]; exact G.2.1.2.2.2.2⟩, fun j j0 j1 => ?_, by rw [fi]; exact G.2.2.2⟩
  have := pm_b j0 j1
  rw [e]
  show (if 77 ≤ 77 + pm j ∧ 77 + pm j < 77 + 77 then hA h 18 (77 + pm j - 77) else _) = f j
  rw [if_pos (by omega), show 77 + pm j - 77 = 0 + pm j by omega]
  exact RV0_FQ G.1.2.1 G.2.1 j j0 j1
theorem MG_FQ {h0 h h' : HP} {S : HS} {f g : Int → Int} (G : MG h0 h S f g) (F : FQ h h') (e : hI h' 0 0 = 0) : MG h0 h' S f (g0F h') := ⟨G.1, FQ_tr G.2.1 F, fun _ _ _ => rfl, e⟩
theorem dys_R {S : HS} {f : Int → Int} (hB : hsW S) (R : rowOK S f) {n : Nat} (hn : n ≤ 1000) : rT 600 (dysF S f n) ∧ rC S (dysF S f n) ∧ wH S (dysF S f n) ∧ pkP S (dysF S f n) ∧ dysF S f n 0 = f 0 + n := by
  obtain ⟨r1, r2, r3, r4, r5, r6⟩ := R
  obtain ⟨a1, a2, a3⟩ := dysF_ok hB r1 r2 n (by omega)
  exact ⟨a1, a2, dys_wH hB r1 r2 r4 n (by omega), pkP_dys hB r1 r2 r6 n (by omega), a3⟩
theorem dys_lo {S : HS} {B : Int} {f : Int → Int} (hB : hsW S) (h : rT B f) (hC : rC S f) : ∀ n : Nat, f 0 + n ≤ 20000 → ∀ i, (8 ≤ i ∧ i < 15) ∨ (22 ≤ i ∧ i < 29) → dysF S f n i = f i
  | 0, _, _, _ => rfl
  | n + 1, hn, i, hi => by
    obtain ⟨a1, a2, a3⟩ := dysF_ok hB h hC n (by omega)
    show dayF S (dysF S f n) i = f i
    rw [(dayF_ok hB a1 a2 (by omega)).2.2.2 i hi]
    exact dys_lo hB h hC n (by omega) i hi
def mX12_right : MI := (yX12_right, cX12_right, 3, (some .boolean), rmK 1 0)
def tX12_right : List (Nat × Instr × Nat) := [(0, .aload_n 0, 1), (1, .getfield 105, 3), (4, .ifCond .ne 12, 3), (7, .iload_n 1, 1), (8, .ifCond .ne 8, 3), (11, .aload_n 0, 1), (12, .iload_n 2, 1), (13, .putfield 105, 3), (16, .aload_n 0, 1), (17, .getfield 105, 3), (20, .ifCond .ne 7, 3), (23, .iconst 1, 1), (24, .goto 4, 3), (27, .iconst 0, 1), (28, .ireturn, 1)]
theorem dtX12_right : tX12_right.all (fun q => decide (decode cX12_right q.1 = .ok (q.2.1, q.2.2))) = true := by decide +kernel
theorem npX12_right : (parseMethodDescriptor (mY mX12_right).desc).map (fun d => d.parameters.length) = some 2 := by decide +kernel
theorem vX12_right : mV mX12_right := ⟨wI_X12_right, wS_X12_right, wN_X12, wC_X12_right, by decide +kernel, by decide +kernel⟩
set_option maxHeartbeats 4000000 in
set_option maxRecDepth 100000 in
theorem sX12_right_t {h : HP} {w : Int} (e : hI h 0 0 = 0) : SpecK mX12_right [vr 0, vi 1, vi w] h (fun o h' => o = .inl (some (vi 1)) ∧ h' = h) := by
  refine Spec_of (by decide +kernel) (Nat.le_of_ble_eq_true rfl) ?_
  refine K_aload_n (dt_at dtX12_right 0 rfl) rfl rfl ?_
  refine K_get (a := 0) (ci := 12) (k := 0) (v := vi 0) (dt_at dtX12_right 1 rfl) (show TT 0 = (0, 12) from rfl) rfl (by decide) wF_X12_105 (by show vi (hI h 0 0) = vi 0; rw [e]) ?_
  refine K_if_ne (tgt := 16) (dt_at dtX12_right 2 rfl) (by decide) (by first | assumption | exact ⟨by omega, by omega⟩) (fun c1 => absurd c1 (by omega)) (fun c1 => ?_)
  refine K_iload_n (dt_at dtX12_right 3 rfl) rfl rfl ?_
  refine K_if_ne (tgt := 16) (dt_at dtX12_right 4 rfl) (by decide) (by first | assumption | exact ⟨by omega, by omega⟩) (fun c2 => ?_) (fun c2 => absurd c2 (by omega))
  refine K_aload_n (dt_at dtX12_right 8 rfl) rfl rfl ?_
  refine K_get (a := 0) (ci := 12) (k := 0) (v := vi 0) (dt_at dtX12_right 9 rfl) (show TT 0 = (0, 12) from rfl) rfl (by decide) wF_X12_105 (by show vi (hI h 0 0) = vi 0; rw [e]) ?_
  refine K_if_ne (tgt := 27) (dt_at dtX12_right 10 rfl) (by decide) (by first | assumption | exact ⟨by omega, by omega⟩) (fun c3 => absurd c3 (by omega)) (fun c3 => ?_)
  refine K_iconst (dt_at dtX12_right 11 rfl) ?_
  refine K_goto (tgt := 28) (dt_at dtX12_right 12 rfl) (by decide) ?_
  exact K_iret (dt_at dtX12_right 14 rfl) rfl (by decide) (by decide) (by decide) ⟨rfl, rfl⟩
set_option maxHeartbeats 4000000 in
set_option maxRecDepth 100000 in
theorem sX12_right_f {h : HP} {w : Int} (e : hI h 0 0 = 0) (hw : 1 ≤ w ∧ w ≤ 2) : SpecK mX12_right [vr 0, vi 0, vi w] h (fun o h' => o = .inl (some (vi 0)) ∧ h' = sI h 0 0 w) := by
  refine Spec_of (by decide +kernel) (Nat.le_of_ble_eq_true rfl) ?_
  refine K_aload_n (dt_at dtX12_right 0 rfl) rfl rfl ?_
  refine K_get (a := 0) (ci := 12) (k := 0) (v := vi 0) (dt_at dtX12_right 1 rfl) (show TT 0 = (0, 12) from rfl) rfl (by decide) wF_X12_105 (by show vi (hI h 0 0) = vi 0; rw [e]) ?_
  refine K_if_ne (tgt := 16) (dt_at dtX12_right 2 rfl) (by decide) (by first | assumption | exact ⟨by omega, by omega⟩) (fun c1 => absurd c1 (by omega)) (fun c1 => ?_)
  refine K_iload_n (dt_at dtX12_right 3 rfl) rfl rfl ?_
  refine K_if_ne (tgt := 16) (dt_at dtX12_right 4 rfl) (by decide) (by first | assumption | exact ⟨by omega, by omega⟩) (fun c2 => absurd c2 (by omega)) (fun c2 => ?_)
  refine K_aload_n (dt_at dtX12_right 5 rfl) rfl rfl ?_
  refine K_iload_n (dt_at dtX12_right 6 rfl) rfl rfl ?_
  refine K_putI (a := 0) (ci := 12) (k := 0) (dt_at dtX12_right 7 rfl) (show TT 0 = (0, 12) from rfl) rfl (by decide) wF_X12_105 rfl (Or.inl rfl) rfl rfl ?_
  obtain ⟨hq1, eq1⟩ : ∃ z, z = sI h 0 0 w := ⟨_, rfl⟩
  rw [← eq1]
  obtain ⟨iq1, fq1, aq1, rq1⟩ := sI_fx eq1
  refine K_aload_n (dt_at dtX12_right 8 rfl) rfl rfl ?_
  refine K_get (a := 0) (ci := 12) (k := 0) (v := vi w) (dt_at dtX12_right 9 rfl) (show TT 0 = (0, 12) from rfl) rfl (by decide) wF_X12_105 (by show vi (hI hq1 0 0) = vi w; rw [iq1]) ?_
  refine K_if_ne (tgt := 27) (dt_at dtX12_right 10 rfl) (by decide) (by first | assumption | exact ⟨by omega, by omega⟩) (fun c3 => ?_) (fun c3 => absurd c3 (by omega))
  refine K_iconst (dt_at dtX12_right 13 rfl) ?_
  exact K_iret (dt_at dtX12_right 14 rfl) rfl (by decide) (by decide) (by decide) ⟨rfl, rfl⟩
theorem sX12_within_t {h : HP} {x y z : Int} (hy : i32 y) (hz : i32 z) (c : y ≤ x ∧ x ≤ z) : SpecK mX12_within [vi x, vi y, vi z] h (fun o h' => o = .inl (some (vi 1)) ∧ h' = h) := by
  have k := sX12_within (h := h) (x := x) (y := y) (z := z) ⟨by have := hy.1; omega, by have := hz.2; omega⟩ hy hz
  rw [if_pos c] at k
  exact k
theorem sX12_within_f {h : HP} {x y z : Int} (hx : i32 x) (hy : i32 y) (hz : i32 z) (c : ¬ (y ≤ x ∧ x ≤ z)) : SpecK mX12_within [vi x, vi y, vi z] h (fun o h' => o = .inl (some (vi 0)) ∧ h' = h) := by
  have k := sX12_within (h := h) (x := x) (y := y) (z := z) hx hy hz
  rw [if_neg c] at k
  exact k
def mX12_isThing : MI := (yX12_isThing, cX12_isThing, 2, (some .boolean), rmK 2 0)
def tX12_isThing : List (Nat × Instr × Nat) := [(0, .aload_n 0, 1), (1, .iload_n 1, 1), (2, .ifCond .lt 15, 3), (5, .iload_n 1, 1), (6, .aload_n 0, 1), (7, .getfield 267, 3), (10, .if_icmp .ge 7, 3), (13, .iconst 1, 1), (14, .goto 4, 3), (17, .iconst 0, 1), (18, .iconst 1, 1), (19, .invokevirtual 260, 3), (22, .ireturn, 1)]
theorem dtX12_isThing : tX12_isThing.all (fun q => decide (decode cX12_isThing q.1 = .ok (q.2.1, q.2.2))) = true := by decide +kernel
theorem npX12_isThing : (parseMethodDescriptor (mY mX12_isThing).desc).map (fun d => d.parameters.length) = some 1 := by decide +kernel
theorem vX12_isThing : mV mX12_isThing := ⟨wI_X12_isThing, wS_X12_isThing, wN_X12, wC_X12_isThing, by decide +kernel, by decide +kernel⟩
set_option maxHeartbeats 4000000 in
set_option maxRecDepth 100000 in
theorem sX12_isThing_t {h : HP} {S : HS} {x : Int} (hn : hI h 0 1 = (sNt S : Int)) (hN : sNt S ≤ 6) (e : hI h 0 0 = 0) (c : 0 ≤ x ∧ x < sNt S) : SpecK mX12_isThing [vr 0, vi x] h (fun o h' => o = .inl (some (vi 1)) ∧ h' = h) := by
  refine Spec_of (by decide +kernel) (Nat.le_of_ble_eq_true rfl) ?_
  refine K_aload_n (dt_at dtX12_isThing 0 rfl) rfl rfl ?_
  refine K_iload_n (dt_at dtX12_isThing 1 rfl) rfl rfl ?_
  refine K_if_lt (tgt := 17) (dt_at dtX12_isThing 2 rfl) (by decide) (by first | assumption | exact ⟨by omega, by omega⟩) (fun c1 => absurd c1 (by omega)) (fun c1 => ?_)
  refine K_iload_n (dt_at dtX12_isThing 3 rfl) rfl rfl ?_
  refine K_aload_n (dt_at dtX12_isThing 4 rfl) rfl rfl ?_
  refine K_get (a := 0) (ci := 12) (k := 1) (v := vi (sNt S : Int)) (dt_at dtX12_isThing 5 rfl) (show TT 0 = (0, 12) from rfl) rfl (by decide) wF_X12_267 (by show vi (hI h 0 1) = vi (sNt S : Int); rw [hn]) ?_
  refine K_icmp_ge (tgt := 17) (dt_at dtX12_isThing 6 rfl) (by decide) (by first | assumption | exact ⟨by omega, by omega⟩) (by first | assumption | exact ⟨by omega, by omega⟩) (fun c2 => absurd c2 (by omega)) (fun c2 => ?_)
  refine K_iconst (dt_at dtX12_isThing 7 rfl) ?_
  refine K_goto (tgt := 18) (dt_at dtX12_isThing 8 rfl) (by decide) ?_
  refine K_iconst (dt_at dtX12_isThing 10 rfl) ?_
  refine K_callV (M' := mX12_right) (a := 0) (ci := 12) (As := [vi 1, vi 1]) (st := []) (dt_at dtX12_isThing 11 rfl) (sX12_right_t e) (show TT 0 = (0, 12) from rfl) rfl wL_X12_260 vX12_right rfl npX12_right (by decide) (by decide) (Nat.le_of_ble_eq_true rfl) (by decide) (by decide) GK_E (fun v9 h9 hq => ?_) (fun E h9 hq => by cases hq.1)
  obtain ⟨e9, e8⟩ := hq
  cases e9
  rw [e8]
  show K mX12_isThing _ _ 0 0 22 [(0, vr 0), (1, vi x)] [vi 1] h
  exact K_iret (dt_at dtX12_isThing 12 rfl) rfl (by decide) (by decide) (by decide) ⟨rfl, rfl⟩
set_option maxHeartbeats 4000000 in
set_option maxRecDepth 100000 in
theorem sX12_isThing_f {h : HP} {S : HS} {x : Int} (hn : hI h 0 1 = (sNt S : Int)) (hN : sNt S ≤ 6) (e : hI h 0 0 = 0) (hx : i32 x) (c : ¬ (0 ≤ x ∧ x < sNt S)) : SpecK mX12_isThing [vr 0, vi x] h (fun o h' => o = .inl (some (vi 0)) ∧ h' = sI h 0 0 1) := by
  refine Spec_of (by decide +kernel) (Nat.le_of_ble_eq_true rfl) ?_
  refine K_aload_n (dt_at dtX12_isThing 0 rfl) rfl rfl ?_
  refine K_iload_n (dt_at dtX12_isThing 1 rfl) rfl rfl ?_
  refine K_if_lt (tgt := 17) (dt_at dtX12_isThing 2 rfl) (by decide) (by first | assumption | exact ⟨by omega, by omega⟩) (fun c1 => ?_) (fun c1 => ?_)
  · refine K_iconst (dt_at dtX12_isThing 9 rfl) ?_
    refine K_iconst (dt_at dtX12_isThing 10 rfl) ?_
    refine K_callV (M' := mX12_right) (a := 0) (ci := 12) (As := [vi 0, vi 1]) (st := []) (dt_at dtX12_isThing 11 rfl) (sX12_right_f e (by omega)) (show TT 0 = (0, 12) from rfl) rfl wL_X12_260 vX12_right rfl npX12_right (by decide) (by decide) (Nat.le_of_ble_eq_true rfl) (by decide) (by decide) GK_E (fun v9 hc1 hq => ?_) (fun E h9 hq => by cases hq.1)
    have hqq2 := hq
    obtain ⟨e9q2, e8q2⟩ := hqq2
    cases e9q2
    show K mX12_isThing _ _ 0 0 22 [(0, vr 0), (1, vi x)] [vi 0] hc1
    exact K_iret (dt_at dtX12_isThing 12 rfl) rfl (by decide) (by decide) (by decide) ⟨rfl, e8q2⟩
  · refine K_iload_n (dt_at dtX12_isThing 3 rfl) rfl rfl ?_
    refine K_aload_n (dt_at dtX12_isThing 4 rfl) rfl rfl ?_
    refine K_get (a := 0) (ci := 12) (k := 1) (v := vi (sNt S : Int)) (dt_at dtX12_isThing 5 rfl) (show TT 0 = (0, 12) from rfl) rfl (by decide) wF_X12_267 (by show vi (hI h 0 1) = vi (sNt S : Int); rw [hn]) ?_
    refine K_icmp_ge (tgt := 17) (dt_at dtX12_isThing 6 rfl) (by decide) (by first | assumption | exact ⟨by omega, by omega⟩) (by first | assumption | exact ⟨by omega, by omega⟩) (fun c2 => ?_) (fun c2 => ?_)
    · refine K_iconst (dt_at dtX12_isThing 9 rfl) ?_
      refine K_iconst (dt_at dtX12_isThing 10 rfl) ?_
      refine K_callV (M' := mX12_right) (a := 0) (ci := 12) (As := [vi 0, vi 1]) (st := []) (dt_at dtX12_isThing 11 rfl) (sX12_right_f e (by omega)) (show TT 0 = (0, 12) from rfl) rfl wL_X12_260 vX12_right rfl npX12_right (by decide) (by decide) (Nat.le_of_ble_eq_true rfl) (by decide) (by decide) GK_E (fun v9 hc3 hq => ?_) (fun E h9 hq => by cases hq.1)
      have hqq4 := hq
      obtain ⟨e9q4, e8q4⟩ := hqq4
      cases e9q4
      show K mX12_isThing _ _ 0 0 22 [(0, vr 0), (1, vi x)] [vi 0] hc3
      exact K_iret (dt_at dtX12_isThing 12 rfl) rfl (by decide) (by decide) (by decide) ⟨rfl, e8q4⟩
    · refine K_iconst (dt_at dtX12_isThing 7 rfl) ?_
      refine K_goto (tgt := 18) (dt_at dtX12_isThing 8 rfl) (by decide) ?_
      refine K_iconst (dt_at dtX12_isThing 10 rfl) ?_
      exact absurd c (by omega)
def mX12_isPerson : MI := (yX12_isPerson, cX12_isPerson, 2, (some .boolean), rmK 2 0)
def tX12_isPerson : List (Nat × Instr × Nat) := [(0, .aload_n 0, 1), (1, .iload_n 1, 1), (2, .ifCond .lt 15, 3), (5, .iload_n 1, 1), (6, .aload_n 0, 1), (7, .getfield 270, 3), (10, .if_icmp .ge 7, 3), (13, .iconst 1, 1), (14, .goto 4, 3), (17, .iconst 0, 1), (18, .iconst 1, 1), (19, .invokevirtual 260, 3), (22, .ireturn, 1)]
theorem dtX12_isPerson : tX12_isPerson.all (fun q => decide (decode cX12_isPerson q.1 = .ok (q.2.1, q.2.2))) = true := by decide +kernel
theorem npX12_isPerson : (parseMethodDescriptor (mY mX12_isPerson).desc).map (fun d => d.parameters.length) = some 1 := by decide +kernel
theorem vX12_isPerson : mV mX12_isPerson := ⟨wI_X12_isPerson, wS_X12_isPerson, wN_X12, wC_X12_isPerson, by decide +kernel, by decide +kernel⟩
set_option maxHeartbeats 4000000 in
set_option maxRecDepth 100000 in
theorem sX12_isPerson_t {h : HP} {S : HS} {x : Int} (hn : hI h 0 2 = (sNp S : Int)) (hN : sNp S ≤ 7) (e : hI h 0 0 = 0) (c : 0 ≤ x ∧ x < sNp S) : SpecK mX12_isPerson [vr 0, vi x] h (fun o h' => o = .inl (some (vi 1)) ∧ h' = h) := by
  refine Spec_of (by decide +kernel) (Nat.le_of_ble_eq_true rfl) ?_
  refine K_aload_n (dt_at dtX12_isPerson 0 rfl) rfl rfl ?_
  refine K_iload_n (dt_at dtX12_isPerson 1 rfl) rfl rfl ?_
  refine K_if_lt (tgt := 17) (dt_at dtX12_isPerson 2 rfl) (by decide) (by first | assumption | exact ⟨by omega, by omega⟩) (fun c1 => absurd c1 (by omega)) (fun c1 => ?_)
  refine K_iload_n (dt_at dtX12_isPerson 3 rfl) rfl rfl ?_
  refine K_aload_n (dt_at dtX12_isPerson 4 rfl) rfl rfl ?_
  refine K_get (a := 0) (ci := 12) (k := 2) (v := vi (sNp S : Int)) (dt_at dtX12_isPerson 5 rfl) (show TT 0 = (0, 12) from rfl) rfl (by decide) wF_X12_270 (by show vi (hI h 0 2) = vi (sNp S : Int); rw [hn]) ?_
  refine K_icmp_ge (tgt := 17) (dt_at dtX12_isPerson 6 rfl) (by decide) (by first | assumption | exact ⟨by omega, by omega⟩) (by first | assumption | exact ⟨by omega, by omega⟩) (fun c2 => absurd c2 (by omega)) (fun c2 => ?_)
  refine K_iconst (dt_at dtX12_isPerson 7 rfl) ?_
  refine K_goto (tgt := 18) (dt_at dtX12_isPerson 8 rfl) (by decide) ?_
  refine K_iconst (dt_at dtX12_isPerson 10 rfl) ?_
  refine K_callV (M' := mX12_right) (a := 0) (ci := 12) (As := [vi 1, vi 1]) (st := []) (dt_at dtX12_isPerson 11 rfl) (sX12_right_t e) (show TT 0 = (0, 12) from rfl) rfl wL_X12_260 vX12_right rfl npX12_right (by decide) (by decide) (Nat.le_of_ble_eq_true rfl) (by decide) (by decide) GK_E (fun v9 h9 hq => ?_) (fun E h9 hq => by cases hq.1)
  obtain ⟨e9, e8⟩ := hq
  cases e9
  rw [e8]
  show K mX12_isPerson _ _ 0 0 22 [(0, vr 0), (1, vi x)] [vi 1] h
  exact K_iret (dt_at dtX12_isPerson 12 rfl) rfl (by decide) (by decide) (by decide) ⟨rfl, rfl⟩
set_option maxHeartbeats 4000000 in
set_option maxRecDepth 100000 in
theorem sX12_isPerson_f {h : HP} {S : HS} {x : Int} (hn : hI h 0 2 = (sNp S : Int)) (hN : sNp S ≤ 7) (e : hI h 0 0 = 0) (hx : i32 x) (c : ¬ (0 ≤ x ∧ x < sNp S)) : SpecK mX12_isPerson [vr 0, vi x] h (fun o h' => o = .inl (some (vi 0)) ∧ h' = sI h 0 0 1) := by
  refine Spec_of (by decide +kernel) (Nat.le_of_ble_eq_true rfl) ?_
  refine K_aload_n (dt_at dtX12_isPerson 0 rfl) rfl rfl ?_
  refine K_iload_n (dt_at dtX12_isPerson 1 rfl) rfl rfl ?_
  refine K_if_lt (tgt := 17) (dt_at dtX12_isPerson 2 rfl) (by decide) (by first | assumption | exact ⟨by omega, by omega⟩) (fun c1 => ?_) (fun c1 => ?_)
  · refine K_iconst (dt_at dtX12_isPerson 9 rfl) ?_
    refine K_iconst (dt_at dtX12_isPerson 10 rfl) ?_
    refine K_callV (M' := mX12_right) (a := 0) (ci := 12) (As := [vi 0, vi 1]) (st := []) (dt_at dtX12_isPerson 11 rfl) (sX12_right_f e (by omega)) (show TT 0 = (0, 12) from rfl) rfl wL_X12_260 vX12_right rfl npX12_right (by decide) (by decide) (Nat.le_of_ble_eq_true rfl) (by decide) (by decide) GK_E (fun v9 hc1 hq => ?_) (fun E h9 hq => by cases hq.1)
    have hqq2 := hq
    obtain ⟨e9q2, e8q2⟩ := hqq2
    cases e9q2
    show K mX12_isPerson _ _ 0 0 22 [(0, vr 0), (1, vi x)] [vi 0] hc1
    exact K_iret (dt_at dtX12_isPerson 12 rfl) rfl (by decide) (by decide) (by decide) ⟨rfl, e8q2⟩
  · refine K_iload_n (dt_at dtX12_isPerson 3 rfl) rfl rfl ?_
    refine K_aload_n (dt_at dtX12_isPerson 4 rfl) rfl rfl ?_
    refine K_get (a := 0) (ci := 12) (k := 2) (v := vi (sNp S : Int)) (dt_at dtX12_isPerson 5 rfl) (show TT 0 = (0, 12) from rfl) rfl (by decide) wF_X12_270 (by show vi (hI h 0 2) = vi (sNp S : Int); rw [hn]) ?_
    refine K_icmp_ge (tgt := 17) (dt_at dtX12_isPerson 6 rfl) (by decide) (by first | assumption | exact ⟨by omega, by omega⟩) (by first | assumption | exact ⟨by omega, by omega⟩) (fun c2 => ?_) (fun c2 => ?_)
    · refine K_iconst (dt_at dtX12_isPerson 9 rfl) ?_
      refine K_iconst (dt_at dtX12_isPerson 10 rfl) ?_
      refine K_callV (M' := mX12_right) (a := 0) (ci := 12) (As := [vi 0, vi 1]) (st := []) (dt_at dtX12_isPerson 11 rfl) (sX12_right_f e (by omega)) (show TT 0 = (0, 12) from rfl) rfl wL_X12_260 vX12_right rfl npX12_right (by decide) (by decide) (Nat.le_of_ble_eq_true rfl) (by decide) (by decide) GK_E (fun v9 hc3 hq => ?_) (fun E h9 hq => by cases hq.1)
      have hqq4 := hq
      obtain ⟨e9q4, e8q4⟩ := hqq4
      cases e9q4
      show K mX12_isPerson _ _ 0 0 22 [(0, vr 0), (1, vi x)] [vi 0] hc3
      exact K_iret (dt_at dtX12_isPerson 12 rfl) rfl (by decide) (by decide) (by decide) ⟨rfl, e8q4⟩
    · refine K_iconst (dt_at dtX12_isPerson 7 rfl) ?_
      refine K_goto (tgt := 18) (dt_at dtX12_isPerson 8 rfl) (by decide) ?_
      refine K_iconst (dt_at dtX12_isPerson 10 rfl) ?_
      exact absurd c (by omega)
def mX12_isWhat : MI := (yX12_isWhat, cX12_isWhat, 3, (some .boolean), rmK 2 0)
def tX12_isWhat : List (Nat × Instr × Nat) := [(0, .aload_n 0, 1), (1, .iload_n 1, 1), (2, .iconst 0, 1), (3, .iload_n 2, 1), (4, .invokestatic 346, 3), (7, .iconst 1, 1), (8, .invokevirtual 260, 3), (11, .ireturn, 1)]
theorem dtX12_isWhat : tX12_isWhat.all (fun q => decide (decode cX12_isWhat q.1 = .ok (q.2.1, q.2.2))) = true := by decide +kernel
theorem npX12_isWhat : (parseMethodDescriptor (mY mX12_isWhat).desc).map (fun d => d.parameters.length) = some 2 := by decide +kernel
theorem vX12_isWhat : mV mX12_isWhat := ⟨wI_X12_isWhat, wS_X12_isWhat, wN_X12, wC_X12_isWhat, by decide +kernel, by decide +kernel⟩
set_option maxHeartbeats 4000000 in
set_option maxRecDepth 100000 in
theorem sX12_isWhat_t {h : HP} {x y : Int} (e : hI h 0 0 = 0) (hy : 0 ≤ y ∧ y ≤ 100) (c : 0 ≤ x ∧ x ≤ y) : SpecK mX12_isWhat [vr 0, vi x, vi y] h (fun o h' => o = .inl (some (vi 1)) ∧ h' = h) := by
  refine Spec_of (by decide +kernel) (Nat.le_of_ble_eq_true rfl) ?_
  refine K_aload_n (dt_at dtX12_isWhat 0 rfl) rfl rfl ?_
  refine K_iload_n (dt_at dtX12_isWhat 1 rfl) rfl rfl ?_
  refine K_iconst (dt_at dtX12_isWhat 2 rfl) ?_
  refine K_iload_n (dt_at dtX12_isWhat 3 rfl) rfl rfl ?_
  refine K_callS (M' := mX12_within) (As := [vi x, vi 0, vi y]) (st := [vr 0]) (dt_at dtX12_isWhat 4 rfl) (sX12_within_t ⟨by omega, by omega⟩ ⟨by omega, by omega⟩ (by omega)) wL_X12_346 vX12_within rfl npX12_within (by decide) (by decide) (Nat.le_of_ble_eq_true rfl) (by decide) (by decide) GK_E (fun v9 h9 hq => ?_) (fun E h9 hq => by cases hq.1)
  obtain ⟨e9, e8⟩ := hq
  cases e9
  rw [e8]
  show K mX12_isWhat _ _ 0 0 7 [(0, vr 0), (1, vi x), (2, vi y)] [vi 1, vr 0] h
  refine K_iconst (dt_at dtX12_isWhat 5 rfl) ?_
  refine K_callV (M' := mX12_right) (a := 0) (ci := 12) (As := [vi 1, vi 1]) (st := []) (dt_at dtX12_isWhat 6 rfl) (sX12_right_t e) (show TT 0 = (0, 12) from rfl) rfl wL_X12_260 vX12_right rfl npX12_right (by decide) (by decide) (Nat.le_of_ble_eq_true rfl) (by decide) (by decide) GK_E (fun v9 h9 hq => ?_) (fun E h9 hq => by cases hq.1)
  obtain ⟨e9, e8⟩ := hq
  cases e9
  rw [e8]
  show K mX12_isWhat _ _ 0 0 11 [(0, vr 0), (1, vi x), (2, vi y)] [vi 1] h
  exact K_iret (dt_at dtX12_isWhat 7 rfl) rfl (by decide) (by decide) (by decide) ⟨rfl, rfl⟩
set_option maxHeartbeats 4000000 in
set_option maxRecDepth 100000 in
theorem sX12_isWhat_f {h : HP} {x y : Int} (e : hI h 0 0 = 0) (hy : 0 ≤ y ∧ y ≤ 100) (hx : i32 x) (c : ¬ (0 ≤ x ∧ x ≤ y)) : SpecK mX12_isWhat [vr 0, vi x, vi y] h (fun o h' => o = .inl (some (vi 0)) ∧ h' = sI h 0 0 1) := by
  refine Spec_of (by decide +kernel) (Nat.le_of_ble_eq_true rfl) ?_
  refine K_aload_n (dt_at dtX12_isWhat 0 rfl) rfl rfl ?_
  refine K_iload_n (dt_at dtX12_isWhat 1 rfl) rfl rfl ?_
  refine K_iconst (dt_at dtX12_isWhat 2 rfl) ?_
  refine K_iload_n (dt_at dtX12_isWhat 3 rfl) rfl rfl ?_
  refine K_callS (M' := mX12_within) (As := [vi x, vi 0, vi y]) (st := [vr 0]) (dt_at dtX12_isWhat 4 rfl) (sX12_within_f (by assumption) ⟨by omega, by omega⟩ ⟨by omega, by omega⟩ (by omega)) wL_X12_346 vX12_within rfl npX12_within (by decide) (by decide) (Nat.le_of_ble_eq_true rfl) (by decide) (by decide) GK_E (fun v9 h9 hq => ?_) (fun E h9 hq => by cases hq.1)
  obtain ⟨e9, e8⟩ := hq
  cases e9
  rw [e8]
  show K mX12_isWhat _ _ 0 0 7 [(0, vr 0), (1, vi x), (2, vi y)] [vi 0, vr 0] h
  refine K_iconst (dt_at dtX12_isWhat 5 rfl) ?_
  refine K_callV (M' := mX12_right) (a := 0) (ci := 12) (As := [vi 0, vi 1]) (st := []) (dt_at dtX12_isWhat 6 rfl) (sX12_right_f e (by omega)) (show TT 0 = (0, 12) from rfl) rfl wL_X12_260 vX12_right rfl npX12_right (by decide) (by decide) (Nat.le_of_ble_eq_true rfl) (by decide) (by decide) GK_E (fun v9 hc1 hq => ?_) (fun E h9 hq => by cases hq.1)
  have hqq2 := hq
  obtain ⟨e9q2, e8q2⟩ := hqq2
  cases e9q2
  show K mX12_isWhat _ _ 0 0 11 [(0, vr 0), (1, vi x), (2, vi y)] [vi 0] hc1
  exact K_iret (dt_at dtX12_isWhat 7 rfl) rfl (by decide) (by decide) (by decide) ⟨rfl, e8q2⟩
def mX12_isSoon : MI := (yX12_isSoon, cX12_isSoon, 4, (some .boolean), rmK 2 0)
def tX12_isSoon : List (Nat × Instr × Nat) := [(0, .aload_n 0, 1), (1, .iload_n 1, 1), (2, .iload_n 2, 1), (3, .bipush 100, 2), (5, .invokestatic 346, 3), (8, .iload_n 3, 1), (9, .invokevirtual 260, 3), (12, .ireturn, 1)]
theorem dtX12_isSoon : tX12_isSoon.all (fun q => decide (decode cX12_isSoon q.1 = .ok (q.2.1, q.2.2))) = true := by decide +kernel
theorem npX12_isSoon : (parseMethodDescriptor (mY mX12_isSoon).desc).map (fun d => d.parameters.length) = some 3 := by decide +kernel
theorem vX12_isSoon : mV mX12_isSoon := ⟨wI_X12_isSoon, wS_X12_isSoon, wN_X12, wC_X12_isSoon, by decide +kernel, by decide +kernel⟩
set_option maxHeartbeats 4000000 in
set_option maxRecDepth 100000 in
theorem sX12_isSoon_t {h : HP} {x y w : Int} (e : hI h 0 0 = 0) (hy : 0 ≤ y ∧ y ≤ 100) (c : y ≤ x ∧ x ≤ 100) : SpecK mX12_isSoon [vr 0, vi x, vi y, vi w] h (fun o h' => o = .inl (some (vi 1)) ∧ h' = h) := by
  refine Spec_of (by decide +kernel) (Nat.le_of_ble_eq_true rfl) ?_
  refine K_aload_n (dt_at dtX12_isSoon 0 rfl) rfl rfl ?_
  refine K_iload_n (dt_at dtX12_isSoon 1 rfl) rfl rfl ?_
  refine K_iload_n (dt_at dtX12_isSoon 2 rfl) rfl rfl ?_
  refine K_bipush (dt_at dtX12_isSoon 3 rfl) (by decide) ?_
  refine K_callS (M' := mX12_within) (As := [vi x, vi y, vi 100]) (st := [vr 0]) (dt_at dtX12_isSoon 4 rfl) (sX12_within_t ⟨by omega, by omega⟩ ⟨by omega, by omega⟩ (by omega)) wL_X12_346 vX12_within rfl npX12_within (by decide) (by decide) (Nat.le_of_ble_eq_true rfl) (by decide) (by decide) GK_E (fun v9 h9 hq => ?_) (fun E h9 hq => by cases hq.1)
  obtain ⟨e9, e8⟩ := hq
  cases e9
  rw [e8]
  show K mX12_isSoon _ _ 0 0 8 [(0, vr 0), (1, vi x), (2, vi y), (3, vi w)] [vi 1, vr 0] h
  refine K_iload_n (dt_at dtX12_isSoon 5 rfl) rfl rfl ?_
  refine K_callV (M' := mX12_right) (a := 0) (ci := 12) (As := [vi 1, vi w]) (st := []) (dt_at dtX12_isSoon 6 rfl) (sX12_right_t e) (show TT 0 = (0, 12) from rfl) rfl wL_X12_260 vX12_right rfl npX12_right (by decide) (by decide) (Nat.le_of_ble_eq_true rfl) (by decide) (by decide) GK_E (fun v9 h9 hq => ?_) (fun E h9 hq => by cases hq.1)
  obtain ⟨e9, e8⟩ := hq
  cases e9
  rw [e8]
  show K mX12_isSoon _ _ 0 0 12 [(0, vr 0), (1, vi x), (2, vi y), (3, vi w)] [vi 1] h
  exact K_iret (dt_at dtX12_isSoon 7 rfl) rfl (by decide) (by decide) (by decide) ⟨rfl, rfl⟩
set_option maxHeartbeats 4000000 in
set_option maxRecDepth 100000 in
theorem sX12_isSoon_f {h : HP} {x y w : Int} (e : hI h 0 0 = 0) (hy : 0 ≤ y ∧ y ≤ 100) (hx : i32 x) (c : ¬ (y ≤ x ∧ x ≤ 100)) (hw : 1 ≤ w ∧ w ≤ 2) : SpecK mX12_isSoon [vr 0, vi x, vi y, vi w] h (fun o h' => o = .inl (some (vi 0)) ∧ h' = sI h 0 0 w) := by
  refine Spec_of (by decide +kernel) (Nat.le_of_ble_eq_true rfl) ?_
  refine K_aload_n (dt_at dtX12_isSoon 0 rfl) rfl rfl ?_
  refine K_iload_n (dt_at dtX12_isSoon 1 rfl) rfl rfl ?_
  refine K_iload_n (dt_at dtX12_isSoon 2 rfl) rfl rfl ?_
  refine K_bipush (dt_at dtX12_isSoon 3 rfl) (by decide) ?_
  refine K_callS (M' := mX12_within) (As := [vi x, vi y, vi 100]) (st := [vr 0]) (dt_at dtX12_isSoon 4 rfl) (sX12_within_f (by assumption) ⟨by omega, by omega⟩ ⟨by omega, by omega⟩ (by omega)) wL_X12_346 vX12_within rfl npX12_within (by decide) (by decide) (Nat.le_of_ble_eq_true rfl) (by decide) (by decide) GK_E (fun v9 h9 hq => ?_) (fun E h9 hq => by cases hq.1)
  obtain ⟨e9, e8⟩ := hq
  cases e9
  rw [e8]
  show K mX12_isSoon _ _ 0 0 8 [(0, vr 0), (1, vi x), (2, vi y), (3, vi w)] [vi 0, vr 0] h
  refine K_iload_n (dt_at dtX12_isSoon 5 rfl) rfl rfl ?_
  refine K_callV (M' := mX12_right) (a := 0) (ci := 12) (As := [vi 0, vi w]) (st := []) (dt_at dtX12_isSoon 6 rfl) (sX12_right_f e (by omega)) (show TT 0 = (0, 12) from rfl) rfl wL_X12_260 vX12_right rfl npX12_right (by decide) (by decide) (Nat.le_of_ble_eq_true rfl) (by decide) (by decide) GK_E (fun v9 hc1 hq => ?_) (fun E h9 hq => by cases hq.1)
  have hqq2 := hq
  obtain ⟨e9q2, e8q2⟩ := hqq2
  cases e9q2
  show K mX12_isSoon _ _ 0 0 12 [(0, vr 0), (1, vi x), (2, vi y), (3, vi w)] [vi 0] hc1
  exact K_iret (dt_at dtX12_isSoon 7 rfl) rfl (by decide) (by decide) (by decide) ⟨rfl, e8q2⟩
def mX12_goesTo : MI := (yX12_goesTo, cX12_goesTo, 2, none, rmK 8 0)
def tX12_goesTo : List (Nat × Instr × Nat) := [(0, .aload_n 0, 1), (1, .invokevirtual 397, 3), (4, .aload_n 0, 1), (5, .iload_n 1, 1), (6, .invokevirtual 400, 3), (9, .return_, 1)]
theorem dtX12_goesTo : tX12_goesTo.all (fun q => decide (decode cX12_goesTo q.1 = .ok (q.2.1, q.2.2))) = true := by decide +kernel
theorem npX12_goesTo : (parseMethodDescriptor (mY mX12_goesTo).desc).map (fun d => d.parameters.length) = some 1 := by decide +kernel
theorem vX12_goesTo : mV mX12_goesTo := ⟨wI_X12_goesTo, wS_X12_goesTo, wN_X12, wC_X12_goesTo, by decide +kernel, by decide +kernel⟩
set_option maxHeartbeats 4000000 in
set_option maxRecDepth 100000 in
theorem sX12_goesTo {h hh : HP} {S : HS} {f g : Int → Int} {n : Nat} (G : MG h hh S f g) (hn : n ≤ 1000) : SpecK mX12_goesTo [vr 0, vi (n : Int)] hh (fun o h' => o = .inl none ∧ MG h h' S f (dysF S f n) ∧ ((∀ a, a ≠ 18 → a ≠ 20 → a ≠ 21 → hA h' a = hA hh a) ∧ ∀ a k, (a ≠ 0 ∨ (k ≠ 47 ∧ k ≠ 48)) → hI h' a k = hI hh a k)) := by
  refine Spec_of (by decide +kernel) (Nat.le_of_ble_eq_true rfl) ?_
  obtain ⟨r1, r2, r5, r3, -, r4⟩ := G.1.2.2.2.2
  refine K_aload_n (dt_at dtX12_goesTo 0 rfl) rfl rfl ?_
  refine K_callV (M' := mX12_tries) (a := 0) (ci := 12) (As := []) (st := []) (dt_at dtX12_goesTo 1 rfl) (sX12_tries) (show TT 0 = (0, 12) from rfl) rfl wL_X12_397 vX12_tries rfl npX12_tries (by decide) (by decide) (Nat.le_of_ble_eq_true rfl) (by decide) (by decide) GK_E (fun v9 hc1 hq => ?_) (fun E h9 hq => by cases hq.1)
  have hqq2 := hq
  obtain ⟨e9q2, t1q2, t2q2, t3q2, t4q2⟩ := hqq2
  have Gq2 := MG_try G t1q2 t2q2 t3q2 t4q2
  cases e9q2
  show K mX12_goesTo _ _ 0 0 4 [(0, vr 0), (1, vi (n : Int))] [] hc1
  refine K_aload_n (dt_at dtX12_goesTo 2 rfl) rfl rfl ?_
  refine K_iload_n (dt_at dtX12_goesTo 3 rfl) rfl rfl ?_
  refine K_callV (M' := mX12_daysGo) (a := 0) (ci := 12) (As := [vi (n : Int)]) (st := []) (dt_at dtX12_goesTo 4 rfl) (sX12_daysGo (n := n) (MG_D7 Gq2) r1 r2 r3 r4 (MG_49 Gq2) (by omega) (by omega)) (show TT 0 = (0, 12) from rfl) rfl wL_X12_400 vX12_daysGo rfl npX12_daysGo (by decide) (by decide) (Nat.le_of_ble_eq_true rfl) (by decide) (by decide) GK_E (fun v9 hc3 hq => ?_) (fun E h9 hq => by cases hq.1)
  have hqq4 := hq
  obtain ⟨e9q4, dq4, iq4⟩ := hqq4
  have Gq4 : MG h hc3 S f (dysF S f n) := MG_day Gq2 dq4
  cases e9q4
  show K mX12_goesTo _ _ 0 0 9 [(0, vr 0), (1, vi (n : Int))] [] hc3
  exact K_vret (dt_at dtX12_goesTo 5 rfl) rfl (by decide) (by decide) ⟨rfl, Gq4, ⟨fun a_ q1 q2 q3 => by rw [(dq4.2.2.1.1.1 a_ q1 q2 q3), (t2q2 a_ q1)], fun a_ k_ q1 => by rw [(iq4 a_ k_ q1), t3q2]⟩⟩
def mX12_inOnes : MI := (yX12_inOnes, cX12_inOnes, 4, (some .int), rmK 1 0)
def tX12_inOnes : List (Nat × Instr × Nat) := [(0, .iconst 0, 1), (1, .istore_n 2, 1), (2, .iconst 0, 1), (3, .istore_n 3, 1), (4, .iload_n 3, 1), (5, .aload_n 0, 1), (6, .getfield 270, 3), (9, .if_icmp .ge 32, 3), (12, .iload_n 2, 1), (13, .aload_n 0, 1), (14, .getfield 72, 3), (17, .iload_n 1, 1), (18, .iconst 1, 1), (19, .iadd, 1), (20, .iload_n 3, 1), (21, .iadd, 1), (22, .iaload, 1), (23, .ifCond .ne 9, 3), (26, .iconst 1, 1), (27, .iload_n 3, 1), (28, .ishl, 1), (29, .goto 4, 3), (32, .iconst 0, 1), (33, .ior, 1), (34, .istore_n 2, 1), (35, .iinc 3 1, 3), (38, .goto (-34), 3), (41, .iload_n 2, 1), (42, .ireturn, 1)]
theorem dtX12_inOnes : tX12_inOnes.all (fun q => decide (decode cX12_inOnes q.1 = .ok (q.2.1, q.2.2))) = true := by decide +kernel
theorem npX12_inOnes : (parseMethodDescriptor (mY mX12_inOnes).desc).map (fun d => d.parameters.length) = some 1 := by decide +kernel
theorem vX12_inOnes : mV mX12_inOnes := ⟨wI_X12_inOnes, wS_X12_inOnes, wN_X12, wC_X12_inOnes, by decide +kernel, by decide +kernel⟩
set_option maxHeartbeats 4000000 in
set_option maxRecDepth 100000 in
theorem lp_X12_inOnes {Z : CT → State → Prop} {h0 h : HP} {b : Int} {S : HS} {f : Int → Int} (d : MD h0 h b S f) (hW : rW f) (kx : K mX12_inOnes GK Z 0 0 41 [(3, vi (sNp S : Int)), (2, vi (bitN (fun j => decide (f (1 + (j : Int)) = 0)) (sNp S))), (0, vr 0), (1, vi b)] [] h) : ∀ (dd k : Nat), k + dd = sNp S → K mX12_inOnes GK Z 0 0 4 [(3, vi (k : Int)), (2, vi (bitN (fun j => decide (f (1 + (j : Int)) = 0)) k)), (0, vr 0), (1, vi b)] [] h := by
  intro dd
  induction dd with
  | zero =>
    intro k hk
    have hB := d.1.1
    have hNt := hB.1
    have hNp := hB.2.1
    have hb := d.2.1
    have ek : k = sNp S := by omega
    subst ek
    refine K_iload_n (dt_at dtX12_inOnes 4 rfl) rfl rfl ?_
    refine K_aload_n (dt_at dtX12_inOnes 5 rfl) rfl rfl ?_
    refine K_get (a := 0) (ci := 12) (k := 2) (v := vi (sNp S : Int)) (dt_at dtX12_inOnes 6 rfl) (show TT 0 = (0, 12) from rfl) rfl (by decide) wF_X12_270 (by show vi (hI h 0 2) = vi (sNp S : Int); rw [(MD_np d)]) ?_
    refine K_icmp_ge (tgt := 41) (dt_at dtX12_inOnes 7 rfl) (by decide) (by first | assumption | exact ⟨by omega, by omega⟩) (by first | assumption | exact ⟨by omega, by omega⟩) (fun c1 => ?_) (fun c1 => absurd c1 (by omega))
    exact K_pk [0, 1, 2, 3] rfl kx
  | succ dd ih =>
    intro k hk
    have hB := d.1.1
    have hNt := hB.1
    have hNp := hB.2.1
    have hb := d.2.1
    have wk := hW.2 (k : Int) (by omega) (by omega)
    refine K_iload_n (dt_at dtX12_inOnes 4 rfl) rfl rfl ?_
    refine K_aload_n (dt_at dtX12_inOnes 5 rfl) rfl rfl ?_
    refine K_get (a := 0) (ci := 12) (k := 2) (v := vi (sNp S : Int)) (dt_at dtX12_inOnes 6 rfl) (show TT 0 = (0, 12) from rfl) rfl (by decide) wF_X12_270 (by show vi (hI h 0 2) = vi (sNp S : Int); rw [(MD_np d)]) ?_
    refine K_icmp_ge (tgt := 41) (dt_at dtX12_inOnes 7 rfl) (by decide) (by first | assumption | exact ⟨by omega, by omega⟩) (by first | assumption | exact ⟨by omega, by omega⟩) (fun c1 => absurd c1 (by omega)) (fun c1 => ?_)
    refine K_iload_n (dt_at dtX12_inOnes 8 rfl) rfl rfl ?_
    refine K_aload_n (dt_at dtX12_inOnes 9 rfl) rfl rfl ?_
    refine K_get (a := 0) (ci := 12) (k := 42) (v := vr 18) (dt_at dtX12_inOnes 10 rfl) (show TT 0 = (0, 12) from rfl) rfl (by decide) wF_X12_72 rfl ?_
    refine K_iload_n (dt_at dtX12_inOnes 11 rfl) rfl rfl ?_
    refine K_iconst (dt_at dtX12_inOnes 12 rfl) ?_
    refine K_iadd (dt_at dtX12_inOnes 13 rfl) ?_
    refine K_iload_n (dt_at dtX12_inOnes 14 rfl) rfl rfl ?_
    refine K_iadd (dt_at dtX12_inOnes 15 rfl) ?_
    refine K_iald (dt_at dtX12_inOnes 16 rfl) (show TT 18 = (1, 154) from rfl) (by omega) (by omega) ?_
    rw [show hA h 18 ((b + 1) + (k : Int)) = (f (1 + (k : Int))) from RV_o d.2.2.2 (p := (k : Int)) (by omega) (by omega)]
    refine K_if_ne (tgt := 32) (dt_at dtX12_inOnes 17 rfl) (by decide) (by first | assumption | exact ⟨by omega, by omega⟩) (fun c2 => ?_) (fun c2 => ?_)
    · refine K_iconst (dt_at dtX12_inOnes 22 rfl) ?_
      refine K_ior (dt_at dtX12_inOnes 23 rfl) ?_
      refine K_istore_n (ls' := [(2, vi (bOr (bitN (fun j => decide (f (1 + (j : Int)) = 0)) k) 0)), (3, vi (k : Int)), (0, vr 0), (1, vi b)]) (dt_at dtX12_inOnes 24 rfl) rfl (by decide) rfl ?_
      refine K_iinc (ls' := [(3, vi ((k : Int) + 1)), (2, vi (bOr (bitN (fun j => decide (f (1 + (j : Int)) = 0)) k) 0)), (0, vr 0), (1, vi b)]) (dt_at dtX12_inOnes 25 rfl) rfl (by decide) rfl ?_
      refine K_goto (tgt := 4) (dt_at dtX12_inOnes 26 rfl) (by decide) ?_
      refine K_pk [0, 1, 2, 3] (ls' := [(3, vi ((k : Int) + 1)), (2, vi (bOr (bitN (fun j => decide (f (1 + (j : Int)) = 0)) k) 0)), (0, vr 0), (1, vi b)]) rfl ?_
      exact K_cg (ls' := [(3, vi ((k + 1 : Nat) : Int)), (2, vi (bitN (fun j => decide (f (1 + (j : Int)) = 0)) (k + 1))), (0, vr 0), (1, vi b)]) (h' := h) (by rw [bOr_0 (bitN32 _ _), bitN_f (p := (fun j => decide (f (1 + (j : Int)) = 0))) (by simpa using by assumption)]; rfl) (by rfl) (ih (k + 1) (by omega))
    · refine K_iconst (dt_at dtX12_inOnes 18 rfl) ?_
      refine K_iload_n (dt_at dtX12_inOnes 19 rfl) rfl rfl ?_
      refine K_ishl (dt_at dtX12_inOnes 20 rfl) ?_
      refine K_goto (tgt := 33) (dt_at dtX12_inOnes 21 rfl) (by decide) ?_
      refine K_ior (dt_at dtX12_inOnes 23 rfl) ?_
      refine K_istore_n (ls' := [(2, vi (bOr (bitN (fun j => decide (f (1 + (j : Int)) = 0)) k) (bShl 1 (k : Int)))), (3, vi (k : Int)), (0, vr 0), (1, vi b)]) (dt_at dtX12_inOnes 24 rfl) rfl (by decide) rfl ?_
      refine K_iinc (ls' := [(3, vi ((k : Int) + 1)), (2, vi (bOr (bitN (fun j => decide (f (1 + (j : Int)) = 0)) k) (bShl 1 (k : Int)))), (0, vr 0), (1, vi b)]) (dt_at dtX12_inOnes 25 rfl) rfl (by decide) rfl ?_
      refine K_goto (tgt := 4) (dt_at dtX12_inOnes 26 rfl) (by decide) ?_
      refine K_pk [0, 1, 2, 3] (ls' := [(3, vi ((k : Int) + 1)), (2, vi (bOr (bitN (fun j => decide (f (1 + (j : Int)) = 0)) k) (bShl 1 (k : Int)))), (0, vr 0), (1, vi b)]) rfl ?_
      exact K_cg (ls' := [(3, vi ((k + 1 : Nat) : Int)), (2, vi (bitN (fun j => decide (f (1 + (j : Int)) = 0)) (k + 1))), (0, vr 0), (1, vi b)]) (h' := h) (by rw [bitN_t (p := (fun j => decide (f (1 + (j : Int)) = 0))) (by simpa using by assumption)]; rfl) (by rfl) (ih (k + 1) (by omega))
set_option maxHeartbeats 4000000 in
set_option maxRecDepth 100000 in
theorem sX12_inOnes {h0 h : HP} {b : Int} {S : HS} {f : Int → Int} (d : MD h0 h b S f) (hW : rW f) : SpecK mX12_inOnes [vr 0, vi b] h (fun o h' => o = .inl (some (vi (bitN (fun j => decide (f (1 + (j : Int)) = 0)) (sNp S)))) ∧ h' = h) := by
  refine Spec_of (by decide +kernel) (Nat.le_of_ble_eq_true rfl) ?_
  have hB := d.1.1
  have hNt := hB.1
  have hNp := hB.2.1
  have hb := d.2.1
  refine K_iconst (dt_at dtX12_inOnes 0 rfl) ?_
  refine K_istore_n (ls' := [(2, vi 0), (0, vr 0), (1, vi b)]) (dt_at dtX12_inOnes 1 rfl) rfl (by decide) rfl ?_
  refine K_iconst (dt_at dtX12_inOnes 2 rfl) ?_
  refine K_istore_n (ls' := [(3, vi 0), (2, vi 0), (0, vr 0), (1, vi b)]) (dt_at dtX12_inOnes 3 rfl) rfl (by decide) rfl ?_
  refine K_pk [0, 1, 2, 3] rfl (lp_X12_inOnes d hW ?_ (sNp S) 0 (by omega))
  refine K_iload_n (dt_at dtX12_inOnes 27 rfl) rfl rfl ?_
  exact K_iret (dt_at dtX12_inOnes 28 rfl) rfl rfl (by decide) (by decide) ⟨rfl, rfl⟩
def mX12_mixed : MI := (yX12_mixed, cX12_mixed, 4, (some .int), rmK 1 0)
def tX12_mixed : List (Nat × Instr × Nat) := [(0, .iconst 0, 1), (1, .istore_n 2, 1), (2, .iconst 0, 1), (3, .istore_n 3, 1), (4, .iload_n 3, 1), (5, .aload_n 0, 1), (6, .getfield 270, 3), (9, .if_icmp .ge 34, 3), (12, .iload_n 2, 1), (13, .aload_n 0, 1), (14, .getfield 72, 3), (17, .iload_n 1, 1), (18, .bipush 8, 2), (20, .iadd, 1), (21, .iload_n 3, 1), (22, .iadd, 1), (23, .iaload, 1), (24, .iload_n 3, 1), (25, .if_icmp .eq 9, 3), (28, .iconst 1, 1), (29, .iload_n 3, 1), (30, .ishl, 1), (31, .goto 4, 3), (34, .iconst 0, 1), (35, .ior, 1), (36, .istore_n 2, 1), (37, .iinc 3 1, 3), (40, .goto (-36), 3), (43, .iload_n 2, 1), (44, .ireturn, 1)]
theorem dtX12_mixed : tX12_mixed.all (fun q => decide (decode cX12_mixed q.1 = .ok (q.2.1, q.2.2))) = true := by decide +kernel
theorem npX12_mixed : (parseMethodDescriptor (mY mX12_mixed).desc).map (fun d => d.parameters.length) = some 1 := by decide +kernel
theorem vX12_mixed : mV mX12_mixed := ⟨wI_X12_mixed, wS_X12_mixed, wN_X12, wC_X12_mixed, by decide +kernel, by decide +kernel⟩
set_option maxHeartbeats 4000000 in
set_option maxRecDepth 100000 in
theorem lp_X12_mixed {Z : CT → State → Prop} {h0 h : HP} {b : Int} {S : HS} {f : Int → Int} (d : MD h0 h b S f) (hW : rW f) (kx : K mX12_mixed GK Z 0 0 43 [(3, vi (sNp S : Int)), (2, vi (bitN (fun j => decide (f (8 + (j : Int)) ≠ (j : Int))) (sNp S))), (0, vr 0), (1, vi b)] [] h) : ∀ (dd k : Nat), k + dd = sNp S → K mX12_mixed GK Z 0 0 4 [(3, vi (k : Int)), (2, vi (bitN (fun j => decide (f (8 + (j : Int)) ≠ (j : Int))) k)), (0, vr 0), (1, vi b)] [] h := by
  intro dd
  induction dd with
  | zero =>
    intro k hk
    have hB := d.1.1
    have hNt := hB.1
    have hNp := hB.2.1
    have hb := d.2.1
    have ek : k = sNp S := by omega
    subst ek
    refine K_iload_n (dt_at dtX12_mixed 4 rfl) rfl rfl ?_
    refine K_aload_n (dt_at dtX12_mixed 5 rfl) rfl rfl ?_
    refine K_get (a := 0) (ci := 12) (k := 2) (v := vi (sNp S : Int)) (dt_at dtX12_mixed 6 rfl) (show TT 0 = (0, 12) from rfl) rfl (by decide) wF_X12_270 (by show vi (hI h 0 2) = vi (sNp S : Int); rw [(MD_np d)]) ?_
    refine K_icmp_ge (tgt := 43) (dt_at dtX12_mixed 7 rfl) (by decide) (by first | assumption | exact ⟨by omega, by omega⟩) (by first | assumption | exact ⟨by omega, by omega⟩) (fun c1 => ?_) (fun c1 => absurd c1 (by omega))
    exact K_pk [0, 1, 2, 3] rfl kx
  | succ dd ih =>
    intro k hk
    have hB := d.1.1
    have hNt := hB.1
    have hNp := hB.2.1
    have hb := d.2.1
    have wk := hW.2 (k : Int) (by omega) (by omega)
    refine K_iload_n (dt_at dtX12_mixed 4 rfl) rfl rfl ?_
    refine K_aload_n (dt_at dtX12_mixed 5 rfl) rfl rfl ?_
    refine K_get (a := 0) (ci := 12) (k := 2) (v := vi (sNp S : Int)) (dt_at dtX12_mixed 6 rfl) (show TT 0 = (0, 12) from rfl) rfl (by decide) wF_X12_270 (by show vi (hI h 0 2) = vi (sNp S : Int); rw [(MD_np d)]) ?_
    refine K_icmp_ge (tgt := 43) (dt_at dtX12_mixed 7 rfl) (by decide) (by first | assumption | exact ⟨by omega, by omega⟩) (by first | assumption | exact ⟨by omega, by omega⟩) (fun c1 => absurd c1 (by omega)) (fun c1 => ?_)
    refine K_iload_n (dt_at dtX12_mixed 8 rfl) rfl rfl ?_
    refine K_aload_n (dt_at dtX12_mixed 9 rfl) rfl rfl ?_
    refine K_get (a := 0) (ci := 12) (k := 42) (v := vr 18) (dt_at dtX12_mixed 10 rfl) (show TT 0 = (0, 12) from rfl) rfl (by decide) wF_X12_72 rfl ?_
    refine K_iload_n (dt_at dtX12_mixed 11 rfl) rfl rfl ?_
    refine K_bipush (dt_at dtX12_mixed 12 rfl) (by decide) ?_
    refine K_iadd (dt_at dtX12_mixed 13 rfl) ?_
    refine K_iload_n (dt_at dtX12_mixed 14 rfl) rfl rfl ?_
    refine K_iadd (dt_at dtX12_mixed 15 rfl) ?_
    refine K_iald (dt_at dtX12_mixed 16 rfl) (show TT 18 = (1, 154) from rfl) (by omega) (by omega) ?_
    rw [show hA h 18 ((b + 8) + (k : Int)) = (f (8 + (k : Int))) from RV_c d.2.2.2 (p := (k : Int)) (by omega) (by omega)]
    refine K_iload_n (dt_at dtX12_mixed 17 rfl) rfl rfl ?_
    refine K_icmp_eq (tgt := 34) (dt_at dtX12_mixed 18 rfl) (by decide) (by first | assumption | exact ⟨by omega, by omega⟩) (by first | assumption | exact ⟨by omega, by omega⟩) (fun c2 => ?_) (fun c2 => ?_)
    · refine K_iconst (dt_at dtX12_mixed 23 rfl) ?_
      refine K_ior (dt_at dtX12_mixed 24 rfl) ?_
      refine K_istore_n (ls' := [(2, vi (bOr (bitN (fun j => decide (f (8 + (j : Int)) ≠ (j : Int))) k) 0)), (3, vi (k : Int)), (0, vr 0), (1, vi b)]) (dt_at dtX12_mixed 25 rfl) rfl (by decide) rfl ?_
      refine K_iinc (ls' := [(3, vi ((k : Int) + 1)), (2, vi (bOr (bitN (fun j => decide (f (8 + (j : Int)) ≠ (j : Int))) k) 0)), (0, vr 0), (1, vi b)]) (dt_at dtX12_mixed 26 rfl) rfl (by decide) rfl ?_
      refine K_goto (tgt := 4) (dt_at dtX12_mixed 27 rfl) (by decide) ?_
      refine K_pk [0, 1, 2, 3] (ls' := [(3, vi ((k : Int) + 1)), (2, vi (bOr (bitN (fun j => decide (f (8 + (j : Int)) ≠ (j : Int))) k) 0)), (0, vr 0), (1, vi b)]) rfl ?_
      exact K_cg (ls' := [(3, vi ((k + 1 : Nat) : Int)), (2, vi (bitN (fun j => decide (f (8 + (j : Int)) ≠ (j : Int))) (k + 1))), (0, vr 0), (1, vi b)]) (h' := h) (by rw [bOr_0 (bitN32 _ _), bitN_f (p := (fun j => decide (f (8 + (j : Int)) ≠ (j : Int)))) (by simpa using by assumption)]; rfl) (by rfl) (ih (k + 1) (by omega))
    · refine K_iconst (dt_at dtX12_mixed 19 rfl) ?_
      refine K_iload_n (dt_at dtX12_mixed 20 rfl) rfl rfl ?_
      refine K_ishl (dt_at dtX12_mixed 21 rfl) ?_
      refine K_goto (tgt := 35) (dt_at dtX12_mixed 22 rfl) (by decide) ?_
      refine K_ior (dt_at dtX12_mixed 24 rfl) ?_
      refine K_istore_n (ls' := [(2, vi (bOr (bitN (fun j => decide (f (8 + (j : Int)) ≠ (j : Int))) k) (bShl 1 (k : Int)))), (3, vi (k : Int)), (0, vr 0), (1, vi b)]) (dt_at dtX12_mixed 25 rfl) rfl (by decide) rfl ?_
      refine K_iinc (ls' := [(3, vi ((k : Int) + 1)), (2, vi (bOr (bitN (fun j => decide (f (8 + (j : Int)) ≠ (j : Int))) k) (bShl 1 (k : Int)))), (0, vr 0), (1, vi b)]) (dt_at dtX12_mixed 26 rfl) rfl (by decide) rfl ?_
      refine K_goto (tgt := 4) (dt_at dtX12_mixed 27 rfl) (by decide) ?_
      refine K_pk [0, 1, 2, 3] (ls' := [(3, vi ((k : Int) + 1)), (2, vi (bOr (bitN (fun j => decide (f (8 + (j : Int)) ≠ (j : Int))) k) (bShl 1 (k : Int)))), (0, vr 0), (1, vi b)]) rfl ?_
      exact K_cg (ls' := [(3, vi ((k + 1 : Nat) : Int)), (2, vi (bitN (fun j => decide (f (8 + (j : Int)) ≠ (j : Int))) (k + 1))), (0, vr 0), (1, vi b)]) (h' := h) (by rw [bitN_t (p := (fun j => decide (f (8 + (j : Int)) ≠ (j : Int)))) (by simpa using by assumption)]; rfl) (by rfl) (ih (k + 1) (by omega))
set_option maxHeartbeats 4000000 in
set_option maxRecDepth 100000 in
theorem sX12_mixed {h0 h : HP} {b : Int} {S : HS} {f : Int → Int} (d : MD h0 h b S f) (hW : rW f) : SpecK mX12_mixed [vr 0, vi b] h (fun o h' => o = .inl (some (vi (bitN (fun j => decide (f (8 + (j : Int)) ≠ (j : Int))) (sNp S)))) ∧ h' = h) := by
  refine Spec_of (by decide +kernel) (Nat.le_of_ble_eq_true rfl) ?_
  have hB := d.1.1
  have hNt := hB.1
  have hNp := hB.2.1
  have hb := d.2.1
  refine K_iconst (dt_at dtX12_mixed 0 rfl) ?_
  refine K_istore_n (ls' := [(2, vi 0), (0, vr 0), (1, vi b)]) (dt_at dtX12_mixed 1 rfl) rfl (by decide) rfl ?_
  refine K_iconst (dt_at dtX12_mixed 2 rfl) ?_
  refine K_istore_n (ls' := [(3, vi 0), (2, vi 0), (0, vr 0), (1, vi b)]) (dt_at dtX12_mixed 3 rfl) rfl (by decide) rfl ?_
  refine K_pk [0, 1, 2, 3] rfl (lp_X12_mixed d hW ?_ (sNp S) 0 (by omega))
  refine K_iload_n (dt_at dtX12_mixed 28 rfl) rfl rfl ?_
  exact K_iret (dt_at dtX12_mixed 29 rfl) rfl rfl (by decide) (by decide) ⟨rfl, rfl⟩
