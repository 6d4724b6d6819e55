/-! all that the reference shows -/
def mAc (h : HP) (a k : Nat) (C : AC) : Prop := hI h 0 k = (C.1 : Int) ∧ C.1 ≤ 40 ∧ ∀ i : Nat, i < C.1 → ∀ j : Int, 0 ≤ j → j < 77 → hA h a ((i : Int) * 77 + pm j) = C.2 i j
def mSe (h : HP) (a k : Nat) (N : SN) : Prop := hI h 0 k = (N.1 : Int) ∧ N.1 ≤ 8 ∧ ∀ i : Nat, i < N.1 → hA h a (4 * (i : Int)) = N.2.1 i ∧ hA h a (4 * (i : Int) + 1) = N.2.2.1 i ∧ hA h a (4 * (i : Int) + 2) = N.2.2.2.1 i ∧ hA h a (4 * (i : Int) + 3) = N.2.2.2.2 i
def mIm (h : HP) (o : Option SV) : Prop := match o with
  | none => hI h 0 56 = 0
  | some v => hI h 0 56 = 1 ∧ (∀ j : Int, 0 ≤ j → j < 77 → hA h 26 (pm j) = v.1 j) ∧ mAc h 27 57 v.2.1 ∧ mSe h 28 58 v.2.2
def mTp (h : HP) (tp : Int → Int) (nt : Nat) (rf : Int × Int × Int) (fl : Int) : Prop := hI h 0 12 = (nt : Int) ∧ (∀ i : Int, 0 ≤ i → i < nt → hA h 7 i = tp i) ∧ (hA h 8 0 = rf.1 ∧ hA h 8 1 = rf.2.1 ∧ hA h 8 2 = rf.2.2) ∧ hI h 0 14 = fl
def MV (h : HP) (A : AS) : Prop := MS h A.1 ∧ (∀ i, i32 (hA h 20 i)) ∧ hI h 0 49 = 0 ∧ (RV h 0 A.2.1.1 ∧ mAc h 19 44 A.2.1.2.1 ∧ mSe h 23 51 A.2.1.2.2) ∧ mIm h A.2.2.1 ∧ mTp h A.2.2.2.1 A.2.2.2.2.1 A.2.2.2.2.2.1 A.2.2.2.2.2.2
theorem mAc_fr {h h' : HP} {a k : Nat} {C : AC} (m : mAc h a k C) (h1 : hI h' 0 k = hI h 0 k) (h2 : hA h' a = hA h a) : mAc h' a k C := ⟨by rw [h1]; exact m.1, m.2.1, by rw [h2]; exact m.2.2⟩
theorem mSe_fr {h h' : HP} {a k : Nat} {N : SN} (m : mSe h a k N) (h1 : hI h' 0 k = hI h 0 k) (h2 : hA h' a = hA h a) : mSe h' a k N := ⟨by rw [h1]; exact m.1, m.2.1, by rw [h2]; exact m.2.2⟩
theorem mIm_fr {h h' : HP} {o : Option SV} (m : mIm h o) (h1 : hI h' 0 56 = hI h 0 56) (h2 : hI h' 0 57 = hI h 0 57) (h3 : hI h' 0 58 = hI h 0 58) (a1 : hA h' 26 = hA h 26) (a2 : hA h' 27 = hA h 27) (a3 : hA h' 28 = hA h 28) : mIm h' o := by
  cases o with
  | none => show hI h' 0 56 = 0; rw [h1]; exact m
  | some v => exact ⟨by rw [h1]; exact m.1, by rw [a1]; exact m.2.1, mAc_fr m.2.2.1 h2 a2, mSe_fr m.2.2.2 h3 a3⟩
theorem mTp_fr {h h' : HP} {tp : Int → Int} {nt : Nat} {rf : Int × Int × Int} {fl : Int} (m : mTp h tp nt rf fl) (h1 : hI h' 0 12 = hI h 0 12) (h2 : hI h' 0 14 = hI h 0 14) (a1 : hA h' 7 = hA h 7) (a2 : hA h' 8 = hA h 8) : mTp h' tp nt rf fl := ⟨by rw [h1]; exact m.1, by rw [a1]; exact m.2.1, by rw [a2]; exact m.2.2.1, by rw [h2]; exact m.2.2.2⟩
theorem MS_fr {h h' : HP} {S : HS} (m : MS h S) (h1 : hI h' 0 1 = hI h 0 1) (h2 : hI h' 0 2 = hI h 0 2) (h3 : hI h' 0 3 = hI h 0 3) (h4 : hI h' 0 4 = hI h 0 4) (a1 : hA h' 1 = hA h 1) (a2 : hA h' 2 = hA h 2) (a3 : hA h' 3 = hA h 3) (a4 : hA h' 4 = hA h 4) (a5 : hA h' 5 = hA h 5) (a6 : hA h' 6 = hA h 6) : MS h' S := by
  obtain ⟨m1, ⟨m2, m3⟩, m4, m5, m6, m7⟩ := m
  have e3 : ∀ o, mRl h 3 mkP inPu o → mRl h' 3 mkP inPu o := by
    intro o q
    cases o with
    | none => show hI h' 0 3 = -1; rw [h3]; exact q
    | some G => obtain ⟨a, L, q1, q2, q3, q4⟩ := q; exact ⟨a, L, q1, by rw [h3]; exact q2, by rw [a6]; exact q3, q4⟩
  have e4 : ∀ o, mRl h 4 mkF inFe o → mRl h' 4 mkF inFe o := by
    intro o q
    cases o with
    | none => show hI h' 0 4 = -1; rw [h4]; exact q
    | some G => obtain ⟨a, L, q1, q2, q3, q4⟩ := q; exact ⟨a, L, q1, by rw [h4]; exact q2, by rw [a6]; exact q3, q4⟩
  exact ⟨m1, ⟨by rw [h1]; exact m2, by rw [h2]; exact m3⟩, by rw [a1, a2]; exact m4, by rw [a3, a4, a5]; exact m5, e3 _ m6, e4 _ m7⟩
theorem RV0_fr {h h' : HP} {f : Int → Int} (v : RV h 0 f) (e : ∀ i, i < 77 → hA h' 18 i = hA h 18 i) : RV h' 0 f := fun j j0 j1 => by
  have := pm_b j0 j1
  rw [e _ (by omega)]; exact v j j0 j1
theorem MV_FQ {h h' : HP} {A : AS} (m : MV h A) (F : FQ h h') : MV h' A := by
  obtain ⟨m1, m2, m3, ⟨m4, m5, m6⟩, m7, m8⟩ := m
  have fa := F.1
  have fi := F.2.2.1
  exact ⟨MS_FQ m1 F, F.2.2.2.2, by rw [fi 0 49 rfl]; exact m3, ⟨RV0_FQ m4 F, mAc_fr m5 (fi 0 44 rfl) (fa 19 rfl), mSe_fr m6 (fi 0 51 rfl) (fa 23 rfl)⟩, mIm_fr m7 (fi 0 56 rfl) (fi 0 57 rfl) (fi 0 58 rfl) (fa 26 rfl) (fa 27 rfl) (fa 28 rfl), mTp_fr m8 (fi 0 12 rfl) (fi 0 14 rfl) (fa 7 rfl) (fa 8 rfl)⟩
theorem MV_FM {h h' : HP} {A : AS} (m : MV h A) (F : FM h h') : MV h' A := by
  obtain ⟨m1, m2, m3, ⟨m4, m5, m6⟩, m7, m8⟩ := m
  have fa : ∀ a, a < 30 → hA h' a = hA h a := F.1
  have fi := F.2.1
  exact ⟨MS_fr m1 (fi 1) (fi 2) (fi 3) (fi 4) (fa 1 (by omega)) (fa 2 (by omega)) (fa 3 (by omega)) (fa 4 (by omega)) (fa 5 (by omega)) (fa 6 (by omega)), by rw [fa 20 (by omega)]; exact m2, by rw [fi 49]; exact m3, ⟨RV0_fr m4 (fun i _ => by rw [fa 18 (by omega)]), mAc_fr m5 (fi 44) (fa 19 (by omega)), mSe_fr m6 (fi 51) (fa 23 (by omega))⟩, mIm_fr m7 (fi 56) (fi 57) (fi 58) (fa 26 (by omega)) (fa 27 (by omega)) (fa 28 (by omega)), mTp_fr m8 (fi 12) (fi 14) (fa 7 (by omega)) (fa 8 (by omega))⟩
/-- nothing but the reference's own cells -/
def FC (h h' : HP) : Prop := (∀ a, 29 ≤ a → hA h' a = hA h a) ∧ (∀ a k, a ≠ 0 → hI h' a k = hI h a k) ∧ hR h' = hR h
theorem FC_rf {h : HP} : FC h h := ⟨fun _ _ => rfl, fun _ _ _ => rfl, rfl⟩
theorem FC_tr {h h1 h2 : HP} (a : FC h h1) (b : FC h1 h2) : FC h h2 := ⟨fun x hx => (b.1 x hx).trans (a.1 x hx), fun x k hx => (b.2.1 x k hx).trans (a.2.1 x k hx), b.2.2.trans a.2.2⟩
theorem FC_FQ {h h' : HP} (F : FQ h h') : FC h h' := ⟨fun a ha => F.1 a (mqA_b ⟨by omega, by omega, by omega, by omega, by omega, by omega⟩), fun a k ha => F.2.2.1 a k (by unfold mqI; simp [ha]), F.2.2.2.1⟩
theorem FC_A {h g : HP} {a : Nat} {i x : Int} (e : g = sA h a i x) (ha : a < 29) : FC h g := by
  obtain ⟨-, f1, i1, r1⟩ := sA_fx e
  exact ⟨fun b hb => f1 b (by omega), fun _ _ _ => by rw [i1], r1⟩
theorem FC_I {h g : HP} {k : Nat} {x : Int} (e : g = sI h 0 k x) : FC h g := by
  obtain ⟨-, f1, a1, r1⟩ := sI_fx e
  exact ⟨fun b hb => by rw [a1], fun a j ha => f1 a j (Or.inl ha), r1⟩
theorem CI_FC {h h' : HP} {A : AS} (I : CI h A) (F : FC h h') : CI h' A := by
  obtain ⟨t, ht, i2, i3, i4, i5, i6, i7, i8, i9, i10⟩ := I
  have f1 : ∀ a, 29 ≤ a → hA h' a = hA h a := F.1
  have f2 : ∀ a k, a ≠ 0 → hI h' a k = hI h a k := F.2.1
  have f3 : hR h' = hR h := F.2.2
  have ht2 : 33 ≤ t := by omega
  have hS : cHS h' t A.1 := by
    obtain ⟨⟨k1, k2, k3, k4, k5⟩, ⟨k6, k7⟩, k8, k9⟩ := i4
    exact ⟨⟨by rw [f1 _ (by omega)]; exact k1, by rw [f1 _ (by omega)]; exact k2, by rw [f1 _ (by omega)]; exact k3, by rw [f1 _ (by omega)]; exact k4, by rw [f1 _ (by omega)]; exact k5⟩, ⟨by rw [f2 _ _ (by omega)]; exact k6, by rw [f2 _ _ (by omega)]; exact k7⟩, rlR_FS k8 (f2 _ _ (by omega)) (f2 _ _ (by omega)) (f1 _ (by omega)), rlR_FS k9 (f2 _ _ (by omega)) (f2 _ _ (by omega)) (f1 _ (by omega))⟩
  have G : G32 h' := by
    obtain ⟨g1, g2, g3, g4, g5, g6, g7⟩ := i6
    exact ⟨by rw [f1 44 (by omega)]; exact g1, by rw [f1 47 (by omega)]; exact g2, by rw [f1 59 (by omega)]; exact g3, by rw [f1 62 (by omega)]; exact g4, by rw [f1 87 (by omega)]; exact g5, by rw [f1 104 (by omega)]; exact g6, by rw [f3]; exact g7⟩
  exact ⟨t, ht, by rw [f3]; exact i2, by rw [f3]; exact i3, hS, i5, G,
    svR_fr i7 (f1 _ (by omega)) (f2 _ _ (by omega)) (f2 _ _ (by omega)) (f1 _ (by omega)) (f2 _ _ (by omega)) (f1 _ (by omega)) (f1 _ (by omega)) (f1 _ (by omega)) (f1 _ (by omega)), i8,
    imR_fr i9 (f2 _ _ (by omega)) (f1 _ (by omega)) (f2 _ _ (by omega)) (f2 _ _ (by omega)) (f1 _ (by omega)) (f2 _ _ (by omega)) (f1 _ (by omega)) (f1 _ (by omega)) (f1 _ (by omega)) (f1 _ (by omega)),
    tpR_fr i10 (f2 _ _ (by omega)) (f2 _ _ (by omega)) (f1 _ (by omega)) (f1 _ (by omega))⟩
theorem MV_ask {h : HP} {S : HS} {f : Int → Int} {C : AC} {N : SN} {im : Option SV} {tp : Int → Int} {nt : Nat} {rf : Int × Int × Int} {fl : Int} (m : MV h (S, (f, C, N), im, tp, nt, rf, fl)) (R : rowOK S f) : MAsk h S f := ⟨m.1, m.2.2.2.1.1, m.2.1, m.2.2.1, R⟩
/-- an act: the rows, the rows kept, what is counted -/
def FA (h h' : HP) : Prop := (∀ a, a ≠ 18 → a ≠ 19 → a ≠ 20 → a ≠ 21 → hA h' a = hA h a) ∧ (∀ a k, (a ≠ 0 ∨ (k ≠ 0 ∧ k ≠ 44 ∧ k ≠ 47 ∧ k ≠ 48)) → hI h' a k = hI h a k) ∧ hR h' = hR h ∧ ∀ i, i32 (hA h' 20 i)
theorem FA_tr {h h1 h2 : HP} (a : FA h h1) (b : FA h1 h2) : FA h h2 := ⟨fun x q1 q2 q3 q4 => (b.1 x q1 q2 q3 q4).trans (a.1 x q1 q2 q3 q4), fun x k q => (b.2.1 x k q).trans (a.2.1 x k q), b.2.2.1.trans a.2.2.1, b.2.2.2⟩
theorem FC_FA {h h' : HP} (F : FA h h') : FC h h' := ⟨fun a ha => F.1 a (by omega) (by omega) (by omega) (by omega), fun a k ha => F.2.1 a k (Or.inl ha), F.2.2.1⟩
theorem MV_act {h h' : HP} {S : HS} {f g : Int → Int} {C C' : AC} {N : SN} {im : Option SV} {tp : Int → Int} {nt : Nat} {rf : Int × Int × Int} {fl : Int} (m : MV h (S, (f, C, N), im, tp, nt, rf, fl)) (F : FA h h') (hr : RV h' 0 g) (hc : mAc h' 19 44 C') : MV h' (S, (g, C', N), im, tp, nt, rf, fl) := by
  obtain ⟨m1, m2, m3, ⟨m4, m5, m6⟩, m7, m8⟩ := m
  have fa := F.1
  have fi : ∀ k, k ≠ 0 → k ≠ 44 → k ≠ 47 → k ≠ 48 → hI h' 0 k = hI h 0 k := fun k a b c d => F.2.1 0 k (Or.inr ⟨a, b, c, d⟩)
  exact ⟨MS_fr m1 (fi 1 (by omega) (by omega) (by omega) (by omega)) (fi 2 (by omega) (by omega) (by omega) (by omega)) (fi 3 (by omega) (by omega) (by omega) (by omega)) (fi 4 (by omega) (by omega) (by omega) (by omega)) (fa 1 (by omega) (by omega) (by omega) (by omega)) (fa 2 (by omega) (by omega) (by omega) (by omega)) (fa 3 (by omega) (by omega) (by omega) (by omega)) (fa 4 (by omega) (by omega) (by omega) (by omega)) (fa 5 (by omega) (by omega) (by omega) (by omega)) (fa 6 (by omega) (by omega) (by omega) (by omega)), F.2.2.2, by rw [fi 49 (by omega) (by omega) (by omega) (by omega)]; exact m3, ⟨hr, hc, mSe_fr m6 (fi 51 (by omega) (by omega) (by omega) (by omega)) (fa 23 (by omega) (by omega) (by omega) (by omega))⟩, mIm_fr m7 (fi 56 (by omega) (by omega) (by omega) (by omega)) (fi 57 (by omega) (by omega) (by omega) (by omega)) (fi 58 (by omega) (by omega) (by omega) (by omega)) (fa 26 (by omega) (by omega) (by omega) (by omega)) (fa 27 (by omega) (by omega) (by omega) (by omega)) (fa 28 (by omega) (by omega) (by omega) (by omega)), mTp_fr m8 (fi 12 (by omega) (by omega) (by omega) (by omega)) (fi 14 (by omega) (by omega) (by omega) (by omega)) (fa 7 (by omega) (by omega) (by omega) (by omega)) (fa 8 (by omega) (by omega) (by omega) (by omega))⟩
theorem FA_0 {h g : HP} {x : Int} (e : g = sI h 0 0 x) (h20 : ∀ i, i32 (hA h 20 i)) : FA h g := by
  obtain ⟨i1, f1, a1, r1⟩ := sI_fx e
  exact ⟨fun a _ _ _ _ => by rw [a1], fun a k q => f1 a k (by omega), r1, by rw [a1]; exact h20⟩
theorem FA_row {h g : HP} {i x : Int} (e : g = sA h 18 i x) (h20 : ∀ i, i32 (hA h 20 i)) : FA h g := by
  obtain ⟨a1, f1, i1, r1⟩ := sA_fx e
  exact ⟨fun a q _ _ _ => f1 a q, fun _ _ _ => by rw [i1], r1, by rw [f1 20 (by decide)]; exact h20⟩
theorem FA_MFr {h h' : HP} (F : MFr 0 h h') (g : ∀ i, i32 (hA h' 20 i)) : FA h h' := ⟨fun a q1 _ q3 q4 => F.1 a q1 q3 q4, fun a k q => F.2.2.1 a k (by omega), F.2.2.2, g⟩
theorem MV_ref {h h' : HP} {S : HS} {v : SV} {im : Option SV} {tp : Int → Int} {nt : Nat} {rf : Int × Int × Int} {fl : Int} (m : MV h (S, v, im, tp, nt, rf, fl)) (j : Nat) (hj : j < 3) (e : h' = sA h 8 (j : Int) (hA h 8 (j : Int) + 1)) : MV h' (S, v, im, tp, nt, cn32 rf j, fl) := by
  obtain ⟨m1, m2, m3, ⟨m4, m5, m6⟩, m7, m8, m9, ⟨r1, r2, r3⟩, m11⟩ := m
  obtain ⟨a1, f1, i1, rr⟩ := sA_fx e
  refine ⟨MS_fr m1 (by rw [i1]) (by rw [i1]) (by rw [i1]) (by rw [i1]) (f1 1 (by omega)) (f1 2 (by omega)) (f1 3 (by omega)) (f1 4 (by omega)) (f1 5 (by omega)) (f1 6 (by omega)), by rw [f1 20 (by omega)]; exact m2, by rw [i1]; exact m3, ⟨RV0_fr m4 (fun i _ => by rw [f1 18 (by omega)]), mAc_fr m5 (by rw [i1]) (f1 19 (by omega)), mSe_fr m6 (by rw [i1]) (f1 23 (by omega))⟩, mIm_fr m7 (by rw [i1]) (by rw [i1]) (by rw [i1]) (f1 26 (by omega)) (f1 27 (by omega)) (f1 28 (by omega)), by rw [i1]; exact m8, by rw [f1 7 (by omega)]; exact m9, ?_, by rw [i1]; exact m11⟩
  rw [a1]
  rcases (show j = 0 ∨ j = 1 ∨ j = 2 by omega) with rfl | rfl | rfl
  · exact ⟨by rw [show ((0 : Nat) : Int) = 0 from rfl, upI_s, r1]; rfl, by rw [upI_n (by decide)]; exact r2, by rw [upI_n (by decide)]; exact r3⟩
  · exact ⟨by rw [upI_n (by decide)]; exact r1, by rw [show ((1 : Nat) : Int) = 1 from rfl, upI_s, r2]; rfl, by rw [upI_n (by decide)]; exact r3⟩
  · exact ⟨by rw [upI_n (by decide)]; exact r1, by rw [upI_n (by decide)]; exact r2, by rw [show ((2 : Nat) : Int) = 2 from rfl, upI_s, r3]; rfl⟩
/-! rows that are kept -/
def shF (g : Int → Int) (k : Int) : Int → Int := fun i => if 0 ≤ i ∧ i < k then g (i + 77) else g i
def pwF (r g : Int → Int) (b k : Int) : Int → Int := fun i => if b ≤ i ∧ i < b + k then r (i - b) else g i
theorem shF_s {g : Int → Int} {k : Nat} : upI (shF g (k : Int)) (k : Int) (shF g (k : Int) ((k : Int) + 77)) = shF g ((k + 1 : Nat) : Int) := by
  funext i
  unfold upI shF
  by_cases e : i = (k : Int)
  · rw [if_pos e, if_neg (by omega), if_pos (by omega), e]
  · rw [if_neg e]
    by_cases e2 : 0 ≤ i ∧ i < (k : Int)
    · rw [if_pos e2, if_pos (by omega)]
    · rw [if_neg e2, if_neg (by omega)]
theorem pwF_s {r g : Int → Int} {b : Int} {k : Nat} : upI (pwF r g b (k : Int)) (b + (k : Int)) (r (k : Int)) = pwF r g b ((k + 1 : Nat) : Int) := by
  funext i
  unfold upI pwF
  by_cases e : i = b + (k : Int)
  · rw [if_pos e, if_pos (by omega)]; congr 1; omega
  · rw [if_neg e]
    by_cases e2 : b ≤ i ∧ i < b + (k : Int)
    · rw [if_pos e2, if_pos (by omega)]
    · rw [if_neg e2, if_neg (by omega)]
theorem pwF_0 {r g : Int → Int} {b : Int} : pwF r g b 0 = g := by
  funext i
  exact if_neg (by omega)
theorem shF_0 {g : Int → Int} : shF g 0 = g := by
  funext i
  exact if_neg (by omega)
theorem shF_g {g : Int → Int} {k : Nat} {i j : Int} (hi : i = (k : Int)) (hj : j = (k : Int) + 77) : upI (shF g (k : Int)) i (shF g (k : Int) j) = shF g ((k + 1 : Nat) : Int) := by
  subst hi hj; exact shF_s
theorem pwF_g {r g : Int → Int} {b : Int} {k : Nat} {i : Int} (hi : i = b + (k : Int)) : upI (pwF r g b (k : Int)) i (r (k : Int)) = pwF r g b ((k + 1 : Nat) : Int) := by
  subst hi; exact pwF_s
/-- one more is kept -/
theorem mAc_keep {h h2 : HP} {f : Int → Int} {C : AC} {g : Int → Int} {c : Nat} (m : mAc h 19 44 C) (v : RV h 0 f) (hc : c = (if C.1 < 40 then C.1 else 39)) (hg : g = (if C.1 < 40 then hA h 19 else shF (hA h 19) 3003)) (e : hA h2 19 = pwF (hA h 18) g (77 * (c : Int)) 77) (e44 : hI h2 0 44 = (c : Int) + 1) : mAc h2 19 44 (acP C f) := by
  obtain ⟨m1, m2, m3⟩ := m
  have new : ∀ j : Int, 0 ≤ j → j < 77 → hA h2 19 ((c : Int) * 77 + pm j) = f j := fun j j0 j1 => by
    have pb := pm_b j0 j1
    rw [e]
    unfold pwF
    rw [if_pos (by omega), show (c : Int) * 77 + pm j - 77 * (c : Int) = 0 + pm j by omega]
    exact v j j0 j1
  have old : ∀ i : Nat, i < c → ∀ j : Int, 0 ≤ j → j < 77 → hA h2 19 ((i : Int) * 77 + pm j) = g ((i : Int) * 77 + pm j) := fun i hi j j0 j1 => by
    have pb := pm_b j0 j1
    rw [e]
    unfold pwF
    rw [if_neg (by omega)]
  by_cases z : C.1 < 40
  · rw [if_pos z] at hc hg
    rw [show acP C f = (C.1 + 1, fun i => if i = C.1 then f else C.2 i) from if_pos z]
    refine ⟨by rw [e44, hc]; show _ = ((C.1 + 1 : Nat) : Int); omega, by show C.1 + 1 ≤ 40; omega, fun i hi j j0 j1 => ?_⟩
    have hi : i < C.1 + 1 := hi
    show _ = (if i = C.1 then f else C.2 i) j
    by_cases w : i = C.1
    · rw [if_pos w, w, ← hc]; exact new j j0 j1
    · rw [if_neg w, old i (by omega) j j0 j1, hg]; exact m3 i (by omega) j j0 j1
  · rw [if_neg z] at hc hg
    rw [show acP C f = (40, fun i => if i = 39 then f else C.2 (i + 1)) from if_neg z]
    refine ⟨by rw [e44, hc]; rfl, Nat.le_refl 40, fun i hi j j0 j1 => ?_⟩
    have hi : i < 40 := hi
    have pb := pm_b j0 j1
    show _ = (if i = 39 then f else C.2 (i + 1)) j
    by_cases w : i = 39
    · rw [if_pos w, w]
      have := new j j0 j1
      rw [hc] at this; exact this
    · rw [if_neg w, old i (by omega) j j0 j1, hg]
      unfold shF
      rw [if_pos (by omega)]
      have := m3 (i + 1) (by omega) j j0 j1
      rw [show (((i + 1 : Nat) : Int)) * 77 + pm j = (i : Int) * 77 + pm j + 77 by omega] at this
      exact this
def mX12_keeps : MI := (yX12_keeps, cX12_keeps, 2, none, rmK 1 0)
def tX12_keeps : List (Nat × Instr × Nat) := [(0, .aload_n 0, 1), (1, .getfield 277, 3), (4, .bipush 40, 2), (6, .if_icmp .ne 44, 3), (9, .bipush 77, 2), (11, .istore_n 1, 1), (12, .iload_n 1, 1), (13, .sipush 3080, 3), (16, .if_icmp .ge 24, 3), (19, .aload_n 0, 1), (20, .getfield 75, 3), (23, .iload_n 1, 1), (24, .bipush 77, 2), (26, .isub, 1), (27, .aload_n 0, 1), (28, .getfield 75, 3), (31, .iload_n 1, 1), (32, .iaload, 1), (33, .iastore, 1), (34, .iinc 1 1, 3), (37, .goto (-25), 3), (40, .aload_n 0, 1), (41, .dup, 1), (42, .getfield 277, 3), (45, .iconst 1, 1), (46, .isub, 1), (47, .putfield 277, 3), (50, .iconst 0, 1), (51, .istore_n 1, 1), (52, .iload_n 1, 1), (53, .bipush 77, 2), (55, .if_icmp .ge 29, 3), (58, .aload_n 0, 1), (59, .getfield 75, 3), (62, .bipush 77, 2), (64, .aload_n 0, 1), (65, .getfield 277, 3), (68, .imul, 1), (69, .iload_n 1, 1), (70, .iadd, 1), (71, .aload_n 0, 1), (72, .getfield 72, 3), (75, .iload_n 1, 1), (76, .iaload, 1), (77, .iastore, 1), (78, .iinc 1 1, 3), (81, .goto (-29), 3), (84, .aload_n 0, 1), (85, .dup, 1), (86, .getfield 277, 3), (89, .iconst 1, 1), (90, .iadd, 1), (91, .putfield 277, 3), (94, .return_, 1)]
theorem dtX12_keeps : tX12_keeps.all (fun q => decide (decode cX12_keeps q.1 = .ok (q.2.1, q.2.2))) = true := by decide +kernel
theorem npX12_keeps : (parseMethodDescriptor (mY mX12_keeps).desc).map (fun d => d.parameters.length) = some 0 := by decide +kernel
theorem vX12_keeps : mV mX12_keeps := ⟨wI_X12_keeps, wS_X12_keeps, wN_X12, wC_X12_keeps, by decide +kernel, by decide +kernel⟩
set_option maxHeartbeats 4000000 in
set_option maxRecDepth 100000 in
theorem l2_X12_keeps {Q : AO → HP → Prop} {hb : HP} {c : Nat} (hc : c < 40) (e44 : hI hb 0 44 = (c : Int)) (hQ : ∀ h2, hA h2 19 = (pwF (hA hb 18) (hA hb 19) (77 * (c : Int)) 77) → (∀ b, b ≠ 19 → hA h2 b = hA hb b) → hI h2 0 44 = (c : Int) + 1 → (∀ a k, (a ≠ 0 ∨ k ≠ 44) → hI h2 a k = hI hb a k) → hR h2 = hR hb → Q (.inl none) h2) : ∀ (dd k : Nat) (hh : HP), k + dd = 77 → hA hh 19 = (pwF (hA hb 18) (hA hb 19) (77 * (c : Int)) (k : Int)) → (∀ b, b ≠ 19 → hA hh b = hA hb b) → hI hh = hI hb → hR hh = hR hb → K mX12_keeps GK (ZK Q 0 0) 0 0 52 [(1, vi (k : Int)), (0, vr 0)] [] hh := by
  intro dd
  induction dd with
  | zero =>
    intro k hh hk ea fa fi fr
    have ek : k = 77 := by omega
    have e44h : hI hh 0 44 = (c : Int) := by rw [fi]; exact e44
    refine K_iload_n (dt_at dtX12_keeps 29 rfl) rfl rfl ?_
    refine K_bipush (dt_at dtX12_keeps 30 rfl) (by decide) ?_
    refine K_icmp_ge (tgt := 84) (dt_at dtX12_keeps 31 rfl) (by decide) (by first | assumption | exact ⟨by omega, by omega⟩) (by first | assumption | exact ⟨by omega, by omega⟩) (fun c1 => ?_) (fun c1 => absurd c1 (by omega))
    refine K_aload_n (dt_at dtX12_keeps 47 rfl) rfl rfl ?_
    refine K_dup (dt_at dtX12_keeps 48 rfl) rfl ?_
    refine K_get (a := 0) (ci := 12) (k := 44) (v := vi (c : Int)) (dt_at dtX12_keeps 49 rfl) (show TT 0 = (0, 12) from rfl) rfl (by decide) wF_X12_277 (by show vi (hI hh 0 44) = vi (c : Int); rw [e44h]) ?_
    refine K_iconst (dt_at dtX12_keeps 50 rfl) ?_
    refine K_iadd (dt_at dtX12_keeps 51 rfl) ?_
    refine K_putI (a := 0) (ci := 12) (k := 44) (dt_at dtX12_keeps 52 rfl) (show TT 0 = (0, 12) from rfl) rfl (by decide) wF_X12_277 rfl (Or.inl rfl) rfl rfl ?_
    obtain ⟨hq1, eq1⟩ : ∃ z, z = sI hh 0 44 ((c : Int) + 1) := ⟨_, rfl⟩
    rw [← eq1]
    obtain ⟨iq1, fq1, aq1, rq1⟩ := sI_fx eq1
    exact K_vret (dt_at dtX12_keeps 53 rfl) rfl (by decide) (by decide) (hQ hq1 (by rw [aq1]; rw [ek] at ea; exact ea) (fun b_ hb_ => by rw [aq1]; exact fa b_ hb_) iq1 (fun a_ k_ z_ => by rw [fq1 a_ k_ (by omega), fi]) (by rw [rq1]; exact fr))
  | succ dd ih =>
    intro k hh hk ea fa fi fr
    have e44h : hI hh 0 44 = (c : Int) := by rw [fi]; exact e44
    refine K_iload_n (dt_at dtX12_keeps 29 rfl) rfl rfl ?_
    refine K_bipush (dt_at dtX12_keeps 30 rfl) (by decide) ?_
    refine K_icmp_ge (tgt := 84) (dt_at dtX12_keeps 31 rfl) (by decide) (by first | assumption | exact ⟨by omega, by omega⟩) (by first | assumption | exact ⟨by omega, by omega⟩) (fun c1 => absurd c1 (by omega)) (fun c1 => ?_)
    refine K_aload_n (dt_at dtX12_keeps 32 rfl) rfl rfl ?_
    refine K_get (a := 0) (ci := 12) (k := 43) (v := vr 19) (dt_at dtX12_keeps 33 rfl) (show TT 0 = (0, 12) from rfl) rfl (by decide) wF_X12_75 rfl ?_
    refine K_bipush (dt_at dtX12_keeps 34 rfl) (by decide) ?_
    refine K_aload_n (dt_at dtX12_keeps 35 rfl) rfl rfl ?_
    refine K_get (a := 0) (ci := 12) (k := 44) (v := vi (c : Int)) (dt_at dtX12_keeps 36 rfl) (show TT 0 = (0, 12) from rfl) rfl (by decide) wF_X12_277 (by show vi (hI hh 0 44) = vi (c : Int); rw [e44h]) ?_
    refine K_imul (dt_at dtX12_keeps 37 rfl) ?_
    refine K_iload_n (dt_at dtX12_keeps 38 rfl) rfl rfl ?_
    refine K_iadd (dt_at dtX12_keeps 39 rfl) ?_
    refine K_aload_n (dt_at dtX12_keeps 40 rfl) rfl rfl ?_
    refine K_get (a := 0) (ci := 12) (k := 42) (v := vr 18) (dt_at dtX12_keeps 41 rfl) (show TT 0 = (0, 12) from rfl) rfl (by decide) wF_X12_72 rfl ?_
    refine K_iload_n (dt_at dtX12_keeps 42 rfl) rfl rfl ?_
    refine K_iald (dt_at dtX12_keeps 43 rfl) (show TT 18 = (1, 154) from rfl) (by omega) (by omega) ?_
    rw [(fa 18 (by omega))]
    refine K_iast (dt_at dtX12_keeps 44 rfl) (show TT 19 = (1, 3080) from rfl) (by omega) (by omega) ?_
    obtain ⟨hq1, eq1⟩ : ∃ z, z = sA hh 19 ((77 * (c : Int)) + (k : Int)) (hA hb 18 (k : Int)) := ⟨_, rfl⟩
    rw [← eq1]
    obtain ⟨aq1, fq1, iq1, rq1⟩ := sA_fx eq1
    rw [ea] at aq1
    refine K_iinc (ls' := [(1, vi ((k : Int) + 1)), (0, vr 0)]) (dt_at dtX12_keeps 45 rfl) rfl (by decide) rfl ?_
    refine K_goto (tgt := 52) (dt_at dtX12_keeps 46 rfl) (by decide) ?_
    exact K_pk [0, 1] rfl (ih (k + 1) hq1 (by omega) (by rw [aq1]; exact pwF_g (by omega)) (fun b_ hb_ => by rw [fq1 b_ hb_]; exact fa b_ hb_) (by rw [iq1]; exact fi) (by rw [rq1]; exact fr))
set_option maxHeartbeats 4000000 in
set_option maxRecDepth 100000 in
theorem l1_X12_keeps {Q : AO → HP → Prop} {h : HP} (e44 : hI h 0 44 = 40) (hQ : ∀ h2, hA h2 19 = pwF (hA h 18) (shF (hA h 19) 3003) (77 * ((39 : Nat) : Int)) 77 → (∀ b, b ≠ 19 → hA h2 b = hA h b) → hI h2 0 44 = ((39 : Nat) : Int) + 1 → (∀ a k, (a ≠ 0 ∨ k ≠ 44) → hI h2 a k = hI h a k) → hR h2 = hR h → Q (.inl none) h2) : ∀ (dd k : Nat) (hh : HP), k + dd = 3003 → hA hh 19 = (shF (hA h 19) (k : Int)) → (∀ b, b ≠ 19 → hA hh b = hA h b) → hI hh = hI h → hR hh = hR h → K mX12_keeps GK (ZK Q 0 0) 0 0 12 [(1, vi (77 + (k : Int))), (0, vr 0)] [] hh := by
  intro dd
  induction dd with
  | zero =>
    intro k hh hk ea fa fi fr
    have ek : k = 3003 := by omega
    have e44h : hI hh 0 44 = 40 := by rw [fi]; exact e44
    refine K_iload_n (dt_at dtX12_keeps 6 rfl) rfl rfl ?_
    refine K_sipush (dt_at dtX12_keeps 7 rfl) (by decide) ?_
    refine K_icmp_ge (tgt := 40) (dt_at dtX12_keeps 8 rfl) (by decide) (by first | assumption | exact ⟨by omega, by omega⟩) (by first | assumption | exact ⟨by omega, by omega⟩) (fun c1 => ?_) (fun c1 => absurd c1 (by omega))
    refine K_aload_n (dt_at dtX12_keeps 21 rfl) rfl rfl ?_
    refine K_dup (dt_at dtX12_keeps 22 rfl) rfl ?_
    refine K_get (a := 0) (ci := 12) (k := 44) (v := vi 40) (dt_at dtX12_keeps 23 rfl) (show TT 0 = (0, 12) from rfl) rfl (by decide) wF_X12_277 (by show vi (hI hh 0 44) = vi 40; rw [e44h]) ?_
    refine K_iconst (dt_at dtX12_keeps 24 rfl) ?_
    refine K_isub (dt_at dtX12_keeps 25 rfl) ?_
    refine K_putI (a := 0) (ci := 12) (k := 44) (dt_at dtX12_keeps 26 rfl) (show TT 0 = (0, 12) from rfl) rfl (by decide) wF_X12_277 rfl (Or.inl rfl) rfl rfl ?_
    obtain ⟨hq1, eq1⟩ : ∃ z, z = sI hh 0 44 (40 - 1) := ⟨_, rfl⟩
    rw [← eq1]
    obtain ⟨iq1, fq1, aq1, rq1⟩ := sI_fx eq1
    refine K_iconst (dt_at dtX12_keeps 27 rfl) ?_
    refine K_istore_n (ls' := [(1, vi 0), (0, vr 0)]) (dt_at dtX12_keeps 28 rfl) rfl (by decide) rfl ?_
    exact K_pk [0, 1] rfl (l2_X12_keeps (hb := hq1) (c := 39) (by decide) (by rw [iq1]; rfl) (fun h2 q1 q2 q3 q4 q5 => hQ h2 (by rw [q1, aq1, ea, ek, fa 18 (by decide)]; rfl) (fun b_ hb_ => by rw [q2 b_ hb_, aq1]; exact fa b_ hb_) q3 (fun a_ k_ z_ => by rw [q4 a_ k_ z_, fq1 a_ k_ (by omega), fi]) (by rw [q5, rq1]; exact fr)) 77 0 hq1 (by omega) (pwF_0).symm (fun _ _ => rfl) rfl rfl)
  | succ dd ih =>
    intro k hh hk ea fa fi fr
    have e44h : hI hh 0 44 = 40 := by rw [fi]; exact e44
    refine K_iload_n (dt_at dtX12_keeps 6 rfl) rfl rfl ?_
    refine K_sipush (dt_at dtX12_keeps 7 rfl) (by decide) ?_
    refine K_icmp_ge (tgt := 40) (dt_at dtX12_keeps 8 rfl) (by decide) (by first | assumption | exact ⟨by omega, by omega⟩) (by first | assumption | exact ⟨by omega, by omega⟩) (fun c1 => absurd c1 (by omega)) (fun c1 => ?_)
    refine K_aload_n (dt_at dtX12_keeps 9 rfl) rfl rfl ?_
    refine K_get (a := 0) (ci := 12) (k := 43) (v := vr 19) (dt_at dtX12_keeps 10 rfl) (show TT 0 = (0, 12) from rfl) rfl (by decide) wF_X12_75 rfl ?_
    refine K_iload_n (dt_at dtX12_keeps 11 rfl) rfl rfl ?_
    refine K_bipush (dt_at dtX12_keeps 12 rfl) (by decide) ?_
    refine K_isub (dt_at dtX12_keeps 13 rfl) ?_
    refine K_aload_n (dt_at dtX12_keeps 14 rfl) rfl rfl ?_
    refine K_get (a := 0) (ci := 12) (k := 43) (v := vr 19) (dt_at dtX12_keeps 15 rfl) (show TT 0 = (0, 12) from rfl) rfl (by decide) wF_X12_75 rfl ?_
    refine K_iload_n (dt_at dtX12_keeps 16 rfl) rfl rfl ?_
    refine K_iald (dt_at dtX12_keeps 17 rfl) (show TT 19 = (1, 3080) from rfl) (by omega) (by omega) ?_
    rw [ea]
    refine K_iast (dt_at dtX12_keeps 18 rfl) (show TT 19 = (1, 3080) from rfl) (by omega) (by omega) ?_
    obtain ⟨hq1, eq1⟩ : ∃ z, z = sA hh 19 ((77 + (k : Int)) - 77) ((shF (hA h 19) (k : Int)) (77 + (k : Int))) := ⟨_, rfl⟩
    rw [← eq1]
    obtain ⟨aq1, fq1, iq1, rq1⟩ := sA_fx eq1
    rw [ea] at aq1
    refine K_iinc (ls' := [(1, vi ((77 + (k : Int)) + 1)), (0, vr 0)]) (dt_at dtX12_keeps 19 rfl) rfl (by decide) rfl ?_
    refine K_goto (tgt := 12) (dt_at dtX12_keeps 20 rfl) (by decide) ?_
    exact K_pk [0, 1] (ls' := [(1, vi ((77 + (k : Int)) + 1)), (0, vr 0)]) rfl (K_cg (ls' := [(1, vi (77 + ((k + 1 : Nat) : Int))), (0, vr 0)]) (h' := hq1) (by rw [show ((77 + (k : Int)) + 1) = 77 + ((k + 1 : Nat) : Int) by omega]) rfl (ih (k + 1) hq1 (by omega) (by rw [aq1]; exact shF_g (by omega) (by omega)) (fun b_ hb_ => by rw [fq1 b_ hb_]; exact fa b_ hb_) (by rw [iq1]; exact fi) (by rw [rq1]; exact fr)))
set_option maxHeartbeats 4000000 in
set_option maxRecDepth 100000 in
theorem sX12_keeps {h : HP} {C : AC} {f : Int → Int} (mc : mAc h 19 44 C) (v : RV h 0 f) : SpecK mX12_keeps [vr 0] h (fun o h' => o = .inl none ∧ mAc h' 19 44 (acP C f) ∧ (∀ a, a ≠ 19 → hA h' a = hA h a) ∧ (∀ a k, (a ≠ 0 ∨ k ≠ 44) → hI h' a k = hI h a k) ∧ hR h' = hR h) := by
  refine Spec_of (by decide +kernel) (Nat.le_of_ble_eq_true rfl) ?_
  have c40 := mc.2.1
  refine K_aload_n (dt_at dtX12_keeps 0 rfl) rfl rfl ?_
  refine K_get (a := 0) (ci := 12) (k := 44) (v := vi (C.1 : Int)) (dt_at dtX12_keeps 1 rfl) (show TT 0 = (0, 12) from rfl) rfl (by decide) wF_X12_277 (by show vi (hI h 0 44) = vi (C.1 : Int); rw [mc.1]) ?_
  refine K_bipush (dt_at dtX12_keeps 2 rfl) (by decide) ?_
  refine K_icmp_ne (tgt := 50) (dt_at dtX12_keeps 3 rfl) (by decide) (by first | assumption | exact ⟨by omega, by omega⟩) (by first | assumption | exact ⟨by omega, by omega⟩) (fun c1 => ?_) (fun c1 => ?_)
  · refine K_iconst (dt_at dtX12_keeps 27 rfl) ?_
    refine K_istore_n (ls' := [(1, vi 0), (0, vr 0)]) (dt_at dtX12_keeps 28 rfl) rfl (by decide) rfl ?_
    exact K_pk [0, 1] rfl (l2_X12_keeps (hb := h) (c := C.1) (by omega) mc.1 (fun h2 q1 q2 q3 q4 q5 => ⟨rfl, mAc_keep (c := C.1) mc v (by rw [if_pos (by omega)]) (by rw [if_pos (by omega)]) q1 q3, q2, q4, q5⟩) 77 0 h (by omega) (pwF_0).symm (fun _ _ => rfl) rfl rfl)
  · refine K_bipush (dt_at dtX12_keeps 4 rfl) (by decide) ?_
    refine K_istore_n (ls' := [(1, vi 77), (0, vr 0)]) (dt_at dtX12_keeps 5 rfl) rfl (by decide) rfl ?_
    exact K_pk [0, 1] (ls' := [(1, vi 77), (0, vr 0)]) rfl (K_cg (ls' := [(1, vi (77 + ((0 : Nat) : Int))), (0, vr 0)]) (h' := h) rfl rfl (l1_X12_keeps (by rw [mc.1]; omega) (fun h2 q1 q2 q3 q4 q5 => ⟨rfl, mAc_keep (c := 39) mc v (by rw [if_neg (by omega)]) (by rw [if_neg (by omega)]) q1 q3, q2, q4, q5⟩) 3003 0 h (by omega) shF_0.symm (fun _ _ => rfl) rfl rfl))
def mX12_refuses : MI := (yX12_refuses, cX12_refuses, 2, (some .int), rmK 1 0)
def tX12_refuses : List (Nat × Instr × Nat) := [(0, .aload_n 0, 1), (1, .getfield 41, 3), (4, .iload_n 1, 1), (5, .dup2, 1), (6, .iaload, 1), (7, .iconst 1, 1), (8, .iadd, 1), (9, .iastore, 1), (10, .iconst (-1), 1), (11, .ireturn, 1)]
theorem dtX12_refuses : tX12_refuses.all (fun q => decide (decode cX12_refuses q.1 = .ok (q.2.1, q.2.2))) = true := by decide +kernel
theorem npX12_refuses : (parseMethodDescriptor (mY mX12_refuses).desc).map (fun d => d.parameters.length) = some 1 := by decide +kernel
theorem vX12_refuses : mV mX12_refuses := ⟨wI_X12_refuses, wS_X12_refuses, wN_X12, wC_X12_refuses, by decide +kernel, by decide +kernel⟩
set_option maxHeartbeats 4000000 in
set_option maxRecDepth 100000 in
theorem sX12_refuses {h : HP} {n : Nat} (hn : n < 3) : SpecK mX12_refuses [vr 0, vi (n : Int)] h (fun o h' => o = .inl (some (vi (-1))) ∧ h' = sA h 8 (n : Int) (hA h 8 (n : Int) + 1)) := by
  refine Spec_of (by decide +kernel) (Nat.le_of_ble_eq_true rfl) ?_
  refine K_aload_n (dt_at dtX12_refuses 0 rfl) rfl rfl ?_
  refine K_get (a := 0) (ci := 12) (k := 15) (v := vr 8) (dt_at dtX12_refuses 1 rfl) (show TT 0 = (0, 12) from rfl) rfl (by decide) wF_X12_41 rfl ?_
  refine K_iload_n (dt_at dtX12_refuses 2 rfl) rfl rfl ?_
  refine K_dup2 (dt_at dtX12_refuses 3 rfl) rfl rfl ?_
  refine K_iald (dt_at dtX12_refuses 4 rfl) (show TT 8 = (1, 3) from rfl) (by omega) (by omega) ?_
  refine K_iconst (dt_at dtX12_refuses 5 rfl) ?_
  refine K_iadd (dt_at dtX12_refuses 6 rfl) ?_
  refine K_iast (dt_at dtX12_refuses 7 rfl) (show TT 8 = (1, 3) from rfl) (by omega) (by omega) ?_
  refine K_iconst (dt_at dtX12_refuses 8 rfl) ?_
  exact K_iret (dt_at dtX12_refuses 9 rfl) rfl rfl (by decide) (by decide) ⟨rfl, rfl⟩
def mX12_swaps : MI := (yX12_swaps, cX12_swaps, 5, none, rmK 1 0)
def tX12_swaps : List (Nat × Instr × Nat) := [(0, .aload_n 0, 1), (1, .getfield 72, 3), (4, .iload_n 1, 1), (5, .bipush 8, 2), (7, .iadd, 1), (8, .iload_n 2, 1), (9, .iadd, 1), (10, .iaload, 1), (11, .istore 4, 2), (13, .aload_n 0, 1), (14, .getfield 72, 3), (17, .iload_n 1, 1), (18, .bipush 8, 2), (20, .iadd, 1), (21, .iload_n 2, 1), (22, .iadd, 1), (23, .aload_n 0, 1), (24, .getfield 72, 3), (27, .iload_n 1, 1), (28, .bipush 8, 2), (30, .iadd, 1), (31, .iload_n 3, 1), (32, .iadd, 1), (33, .iaload, 1), (34, .iastore, 1), (35, .aload_n 0, 1), (36, .getfield 72, 3), (39, .iload_n 1, 1), (40, .bipush 8, 2), (42, .iadd, 1), (43, .iload_n 3, 1), (44, .iadd, 1), (45, .iload 4, 2), (47, .iastore, 1), (48, .return_, 1)]
theorem dtX12_swaps : tX12_swaps.all (fun q => decide (decode cX12_swaps q.1 = .ok (q.2.1, q.2.2))) = true := by decide +kernel
theorem npX12_swaps : (parseMethodDescriptor (mY mX12_swaps).desc).map (fun d => d.parameters.length) = some 3 := by decide +kernel
theorem vX12_swaps : mV mX12_swaps := ⟨wI_X12_swaps, wS_X12_swaps, wN_X12, wC_X12_swaps, by decide +kernel, by decide +kernel⟩
set_option maxHeartbeats 4000000 in
set_option maxRecDepth 100000 in
theorem sX12_swaps {h0 h : HP} {b : Int} {S : HS} {f : Int → Int} {p q : Int} (d : MD h0 h b S f) (hp : 0 ≤ p ∧ p < 7) (hq : 0 ≤ q ∧ q < 7) : SpecK mX12_swaps [vr 0, vi b, vi p, vi q] h (fun o h' => o = .inl none ∧ MD h0 h' b S (swF f p q) ∧ hI h' = hI h) := by
  refine Spec_of (by decide +kernel) (Nat.le_of_ble_eq_true rfl) ?_
  have hb := d.2.1
  refine K_aload_n (dt_at dtX12_swaps 0 rfl) rfl rfl ?_
  refine K_get (a := 0) (ci := 12) (k := 42) (v := vr 18) (dt_at dtX12_swaps 1 rfl) (show TT 0 = (0, 12) from rfl) rfl (by decide) wF_X12_72 rfl ?_
  refine K_iload_n (dt_at dtX12_swaps 2 rfl) rfl rfl ?_
  refine K_bipush (dt_at dtX12_swaps 3 rfl) (by decide) ?_
  refine K_iadd (dt_at dtX12_swaps 4 rfl) ?_
  refine K_iload_n (dt_at dtX12_swaps 5 rfl) rfl rfl ?_
  refine K_iadd (dt_at dtX12_swaps 6 rfl) ?_
  refine K_iald (dt_at dtX12_swaps 7 rfl) (show TT 18 = (1, 154) from rfl) (by omega) (by omega) ?_
  rw [show hA h 18 ((b + 8) + p) = (f (8 + p)) from RV_c d.2.2.2 (p := p) (by omega) (by omega)]
  refine K_istore (ls' := [(4, vi (f (8 + p))), (0, vr 0), (1, vi b), (2, vi p), (3, vi q)]) (dt_at dtX12_swaps 8 rfl) (by decide) rfl ?_
  refine K_aload_n (dt_at dtX12_swaps 9 rfl) rfl rfl ?_
  refine K_get (a := 0) (ci := 12) (k := 42) (v := vr 18) (dt_at dtX12_swaps 10 rfl) (show TT 0 = (0, 12) from rfl) rfl (by decide) wF_X12_72 rfl ?_
  refine K_iload_n (dt_at dtX12_swaps 11 rfl) rfl rfl ?_
  refine K_bipush (dt_at dtX12_swaps 12 rfl) (by decide) ?_
  refine K_iadd (dt_at dtX12_swaps 13 rfl) ?_
  refine K_iload_n (dt_at dtX12_swaps 14 rfl) rfl rfl ?_
  refine K_iadd (dt_at dtX12_swaps 15 rfl) ?_
  refine K_aload_n (dt_at dtX12_swaps 16 rfl) rfl rfl ?_
  refine K_get (a := 0) (ci := 12) (k := 42) (v := vr 18) (dt_at dtX12_swaps 17 rfl) (show TT 0 = (0, 12) from rfl) rfl (by decide) wF_X12_72 rfl ?_
  refine K_iload_n (dt_at dtX12_swaps 18 rfl) rfl rfl ?_
  refine K_bipush (dt_at dtX12_swaps 19 rfl) (by decide) ?_
  refine K_iadd (dt_at dtX12_swaps 20 rfl) ?_
  refine K_iload_n (dt_at dtX12_swaps 21 rfl) rfl rfl ?_
  refine K_iadd (dt_at dtX12_swaps 22 rfl) ?_
  refine K_iald (dt_at dtX12_swaps 23 rfl) (show TT 18 = (1, 154) from rfl) (by omega) (by omega) ?_
  rw [show hA h 18 ((b + 8) + q) = (f (8 + q)) from RV_c d.2.2.2 (p := q) (by omega) (by omega)]
  refine K_iast (dt_at dtX12_swaps 24 rfl) (show TT 18 = (1, 154) from rfl) (by omega) (by omega) ?_
  obtain ⟨hu1, eu1⟩ : ∃ z, z = sA h 18 ((b + 8) + p) (f (8 + q)) := ⟨_, rfl⟩
  rw [← eu1]
  obtain ⟨au1, fu1, iu1, ru1⟩ := sA_fx eu1
  have du1 : MD h0 hu1 b S (upI f (8 + p) (f (8 + q))) := MD_up d (j := 8 + p) (by omega) (by omega) (by rw [pm_c (by omega)]; omega) eu1
  refine K_aload_n (dt_at dtX12_swaps 25 rfl) rfl rfl ?_
  refine K_get (a := 0) (ci := 12) (k := 42) (v := vr 18) (dt_at dtX12_swaps 26 rfl) (show TT 0 = (0, 12) from rfl) rfl (by decide) wF_X12_72 rfl ?_
  refine K_iload_n (dt_at dtX12_swaps 27 rfl) rfl rfl ?_
  refine K_bipush (dt_at dtX12_swaps 28 rfl) (by decide) ?_
  refine K_iadd (dt_at dtX12_swaps 29 rfl) ?_
  refine K_iload_n (dt_at dtX12_swaps 30 rfl) rfl rfl ?_
  refine K_iadd (dt_at dtX12_swaps 31 rfl) ?_
  refine K_iload (dt_at dtX12_swaps 32 rfl) rfl ?_
  refine K_iast (dt_at dtX12_swaps 33 rfl) (show TT 18 = (1, 154) from rfl) (by omega) (by omega) ?_
  obtain ⟨hu2, eu2⟩ : ∃ z, z = sA hu1 18 ((b + 8) + q) (f (8 + p)) := ⟨_, rfl⟩
  rw [← eu2]
  obtain ⟨au2, fu2, iu2, ru2⟩ := sA_fx eu2
  have du2 : MD h0 hu2 b S (upI (upI f (8 + p) (f (8 + q))) (8 + q) (f (8 + p))) := MD_up du1 (j := 8 + q) (by omega) (by omega) (by rw [pm_c (by omega)]; omega) eu2
  exact K_vret (dt_at dtX12_swaps 34 rfl) rfl (by decide) (by decide) ⟨rfl, du2, by rw [iu2, iu1]⟩
theorem FA_Q {h g : HP} (e : g = sI h 0 0 0 ∧ ∀ i, i32 (hA h 20 i)) : FA h g := FA_0 e.1 e.2
def mX12_buy : MI := (yX12_buy, cX12_buy, 3, (some .int), rmK 3 0)
def tX12_buy : List (Nat × Instr × Nat) := [(0, .aload_n 0, 1), (1, .iconst 0, 1), (2, .putfield 105, 3), (5, .aload_n 0, 1), (6, .iload_n 1, 1), (7, .invokevirtual 368, 3), (10, .ifCond .ne 5, 3), (13, .iconst 0, 1), (14, .ireturn, 1), (15, .iload_n 2, 1), (16, .iconst 1, 1), (17, .bipush 9, 2), (19, .invokestatic 346, 3), (22, .ifCond .eq 19, 3), (25, .aload_n 0, 1), (26, .getfield 72, 3), (29, .bipush 57, 2), (31, .iload_n 1, 1), (32, .iadd, 1), (33, .iaload, 1), (34, .iload_n 2, 1), (35, .iadd, 1), (36, .bipush 99, 2), (38, .if_icmp .le 9, 3), (41, .aload_n 0, 1), (42, .iconst 1, 1), (43, .invokevirtual 387, 3), (46, .ireturn, 1), (47, .aload_n 0, 1), (48, .invokevirtual 390, 3), (51, .aload_n 0, 1), (52, .getfield 72, 3), (55, .bipush 57, 2), (57, .iload_n 1, 1), (58, .iadd, 1), (59, .dup2, 1), (60, .iaload, 1), (61, .iload_n 2, 1), (62, .iadd, 1), (63, .iastore, 1), (64, .aload_n 0, 1), (65, .getfield 72, 3), (68, .bipush 57, 2), (70, .iload_n 1, 1), (71, .iadd, 1), (72, .iaload, 1), (73, .ireturn, 1)]
theorem dtX12_buy : tX12_buy.all (fun q => decide (decode cX12_buy q.1 = .ok (q.2.1, q.2.2))) = true := by decide +kernel
theorem npX12_buy : (parseMethodDescriptor (mY mX12_buy).desc).map (fun d => d.parameters.length) = some 2 := by decide +kernel
theorem vX12_buy : mV mX12_buy := ⟨wI_X12_buy, wS_X12_buy, wN_X12, wC_X12_buy, by decide +kernel, by decide +kernel⟩
set_option maxHeartbeats 4000000 in
set_option maxRecDepth 100000 in
theorem sX12_buy_x1 {h : HP} {S : HS} {f : Int → Int} {q d : Int} (Q0 : MAsk h S f) (hq_ : i32 q) (hd_ : i32 d) (kn : ¬ (0 ≤ q ∧ q < sNt S)) : SpecK mX12_buy [vr 0, vi q, vi d] h (fun o h' => o = .inl (some (vi 0)) ∧ FQ h h' ∧ hI h' 0 0 = 1) := by
  refine Spec_of (by decide +kernel) (Nat.le_of_ble_eq_true rfl) ?_
  have hB := Q0.1.1
  have hNt := hB.1
  have hNp := hB.2.1
  have R := Q0.2.2.2.2
  have hT := R.1
  have hW := hT.1
  refine K_aload_n (dt_at dtX12_buy 0 rfl) rfl rfl ?_
  refine K_iconst (dt_at dtX12_buy 1 rfl) ?_
  refine K_putI (a := 0) (ci := 12) (k := 0) (dt_at dtX12_buy 2 rfl) (show TT 0 = (0, 12) from rfl) rfl (by decide) wF_X12_105 rfl (Or.inl rfl) rfl rfl ?_
  obtain ⟨hu1, eu1⟩ : ∃ z, z = sI h 0 0 0 := ⟨_, rfl⟩
  rw [← eu1]
  obtain ⟨iu1, fu1, au1, ru1⟩ := sI_fx eu1
  have Gu1 := MG_0 Q0 eu1
  refine K_aload_n (dt_at dtX12_buy 3 rfl) rfl rfl ?_
  refine K_iload_n (dt_at dtX12_buy 4 rfl) rfl rfl ?_
  refine K_callV (M' := mX12_isThing) (a := 0) (ci := 12) (As := [vi q]) (st := []) (dt_at dtX12_buy 5 rfl) (sX12_isThing_f (MD_nt (MG_D0 Gu1)) hNt Gu1.2.2.2 (by assumption) (by omega)) (show TT 0 = (0, 12) from rfl) rfl wL_X12_368 vX12_isThing rfl npX12_isThing (by decide) (by decide) (Nat.le_of_ble_eq_true rfl) (by decide) (by decide) GK_E (fun v9 hc2 hq => ?_) (fun E h9 hq => by cases hq.1)
  have hqq3 := hq
  obtain ⟨e9q3, e8q3⟩ := hqq3
  obtain ⟨iq3, fq3, aq3, rq3⟩ := sI_fx e8q3
  have Bq3 : FQ h hc2 := FQ_tr Gu1.2.1 (FQ_I e8q3 rfl Gu1.2.1.2.2.2.2)
  cases e9q3
  show K mX12_buy _ _ 0 0 10 [(0, vr 0), (1, vi q), (2, vi d)] [vi 0] hc2
  refine K_if_ne (tgt := 15) (dt_at dtX12_buy 6 rfl) (by decide) (by first | assumption | exact ⟨by omega, by omega⟩) (fun c1 => absurd c1 (by omega)) (fun c1 => ?_)
  refine K_iconst (dt_at dtX12_buy 7 rfl) ?_
  exact K_iret (dt_at dtX12_buy 8 rfl) rfl rfl (by decide) (by decide) ⟨rfl, Bq3, iq3⟩
set_option maxHeartbeats 4000000 in
set_option maxRecDepth 100000 in
theorem sX12_buy_no {h : HP} {S : HS} {f : Int → Int} {C : AC} {N : SN} {im : Option SV} {tp : Int → Int} {nt : Nat} {rf : Int × Int × Int} {fl : Int} {q d : Int} (V : MV h (S, (f, C, N), im, tp, nt, rf, fl)) (R : rowOK S f) (hqt : 0 ≤ q ∧ q < sNt S) (hd : i32 d) (no : ¬ (1 ≤ d ∧ d ≤ 9 ∧ f (29 + q) + d ≤ 99)) : SpecK mX12_buy [vr 0, vi q, vi d] h (fun o h' => o = .inl (some (vi (-1))) ∧ MV h' (S, (f, C, N), im, tp, nt, cn32 rf 1, fl) ∧ FC h h' ∧ hI h' 0 0 = 0) := by
  refine Spec_of (by decide +kernel) (Nat.le_of_ble_eq_true rfl) ?_
  have Q0 := MV_ask V R
  have hB := Q0.1.1
  have hNt := hB.1
  have hNp := hB.2.1
  have hT := R.1
  have hW := hT.1
  have ws := hW.1 (29 + q) (by omega) (by omega)
  refine K_aload_n (dt_at dtX12_buy 0 rfl) rfl rfl ?_
  refine K_iconst (dt_at dtX12_buy 1 rfl) ?_
  refine K_putI (a := 0) (ci := 12) (k := 0) (dt_at dtX12_buy 2 rfl) (show TT 0 = (0, 12) from rfl) rfl (by decide) wF_X12_105 rfl (Or.inl rfl) rfl rfl ?_
  obtain ⟨hu1, eu1⟩ : ∃ z, z = sI h 0 0 0 := ⟨_, rfl⟩
  rw [← eu1]
  obtain ⟨iu1, fu1, au1, ru1⟩ := sI_fx eu1
  have Gu1 := MG_0 Q0 eu1
  refine K_aload_n (dt_at dtX12_buy 3 rfl) rfl rfl ?_
  refine K_iload_n (dt_at dtX12_buy 4 rfl) rfl rfl ?_
  refine K_callV (M' := mX12_isThing) (a := 0) (ci := 12) (As := [vi q]) (st := []) (dt_at dtX12_buy 5 rfl) (sX12_isThing_t (MD_nt (MG_D0 Gu1)) hNt Gu1.2.2.2 (by omega)) (show TT 0 = (0, 12) from rfl) rfl wL_X12_368 vX12_isThing rfl npX12_isThing (by decide) (by decide) (Nat.le_of_ble_eq_true rfl) (by decide) (by decide) GK_E (fun v9 h9 hq => ?_) (fun E h9 hq => by cases hq.1)
  obtain ⟨e9, e8⟩ := hq
  cases e9
  rw [e8]
  show K mX12_buy _ _ 0 0 10 [(0, vr 0), (1, vi q), (2, vi d)] [vi 1] hu1
  refine K_if_ne (tgt := 15) (dt_at dtX12_buy 6 rfl) (by decide) (by first | assumption | exact ⟨by omega, by omega⟩) (fun c1 => ?_) (fun c1 => absurd c1 (by omega))
  refine K_iload_n (dt_at dtX12_buy 9 rfl) rfl rfl ?_
  refine K_iconst (dt_at dtX12_buy 10 rfl) ?_
  refine K_bipush (dt_at dtX12_buy 11 rfl) (by decide) ?_
  refine K_callS (M' := mX12_within) (As := [vi d, vi 1, vi 9]) (st := []) (dt_at dtX12_buy 12 rfl) (sX12_within (by first | assumption | exact ⟨by omega, by omega⟩) ⟨by omega, by omega⟩ ⟨by omega, by omega⟩) wL_X12_346 vX12_within rfl npX12_within (by decide) (by decide) (Nat.le_of_ble_eq_true rfl) (by decide) (by decide) GK_E (fun v9 h9 hq => ?_) (fun E h9 hq => by cases hq.1)
  obtain ⟨e9, e8⟩ := hq
  cases e9
  rw [e8]
  show K mX12_buy _ _ 0 0 22 [(0, vr 0), (1, vi q), (2, vi d)] [vi (if 1 ≤ d ∧ d ≤ 9 then 1 else 0)] hu1
  by_cases z2 : 1 ≤ d ∧ d ≤ 9
  · rw [if_pos z2]
    refine K_if_eq (tgt := 41) (dt_at dtX12_buy 13 rfl) (by decide) (by first | assumption | exact ⟨by omega, by omega⟩) (fun c3 => absurd c3 (by omega)) (fun c3 => ?_)
    refine K_aload_n (dt_at dtX12_buy 14 rfl) rfl rfl ?_
    refine K_get (a := 0) (ci := 12) (k := 42) (v := vr 18) (dt_at dtX12_buy 15 rfl) (show TT 0 = (0, 12) from rfl) rfl (by decide) wF_X12_72 rfl ?_
    refine K_bipush (dt_at dtX12_buy 16 rfl) (by decide) ?_
    refine K_iload_n (dt_at dtX12_buy 17 rfl) rfl rfl ?_
    refine K_iadd (dt_at dtX12_buy 18 rfl) ?_
    refine K_iald (dt_at dtX12_buy 19 rfl) (show TT 18 = (1, 154) from rfl) (by omega) (by omega) ?_
    rw [show hA hu1 18 (57 + q) = (f (29 + q)) from RV_s (MG_D0 Gu1).2.2.2 (p := q) (by omega) (by omega)]
    refine K_iload_n (dt_at dtX12_buy 20 rfl) rfl rfl ?_
    refine K_iadd (dt_at dtX12_buy 21 rfl) ?_
    refine K_bipush (dt_at dtX12_buy 22 rfl) (by decide) ?_
    refine K_icmp_le (tgt := 47) (dt_at dtX12_buy 23 rfl) (by decide) (by first | assumption | exact ⟨by omega, by omega⟩) (by first | assumption | exact ⟨by omega, by omega⟩) (fun c4 => ?_) (fun c4 => ?_)
    · refine K_aload_n (dt_at dtX12_buy 28 rfl) rfl rfl ?_
      exact (by omega : False).elim
    · refine K_aload_n (dt_at dtX12_buy 24 rfl) rfl rfl ?_
      refine K_iconst (dt_at dtX12_buy 25 rfl) ?_
      refine K_callV (M' := mX12_refuses) (a := 0) (ci := 12) (As := [vi 1]) (st := []) (dt_at dtX12_buy 26 rfl) (sX12_refuses (n := 1) (by decide)) (show TT 0 = (0, 12) from rfl) rfl wL_X12_387 vX12_refuses rfl npX12_refuses (by decide) (by decide) (Nat.le_of_ble_eq_true rfl) (by decide) (by decide) GK_E (fun v9 hc2 hq => ?_) (fun E h9 hq => by cases hq.1)
      have hqq3 := hq
      obtain ⟨e9q3, e8q3⟩ := hqq3
      have Vq3 := MV_ref (MV_FQ V Gu1.2.1) 1 (by decide) e8q3
      have Cq3 : FC h hc2 := FC_tr (FC_FQ Gu1.2.1) (FC_A e8q3 (by decide))
      have tq3 : hI hc2 0 0 = 0 := by rw [(sA_fx e8q3).2.2.1]; exact Gu1.2.2.2
      cases e9q3
      show K mX12_buy _ _ 0 0 46 [(0, vr 0), (1, vi q), (2, vi d)] [vi (-1)] hc2
      exact K_iret (dt_at dtX12_buy 27 rfl) rfl rfl (by decide) (by decide) ⟨rfl, Vq3, Cq3, tq3⟩
  · rw [if_neg z2]
    refine K_if_eq (tgt := 41) (dt_at dtX12_buy 13 rfl) (by decide) (by first | assumption | exact ⟨by omega, by omega⟩) (fun c5 => ?_) (fun c5 => absurd c5 (by omega))
    refine K_aload_n (dt_at dtX12_buy 24 rfl) rfl rfl ?_
    refine K_iconst (dt_at dtX12_buy 25 rfl) ?_
    refine K_callV (M' := mX12_refuses) (a := 0) (ci := 12) (As := [vi 1]) (st := []) (dt_at dtX12_buy 26 rfl) (sX12_refuses (n := 1) (by decide)) (show TT 0 = (0, 12) from rfl) rfl wL_X12_387 vX12_refuses rfl npX12_refuses (by decide) (by decide) (Nat.le_of_ble_eq_true rfl) (by decide) (by decide) GK_E (fun v9 hc4 hq => ?_) (fun E h9 hq => by cases hq.1)
    have hqq5 := hq
    obtain ⟨e9q5, e8q5⟩ := hqq5
    have Vq5 := MV_ref (MV_FQ V Gu1.2.1) 1 (by decide) e8q5
    have Cq5 : FC h hc4 := FC_tr (FC_FQ Gu1.2.1) (FC_A e8q5 (by decide))
    have tq5 : hI hc4 0 0 = 0 := by rw [(sA_fx e8q5).2.2.1]; exact Gu1.2.2.2
    cases e9q5
    show K mX12_buy _ _ 0 0 46 [(0, vr 0), (1, vi q), (2, vi d)] [vi (-1)] hc4
    exact K_iret (dt_at dtX12_buy 27 rfl) rfl rfl (by decide) (by decide) ⟨rfl, Vq5, Cq5, tq5⟩
set_option maxHeartbeats 4000000 in
set_option maxRecDepth 100000 in
theorem sX12_buy {h : HP} {S : HS} {f : Int → Int} {C : AC} {N : SN} {im : Option SV} {tp : Int → Int} {nt : Nat} {rf : Int × Int × Int} {fl : Int} {q d : Int} (V : MV h (S, (f, C, N), im, tp, nt, rf, fl)) (R : rowOK S f) (hqt : 0 ≤ q ∧ q < sNt S) (hd : i32 d) (ok : 1 ≤ d ∧ d ≤ 9 ∧ f (29 + q) + d ≤ 99) : SpecK mX12_buy [vr 0, vi q, vi d] h (fun o h' => o = .inl (some (vi ((upI f (29 + q) (f (29 + q) + d)) (29 + q)))) ∧ MV h' (S, (upI f (29 + q) (f (29 + q) + d), acP C f, N), im, tp, nt, rf, fl) ∧ FC h h' ∧ hI h' 0 0 = 0) := by
  refine Spec_of (by decide +kernel) (Nat.le_of_ble_eq_true rfl) ?_
  have Q0 := MV_ask V R
  have hB := Q0.1.1
  have hNt := hB.1
  have hNp := hB.2.1
  have hT := R.1
  have hW := hT.1
  have ws := hW.1 (29 + q) (by omega) (by omega)
  refine K_aload_n (dt_at dtX12_buy 0 rfl) rfl rfl ?_
  refine K_iconst (dt_at dtX12_buy 1 rfl) ?_
  refine K_putI (a := 0) (ci := 12) (k := 0) (dt_at dtX12_buy 2 rfl) (show TT 0 = (0, 12) from rfl) rfl (by decide) wF_X12_105 rfl (Or.inl rfl) rfl rfl ?_
  obtain ⟨hu1, eu1⟩ : ∃ z, z = sI h 0 0 0 := ⟨_, rfl⟩
  rw [← eu1]
  obtain ⟨iu1, fu1, au1, ru1⟩ := sI_fx eu1
  have Gu1 := MG_0 Q0 eu1
  refine K_aload_n (dt_at dtX12_buy 3 rfl) rfl rfl ?_
  refine K_iload_n (dt_at dtX12_buy 4 rfl) rfl rfl ?_
  refine K_callV (M' := mX12_isThing) (a := 0) (ci := 12) (As := [vi q]) (st := []) (dt_at dtX12_buy 5 rfl) (sX12_isThing_t (MD_nt (MG_D0 Gu1)) hNt Gu1.2.2.2 (by omega)) (show TT 0 = (0, 12) from rfl) rfl wL_X12_368 vX12_isThing rfl npX12_isThing (by decide) (by decide) (Nat.le_of_ble_eq_true rfl) (by decide) (by decide) GK_E (fun v9 h9 hq => ?_) (fun E h9 hq => by cases hq.1)
  obtain ⟨e9, e8⟩ := hq
  cases e9
  rw [e8]
  show K mX12_buy _ _ 0 0 10 [(0, vr 0), (1, vi q), (2, vi d)] [vi 1] hu1
  refine K_if_ne (tgt := 15) (dt_at dtX12_buy 6 rfl) (by decide) (by first | assumption | exact ⟨by omega, by omega⟩) (fun c1 => ?_) (fun c1 => absurd c1 (by omega))
  refine K_iload_n (dt_at dtX12_buy 9 rfl) rfl rfl ?_
  refine K_iconst (dt_at dtX12_buy 10 rfl) ?_
  refine K_bipush (dt_at dtX12_buy 11 rfl) (by decide) ?_
  refine K_callS (M' := mX12_within) (As := [vi d, vi 1, vi 9]) (st := []) (dt_at dtX12_buy 12 rfl) (sX12_within (by first | assumption | exact ⟨by omega, by omega⟩) ⟨by omega, by omega⟩ ⟨by omega, by omega⟩) wL_X12_346 vX12_within rfl npX12_within (by decide) (by decide) (Nat.le_of_ble_eq_true rfl) (by decide) (by decide) GK_E (fun v9 h9 hq => ?_) (fun E h9 hq => by cases hq.1)
  obtain ⟨e9, e8⟩ := hq
  cases e9
  rw [e8]
  show K mX12_buy _ _ 0 0 22 [(0, vr 0), (1, vi q), (2, vi d)] [vi (if 1 ≤ d ∧ d ≤ 9 then 1 else 0)] hu1
  by_cases z2 : 1 ≤ d ∧ d ≤ 9
  · rw [if_pos z2]
    refine K_if_eq (tgt := 41) (dt_at dtX12_buy 13 rfl) (by decide) (by first | assumption | exact ⟨by omega, by omega⟩) (fun c3 => absurd c3 (by omega)) (fun c3 => ?_)
    refine K_aload_n (dt_at dtX12_buy 14 rfl) rfl rfl ?_
    refine K_get (a := 0) (ci := 12) (k := 42) (v := vr 18) (dt_at dtX12_buy 15 rfl) (show TT 0 = (0, 12) from rfl) rfl (by decide) wF_X12_72 rfl ?_
    refine K_bipush (dt_at dtX12_buy 16 rfl) (by decide) ?_
    refine K_iload_n (dt_at dtX12_buy 17 rfl) rfl rfl ?_
    refine K_iadd (dt_at dtX12_buy 18 rfl) ?_
    refine K_iald (dt_at dtX12_buy 19 rfl) (show TT 18 = (1, 154) from rfl) (by omega) (by omega) ?_
    rw [show hA hu1 18 (57 + q) = (f (29 + q)) from RV_s (MG_D0 Gu1).2.2.2 (p := q) (by omega) (by omega)]
    refine K_iload_n (dt_at dtX12_buy 20 rfl) rfl rfl ?_
    refine K_iadd (dt_at dtX12_buy 21 rfl) ?_
    refine K_bipush (dt_at dtX12_buy 22 rfl) (by decide) ?_
    refine K_icmp_le (tgt := 47) (dt_at dtX12_buy 23 rfl) (by decide) (by first | assumption | exact ⟨by omega, by omega⟩) (by first | assumption | exact ⟨by omega, by omega⟩) (fun c4 => ?_) (fun c4 => ?_)
    · refine K_aload_n (dt_at dtX12_buy 28 rfl) rfl rfl ?_
      have fqu1 := And.intro eu1 Q0.2.2.1
      refine K_callV (M' := mX12_keeps) (a := 0) (ci := 12) (As := []) (st := []) (dt_at dtX12_buy 29 rfl) (sX12_keeps (C := C) (mAc_fr V.2.2.2.1.2.1 (Gu1.2.1.2.2.1 0 44 rfl) (Gu1.2.1.1 19 rfl)) (MG_D0 Gu1).2.2.2) (show TT 0 = (0, 12) from rfl) rfl wL_X12_390 vX12_keeps rfl npX12_keeps (by decide) (by decide) (Nat.le_of_ble_eq_true rfl) (by decide) (by decide) GK_E (fun v9 hc2 hq => ?_) (fun E h9 hq => by cases hq.1)
      have hqq3 := hq
      obtain ⟨e9q3, mcq3, kaq3, kiq3, krq3⟩ := hqq3
      have Fq3 : FA h hc2 := FA_tr (FA_Q fqu1) ⟨fun a_ _ q2 _ _ => kaq3 a_ q2, fun a_ k_ z_ => kiq3 a_ k_ (by omega), krq3, by rw [kaq3 20 (by decide)]; exact Gu1.2.1.2.2.2.2⟩
      have rvq3 : RV hc2 0 f := RV0_fr (MG_D0 Gu1).2.2.2 (fun i_ _ => by rw [kaq3 18 (by decide)])
      have t0q3 : hI hc2 0 0 = 0 := by rw [kiq3 0 0 (Or.inr (by decide))]; exact Gu1.2.2.2
      cases e9q3
      show K mX12_buy _ _ 0 0 51 [(0, vr 0), (1, vi q), (2, vi d)] [] hc2
      refine K_aload_n (dt_at dtX12_buy 30 rfl) rfl rfl ?_
      refine K_get (a := 0) (ci := 12) (k := 42) (v := vr 18) (dt_at dtX12_buy 31 rfl) (show TT 0 = (0, 12) from rfl) rfl (by decide) wF_X12_72 rfl ?_
      refine K_bipush (dt_at dtX12_buy 32 rfl) (by decide) ?_
      refine K_iload_n (dt_at dtX12_buy 33 rfl) rfl rfl ?_
      refine K_iadd (dt_at dtX12_buy 34 rfl) ?_
      refine K_dup2 (dt_at dtX12_buy 35 rfl) rfl rfl ?_
      refine K_iald (dt_at dtX12_buy 36 rfl) (show TT 18 = (1, 154) from rfl) (by omega) (by omega) ?_
      rw [show hA hc2 18 (57 + q) = (f (29 + q)) from RV_s rvq3 (p := q) (by omega) (by omega)]
      refine K_iload_n (dt_at dtX12_buy 37 rfl) rfl rfl ?_
      refine K_iadd (dt_at dtX12_buy 38 rfl) ?_
      refine K_iast (dt_at dtX12_buy 39 rfl) (show TT 18 = (1, 154) from rfl) (by omega) (by omega) ?_
      obtain ⟨hu4, eu4⟩ : ∃ z, z = sA hc2 18 (57 + q) ((f (29 + q)) + d) := ⟨_, rfl⟩
      rw [← eu4]
      obtain ⟨au4, fu4, iu4, ru4⟩ := sA_fx eu4
      have rvu4 : RV hu4 0 (upI f (29 + q) ((f (29 + q)) + d)) := RV_up rvq3 (j := 29 + q) (by omega) (by omega) (by rw [pm_s (by omega)]; omega) eu4
      have Fu4 : FA h hu4 := FA_tr Fq3 (FA_row eu4 Fq3.2.2.2)
      have mcu4 : mAc hu4 19 44 (acP C f) := mAc_fr mcq3 (by rw [iu4]) (fu4 19 (by decide))
      have t0u4 : hI hu4 0 0 = 0 := by rw [iu4]; exact t0q3
      refine K_aload_n (dt_at dtX12_buy 40 rfl) rfl rfl ?_
      refine K_get (a := 0) (ci := 12) (k := 42) (v := vr 18) (dt_at dtX12_buy 41 rfl) (show TT 0 = (0, 12) from rfl) rfl (by decide) wF_X12_72 rfl ?_
      refine K_bipush (dt_at dtX12_buy 42 rfl) (by decide) ?_
      refine K_iload_n (dt_at dtX12_buy 43 rfl) rfl rfl ?_
      refine K_iadd (dt_at dtX12_buy 44 rfl) ?_
      refine K_iald (dt_at dtX12_buy 45 rfl) (show TT 18 = (1, 154) from rfl) (by omega) (by omega) ?_
      rw [show hA hu4 18 (57 + q) = ((upI f (29 + q) ((f (29 + q)) + d)) (29 + q)) from RV_s rvu4 (p := q) (by omega) (by omega)]
      exact K_iret (dt_at dtX12_buy 46 rfl) rfl rfl (by decide) (by decide) ⟨rfl, MV_act V Fu4 rvu4 mcu4, FC_FA Fu4, t0u4⟩
    · refine K_aload_n (dt_at dtX12_buy 24 rfl) rfl rfl ?_
      refine K_iconst (dt_at dtX12_buy 25 rfl) ?_
      exact (by omega : False).elim
  · rw [if_neg z2]
    refine K_if_eq (tgt := 41) (dt_at dtX12_buy 13 rfl) (by decide) (by first | assumption | exact ⟨by omega, by omega⟩) (fun c5 => ?_) (fun c5 => absurd c5 (by omega))
    refine K_aload_n (dt_at dtX12_buy 24 rfl) rfl rfl ?_
    refine K_iconst (dt_at dtX12_buy 25 rfl) ?_
    exact (by omega : False).elim
def mX12_packer : MI := (yX12_packer, cX12_packer, 4, (some .int), rmK 3 0)
def tX12_packer : List (Nat × Instr × Nat) := [(0, .aload_n 0, 1), (1, .iconst 0, 1), (2, .putfield 105, 3), (5, .aload_n 0, 1), (6, .iload_n 1, 1), (7, .invokevirtual 375, 3), (10, .ifCond .eq 29, 3), (13, .aload_n 0, 1), (14, .iload_n 2, 1), (15, .iconst (-1), 1), (16, .if_icmp .lt 15, 3), (19, .iload_n 2, 1), (20, .aload_n 0, 1), (21, .getfield 270, 3), (24, .if_icmp .ge 7, 3), (27, .iconst 1, 1), (28, .goto 4, 3), (31, .iconst 0, 1), (32, .iconst 1, 1), (33, .invokevirtual 260, 3), (36, .ifCond .ne 5, 3), (39, .iconst 0, 1), (40, .ireturn, 1), (41, .aload_n 0, 1), (42, .getfield 72, 3), (45, .bipush 70, 2), (47, .iload_n 1, 1), (48, .iadd, 1), (49, .iaload, 1), (50, .istore_n 3, 1), (51, .iload_n 3, 1), (52, .iload_n 2, 1), (53, .if_icmp .eq 8, 3), (56, .iload_n 1, 1), (57, .iload_n 2, 1), (58, .if_icmp .ne 11, 3), (61, .aload_n 0, 1), (62, .iconst 1, 1), (63, .invokevirtual 387, 3), (66, .iconst 1, 1), (67, .isub, 1), (68, .ireturn, 1), (69, .aload_n 0, 1), (70, .invokevirtual 390, 3), (73, .aload_n 0, 1), (74, .getfield 72, 3), (77, .bipush 70, 2), (79, .iload_n 1, 1), (80, .iadd, 1), (81, .iload_n 2, 1), (82, .iastore, 1), (83, .iload_n 3, 1), (84, .ireturn, 1)]
theorem dtX12_packer : tX12_packer.all (fun q => decide (decode cX12_packer q.1 = .ok (q.2.1, q.2.2))) = true := by decide +kernel
theorem npX12_packer : (parseMethodDescriptor (mY mX12_packer).desc).map (fun d => d.parameters.length) = some 2 := by decide +kernel
theorem vX12_packer : mV mX12_packer := ⟨wI_X12_packer, wS_X12_packer, wN_X12, wC_X12_packer, by decide +kernel, by decide +kernel⟩
set_option maxHeartbeats 4000000 in
set_option maxRecDepth 100000 in
theorem sX12_packer_x1 {h : HP} {S : HS} {f : Int → Int} {p q : Int} (Q0 : MAsk h S f) (hp_ : i32 p) (hq_ : i32 q) (kn : ¬ (0 ≤ p ∧ p < sNp S)) : SpecK mX12_packer [vr 0, vi p, vi q] h (fun o h' => o = .inl (some (vi 0)) ∧ FQ h h' ∧ hI h' 0 0 = 1) := by
  refine Spec_of (by decide +kernel) (Nat.le_of_ble_eq_true rfl) ?_
  have hB := Q0.1.1
  have hNt := hB.1
  have hNp := hB.2.1
  have R := Q0.2.2.2.2
  have hT := R.1
  have hW := hT.1
  refine K_aload_n (dt_at dtX12_packer 0 rfl) rfl rfl ?_
  refine K_iconst (dt_at dtX12_packer 1 rfl) ?_
  refine K_putI (a := 0) (ci := 12) (k := 0) (dt_at dtX12_packer 2 rfl) (show TT 0 = (0, 12) from rfl) rfl (by decide) wF_X12_105 rfl (Or.inl rfl) rfl rfl ?_
  obtain ⟨hu1, eu1⟩ : ∃ z, z = sI h 0 0 0 := ⟨_, rfl⟩
  rw [← eu1]
  obtain ⟨iu1, fu1, au1, ru1⟩ := sI_fx eu1
  have Gu1 := MG_0 Q0 eu1
  refine K_aload_n (dt_at dtX12_packer 3 rfl) rfl rfl ?_
  refine K_iload_n (dt_at dtX12_packer 4 rfl) rfl rfl ?_
  refine K_callV (M' := mX12_isPerson) (a := 0) (ci := 12) (As := [vi p]) (st := []) (dt_at dtX12_packer 5 rfl) (sX12_isPerson_f (MD_np (MG_D0 Gu1)) hNp Gu1.2.2.2 (by assumption) (by omega)) (show TT 0 = (0, 12) from rfl) rfl wL_X12_375 vX12_isPerson rfl npX12_isPerson (by decide) (by decide) (Nat.le_of_ble_eq_true rfl) (by decide) (by decide) GK_E (fun v9 hc2 hq => ?_) (fun E h9 hq => by cases hq.1)
  have hqq3 := hq
  obtain ⟨e9q3, e8q3⟩ := hqq3
  obtain ⟨iq3, fq3, aq3, rq3⟩ := sI_fx e8q3
  have Bq3 : FQ h hc2 := FQ_tr Gu1.2.1 (FQ_I e8q3 rfl Gu1.2.1.2.2.2.2)
  cases e9q3
  show K mX12_packer _ _ 0 0 10 [(0, vr 0), (1, vi p), (2, vi q)] [vi 0] hc2
  refine K_if_eq (tgt := 39) (dt_at dtX12_packer 6 rfl) (by decide) (by first | assumption | exact ⟨by omega, by omega⟩) (fun c1 => ?_) (fun c1 => absurd c1 (by omega))
  refine K_iconst (dt_at dtX12_packer 21 rfl) ?_
  exact K_iret (dt_at dtX12_packer 22 rfl) rfl rfl (by decide) (by decide) ⟨rfl, Bq3, iq3⟩
set_option maxHeartbeats 4000000 in
set_option maxRecDepth 100000 in
theorem sX12_packer_x2 {h : HP} {S : HS} {f : Int → Int} {p q : Int} (Q0 : MAsk h S f) (hp_ : i32 p) (hq_ : i32 q) (k0 : 0 ≤ p ∧ p < sNp S) (kn : ¬ (-1 ≤ q ∧ q < sNp S)) : SpecK mX12_packer [vr 0, vi p, vi q] h (fun o h' => o = .inl (some (vi 0)) ∧ FQ h h' ∧ hI h' 0 0 = 1) := by
  refine Spec_of (by decide +kernel) (Nat.le_of_ble_eq_true rfl) ?_
  have hB := Q0.1.1
  have hNt := hB.1
  have hNp := hB.2.1
  have R := Q0.2.2.2.2
  have hT := R.1
  have hW := hT.1
  refine K_aload_n (dt_at dtX12_packer 0 rfl) rfl rfl ?_
  refine K_iconst (dt_at dtX12_packer 1 rfl) ?_
  refine K_putI (a := 0) (ci := 12) (k := 0) (dt_at dtX12_packer 2 rfl) (show TT 0 = (0, 12) from rfl) rfl (by decide) wF_X12_105 rfl (Or.inl rfl) rfl rfl ?_
  obtain ⟨hu1, eu1⟩ : ∃ z, z = sI h 0 0 0 := ⟨_, rfl⟩
  rw [← eu1]
  obtain ⟨iu1, fu1, au1, ru1⟩ := sI_fx eu1
  have Gu1 := MG_0 Q0 eu1
  refine K_aload_n (dt_at dtX12_packer 3 rfl) rfl rfl ?_
  refine K_iload_n (dt_at dtX12_packer 4 rfl) rfl rfl ?_
  refine K_callV (M' := mX12_isPerson) (a := 0) (ci := 12) (As := [vi p]) (st := []) (dt_at dtX12_packer 5 rfl) (sX12_isPerson_t (MD_np (MG_D0 Gu1)) hNp Gu1.2.2.2 (by omega)) (show TT 0 = (0, 12) from rfl) rfl wL_X12_375 vX12_isPerson rfl npX12_isPerson (by decide) (by decide) (Nat.le_of_ble_eq_true rfl) (by decide) (by decide) GK_E (fun v9 h9 hq => ?_) (fun E h9 hq => by cases hq.1)
  obtain ⟨e9, e8⟩ := hq
  cases e9
  rw [e8]
  show K mX12_packer _ _ 0 0 10 [(0, vr 0), (1, vi p), (2, vi q)] [vi 1] hu1
  refine K_if_eq (tgt := 39) (dt_at dtX12_packer 6 rfl) (by decide) (by first | assumption | exact ⟨by omega, by omega⟩) (fun c1 => absurd c1 (by omega)) (fun c1 => ?_)
  refine K_aload_n (dt_at dtX12_packer 7 rfl) rfl rfl ?_
  refine K_iload_n (dt_at dtX12_packer 8 rfl) rfl rfl ?_
  refine K_iconst (dt_at dtX12_packer 9 rfl) ?_
  refine K_icmp_lt (tgt := 31) (dt_at dtX12_packer 10 rfl) (by decide) (by first | assumption | exact ⟨by omega, by omega⟩) (by first | assumption | exact ⟨by omega, by omega⟩) (fun c2 => ?_) (fun c2 => ?_)
  · refine K_iconst (dt_at dtX12_packer 17 rfl) ?_
    refine K_iconst (dt_at dtX12_packer 18 rfl) ?_
    refine K_callV (M' := mX12_right) (a := 0) (ci := 12) (As := [vi 0, vi 1]) (st := []) (dt_at dtX12_packer 19 rfl) (sX12_right_f Gu1.2.2.2 (by decide)) (show TT 0 = (0, 12) from rfl) rfl wL_X12_260 vX12_right rfl npX12_right (by decide) (by decide) (Nat.le_of_ble_eq_true rfl) (by decide) (by decide) GK_E (fun v9 hc2 hq => ?_) (fun E h9 hq => by cases hq.1)
    have hqq3 := hq
    obtain ⟨e9q3, e8q3⟩ := hqq3
    obtain ⟨iq3, fq3, aq3, rq3⟩ := sI_fx e8q3
    have Bq3 : FQ h hc2 := FQ_tr Gu1.2.1 (FQ_I e8q3 rfl Gu1.2.1.2.2.2.2)
    cases e9q3
    show K mX12_packer _ _ 0 0 36 [(0, vr 0), (1, vi p), (2, vi q)] [vi 0] hc2
    refine K_if_ne (tgt := 41) (dt_at dtX12_packer 20 rfl) (by decide) (by first | assumption | exact ⟨by omega, by omega⟩) (fun c3 => absurd c3 (by omega)) (fun c3 => ?_)
    refine K_iconst (dt_at dtX12_packer 21 rfl) ?_
    exact K_iret (dt_at dtX12_packer 22 rfl) rfl rfl (by decide) (by decide) ⟨rfl, Bq3, iq3⟩
  · refine K_iload_n (dt_at dtX12_packer 11 rfl) rfl rfl ?_
    refine K_aload_n (dt_at dtX12_packer 12 rfl) rfl rfl ?_
    refine K_get (a := 0) (ci := 12) (k := 2) (v := vi (sNp S : Int)) (dt_at dtX12_packer 13 rfl) (show TT 0 = (0, 12) from rfl) rfl (by decide) wF_X12_270 (by show vi (hI hu1 0 2) = vi (sNp S : Int); rw [(MD_np (MG_D0 Gu1))]) ?_
    refine K_icmp_ge (tgt := 31) (dt_at dtX12_packer 14 rfl) (by decide) (by first | assumption | exact ⟨by omega, by omega⟩) (by first | assumption | exact ⟨by omega, by omega⟩) (fun c4 => ?_) (fun c4 => ?_)
    · refine K_iconst (dt_at dtX12_packer 17 rfl) ?_
      refine K_iconst (dt_at dtX12_packer 18 rfl) ?_
      refine K_callV (M' := mX12_right) (a := 0) (ci := 12) (As := [vi 0, vi 1]) (st := []) (dt_at dtX12_packer 19 rfl) (sX12_right_f Gu1.2.2.2 (by decide)) (show TT 0 = (0, 12) from rfl) rfl wL_X12_260 vX12_right rfl npX12_right (by decide) (by decide) (Nat.le_of_ble_eq_true rfl) (by decide) (by decide) GK_E (fun v9 hc4 hq => ?_) (fun E h9 hq => by cases hq.1)
      have hqq5 := hq
      obtain ⟨e9q5, e8q5⟩ := hqq5
      obtain ⟨iq5, fq5, aq5, rq5⟩ := sI_fx e8q5
      have Bq5 : FQ h hc4 := FQ_tr Gu1.2.1 (FQ_I e8q5 rfl Gu1.2.1.2.2.2.2)
      cases e9q5
      show K mX12_packer _ _ 0 0 36 [(0, vr 0), (1, vi p), (2, vi q)] [vi 0] hc4
      refine K_if_ne (tgt := 41) (dt_at dtX12_packer 20 rfl) (by decide) (by first | assumption | exact ⟨by omega, by omega⟩) (fun c5 => absurd c5 (by omega)) (fun c5 => ?_)
      refine K_iconst (dt_at dtX12_packer 21 rfl) ?_
      exact K_iret (dt_at dtX12_packer 22 rfl) rfl rfl (by decide) (by decide) ⟨rfl, Bq5, iq5⟩
    · refine K_iconst (dt_at dtX12_packer 15 rfl) ?_
      refine K_goto (tgt := 32) (dt_at dtX12_packer 16 rfl) (by decide) ?_
      refine K_iconst (dt_at dtX12_packer 18 rfl) ?_
      exact (by omega : False).elim
set_option maxHeartbeats 4000000 in
set_option maxRecDepth 100000 in
theorem sX12_packer_no {h : HP} {S : HS} {f : Int → Int} {C : AC} {N : SN} {im : Option SV} {tp : Int → Int} {nt : Nat} {rf : Int × Int × Int} {fl : Int} {p q : Int} (V : MV h (S, (f, C, N), im, tp, nt, rf, fl)) (R : rowOK S f) (hp : 0 ≤ p ∧ p < sNp S) (hqt : -1 ≤ q ∧ q < sNp S) (no : q = f (22 + p) ∨ q = p) : SpecK mX12_packer [vr 0, vi p, vi q] h (fun o h' => o = .inl (some (vi (-2))) ∧ MV h' (S, (f, C, N), im, tp, nt, cn32 rf 1, fl) ∧ FC h h' ∧ hI h' 0 0 = 0) := by
  refine Spec_of (by decide +kernel) (Nat.le_of_ble_eq_true rfl) ?_
  have Q0 := MV_ask V R
  have hB := Q0.1.1
  have hNt := hB.1
  have hNp := hB.2.1
  have hT := R.1
  have hW := hT.1
  have wp := (hW.2 p (by omega) (by omega)).2.2.2
  refine K_aload_n (dt_at dtX12_packer 0 rfl) rfl rfl ?_
  refine K_iconst (dt_at dtX12_packer 1 rfl) ?_
  refine K_putI (a := 0) (ci := 12) (k := 0) (dt_at dtX12_packer 2 rfl) (show TT 0 = (0, 12) from rfl) rfl (by decide) wF_X12_105 rfl (Or.inl rfl) rfl rfl ?_
  obtain ⟨hu1, eu1⟩ : ∃ z, z = sI h 0 0 0 := ⟨_, rfl⟩
  rw [← eu1]
  obtain ⟨iu1, fu1, au1, ru1⟩ := sI_fx eu1
  have Gu1 := MG_0 Q0 eu1
  refine K_aload_n (dt_at dtX12_packer 3 rfl) rfl rfl ?_
  refine K_iload_n (dt_at dtX12_packer 4 rfl) rfl rfl ?_
  refine K_callV (M' := mX12_isPerson) (a := 0) (ci := 12) (As := [vi p]) (st := []) (dt_at dtX12_packer 5 rfl) (sX12_isPerson_t (MD_np (MG_D0 Gu1)) hNp Gu1.2.2.2 (by omega)) (show TT 0 = (0, 12) from rfl) rfl wL_X12_375 vX12_isPerson rfl npX12_isPerson (by decide) (by decide) (Nat.le_of_ble_eq_true rfl) (by decide) (by decide) GK_E (fun v9 h9 hq => ?_) (fun E h9 hq => by cases hq.1)
  obtain ⟨e9, e8⟩ := hq
  cases e9
  rw [e8]
  show K mX12_packer _ _ 0 0 10 [(0, vr 0), (1, vi p), (2, vi q)] [vi 1] hu1
  refine K_if_eq (tgt := 39) (dt_at dtX12_packer 6 rfl) (by decide) (by first | assumption | exact ⟨by omega, by omega⟩) (fun c1 => absurd c1 (by omega)) (fun c1 => ?_)
  refine K_aload_n (dt_at dtX12_packer 7 rfl) rfl rfl ?_
  refine K_iload_n (dt_at dtX12_packer 8 rfl) rfl rfl ?_
  refine K_iconst (dt_at dtX12_packer 9 rfl) ?_
  refine K_icmp_lt (tgt := 31) (dt_at dtX12_packer 10 rfl) (by decide) (by first | assumption | exact ⟨by omega, by omega⟩) (by first | assumption | exact ⟨by omega, by omega⟩) (fun c2 => ?_) (fun c2 => ?_)
  · refine K_iconst (dt_at dtX12_packer 17 rfl) ?_
    refine K_iconst (dt_at dtX12_packer 18 rfl) ?_
    exact (by omega : False).elim
  · refine K_iload_n (dt_at dtX12_packer 11 rfl) rfl rfl ?_
    refine K_aload_n (dt_at dtX12_packer 12 rfl) rfl rfl ?_
    refine K_get (a := 0) (ci := 12) (k := 2) (v := vi (sNp S : Int)) (dt_at dtX12_packer 13 rfl) (show TT 0 = (0, 12) from rfl) rfl (by decide) wF_X12_270 (by show vi (hI hu1 0 2) = vi (sNp S : Int); rw [(MD_np (MG_D0 Gu1))]) ?_
    refine K_icmp_ge (tgt := 31) (dt_at dtX12_packer 14 rfl) (by decide) (by first | assumption | exact ⟨by omega, by omega⟩) (by first | assumption | exact ⟨by omega, by omega⟩) (fun c3 => ?_) (fun c3 => ?_)
    · refine K_iconst (dt_at dtX12_packer 17 rfl) ?_
      refine K_iconst (dt_at dtX12_packer 18 rfl) ?_
      exact (by omega : False).elim
    · refine K_iconst (dt_at dtX12_packer 15 rfl) ?_
      refine K_goto (tgt := 32) (dt_at dtX12_packer 16 rfl) (by decide) ?_
      refine K_iconst (dt_at dtX12_packer 18 rfl) ?_
      refine K_callV (M' := mX12_right) (a := 0) (ci := 12) (As := [vi 1, vi 1]) (st := []) (dt_at dtX12_packer 19 rfl) (sX12_right_t Gu1.2.2.2) (show TT 0 = (0, 12) from rfl) rfl wL_X12_260 vX12_right rfl npX12_right (by decide) (by decide) (Nat.le_of_ble_eq_true rfl) (by decide) (by decide) GK_E (fun v9 h9 hq => ?_) (fun E h9 hq => by cases hq.1)
      obtain ⟨e9, e8⟩ := hq
      cases e9
      rw [e8]
      show K mX12_packer _ _ 0 0 36 [(0, vr 0), (1, vi p), (2, vi q)] [vi 1] hu1
      refine K_if_ne (tgt := 41) (dt_at dtX12_packer 20 rfl) (by decide) (by first | assumption | exact ⟨by omega, by omega⟩) (fun c4 => ?_) (fun c4 => absurd c4 (by omega))
      refine K_aload_n (dt_at dtX12_packer 23 rfl) rfl rfl ?_
      refine K_get (a := 0) (ci := 12) (k := 42) (v := vr 18) (dt_at dtX12_packer 24 rfl) (show TT 0 = (0, 12) from rfl) rfl (by decide) wF_X12_72 rfl ?_
      refine K_bipush (dt_at dtX12_packer 25 rfl) (by decide) ?_
      refine K_iload_n (dt_at dtX12_packer 26 rfl) rfl rfl ?_
      refine K_iadd (dt_at dtX12_packer 27 rfl) ?_
      refine K_iald (dt_at dtX12_packer 28 rfl) (show TT 18 = (1, 154) from rfl) (by omega) (by omega) ?_
      rw [show hA hu1 18 (70 + p) = (f (22 + p)) from RV_k (MG_D0 Gu1).2.2.2 (p := p) (by omega) (by omega)]
      refine K_istore_n (ls' := [(3, vi (f (22 + p))), (0, vr 0), (1, vi p), (2, vi q)]) (dt_at dtX12_packer 29 rfl) rfl (by decide) rfl ?_
      refine K_iload_n (dt_at dtX12_packer 30 rfl) rfl rfl ?_
      refine K_iload_n (dt_at dtX12_packer 31 rfl) rfl rfl ?_
      refine K_icmp_eq (tgt := 61) (dt_at dtX12_packer 32 rfl) (by decide) (by first | assumption | exact ⟨by omega, by omega⟩) (by first | assumption | exact ⟨by omega, by omega⟩) (fun c5 => ?_) (fun c5 => ?_)
      · refine K_aload_n (dt_at dtX12_packer 36 rfl) rfl rfl ?_
        refine K_iconst (dt_at dtX12_packer 37 rfl) ?_
        refine K_callV (M' := mX12_refuses) (a := 0) (ci := 12) (As := [vi 1]) (st := []) (dt_at dtX12_packer 38 rfl) (sX12_refuses (n := 1) (by decide)) (show TT 0 = (0, 12) from rfl) rfl wL_X12_387 vX12_refuses rfl npX12_refuses (by decide) (by decide) (Nat.le_of_ble_eq_true rfl) (by decide) (by decide) GK_E (fun v9 hc2 hq => ?_) (fun E h9 hq => by cases hq.1)
        have hqq3 := hq
        obtain ⟨e9q3, e8q3⟩ := hqq3
        have Vq3 := MV_ref (MV_FQ V Gu1.2.1) 1 (by decide) e8q3
        have Cq3 : FC h hc2 := FC_tr (FC_FQ Gu1.2.1) (FC_A e8q3 (by decide))
        have tq3 : hI hc2 0 0 = 0 := by rw [(sA_fx e8q3).2.2.1]; exact Gu1.2.2.2
        cases e9q3
        show K mX12_packer _ _ 0 0 66 [(3, vi (f (22 + p))), (0, vr 0), (1, vi p), (2, vi q)] [vi (-1)] hc2
        refine K_iconst (dt_at dtX12_packer 39 rfl) ?_
        refine K_isub (dt_at dtX12_packer 40 rfl) ?_
        exact K_iret (dt_at dtX12_packer 41 rfl) rfl rfl (by decide) (by decide) ⟨rfl, Vq3, Cq3, tq3⟩
      · refine K_iload_n (dt_at dtX12_packer 33 rfl) rfl rfl ?_
        refine K_iload_n (dt_at dtX12_packer 34 rfl) rfl rfl ?_
        refine K_icmp_ne (tgt := 69) (dt_at dtX12_packer 35 rfl) (by decide) (by first | assumption | exact ⟨by omega, by omega⟩) (by first | assumption | exact ⟨by omega, by omega⟩) (fun c6 => ?_) (fun c6 => ?_)
        · refine K_aload_n (dt_at dtX12_packer 42 rfl) rfl rfl ?_
          exact (by omega : False).elim
        · refine K_aload_n (dt_at dtX12_packer 36 rfl) rfl rfl ?_
          refine K_iconst (dt_at dtX12_packer 37 rfl) ?_
          refine K_callV (M' := mX12_refuses) (a := 0) (ci := 12) (As := [vi 1]) (st := []) (dt_at dtX12_packer 38 rfl) (sX12_refuses (n := 1) (by decide)) (show TT 0 = (0, 12) from rfl) rfl wL_X12_387 vX12_refuses rfl npX12_refuses (by decide) (by decide) (Nat.le_of_ble_eq_true rfl) (by decide) (by decide) GK_E (fun v9 hc4 hq => ?_) (fun E h9 hq => by cases hq.1)
          have hqq5 := hq
          obtain ⟨e9q5, e8q5⟩ := hqq5
          have Vq5 := MV_ref (MV_FQ V Gu1.2.1) 1 (by decide) e8q5
          have Cq5 : FC h hc4 := FC_tr (FC_FQ Gu1.2.1) (FC_A e8q5 (by decide))
          have tq5 : hI hc4 0 0 = 0 := by rw [(sA_fx e8q5).2.2.1]; exact Gu1.2.2.2
          cases e9q5
          show K mX12_packer _ _ 0 0 66 [(3, vi (f (22 + p))), (0, vr 0), (1, vi p), (2, vi q)] [vi (-1)] hc4
          refine K_iconst (dt_at dtX12_packer 39 rfl) ?_
          refine K_isub (dt_at dtX12_packer 40 rfl) ?_
          exact K_iret (dt_at dtX12_packer 41 rfl) rfl rfl (by decide) (by decide) ⟨rfl, Vq5, Cq5, tq5⟩
set_option maxHeartbeats 4000000 in
set_option maxRecDepth 100000 in
theorem sX12_packer {h : HP} {S : HS} {f : Int → Int} {C : AC} {N : SN} {im : Option SV} {tp : Int → Int} {nt : Nat} {rf : Int × Int × Int} {fl : Int} {p q : Int} (V : MV h (S, (f, C, N), im, tp, nt, rf, fl)) (R : rowOK S f) (hp : 0 ≤ p ∧ p < sNp S) (hqt : -1 ≤ q ∧ q < sNp S) (no : ¬ (q = f (22 + p) ∨ q = p)) : SpecK mX12_packer [vr 0, vi p, vi q] h (fun o h' => o = .inl (some (vi (f (22 + p)))) ∧ MV h' (S, (upI f (22 + p) q, acP C f, N), im, tp, nt, rf, fl) ∧ FC h h' ∧ hI h' 0 0 = 0) := by
  refine Spec_of (by decide +kernel) (Nat.le_of_ble_eq_true rfl) ?_
  have Q0 := MV_ask V R
  have hB := Q0.1.1
  have hNt := hB.1
  have hNp := hB.2.1
  have hT := R.1
  have hW := hT.1
  have wp := (hW.2 p (by omega) (by omega)).2.2.2
  refine K_aload_n (dt_at dtX12_packer 0 rfl) rfl rfl ?_
  refine K_iconst (dt_at dtX12_packer 1 rfl) ?_
  refine K_putI (a := 0) (ci := 12) (k := 0) (dt_at dtX12_packer 2 rfl) (show TT 0 = (0, 12) from rfl) rfl (by decide) wF_X12_105 rfl (Or.inl rfl) rfl rfl ?_
  obtain ⟨hu1, eu1⟩ : ∃ z, z = sI h 0 0 0 := ⟨_, rfl⟩
  rw [← eu1]
  obtain ⟨iu1, fu1, au1, ru1⟩ := sI_fx eu1
  have Gu1 := MG_0 Q0 eu1
  refine K_aload_n (dt_at dtX12_packer 3 rfl) rfl rfl ?_
  refine K_iload_n (dt_at dtX12_packer 4 rfl) rfl rfl ?_
  refine K_callV (M' := mX12_isPerson) (a := 0) (ci := 12) (As := [vi p]) (st := []) (dt_at dtX12_packer 5 rfl) (sX12_isPerson_t (MD_np (MG_D0 Gu1)) hNp Gu1.2.2.2 (by omega)) (show TT 0 = (0, 12) from rfl) rfl wL_X12_375 vX12_isPerson rfl npX12_isPerson (by decide) (by decide) (Nat.le_of_ble_eq_true rfl) (by decide) (by decide) GK_E (fun v9 h9 hq => ?_) (fun E h9 hq => by cases hq.1)
  obtain ⟨e9, e8⟩ := hq
  cases e9
  rw [e8]
  show K mX12_packer _ _ 0 0 10 [(0, vr 0), (1, vi p), (2, vi q)] [vi 1] hu1
  refine K_if_eq (tgt := 39) (dt_at dtX12_packer 6 rfl) (by decide) (by first | assumption | exact ⟨by omega, by omega⟩) (fun c1 => absurd c1 (by omega)) (fun c1 => ?_)
  refine K_aload_n (dt_at dtX12_packer 7 rfl) rfl rfl ?_
  refine K_iload_n (dt_at dtX12_packer 8 rfl) rfl rfl ?_
  refine K_iconst (dt_at dtX12_packer 9 rfl) ?_
  refine K_icmp_lt (tgt := 31) (dt_at dtX12_packer 10 rfl) (by decide) (by first | assumption | exact ⟨by omega, by omega⟩) (by first | assumption | exact ⟨by omega, by omega⟩) (fun c2 => ?_) (fun c2 => ?_)
  · refine K_iconst (dt_at dtX12_packer 17 rfl) ?_
    refine K_iconst (dt_at dtX12_packer 18 rfl) ?_
    exact (by omega : False).elim
  · refine K_iload_n (dt_at dtX12_packer 11 rfl) rfl rfl ?_
    refine K_aload_n (dt_at dtX12_packer 12 rfl) rfl rfl ?_
    refine K_get (a := 0) (ci := 12) (k := 2) (v := vi (sNp S : Int)) (dt_at dtX12_packer 13 rfl) (show TT 0 = (0, 12) from rfl) rfl (by decide) wF_X12_270 (by show vi (hI hu1 0 2) = vi (sNp S : Int); rw [(MD_np (MG_D0 Gu1))]) ?_
    refine K_icmp_ge (tgt := 31) (dt_at dtX12_packer 14 rfl) (by decide) (by first | assumption | exact ⟨by omega, by omega⟩) (by first | assumption | exact ⟨by omega, by omega⟩) (fun c3 => ?_) (fun c3 => ?_)
    · refine K_iconst (dt_at dtX12_packer 17 rfl) ?_
      refine K_iconst (dt_at dtX12_packer 18 rfl) ?_
      exact (by omega : False).elim
    · refine K_iconst (dt_at dtX12_packer 15 rfl) ?_
      refine K_goto (tgt := 32) (dt_at dtX12_packer 16 rfl) (by decide) ?_
      refine K_iconst (dt_at dtX12_packer 18 rfl) ?_
      refine K_callV (M' := mX12_right) (a := 0) (ci := 12) (As := [vi 1, vi 1]) (st := []) (dt_at dtX12_packer 19 rfl) (sX12_right_t Gu1.2.2.2) (show TT 0 = (0, 12) from rfl) rfl wL_X12_260 vX12_right rfl npX12_right (by decide) (by decide) (Nat.le_of_ble_eq_true rfl) (by decide) (by decide) GK_E (fun v9 h9 hq => ?_) (fun E h9 hq => by cases hq.1)
      obtain ⟨e9, e8⟩ := hq
      cases e9
      rw [e8]
      show K mX12_packer _ _ 0 0 36 [(0, vr 0), (1, vi p), (2, vi q)] [vi 1] hu1
      refine K_if_ne (tgt := 41) (dt_at dtX12_packer 20 rfl) (by decide) (by first | assumption | exact ⟨by omega, by omega⟩) (fun c4 => ?_) (fun c4 => absurd c4 (by omega))
      refine K_aload_n (dt_at dtX12_packer 23 rfl) rfl rfl ?_
      refine K_get (a := 0) (ci := 12) (k := 42) (v := vr 18) (dt_at dtX12_packer 24 rfl) (show TT 0 = (0, 12) from rfl) rfl (by decide) wF_X12_72 rfl ?_
      refine K_bipush (dt_at dtX12_packer 25 rfl) (by decide) ?_
      refine K_iload_n (dt_at dtX12_packer 26 rfl) rfl rfl ?_
      refine K_iadd (dt_at dtX12_packer 27 rfl) ?_
      refine K_iald (dt_at dtX12_packer 28 rfl) (show TT 18 = (1, 154) from rfl) (by omega) (by omega) ?_
      rw [show hA hu1 18 (70 + p) = (f (22 + p)) from RV_k (MG_D0 Gu1).2.2.2 (p := p) (by omega) (by omega)]
      refine K_istore_n (ls' := [(3, vi (f (22 + p))), (0, vr 0), (1, vi p), (2, vi q)]) (dt_at dtX12_packer 29 rfl) rfl (by decide) rfl ?_
      refine K_iload_n (dt_at dtX12_packer 30 rfl) rfl rfl ?_
      refine K_iload_n (dt_at dtX12_packer 31 rfl) rfl rfl ?_
      refine K_icmp_eq (tgt := 61) (dt_at dtX12_packer 32 rfl) (by decide) (by first | assumption | exact ⟨by omega, by omega⟩) (by first | assumption | exact ⟨by omega, by omega⟩) (fun c5 => ?_) (fun c5 => ?_)
      · refine K_aload_n (dt_at dtX12_packer 36 rfl) rfl rfl ?_
        refine K_iconst (dt_at dtX12_packer 37 rfl) ?_
        exact (by omega : False).elim
      · refine K_iload_n (dt_at dtX12_packer 33 rfl) rfl rfl ?_
        refine K_iload_n (dt_at dtX12_packer 34 rfl) rfl rfl ?_
        refine K_icmp_ne (tgt := 69) (dt_at dtX12_packer 35 rfl) (by decide) (by first | assumption | exact ⟨by omega, by omega⟩) (by first | assumption | exact ⟨by omega, by omega⟩) (fun c6 => ?_) (fun c6 => ?_)
        · refine K_aload_n (dt_at dtX12_packer 42 rfl) rfl rfl ?_
          have fqu1 := And.intro eu1 Q0.2.2.1
          refine K_callV (M' := mX12_keeps) (a := 0) (ci := 12) (As := []) (st := []) (dt_at dtX12_packer 43 rfl) (sX12_keeps (C := C) (mAc_fr V.2.2.2.1.2.1 (Gu1.2.1.2.2.1 0 44 rfl) (Gu1.2.1.1 19 rfl)) (MG_D0 Gu1).2.2.2) (show TT 0 = (0, 12) from rfl) rfl wL_X12_390 vX12_keeps rfl npX12_keeps (by decide) (by decide) (Nat.le_of_ble_eq_true rfl) (by decide) (by decide) GK_E (fun v9 hc2 hq => ?_) (fun E h9 hq => by cases hq.1)
          have hqq3 := hq
          obtain ⟨e9q3, mcq3, kaq3, kiq3, krq3⟩ := hqq3
          have Fq3 : FA h hc2 := FA_tr (FA_Q fqu1) ⟨fun a_ _ q2 _ _ => kaq3 a_ q2, fun a_ k_ z_ => kiq3 a_ k_ (by omega), krq3, by rw [kaq3 20 (by decide)]; exact Gu1.2.1.2.2.2.2⟩
          have rvq3 : RV hc2 0 f := RV0_fr (MG_D0 Gu1).2.2.2 (fun i_ _ => by rw [kaq3 18 (by decide)])
          have t0q3 : hI hc2 0 0 = 0 := by rw [kiq3 0 0 (Or.inr (by decide))]; exact Gu1.2.2.2
          cases e9q3
          show K mX12_packer _ _ 0 0 73 [(3, vi (f (22 + p))), (0, vr 0), (1, vi p), (2, vi q)] [] hc2
          refine K_aload_n (dt_at dtX12_packer 44 rfl) rfl rfl ?_
          refine K_get (a := 0) (ci := 12) (k := 42) (v := vr 18) (dt_at dtX12_packer 45 rfl) (show TT 0 = (0, 12) from rfl) rfl (by decide) wF_X12_72 rfl ?_
          refine K_bipush (dt_at dtX12_packer 46 rfl) (by decide) ?_
          refine K_iload_n (dt_at dtX12_packer 47 rfl) rfl rfl ?_
          refine K_iadd (dt_at dtX12_packer 48 rfl) ?_
          refine K_iload_n (dt_at dtX12_packer 49 rfl) rfl rfl ?_
          refine K_iast (dt_at dtX12_packer 50 rfl) (show TT 18 = (1, 154) from rfl) (by omega) (by omega) ?_
          obtain ⟨hu4, eu4⟩ : ∃ z, z = sA hc2 18 (70 + p) q := ⟨_, rfl⟩
          rw [← eu4]
          obtain ⟨au4, fu4, iu4, ru4⟩ := sA_fx eu4
          have rvu4 : RV hu4 0 (upI f (22 + p) q) := RV_up rvq3 (j := 22 + p) (by omega) (by omega) (by rw [pm_k (by omega)]; omega) eu4
          have Fu4 : FA h hu4 := FA_tr Fq3 (FA_row eu4 Fq3.2.2.2)
          have mcu4 : mAc hu4 19 44 (acP C f) := mAc_fr mcq3 (by rw [iu4]) (fu4 19 (by decide))
          have t0u4 : hI hu4 0 0 = 0 := by rw [iu4]; exact t0q3
          refine K_iload_n (dt_at dtX12_packer 51 rfl) rfl rfl ?_
          exact K_iret (dt_at dtX12_packer 52 rfl) rfl rfl (by decide) (by decide) ⟨rfl, MV_act V Fu4 rvu4 mcu4, FC_FA Fu4, t0u4⟩
        · refine K_aload_n (dt_at dtX12_packer 36 rfl) rfl rfl ?_
          refine K_iconst (dt_at dtX12_packer 37 rfl) ?_
          exact (by omega : False).elim
def mX12_mend : MI := (yX12_mend, cX12_mend, 4, (some .int), rmK 3 0)
def tX12_mend : List (Nat × Instr × Nat) := [(0, .aload_n 0, 1), (1, .iconst 0, 1), (2, .putfield 105, 3), (5, .aload_n 0, 1), (6, .iload_n 1, 1), (7, .invokevirtual 375, 3), (10, .ifCond .ne 5, 3), (13, .iconst 0, 1), (14, .ireturn, 1), (15, .aload_n 0, 1), (16, .getfield 72, 3), (19, .bipush 63, 2), (21, .iload_n 1, 1), (22, .iadd, 1), (23, .iaload, 1), (24, .istore_n 3, 1), (25, .iload_n 2, 1), (26, .iconst 0, 1), (27, .bipush 9, 2), (29, .invokestatic 346, 3), (32, .ifCond .ne 9, 3), (35, .aload_n 0, 1), (36, .iconst 1, 1), (37, .invokevirtual 387, 3), (40, .ireturn, 1), (41, .aload_n 0, 1), (42, .invokevirtual 390, 3), (45, .aload_n 0, 1), (46, .getfield 72, 3), (49, .bipush 63, 2), (51, .iload_n 1, 1), (52, .iadd, 1), (53, .iload_n 2, 1), (54, .iastore, 1), (55, .iload_n 3, 1), (56, .ireturn, 1)]
theorem dtX12_mend : tX12_mend.all (fun q => decide (decode cX12_mend q.1 = .ok (q.2.1, q.2.2))) = true := by decide +kernel
theorem npX12_mend : (parseMethodDescriptor (mY mX12_mend).desc).map (fun d => d.parameters.length) = some 2 := by decide +kernel
theorem vX12_mend : mV mX12_mend := ⟨wI_X12_mend, wS_X12_mend, wN_X12, wC_X12_mend, by decide +kernel, by decide +kernel⟩
set_option maxHeartbeats 4000000 in
set_option maxRecDepth 100000 in
theorem sX12_mend_x1 {h : HP} {S : HS} {f : Int → Int} {p d : Int} (Q0 : MAsk h S f) (hp_ : i32 p) (hd_ : i32 d) (kn : ¬ (0 ≤ p ∧ p < sNp S)) : SpecK mX12_mend [vr 0, vi p, vi d] h (fun o h' => o = .inl (some (vi 0)) ∧ FQ h h' ∧ hI h' 0 0 = 1) := by
  refine Spec_of (by decide +kernel) (Nat.le_of_ble_eq_true rfl) ?_
  have hB := Q0.1.1
  have hNt := hB.1
  have hNp := hB.2.1
  have R := Q0.2.2.2.2
  have hT := R.1
  have hW := hT.1
  refine K_aload_n (dt_at dtX12_mend 0 rfl) rfl rfl ?_
  refine K_iconst (dt_at dtX12_mend 1 rfl) ?_
  refine K_putI (a := 0) (ci := 12) (k := 0) (dt_at dtX12_mend 2 rfl) (show TT 0 = (0, 12) from rfl) rfl (by decide) wF_X12_105 rfl (Or.inl rfl) rfl rfl ?_
  obtain ⟨hu1, eu1⟩ : ∃ z, z = sI h 0 0 0 := ⟨_, rfl⟩
  rw [← eu1]
  obtain ⟨iu1, fu1, au1, ru1⟩ := sI_fx eu1
  have Gu1 := MG_0 Q0 eu1
  refine K_aload_n (dt_at dtX12_mend 3 rfl) rfl rfl ?_
  refine K_iload_n (dt_at dtX12_mend 4 rfl) rfl rfl ?_
  refine K_callV (M' := mX12_isPerson) (a := 0) (ci := 12) (As := [vi p]) (st := []) (dt_at dtX12_mend 5 rfl) (sX12_isPerson_f (MD_np (MG_D0 Gu1)) hNp Gu1.2.2.2 (by assumption) (by omega)) (show TT 0 = (0, 12) from rfl) rfl wL_X12_375 vX12_isPerson rfl npX12_isPerson (by decide) (by decide) (Nat.le_of_ble_eq_true rfl) (by decide) (by decide) GK_E (fun v9 hc2 hq => ?_) (fun E h9 hq => by cases hq.1)
  have hqq3 := hq
  obtain ⟨e9q3, e8q3⟩ := hqq3
  obtain ⟨iq3, fq3, aq3, rq3⟩ := sI_fx e8q3
  have Bq3 : FQ h hc2 := FQ_tr Gu1.2.1 (FQ_I e8q3 rfl Gu1.2.1.2.2.2.2)
  cases e9q3
  show K mX12_mend _ _ 0 0 10 [(0, vr 0), (1, vi p), (2, vi d)] [vi 0] hc2
  refine K_if_ne (tgt := 15) (dt_at dtX12_mend 6 rfl) (by decide) (by first | assumption | exact ⟨by omega, by omega⟩) (fun c1 => absurd c1 (by omega)) (fun c1 => ?_)
  refine K_iconst (dt_at dtX12_mend 7 rfl) ?_
  exact K_iret (dt_at dtX12_mend 8 rfl) rfl rfl (by decide) (by decide) ⟨rfl, Bq3, iq3⟩
set_option maxHeartbeats 4000000 in
set_option maxRecDepth 100000 in
theorem sX12_mend_no {h : HP} {S : HS} {f : Int → Int} {C : AC} {N : SN} {im : Option SV} {tp : Int → Int} {nt : Nat} {rf : Int × Int × Int} {fl : Int} {p d : Int} (V : MV h (S, (f, C, N), im, tp, nt, rf, fl)) (R : rowOK S f) (hp : 0 ≤ p ∧ p < sNp S) (hd : i32 d) (no : ¬ (0 ≤ d ∧ d ≤ 9)) : SpecK mX12_mend [vr 0, vi p, vi d] h (fun o h' => o = .inl (some (vi (-1))) ∧ MV h' (S, (f, C, N), im, tp, nt, cn32 rf 1, fl) ∧ FC h h' ∧ hI h' 0 0 = 0) := by
  refine Spec_of (by decide +kernel) (Nat.le_of_ble_eq_true rfl) ?_
  have Q0 := MV_ask V R
  have hB := Q0.1.1
  have hNt := hB.1
  have hNp := hB.2.1
  have hT := R.1
  have hW := hT.1
  refine K_aload_n (dt_at dtX12_mend 0 rfl) rfl rfl ?_
  refine K_iconst (dt_at dtX12_mend 1 rfl) ?_
  refine K_putI (a := 0) (ci := 12) (k := 0) (dt_at dtX12_mend 2 rfl) (show TT 0 = (0, 12) from rfl) rfl (by decide) wF_X12_105 rfl (Or.inl rfl) rfl rfl ?_
  obtain ⟨hu1, eu1⟩ : ∃ z, z = sI h 0 0 0 := ⟨_, rfl⟩
  rw [← eu1]
  obtain ⟨iu1, fu1, au1, ru1⟩ := sI_fx eu1
  have Gu1 := MG_0 Q0 eu1
  refine K_aload_n (dt_at dtX12_mend 3 rfl) rfl rfl ?_
  refine K_iload_n (dt_at dtX12_mend 4 rfl) rfl rfl ?_
  refine K_callV (M' := mX12_isPerson) (a := 0) (ci := 12) (As := [vi p]) (st := []) (dt_at dtX12_mend 5 rfl) (sX12_isPerson_t (MD_np (MG_D0 Gu1)) hNp Gu1.2.2.2 (by omega)) (show TT 0 = (0, 12) from rfl) rfl wL_X12_375 vX12_isPerson rfl npX12_isPerson (by decide) (by decide) (Nat.le_of_ble_eq_true rfl) (by decide) (by decide) GK_E (fun v9 h9 hq => ?_) (fun E h9 hq => by cases hq.1)
  obtain ⟨e9, e8⟩ := hq
  cases e9
  rw [e8]
  show K mX12_mend _ _ 0 0 10 [(0, vr 0), (1, vi p), (2, vi d)] [vi 1] hu1
  refine K_if_ne (tgt := 15) (dt_at dtX12_mend 6 rfl) (by decide) (by first | assumption | exact ⟨by omega, by omega⟩) (fun c1 => ?_) (fun c1 => absurd c1 (by omega))
  refine K_aload_n (dt_at dtX12_mend 9 rfl) rfl rfl ?_
  refine K_get (a := 0) (ci := 12) (k := 42) (v := vr 18) (dt_at dtX12_mend 10 rfl) (show TT 0 = (0, 12) from rfl) rfl (by decide) wF_X12_72 rfl ?_
  refine K_bipush (dt_at dtX12_mend 11 rfl) (by decide) ?_
  refine K_iload_n (dt_at dtX12_mend 12 rfl) rfl rfl ?_
  refine K_iadd (dt_at dtX12_mend 13 rfl) ?_
  refine K_iald (dt_at dtX12_mend 14 rfl) (show TT 18 = (1, 154) from rfl) (by omega) (by omega) ?_
  rw [show hA hu1 18 (63 + p) = (f (15 + p)) from RV_f (MG_D0 Gu1).2.2.2 (p := p) (by omega) (by omega)]
  refine K_istore_n (ls' := [(3, vi (f (15 + p))), (0, vr 0), (1, vi p), (2, vi d)]) (dt_at dtX12_mend 15 rfl) rfl (by decide) rfl ?_
  refine K_iload_n (dt_at dtX12_mend 16 rfl) rfl rfl ?_
  refine K_iconst (dt_at dtX12_mend 17 rfl) ?_
  refine K_bipush (dt_at dtX12_mend 18 rfl) (by decide) ?_
  refine K_callS (M' := mX12_within) (As := [vi d, vi 0, vi 9]) (st := []) (dt_at dtX12_mend 19 rfl) (sX12_within (by first | assumption | exact ⟨by omega, by omega⟩) ⟨by omega, by omega⟩ ⟨by omega, by omega⟩) wL_X12_346 vX12_within rfl npX12_within (by decide) (by decide) (Nat.le_of_ble_eq_true rfl) (by decide) (by decide) GK_E (fun v9 h9 hq => ?_) (fun E h9 hq => by cases hq.1)
  obtain ⟨e9, e8⟩ := hq
  cases e9
  rw [e8]
  show K mX12_mend _ _ 0 0 32 [(3, vi (f (15 + p))), (0, vr 0), (1, vi p), (2, vi d)] [vi (if 0 ≤ d ∧ d ≤ 9 then 1 else 0)] hu1
  by_cases z2 : 0 ≤ d ∧ d ≤ 9
  · rw [if_pos z2]
    refine K_if_ne (tgt := 41) (dt_at dtX12_mend 20 rfl) (by decide) (by first | assumption | exact ⟨by omega, by omega⟩) (fun c3 => ?_) (fun c3 => absurd c3 (by omega))
    refine K_aload_n (dt_at dtX12_mend 25 rfl) rfl rfl ?_
    exact (by omega : False).elim
  · rw [if_neg z2]
    refine K_if_ne (tgt := 41) (dt_at dtX12_mend 20 rfl) (by decide) (by first | assumption | exact ⟨by omega, by omega⟩) (fun c4 => absurd c4 (by omega)) (fun c4 => ?_)
    refine K_aload_n (dt_at dtX12_mend 21 rfl) rfl rfl ?_
    refine K_iconst (dt_at dtX12_mend 22 rfl) ?_
    refine K_callV (M' := mX12_refuses) (a := 0) (ci := 12) (As := [vi 1]) (st := []) (dt_at dtX12_mend 23 rfl) (sX12_refuses (n := 1) (by decide)) (show TT 0 = (0, 12) from rfl) rfl wL_X12_387 vX12_refuses rfl npX12_refuses (by decide) (by decide) (Nat.le_of_ble_eq_true rfl) (by decide) (by decide) GK_E (fun v9 hc2 hq => ?_) (fun E h9 hq => by cases hq.1)
    have hqq3 := hq
    obtain ⟨e9q3, e8q3⟩ := hqq3
    have Vq3 := MV_ref (MV_FQ V Gu1.2.1) 1 (by decide) e8q3
    have Cq3 : FC h hc2 := FC_tr (FC_FQ Gu1.2.1) (FC_A e8q3 (by decide))
    have tq3 : hI hc2 0 0 = 0 := by rw [(sA_fx e8q3).2.2.1]; exact Gu1.2.2.2
    cases e9q3
    show K mX12_mend _ _ 0 0 40 [(3, vi (f (15 + p))), (0, vr 0), (1, vi p), (2, vi d)] [vi (-1)] hc2
    exact K_iret (dt_at dtX12_mend 24 rfl) rfl rfl (by decide) (by decide) ⟨rfl, Vq3, Cq3, tq3⟩
set_option maxHeartbeats 4000000 in
set_option maxRecDepth 100000 in
theorem sX12_mend {h : HP} {S : HS} {f : Int → Int} {C : AC} {N : SN} {im : Option SV} {tp : Int → Int} {nt : Nat} {rf : Int × Int × Int} {fl : Int} {p d : Int} (V : MV h (S, (f, C, N), im, tp, nt, rf, fl)) (R : rowOK S f) (hp : 0 ≤ p ∧ p < sNp S) (hd : i32 d) (ok : 0 ≤ d ∧ d ≤ 9) : SpecK mX12_mend [vr 0, vi p, vi d] h (fun o h' => o = .inl (some (vi (f (15 + p)))) ∧ MV h' (S, (upI f (15 + p) d, acP C f, N), im, tp, nt, rf, fl) ∧ FC h h' ∧ hI h' 0 0 = 0) := by
  refine Spec_of (by decide +kernel) (Nat.le_of_ble_eq_true rfl) ?_
  have Q0 := MV_ask V R
  have hB := Q0.1.1
  have hNt := hB.1
  have hNp := hB.2.1
  have hT := R.1
  have hW := hT.1
  refine K_aload_n (dt_at dtX12_mend 0 rfl) rfl rfl ?_
  refine K_iconst (dt_at dtX12_mend 1 rfl) ?_
  refine K_putI (a := 0) (ci := 12) (k := 0) (dt_at dtX12_mend 2 rfl) (show TT 0 = (0, 12) from rfl) rfl (by decide) wF_X12_105 rfl (Or.inl rfl) rfl rfl ?_
  obtain ⟨hu1, eu1⟩ : ∃ z, z = sI h 0 0 0 := ⟨_, rfl⟩
  rw [← eu1]
  obtain ⟨iu1, fu1, au1, ru1⟩ := sI_fx eu1
  have Gu1 := MG_0 Q0 eu1
  refine K_aload_n (dt_at dtX12_mend 3 rfl) rfl rfl ?_
  refine K_iload_n (dt_at dtX12_mend 4 rfl) rfl rfl ?_
  refine K_callV (M' := mX12_isPerson) (a := 0) (ci := 12) (As := [vi p]) (st := []) (dt_at dtX12_mend 5 rfl) (sX12_isPerson_t (MD_np (MG_D0 Gu1)) hNp Gu1.2.2.2 (by omega)) (show TT 0 = (0, 12) from rfl) rfl wL_X12_375 vX12_isPerson rfl npX12_isPerson (by decide) (by decide) (Nat.le_of_ble_eq_true rfl) (by decide) (by decide) GK_E (fun v9 h9 hq => ?_) (fun E h9 hq => by cases hq.1)
  obtain ⟨e9, e8⟩ := hq
  cases e9
  rw [e8]
  show K mX12_mend _ _ 0 0 10 [(0, vr 0), (1, vi p), (2, vi d)] [vi 1] hu1
  refine K_if_ne (tgt := 15) (dt_at dtX12_mend 6 rfl) (by decide) (by first | assumption | exact ⟨by omega, by omega⟩) (fun c1 => ?_) (fun c1 => absurd c1 (by omega))
  refine K_aload_n (dt_at dtX12_mend 9 rfl) rfl rfl ?_
  refine K_get (a := 0) (ci := 12) (k := 42) (v := vr 18) (dt_at dtX12_mend 10 rfl) (show TT 0 = (0, 12) from rfl) rfl (by decide) wF_X12_72 rfl ?_
  refine K_bipush (dt_at dtX12_mend 11 rfl) (by decide) ?_
  refine K_iload_n (dt_at dtX12_mend 12 rfl) rfl rfl ?_
  refine K_iadd (dt_at dtX12_mend 13 rfl) ?_
  refine K_iald (dt_at dtX12_mend 14 rfl) (show TT 18 = (1, 154) from rfl) (by omega) (by omega) ?_
  rw [show hA hu1 18 (63 + p) = (f (15 + p)) from RV_f (MG_D0 Gu1).2.2.2 (p := p) (by omega) (by omega)]
  refine K_istore_n (ls' := [(3, vi (f (15 + p))), (0, vr 0), (1, vi p), (2, vi d)]) (dt_at dtX12_mend 15 rfl) rfl (by decide) rfl ?_
  refine K_iload_n (dt_at dtX12_mend 16 rfl) rfl rfl ?_
  refine K_iconst (dt_at dtX12_mend 17 rfl) ?_
  refine K_bipush (dt_at dtX12_mend 18 rfl) (by decide) ?_
  refine K_callS (M' := mX12_within) (As := [vi d, vi 0, vi 9]) (st := []) (dt_at dtX12_mend 19 rfl) (sX12_within (by first | assumption | exact ⟨by omega, by omega⟩) ⟨by omega, by omega⟩ ⟨by omega, by omega⟩) wL_X12_346 vX12_within rfl npX12_within (by decide) (by decide) (Nat.le_of_ble_eq_true rfl) (by decide) (by decide) GK_E (fun v9 h9 hq => ?_) (fun E h9 hq => by cases hq.1)
  obtain ⟨e9, e8⟩ := hq
  cases e9
  rw [e8]
  show K mX12_mend _ _ 0 0 32 [(3, vi (f (15 + p))), (0, vr 0), (1, vi p), (2, vi d)] [vi (if 0 ≤ d ∧ d ≤ 9 then 1 else 0)] hu1
  by_cases z2 : 0 ≤ d ∧ d ≤ 9
  · rw [if_pos z2]
    refine K_if_ne (tgt := 41) (dt_at dtX12_mend 20 rfl) (by decide) (by first | assumption | exact ⟨by omega, by omega⟩) (fun c3 => ?_) (fun c3 => absurd c3 (by omega))
    refine K_aload_n (dt_at dtX12_mend 25 rfl) rfl rfl ?_
    have fqu1 := And.intro eu1 Q0.2.2.1
    refine K_callV (M' := mX12_keeps) (a := 0) (ci := 12) (As := []) (st := []) (dt_at dtX12_mend 26 rfl) (sX12_keeps (C := C) (mAc_fr V.2.2.2.1.2.1 (Gu1.2.1.2.2.1 0 44 rfl) (Gu1.2.1.1 19 rfl)) (MG_D0 Gu1).2.2.2) (show TT 0 = (0, 12) from rfl) rfl wL_X12_390 vX12_keeps rfl npX12_keeps (by decide) (by decide) (Nat.le_of_ble_eq_true rfl) (by decide) (by decide) GK_E (fun v9 hc2 hq => ?_) (fun E h9 hq => by cases hq.1)
    have hqq3 := hq
    obtain ⟨e9q3, mcq3, kaq3, kiq3, krq3⟩ := hqq3
    have Fq3 : FA h hc2 := FA_tr (FA_Q fqu1) ⟨fun a_ _ q2 _ _ => kaq3 a_ q2, fun a_ k_ z_ => kiq3 a_ k_ (by omega), krq3, by rw [kaq3 20 (by decide)]; exact Gu1.2.1.2.2.2.2⟩
    have rvq3 : RV hc2 0 f := RV0_fr (MG_D0 Gu1).2.2.2 (fun i_ _ => by rw [kaq3 18 (by decide)])
    have t0q3 : hI hc2 0 0 = 0 := by rw [kiq3 0 0 (Or.inr (by decide))]; exact Gu1.2.2.2
    cases e9q3
    show K mX12_mend _ _ 0 0 45 [(3, vi (f (15 + p))), (0, vr 0), (1, vi p), (2, vi d)] [] hc2
    refine K_aload_n (dt_at dtX12_mend 27 rfl) rfl rfl ?_
    refine K_get (a := 0) (ci := 12) (k := 42) (v := vr 18) (dt_at dtX12_mend 28 rfl) (show TT 0 = (0, 12) from rfl) rfl (by decide) wF_X12_72 rfl ?_
    refine K_bipush (dt_at dtX12_mend 29 rfl) (by decide) ?_
    refine K_iload_n (dt_at dtX12_mend 30 rfl) rfl rfl ?_
    refine K_iadd (dt_at dtX12_mend 31 rfl) ?_
    refine K_iload_n (dt_at dtX12_mend 32 rfl) rfl rfl ?_
    refine K_iast (dt_at dtX12_mend 33 rfl) (show TT 18 = (1, 154) from rfl) (by omega) (by omega) ?_
    obtain ⟨hu4, eu4⟩ : ∃ z, z = sA hc2 18 (63 + p) d := ⟨_, rfl⟩
    rw [← eu4]
    obtain ⟨au4, fu4, iu4, ru4⟩ := sA_fx eu4
    have rvu4 : RV hu4 0 (upI f (15 + p) d) := RV_up rvq3 (j := 15 + p) (by omega) (by omega) (by rw [pm_f (by omega)]; omega) eu4
    have Fu4 : FA h hu4 := FA_tr Fq3 (FA_row eu4 Fq3.2.2.2)
    have mcu4 : mAc hu4 19 44 (acP C f) := mAc_fr mcq3 (by rw [iu4]) (fu4 19 (by decide))
    have t0u4 : hI hu4 0 0 = 0 := by rw [iu4]; exact t0q3
    refine K_iload_n (dt_at dtX12_mend 34 rfl) rfl rfl ?_
    exact K_iret (dt_at dtX12_mend 35 rfl) rfl rfl (by decide) (by decide) ⟨rfl, MV_act V Fu4 rvu4 mcu4, FC_FA Fu4, t0u4⟩
  · rw [if_neg z2]
    refine K_if_ne (tgt := 41) (dt_at dtX12_mend 20 rfl) (by decide) (by first | assumption | exact ⟨by omega, by omega⟩) (fun c4 => absurd c4 (by omega)) (fun c4 => ?_)
    refine K_aload_n (dt_at dtX12_mend 21 rfl) rfl rfl ?_
    refine K_iconst (dt_at dtX12_mend 22 rfl) ?_
    exact (by omega : False).elim
def mX12_swap : MI := (yX12_swap, cX12_swap, 3, (some .boolean), rmK 3 0)
def tX12_swap : List (Nat × Instr × Nat) := [(0, .aload_n 0, 1), (1, .iconst 0, 1), (2, .putfield 105, 3), (5, .aload_n 0, 1), (6, .iload_n 1, 1), (7, .invokevirtual 375, 3), (10, .ifCond .eq 11, 3), (13, .aload_n 0, 1), (14, .iload_n 2, 1), (15, .invokevirtual 375, 3), (18, .ifCond .ne 5, 3), (21, .iconst 0, 1), (22, .ireturn, 1), (23, .iload_n 1, 1), (24, .iload_n 2, 1), (25, .if_icmp .ne 17, 3), (28, .aload_n 0, 1), (29, .iconst 1, 1), (30, .invokevirtual 387, 3), (33, .ifCond .le 7, 3), (36, .iconst 1, 1), (37, .goto 4, 3), (40, .iconst 0, 1), (41, .ireturn, 1), (42, .aload_n 0, 1), (43, .invokevirtual 390, 3), (46, .aload_n 0, 1), (47, .iconst 0, 1), (48, .iload_n 1, 1), (49, .iload_n 2, 1), (50, .invokevirtual 393, 3), (53, .iconst 1, 1), (54, .ireturn, 1)]
theorem dtX12_swap : tX12_swap.all (fun q => decide (decode cX12_swap q.1 = .ok (q.2.1, q.2.2))) = true := by decide +kernel
theorem npX12_swap : (parseMethodDescriptor (mY mX12_swap).desc).map (fun d => d.parameters.length) = some 2 := by decide +kernel
theorem vX12_swap : mV mX12_swap := ⟨wI_X12_swap, wS_X12_swap, wN_X12, wC_X12_swap, by decide +kernel, by decide +kernel⟩
set_option maxHeartbeats 4000000 in
set_option maxRecDepth 100000 in
theorem sX12_swap_x1 {h : HP} {S : HS} {f : Int → Int} {p q : Int} (Q0 : MAsk h S f) (hp_ : i32 p) (hq_ : i32 q) (kn : ¬ (0 ≤ p ∧ p < sNp S)) : SpecK mX12_swap [vr 0, vi p, vi q] h (fun o h' => o = .inl (some (vi 0)) ∧ FQ h h' ∧ hI h' 0 0 = 1) := by
  refine Spec_of (by decide +kernel) (Nat.le_of_ble_eq_true rfl) ?_
  have hB := Q0.1.1
  have hNt := hB.1
  have hNp := hB.2.1
  have R := Q0.2.2.2.2
  have hT := R.1
  have hW := hT.1
  refine K_aload_n (dt_at dtX12_swap 0 rfl) rfl rfl ?_
  refine K_iconst (dt_at dtX12_swap 1 rfl) ?_
  refine K_putI (a := 0) (ci := 12) (k := 0) (dt_at dtX12_swap 2 rfl) (show TT 0 = (0, 12) from rfl) rfl (by decide) wF_X12_105 rfl (Or.inl rfl) rfl rfl ?_
  obtain ⟨hu1, eu1⟩ : ∃ z, z = sI h 0 0 0 := ⟨_, rfl⟩
  rw [← eu1]
  obtain ⟨iu1, fu1, au1, ru1⟩ := sI_fx eu1
  have Gu1 := MG_0 Q0 eu1
  refine K_aload_n (dt_at dtX12_swap 3 rfl) rfl rfl ?_
  refine K_iload_n (dt_at dtX12_swap 4 rfl) rfl rfl ?_
  refine K_callV (M' := mX12_isPerson) (a := 0) (ci := 12) (As := [vi p]) (st := []) (dt_at dtX12_swap 5 rfl) (sX12_isPerson_f (MD_np (MG_D0 Gu1)) hNp Gu1.2.2.2 (by assumption) (by omega)) (show TT 0 = (0, 12) from rfl) rfl wL_X12_375 vX12_isPerson rfl npX12_isPerson (by decide) (by decide) (Nat.le_of_ble_eq_true rfl) (by decide) (by decide) GK_E (fun v9 hc2 hq => ?_) (fun E h9 hq => by cases hq.1)
  have hqq3 := hq
  obtain ⟨e9q3, e8q3⟩ := hqq3
  obtain ⟨iq3, fq3, aq3, rq3⟩ := sI_fx e8q3
  have Bq3 : FQ h hc2 := FQ_tr Gu1.2.1 (FQ_I e8q3 rfl Gu1.2.1.2.2.2.2)
  cases e9q3
  show K mX12_swap _ _ 0 0 10 [(0, vr 0), (1, vi p), (2, vi q)] [vi 0] hc2
  refine K_if_eq (tgt := 21) (dt_at dtX12_swap 6 rfl) (by decide) (by first | assumption | exact ⟨by omega, by omega⟩) (fun c1 => ?_) (fun c1 => absurd c1 (by omega))
  refine K_iconst (dt_at dtX12_swap 11 rfl) ?_
  exact K_iret (dt_at dtX12_swap 12 rfl) rfl (by decide) (by decide) (by decide) ⟨rfl, Bq3, iq3⟩
set_option maxHeartbeats 4000000 in
set_option maxRecDepth 100000 in
theorem sX12_swap_x2 {h : HP} {S : HS} {f : Int → Int} {p q : Int} (Q0 : MAsk h S f) (hp_ : i32 p) (hq_ : i32 q) (k0 : 0 ≤ p ∧ p < sNp S) (kn : ¬ (0 ≤ q ∧ q < sNp S)) : SpecK mX12_swap [vr 0, vi p, vi q] h (fun o h' => o = .inl (some (vi 0)) ∧ FQ h h' ∧ hI h' 0 0 = 1) := by
  refine Spec_of (by decide +kernel) (Nat.le_of_ble_eq_true rfl) ?_
  have hB := Q0.1.1
  have hNt := hB.1
  have hNp := hB.2.1
  have R := Q0.2.2.2.2
  have hT := R.1
  have hW := hT.1
  refine K_aload_n (dt_at dtX12_swap 0 rfl) rfl rfl ?_
  refine K_iconst (dt_at dtX12_swap 1 rfl) ?_
  refine K_putI (a := 0) (ci := 12) (k := 0) (dt_at dtX12_swap 2 rfl) (show TT 0 = (0, 12) from rfl) rfl (by decide) wF_X12_105 rfl (Or.inl rfl) rfl rfl ?_
  obtain ⟨hu1, eu1⟩ : ∃ z, z = sI h 0 0 0 := ⟨_, rfl⟩
  rw [← eu1]
  obtain ⟨iu1, fu1, au1, ru1⟩ := sI_fx eu1
  have Gu1 := MG_0 Q0 eu1
  refine K_aload_n (dt_at dtX12_swap 3 rfl) rfl rfl ?_
  refine K_iload_n (dt_at dtX12_swap 4 rfl) rfl rfl ?_
  refine K_callV (M' := mX12_isPerson) (a := 0) (ci := 12) (As := [vi p]) (st := []) (dt_at dtX12_swap 5 rfl) (sX12_isPerson_t (MD_np (MG_D0 Gu1)) hNp Gu1.2.2.2 (by omega)) (show TT 0 = (0, 12) from rfl) rfl wL_X12_375 vX12_isPerson rfl npX12_isPerson (by decide) (by decide) (Nat.le_of_ble_eq_true rfl) (by decide) (by decide) GK_E (fun v9 h9 hq => ?_) (fun E h9 hq => by cases hq.1)
  obtain ⟨e9, e8⟩ := hq
  cases e9
  rw [e8]
  show K mX12_swap _ _ 0 0 10 [(0, vr 0), (1, vi p), (2, vi q)] [vi 1] hu1
  refine K_if_eq (tgt := 21) (dt_at dtX12_swap 6 rfl) (by decide) (by first | assumption | exact ⟨by omega, by omega⟩) (fun c1 => absurd c1 (by omega)) (fun c1 => ?_)
  refine K_aload_n (dt_at dtX12_swap 7 rfl) rfl rfl ?_
  refine K_iload_n (dt_at dtX12_swap 8 rfl) rfl rfl ?_
  refine K_callV (M' := mX12_isPerson) (a := 0) (ci := 12) (As := [vi q]) (st := []) (dt_at dtX12_swap 9 rfl) (sX12_isPerson_f (MD_np (MG_D0 Gu1)) hNp Gu1.2.2.2 (by assumption) (by omega)) (show TT 0 = (0, 12) from rfl) rfl wL_X12_375 vX12_isPerson rfl npX12_isPerson (by decide) (by decide) (Nat.le_of_ble_eq_true rfl) (by decide) (by decide) GK_E (fun v9 hc2 hq => ?_) (fun E h9 hq => by cases hq.1)
  have hqq3 := hq
  obtain ⟨e9q3, e8q3⟩ := hqq3
  obtain ⟨iq3, fq3, aq3, rq3⟩ := sI_fx e8q3
  have Bq3 : FQ h hc2 := FQ_tr Gu1.2.1 (FQ_I e8q3 rfl Gu1.2.1.2.2.2.2)
  cases e9q3
  show K mX12_swap _ _ 0 0 18 [(0, vr 0), (1, vi p), (2, vi q)] [vi 0] hc2
  refine K_if_ne (tgt := 23) (dt_at dtX12_swap 10 rfl) (by decide) (by first | assumption | exact ⟨by omega, by omega⟩) (fun c2 => absurd c2 (by omega)) (fun c2 => ?_)
  refine K_iconst (dt_at dtX12_swap 11 rfl) ?_
  exact K_iret (dt_at dtX12_swap 12 rfl) rfl (by decide) (by decide) (by decide) ⟨rfl, Bq3, iq3⟩
set_option maxHeartbeats 4000000 in
set_option maxRecDepth 100000 in
theorem sX12_swap_no {h : HP} {S : HS} {f : Int → Int} {C : AC} {N : SN} {im : Option SV} {tp : Int → Int} {nt : Nat} {rf : Int × Int × Int} {fl : Int} {p q : Int} (V : MV h (S, (f, C, N), im, tp, nt, rf, fl)) (R : rowOK S f) (hp : 0 ≤ p ∧ p < sNp S) (hqt : 0 ≤ q ∧ q < sNp S) (no : p = q) : SpecK mX12_swap [vr 0, vi p, vi q] h (fun o h' => o = .inl (some (vi 0)) ∧ MV h' (S, (f, C, N), im, tp, nt, cn32 rf 1, fl) ∧ FC h h' ∧ hI h' 0 0 = 0) := by
  refine Spec_of (by decide +kernel) (Nat.le_of_ble_eq_true rfl) ?_
  have Q0 := MV_ask V R
  have hB := Q0.1.1
  have hNt := hB.1
  have hNp := hB.2.1
  have hT := R.1
  have hW := hT.1
  refine K_aload_n (dt_at dtX12_swap 0 rfl) rfl rfl ?_
  refine K_iconst (dt_at dtX12_swap 1 rfl) ?_
  refine K_putI (a := 0) (ci := 12) (k := 0) (dt_at dtX12_swap 2 rfl) (show TT 0 = (0, 12) from rfl) rfl (by decide) wF_X12_105 rfl (Or.inl rfl) rfl rfl ?_
  obtain ⟨hu1, eu1⟩ : ∃ z, z = sI h 0 0 0 := ⟨_, rfl⟩
  rw [← eu1]
  obtain ⟨iu1, fu1, au1, ru1⟩ := sI_fx eu1
  have Gu1 := MG_0 Q0 eu1
  refine K_aload_n (dt_at dtX12_swap 3 rfl) rfl rfl ?_
  refine K_iload_n (dt_at dtX12_swap 4 rfl) rfl rfl ?_
  refine K_callV (M' := mX12_isPerson) (a := 0) (ci := 12) (As := [vi p]) (st := []) (dt_at dtX12_swap 5 rfl) (sX12_isPerson_t (MD_np (MG_D0 Gu1)) hNp Gu1.2.2.2 (by omega)) (show TT 0 = (0, 12) from rfl) rfl wL_X12_375 vX12_isPerson rfl npX12_isPerson (by decide) (by decide) (Nat.le_of_ble_eq_true rfl) (by decide) (by decide) GK_E (fun v9 h9 hq => ?_) (fun E h9 hq => by cases hq.1)
  obtain ⟨e9, e8⟩ := hq
  cases e9
  rw [e8]
  show K mX12_swap _ _ 0 0 10 [(0, vr 0), (1, vi p), (2, vi q)] [vi 1] hu1
  refine K_if_eq (tgt := 21) (dt_at dtX12_swap 6 rfl) (by decide) (by first | assumption | exact ⟨by omega, by omega⟩) (fun c1 => absurd c1 (by omega)) (fun c1 => ?_)
  refine K_aload_n (dt_at dtX12_swap 7 rfl) rfl rfl ?_
  refine K_iload_n (dt_at dtX12_swap 8 rfl) rfl rfl ?_
  refine K_callV (M' := mX12_isPerson) (a := 0) (ci := 12) (As := [vi q]) (st := []) (dt_at dtX12_swap 9 rfl) (sX12_isPerson_t (MD_np (MG_D0 Gu1)) hNp Gu1.2.2.2 (by omega)) (show TT 0 = (0, 12) from rfl) rfl wL_X12_375 vX12_isPerson rfl npX12_isPerson (by decide) (by decide) (Nat.le_of_ble_eq_true rfl) (by decide) (by decide) GK_E (fun v9 h9 hq => ?_) (fun E h9 hq => by cases hq.1)
  obtain ⟨e9, e8⟩ := hq
  cases e9
  rw [e8]
  show K mX12_swap _ _ 0 0 18 [(0, vr 0), (1, vi p), (2, vi q)] [vi 1] hu1
  refine K_if_ne (tgt := 23) (dt_at dtX12_swap 10 rfl) (by decide) (by first | assumption | exact ⟨by omega, by omega⟩) (fun c2 => ?_) (fun c2 => absurd c2 (by omega))
  refine K_iload_n (dt_at dtX12_swap 13 rfl) rfl rfl ?_
  refine K_iload_n (dt_at dtX12_swap 14 rfl) rfl rfl ?_
  refine K_icmp_ne (tgt := 42) (dt_at dtX12_swap 15 rfl) (by decide) (by first | assumption | exact ⟨by omega, by omega⟩) (by first | assumption | exact ⟨by omega, by omega⟩) (fun c3 => ?_) (fun c3 => ?_)
  · refine K_aload_n (dt_at dtX12_swap 24 rfl) rfl rfl ?_
    exact (by omega : False).elim
  · refine K_aload_n (dt_at dtX12_swap 16 rfl) rfl rfl ?_
    refine K_iconst (dt_at dtX12_swap 17 rfl) ?_
    refine K_callV (M' := mX12_refuses) (a := 0) (ci := 12) (As := [vi 1]) (st := []) (dt_at dtX12_swap 18 rfl) (sX12_refuses (n := 1) (by decide)) (show TT 0 = (0, 12) from rfl) rfl wL_X12_387 vX12_refuses rfl npX12_refuses (by decide) (by decide) (Nat.le_of_ble_eq_true rfl) (by decide) (by decide) GK_E (fun v9 hc2 hq => ?_) (fun E h9 hq => by cases hq.1)
    have hqq3 := hq
    obtain ⟨e9q3, e8q3⟩ := hqq3
    have Vq3 := MV_ref (MV_FQ V Gu1.2.1) 1 (by decide) e8q3
    have Cq3 : FC h hc2 := FC_tr (FC_FQ Gu1.2.1) (FC_A e8q3 (by decide))
    have tq3 : hI hc2 0 0 = 0 := by rw [(sA_fx e8q3).2.2.1]; exact Gu1.2.2.2
    cases e9q3
    show K mX12_swap _ _ 0 0 33 [(0, vr 0), (1, vi p), (2, vi q)] [vi (-1)] hc2
    refine K_if_le (tgt := 40) (dt_at dtX12_swap 19 rfl) (by decide) (by first | assumption | exact ⟨by omega, by omega⟩) (fun c4 => ?_) (fun c4 => absurd c4 (by omega))
    refine K_iconst (dt_at dtX12_swap 22 rfl) ?_
    exact K_iret (dt_at dtX12_swap 23 rfl) rfl (by decide) (by decide) (by decide) ⟨rfl, Vq3, Cq3, tq3⟩
theorem MS_FA {h h' : HP} {A : AS} (m : MV h A) (F : FA h h') : MS h' A.1 := MS_fr m.1 (F.2.1 0 1 (by omega)) (F.2.1 0 2 (by omega)) (F.2.1 0 3 (by omega)) (F.2.1 0 4 (by omega)) (F.1 1 (by omega) (by omega) (by omega) (by omega)) (F.1 2 (by omega) (by omega) (by omega) (by omega)) (F.1 3 (by omega) (by omega) (by omega) (by omega)) (F.1 4 (by omega) (by omega) (by omega) (by omega)) (F.1 5 (by omega) (by omega) (by omega) (by omega)) (F.1 6 (by omega) (by omega) (by omega) (by omega))
set_option maxHeartbeats 4000000 in
set_option maxRecDepth 100000 in
theorem sX12_swap {h : HP} {S : HS} {f : Int → Int} {C : AC} {N : SN} {im : Option SV} {tp : Int → Int} {nt : Nat} {rf : Int × Int × Int} {fl : Int} {p q : Int} (V : MV h (S, (f, C, N), im, tp, nt, rf, fl)) (R : rowOK S f) (hp : 0 ≤ p ∧ p < sNp S) (hqt : 0 ≤ q ∧ q < sNp S) (no : p ≠ q) : SpecK mX12_swap [vr 0, vi p, vi q] h (fun o h' => o = .inl (some (vi 1)) ∧ MV h' (S, (swF f p q, acP C f, N), im, tp, nt, rf, fl) ∧ FC h h' ∧ hI h' 0 0 = 0) := by
  refine Spec_of (by decide +kernel) (Nat.le_of_ble_eq_true rfl) ?_
  have Q0 := MV_ask V R
  have hB := Q0.1.1
  have hNt := hB.1
  have hNp := hB.2.1
  have hT := R.1
  have hW := hT.1
  refine K_aload_n (dt_at dtX12_swap 0 rfl) rfl rfl ?_
  refine K_iconst (dt_at dtX12_swap 1 rfl) ?_
  refine K_putI (a := 0) (ci := 12) (k := 0) (dt_at dtX12_swap 2 rfl) (show TT 0 = (0, 12) from rfl) rfl (by decide) wF_X12_105 rfl (Or.inl rfl) rfl rfl ?_
  obtain ⟨hu1, eu1⟩ : ∃ z, z = sI h 0 0 0 := ⟨_, rfl⟩
  rw [← eu1]
  obtain ⟨iu1, fu1, au1, ru1⟩ := sI_fx eu1
  have Gu1 := MG_0 Q0 eu1
  refine K_aload_n (dt_at dtX12_swap 3 rfl) rfl rfl ?_
  refine K_iload_n (dt_at dtX12_swap 4 rfl) rfl rfl ?_
  refine K_callV (M' := mX12_isPerson) (a := 0) (ci := 12) (As := [vi p]) (st := []) (dt_at dtX12_swap 5 rfl) (sX12_isPerson_t (MD_np (MG_D0 Gu1)) hNp Gu1.2.2.2 (by omega)) (show TT 0 = (0, 12) from rfl) rfl wL_X12_375 vX12_isPerson rfl npX12_isPerson (by decide) (by decide) (Nat.le_of_ble_eq_true rfl) (by decide) (by decide) GK_E (fun v9 h9 hq => ?_) (fun E h9 hq => by cases hq.1)
  obtain ⟨e9, e8⟩ := hq
  cases e9
  rw [e8]
  show K mX12_swap _ _ 0 0 10 [(0, vr 0), (1, vi p), (2, vi q)] [vi 1] hu1
  refine K_if_eq (tgt := 21) (dt_at dtX12_swap 6 rfl) (by decide) (by first | assumption | exact ⟨by omega, by omega⟩) (fun c1 => absurd c1 (by omega)) (fun c1 => ?_)
  refine K_aload_n (dt_at dtX12_swap 7 rfl) rfl rfl ?_
  refine K_iload_n (dt_at dtX12_swap 8 rfl) rfl rfl ?_
  refine K_callV (M' := mX12_isPerson) (a := 0) (ci := 12) (As := [vi q]) (st := []) (dt_at dtX12_swap 9 rfl) (sX12_isPerson_t (MD_np (MG_D0 Gu1)) hNp Gu1.2.2.2 (by omega)) (show TT 0 = (0, 12) from rfl) rfl wL_X12_375 vX12_isPerson rfl npX12_isPerson (by decide) (by decide) (Nat.le_of_ble_eq_true rfl) (by decide) (by decide) GK_E (fun v9 h9 hq => ?_) (fun E h9 hq => by cases hq.1)
  obtain ⟨e9, e8⟩ := hq
  cases e9
  rw [e8]
  show K mX12_swap _ _ 0 0 18 [(0, vr 0), (1, vi p), (2, vi q)] [vi 1] hu1
  refine K_if_ne (tgt := 23) (dt_at dtX12_swap 10 rfl) (by decide) (by first | assumption | exact ⟨by omega, by omega⟩) (fun c2 => ?_) (fun c2 => absurd c2 (by omega))
  refine K_iload_n (dt_at dtX12_swap 13 rfl) rfl rfl ?_
  refine K_iload_n (dt_at dtX12_swap 14 rfl) rfl rfl ?_
  refine K_icmp_ne (tgt := 42) (dt_at dtX12_swap 15 rfl) (by decide) (by first | assumption | exact ⟨by omega, by omega⟩) (by first | assumption | exact ⟨by omega, by omega⟩) (fun c3 => ?_) (fun c3 => ?_)
  · refine K_aload_n (dt_at dtX12_swap 24 rfl) rfl rfl ?_
    have fqu1 := And.intro eu1 Q0.2.2.1
    refine K_callV (M' := mX12_keeps) (a := 0) (ci := 12) (As := []) (st := []) (dt_at dtX12_swap 25 rfl) (sX12_keeps (C := C) (mAc_fr V.2.2.2.1.2.1 (Gu1.2.1.2.2.1 0 44 rfl) (Gu1.2.1.1 19 rfl)) (MG_D0 Gu1).2.2.2) (show TT 0 = (0, 12) from rfl) rfl wL_X12_390 vX12_keeps rfl npX12_keeps (by decide) (by decide) (Nat.le_of_ble_eq_true rfl) (by decide) (by decide) GK_E (fun v9 hc2 hq => ?_) (fun E h9 hq => by cases hq.1)
    have hqq3 := hq
    obtain ⟨e9q3, mcq3, kaq3, kiq3, krq3⟩ := hqq3
    have Fq3 : FA h hc2 := FA_tr (FA_Q fqu1) ⟨fun a_ _ q2 _ _ => kaq3 a_ q2, fun a_ k_ z_ => kiq3 a_ k_ (by omega), krq3, by rw [kaq3 20 (by decide)]; exact Gu1.2.1.2.2.2.2⟩
    have rvq3 : RV hc2 0 f := RV0_fr (MG_D0 Gu1).2.2.2 (fun i_ _ => by rw [kaq3 18 (by decide)])
    have t0q3 : hI hc2 0 0 = 0 := by rw [kiq3 0 0 (Or.inr (by decide))]; exact Gu1.2.2.2
    cases e9q3
    show K mX12_swap _ _ 0 0 46 [(0, vr 0), (1, vi p), (2, vi q)] [] hc2
    refine K_aload_n (dt_at dtX12_swap 26 rfl) rfl rfl ?_
    refine K_iconst (dt_at dtX12_swap 27 rfl) ?_
    refine K_iload_n (dt_at dtX12_swap 28 rfl) rfl rfl ?_
    refine K_iload_n (dt_at dtX12_swap 29 rfl) rfl rfl ?_
    refine K_callV (M' := mX12_swaps) (a := 0) (ci := 12) (As := [vi 0, vi p, vi q]) (st := []) (dt_at dtX12_swap 30 rfl) (sX12_swaps (S := S) (f := f) (h0 := hc2) ⟨MS_FA V Fq3, Or.inl rfl, ⟨MFr_rf, Fq3.2.2.2⟩, rvq3⟩ (by omega) (by omega)) (show TT 0 = (0, 12) from rfl) rfl wL_X12_393 vX12_swaps rfl npX12_swaps (by decide) (by decide) (Nat.le_of_ble_eq_true rfl) (by decide) (by decide) GK_E (fun v9 hc4 hq => ?_) (fun E h9 hq => by cases hq.1)
    have hqq5 := hq
    obtain ⟨e9q5, dq5, iq5⟩ := hqq5
    have Fq5 : FA h hc4 := FA_tr Fq3 (FA_MFr dq5.2.2.1.1 dq5.2.2.1.2)
    have rvq5 : RV hc4 0 (swF f p q) := dq5.2.2.2
    have mcq5 : mAc hc4 19 44 (acP C f) := mAc_fr mcq3 (by rw [iq5]) (dq5.2.2.1.1.1 19 (by decide) (by decide) (by decide))
    have t0q5 : hI hc4 0 0 = 0 := by rw [iq5]; exact t0q3
    cases e9q5
    show K mX12_swap _ _ 0 0 53 [(0, vr 0), (1, vi p), (2, vi q)] [] hc4
    refine K_iconst (dt_at dtX12_swap 31 rfl) ?_
    exact K_iret (dt_at dtX12_swap 32 rfl) rfl (by decide) (by decide) (by decide) ⟨rfl, MV_act V Fq5 rvq5 mcq5, FC_FA Fq5, t0q5⟩
  · refine K_aload_n (dt_at dtX12_swap 16 rfl) rfl rfl ?_
    refine K_iconst (dt_at dtX12_swap 17 rfl) ?_
    exact (by omega : False).elim
def mX12_days : MI := (yX12_days, cX12_days, 3, (some .int), rmK 7 0)
def tX12_days : List (Nat × Instr × Nat) := [(0, .aload_n 0, 1), (1, .iconst 0, 1), (2, .putfield 105, 3), (5, .iload_n 1, 1), (6, .iconst 1, 1), (7, .bipush 20, 2), (9, .invokestatic 346, 3), (12, .ifCond .eq 17, 3), (15, .aload_n 0, 1), (16, .getfield 72, 3), (19, .iconst 0, 1), (20, .iaload, 1), (21, .iload_n 1, 1), (22, .iadd, 1), (23, .sipush 9999, 3), (26, .if_icmp .le 9, 3), (29, .aload_n 0, 1), (30, .iconst 1, 1), (31, .invokevirtual 387, 3), (34, .ireturn, 1), (35, .aload_n 0, 1), (36, .invokevirtual 390, 3), (39, .iconst 0, 1), (40, .istore_n 2, 1), (41, .iload_n 2, 1), (42, .iload_n 1, 1), (43, .if_icmp .ge 14, 3), (46, .aload_n 0, 1), (47, .iconst 0, 1), (48, .invokevirtual 334, 3), (51, .iinc 2 1, 3), (54, .goto (-13), 3), (57, .aload_n 0, 1), (58, .getfield 72, 3), (61, .iconst 0, 1), (62, .iaload, 1), (63, .ireturn, 1)]
theorem dtX12_days : tX12_days.all (fun q => decide (decode cX12_days q.1 = .ok (q.2.1, q.2.2))) = true := by decide +kernel
theorem npX12_days : (parseMethodDescriptor (mY mX12_days).desc).map (fun d => d.parameters.length) = some 1 := by decide +kernel
theorem vX12_days : mV mX12_days := ⟨wI_X12_days, wS_X12_days, wN_X12, wC_X12_days, by decide +kernel, by decide +kernel⟩
set_option maxHeartbeats 4000000 in
set_option maxRecDepth 100000 in
theorem sX12_days_no {h : HP} {S : HS} {f : Int → Int} {C : AC} {N : SN} {im : Option SV} {tp : Int → Int} {nt : Nat} {rf : Int × Int × Int} {fl : Int} {d : Int} (V : MV h (S, (f, C, N), im, tp, nt, rf, fl)) (R : rowOK S f) (hd : i32 d) (no : ¬ (1 ≤ d ∧ d ≤ 20 ∧ f 0 + d ≤ 9999)) : SpecK mX12_days [vr 0, vi d] h (fun o h' => o = .inl (some (vi (-1))) ∧ MV h' (S, (f, C, N), im, tp, nt, cn32 rf 1, fl) ∧ FC h h' ∧ hI h' 0 0 = 0) := by
  refine Spec_of (by decide +kernel) (Nat.le_of_ble_eq_true rfl) ?_
  have Q0 := MV_ask V R
  have hB := Q0.1.1
  have hNt := hB.1
  have hNp := hB.2.1
  have hT := R.1
  have hW := hT.1
  have w0 := hT.2.2.2.1
  have w1 := hT.2.2.2.2.1
  refine K_aload_n (dt_at dtX12_days 0 rfl) rfl rfl ?_
  refine K_iconst (dt_at dtX12_days 1 rfl) ?_
  refine K_putI (a := 0) (ci := 12) (k := 0) (dt_at dtX12_days 2 rfl) (show TT 0 = (0, 12) from rfl) rfl (by decide) wF_X12_105 rfl (Or.inl rfl) rfl rfl ?_
  obtain ⟨hu1, eu1⟩ : ∃ z, z = sI h 0 0 0 := ⟨_, rfl⟩
  rw [← eu1]
  obtain ⟨iu1, fu1, au1, ru1⟩ := sI_fx eu1
  have Gu1 := MG_0 Q0 eu1
  refine K_iload_n (dt_at dtX12_days 3 rfl) rfl rfl ?_
  refine K_iconst (dt_at dtX12_days 4 rfl) ?_
  refine K_bipush (dt_at dtX12_days 5 rfl) (by decide) ?_
  refine K_callS (M' := mX12_within) (As := [vi d, vi 1, vi 20]) (st := []) (dt_at dtX12_days 6 rfl) (sX12_within (by first | assumption | exact ⟨by omega, by omega⟩) ⟨by omega, by omega⟩ ⟨by omega, by omega⟩) wL_X12_346 vX12_within rfl npX12_within (by decide) (by decide) (Nat.le_of_ble_eq_true rfl) (by decide) (by decide) GK_E (fun v9 h9 hq => ?_) (fun E h9 hq => by cases hq.1)
  obtain ⟨e9, e8⟩ := hq
  cases e9
  rw [e8]
  show K mX12_days _ _ 0 0 12 [(0, vr 0), (1, vi d)] [vi (if 1 ≤ d ∧ d ≤ 20 then 1 else 0)] hu1
  by_cases z1 : 1 ≤ d ∧ d ≤ 20
  · rw [if_pos z1]
    refine K_if_eq (tgt := 29) (dt_at dtX12_days 7 rfl) (by decide) (by first | assumption | exact ⟨by omega, by omega⟩) (fun c2 => absurd c2 (by omega)) (fun c2 => ?_)
    refine K_aload_n (dt_at dtX12_days 8 rfl) rfl rfl ?_
    refine K_get (a := 0) (ci := 12) (k := 42) (v := vr 18) (dt_at dtX12_days 9 rfl) (show TT 0 = (0, 12) from rfl) rfl (by decide) wF_X12_72 rfl ?_
    refine K_iconst (dt_at dtX12_days 10 rfl) ?_
    refine K_iald (dt_at dtX12_days 11 rfl) (show TT 18 = (1, 154) from rfl) (by omega) (by omega) ?_
    rw [show hA hu1 18 0 = (f 0) from RV_d (MG_D0 Gu1).2.2.2 (by omega)]
    refine K_iload_n (dt_at dtX12_days 12 rfl) rfl rfl ?_
    refine K_iadd (dt_at dtX12_days 13 rfl) ?_
    refine K_sipush (dt_at dtX12_days 14 rfl) (by decide) ?_
    refine K_icmp_le (tgt := 35) (dt_at dtX12_days 15 rfl) (by decide) (by first | assumption | exact ⟨by omega, by omega⟩) (by first | assumption | exact ⟨by omega, by omega⟩) (fun c3 => ?_) (fun c3 => ?_)
    · refine K_aload_n (dt_at dtX12_days 20 rfl) rfl rfl ?_
      exact (by omega : False).elim
    · refine K_aload_n (dt_at dtX12_days 16 rfl) rfl rfl ?_
      refine K_iconst (dt_at dtX12_days 17 rfl) ?_
      refine K_callV (M' := mX12_refuses) (a := 0) (ci := 12) (As := [vi 1]) (st := []) (dt_at dtX12_days 18 rfl) (sX12_refuses (n := 1) (by decide)) (show TT 0 = (0, 12) from rfl) rfl wL_X12_387 vX12_refuses rfl npX12_refuses (by decide) (by decide) (Nat.le_of_ble_eq_true rfl) (by decide) (by decide) GK_E (fun v9 hc2 hq => ?_) (fun E h9 hq => by cases hq.1)
      have hqq3 := hq
      obtain ⟨e9q3, e8q3⟩ := hqq3
      have Vq3 := MV_ref (MV_FQ V Gu1.2.1) 1 (by decide) e8q3
      have Cq3 : FC h hc2 := FC_tr (FC_FQ Gu1.2.1) (FC_A e8q3 (by decide))
      have tq3 : hI hc2 0 0 = 0 := by rw [(sA_fx e8q3).2.2.1]; exact Gu1.2.2.2
      cases e9q3
      show K mX12_days _ _ 0 0 34 [(0, vr 0), (1, vi d)] [vi (-1)] hc2
      exact K_iret (dt_at dtX12_days 19 rfl) rfl rfl (by decide) (by decide) ⟨rfl, Vq3, Cq3, tq3⟩
  · rw [if_neg z1]
    refine K_if_eq (tgt := 29) (dt_at dtX12_days 7 rfl) (by decide) (by first | assumption | exact ⟨by omega, by omega⟩) (fun c4 => ?_) (fun c4 => absurd c4 (by omega))
    refine K_aload_n (dt_at dtX12_days 16 rfl) rfl rfl ?_
    refine K_iconst (dt_at dtX12_days 17 rfl) ?_
    refine K_callV (M' := mX12_refuses) (a := 0) (ci := 12) (As := [vi 1]) (st := []) (dt_at dtX12_days 18 rfl) (sX12_refuses (n := 1) (by decide)) (show TT 0 = (0, 12) from rfl) rfl wL_X12_387 vX12_refuses rfl npX12_refuses (by decide) (by decide) (Nat.le_of_ble_eq_true rfl) (by decide) (by decide) GK_E (fun v9 hc4 hq => ?_) (fun E h9 hq => by cases hq.1)
    have hqq5 := hq
    obtain ⟨e9q5, e8q5⟩ := hqq5
    have Vq5 := MV_ref (MV_FQ V Gu1.2.1) 1 (by decide) e8q5
    have Cq5 : FC h hc4 := FC_tr (FC_FQ Gu1.2.1) (FC_A e8q5 (by decide))
    have tq5 : hI hc4 0 0 = 0 := by rw [(sA_fx e8q5).2.2.1]; exact Gu1.2.2.2
    cases e9q5
    show K mX12_days _ _ 0 0 34 [(0, vr 0), (1, vi d)] [vi (-1)] hc4
    exact K_iret (dt_at dtX12_days 19 rfl) rfl rfl (by decide) (by decide) ⟨rfl, Vq5, Cq5, tq5⟩
set_option maxHeartbeats 4000000 in
set_option maxRecDepth 100000 in
theorem lp_X12_days {Q : AO → HP → Prop} {hk : HP} {S : HS} {f : Int → Int} {n : Nat} (R : rowOK S f) (h49 : hI hk 0 49 = 0) (hn : n ≤ 20) (hQ : ∀ h2, MD hk h2 0 S (dysF S f n) → Q (.inl (some (vi (dysF S f n 0)))) h2) : ∀ (dd k : Nat) (hh : HP), k + dd = n → MD hk hh 0 S (dysF S f k) → K mX12_days GK (ZK Q 0 0) 0 0 41 [(2, vi (k : Int)), (0, vr 0), (1, vi (n : Int))] [] hh := by
  intro dd
  induction dd with
  | zero =>
    intro k hh hk dh
    have hB := dh.1.1
    obtain ⟨a1, a2, a3, a4, a5⟩ := dys_R hB R (n := k) (by omega)
    have i49 : hI hh 0 49 = 0 := by rw [dh.2.2.1.1.2.2.1 0 49 (Or.inr (by decide))]; exact h49
    have ek : k = n := by omega
    subst ek
    refine K_iload_n (dt_at dtX12_days 24 rfl) rfl rfl ?_
    refine K_iload_n (dt_at dtX12_days 25 rfl) rfl rfl ?_
    refine K_icmp_ge (tgt := 57) (dt_at dtX12_days 26 rfl) (by decide) (by first | assumption | exact ⟨by omega, by omega⟩) (by first | assumption | exact ⟨by omega, by omega⟩) (fun c1 => ?_) (fun c1 => absurd c1 (by omega))
    refine K_aload_n (dt_at dtX12_days 32 rfl) rfl rfl ?_
    refine K_get (a := 0) (ci := 12) (k := 42) (v := vr 18) (dt_at dtX12_days 33 rfl) (show TT 0 = (0, 12) from rfl) rfl (by decide) wF_X12_72 rfl ?_
    refine K_iconst (dt_at dtX12_days 34 rfl) ?_
    refine K_iald (dt_at dtX12_days 35 rfl) (show TT 18 = (1, 154) from rfl) (by omega) (by omega) ?_
    rw [show hA hh 18 0 = ((dysF S f k) 0) from RV_d dh.2.2.2 (by omega)]
    exact K_iret (dt_at dtX12_days 36 rfl) rfl rfl (by decide) (by decide) (hQ hh dh)
  | succ dd ih =>
    intro k hh hk dh
    have hB := dh.1.1
    obtain ⟨a1, a2, a3, a4, a5⟩ := dys_R hB R (n := k) (by omega)
    have i49 : hI hh 0 49 = 0 := by rw [dh.2.2.1.1.2.2.1 0 49 (Or.inr (by decide))]; exact h49
    refine K_iload_n (dt_at dtX12_days 24 rfl) rfl rfl ?_
    refine K_iload_n (dt_at dtX12_days 25 rfl) rfl rfl ?_
    refine K_icmp_ge (tgt := 57) (dt_at dtX12_days 26 rfl) (by decide) (by first | assumption | exact ⟨by omega, by omega⟩) (by first | assumption | exact ⟨by omega, by omega⟩) (fun c1 => absurd c1 (by omega)) (fun c1 => ?_)
    refine K_aload_n (dt_at dtX12_days 27 rfl) rfl rfl ?_
    refine K_iconst (dt_at dtX12_days 28 rfl) ?_
    refine K_callV (M' := mX12_dayGoes) (a := 0) (ci := 12) (As := [vi 0]) (st := []) (dt_at dtX12_days 29 rfl) (sX12_dayGoes dh a1 a2 a3 a4 i49) (show TT 0 = (0, 12) from rfl) rfl wL_X12_334 vX12_dayGoes rfl npX12_dayGoes (by decide) (by decide) (Nat.le_of_ble_eq_true rfl) (by decide) (by decide) GK_E (fun v9 hc1 hq => ?_) (fun E h9 hq => by cases hq.1)
    have hqq2 := hq
    obtain ⟨e9q2, dq2, -, iq2⟩ := hqq2
    cases e9q2
    show K mX12_days _ _ 0 0 51 [(2, vi (k : Int)), (0, vr 0), (1, vi (n : Int))] [] hc1
    refine K_iinc (ls' := [(2, vi ((k : Int) + 1)), (0, vr 0), (1, vi (n : Int))]) (dt_at dtX12_days 30 rfl) rfl (by decide) rfl ?_
    refine K_goto (tgt := 41) (dt_at dtX12_days 31 rfl) (by decide) ?_
    exact K_pk [0, 1, 2] rfl (ih (k + 1) hc1 (by omega) dq2)
set_option maxHeartbeats 4000000 in
set_option maxRecDepth 100000 in
theorem sX12_days {h : HP} {S : HS} {f : Int → Int} {C : AC} {N : SN} {im : Option SV} {tp : Int → Int} {nt : Nat} {rf : Int × Int × Int} {fl : Int} {n : Nat} (V : MV h (S, (f, C, N), im, tp, nt, rf, fl)) (R : rowOK S f) (ok : 1 ≤ n ∧ n ≤ 20 ∧ f 0 + n ≤ 9999) : SpecK mX12_days [vr 0, vi (n : Int)] h (fun o h' => o = .inl (some (vi (dysF S f n 0))) ∧ MV h' (S, (dysF S f n, acP C f, N), im, tp, nt, rf, fl) ∧ FC h h' ∧ hI h' 0 0 = 0) := by
  refine Spec_of (by decide +kernel) (Nat.le_of_ble_eq_true rfl) ?_
  have Q0 := MV_ask V R
  have hB := Q0.1.1
  have hNt := hB.1
  have hNp := hB.2.1
  have hT := R.1
  have hW := hT.1
  have w0 := hT.2.2.2.1
  have w1 := hT.2.2.2.2.1
  refine K_aload_n (dt_at dtX12_days 0 rfl) rfl rfl ?_
  refine K_iconst (dt_at dtX12_days 1 rfl) ?_
  refine K_putI (a := 0) (ci := 12) (k := 0) (dt_at dtX12_days 2 rfl) (show TT 0 = (0, 12) from rfl) rfl (by decide) wF_X12_105 rfl (Or.inl rfl) rfl rfl ?_
  obtain ⟨hu1, eu1⟩ : ∃ z, z = sI h 0 0 0 := ⟨_, rfl⟩
  rw [← eu1]
  obtain ⟨iu1, fu1, au1, ru1⟩ := sI_fx eu1
  have Gu1 := MG_0 Q0 eu1
  refine K_iload_n (dt_at dtX12_days 3 rfl) rfl rfl ?_
  refine K_iconst (dt_at dtX12_days 4 rfl) ?_
  refine K_bipush (dt_at dtX12_days 5 rfl) (by decide) ?_
  refine K_callS (M' := mX12_within) (As := [vi (n : Int), vi 1, vi 20]) (st := []) (dt_at dtX12_days 6 rfl) (sX12_within (by first | assumption | exact ⟨by omega, by omega⟩) ⟨by omega, by omega⟩ ⟨by omega, by omega⟩) wL_X12_346 vX12_within rfl npX12_within (by decide) (by decide) (Nat.le_of_ble_eq_true rfl) (by decide) (by decide) GK_E (fun v9 h9 hq => ?_) (fun E h9 hq => by cases hq.1)
  obtain ⟨e9, e8⟩ := hq
  cases e9
  rw [e8]
  show K mX12_days _ _ 0 0 12 [(0, vr 0), (1, vi (n : Int))] [vi (if 1 ≤ (n : Int) ∧ (n : Int) ≤ 20 then 1 else 0)] hu1
  by_cases z1 : 1 ≤ (n : Int) ∧ (n : Int) ≤ 20
  · rw [if_pos z1]
    refine K_if_eq (tgt := 29) (dt_at dtX12_days 7 rfl) (by decide) (by first | assumption | exact ⟨by omega, by omega⟩) (fun c2 => absurd c2 (by omega)) (fun c2 => ?_)
    refine K_aload_n (dt_at dtX12_days 8 rfl) rfl rfl ?_
    refine K_get (a := 0) (ci := 12) (k := 42) (v := vr 18) (dt_at dtX12_days 9 rfl) (show TT 0 = (0, 12) from rfl) rfl (by decide) wF_X12_72 rfl ?_
    refine K_iconst (dt_at dtX12_days 10 rfl) ?_
    refine K_iald (dt_at dtX12_days 11 rfl) (show TT 18 = (1, 154) from rfl) (by omega) (by omega) ?_
    rw [show hA hu1 18 0 = (f 0) from RV_d (MG_D0 Gu1).2.2.2 (by omega)]
    refine K_iload_n (dt_at dtX12_days 12 rfl) rfl rfl ?_
    refine K_iadd (dt_at dtX12_days 13 rfl) ?_
    refine K_sipush (dt_at dtX12_days 14 rfl) (by decide) ?_
    refine K_icmp_le (tgt := 35) (dt_at dtX12_days 15 rfl) (by decide) (by first | assumption | exact ⟨by omega, by omega⟩) (by first | assumption | exact ⟨by omega, by omega⟩) (fun c3 => ?_) (fun c3 => ?_)
    · refine K_aload_n (dt_at dtX12_days 20 rfl) rfl rfl ?_
      have fqu1 := And.intro eu1 Q0.2.2.1
      refine K_callV (M' := mX12_keeps) (a := 0) (ci := 12) (As := []) (st := []) (dt_at dtX12_days 21 rfl) (sX12_keeps (C := C) (mAc_fr V.2.2.2.1.2.1 (Gu1.2.1.2.2.1 0 44 rfl) (Gu1.2.1.1 19 rfl)) (MG_D0 Gu1).2.2.2) (show TT 0 = (0, 12) from rfl) rfl wL_X12_390 vX12_keeps rfl npX12_keeps (by decide) (by decide) (Nat.le_of_ble_eq_true rfl) (by decide) (by decide) GK_E (fun v9 hc2 hq => ?_) (fun E h9 hq => by cases hq.1)
      have hqq3 := hq
      obtain ⟨e9q3, mcq3, kaq3, kiq3, krq3⟩ := hqq3
      have Fq3 : FA h hc2 := FA_tr (FA_Q fqu1) ⟨fun a_ _ q2 _ _ => kaq3 a_ q2, fun a_ k_ z_ => kiq3 a_ k_ (by omega), krq3, by rw [kaq3 20 (by decide)]; exact Gu1.2.1.2.2.2.2⟩
      have rvq3 : RV hc2 0 f := RV0_fr (MG_D0 Gu1).2.2.2 (fun i_ _ => by rw [kaq3 18 (by decide)])
      have t0q3 : hI hc2 0 0 = 0 := by rw [kiq3 0 0 (Or.inr (by decide))]; exact Gu1.2.2.2
      cases e9q3
      show K mX12_days _ _ 0 0 39 [(0, vr 0), (1, vi (n : Int))] [] hc2
      refine K_iconst (dt_at dtX12_days 22 rfl) ?_
      refine K_istore_n (ls' := [(2, vi 0), (0, vr 0), (1, vi (n : Int))]) (dt_at dtX12_days 23 rfl) rfl (by decide) rfl ?_
      exact K_pk [0, 1, 2] rfl (lp_X12_days R (by rw [Fq3.2.1 0 49 (by omega)]; exact V.2.2.1) (by omega) (fun h2 d2 => ⟨rfl, MV_act V (FA_tr Fq3 (FA_MFr d2.2.2.1.1 d2.2.2.1.2)) d2.2.2.2 (mAc_fr mcq3 (d2.2.2.1.1.2.2.1 0 44 (Or.inr (by decide))) (d2.2.2.1.1.1 19 (by decide) (by decide) (by decide))), FC_FA (FA_tr Fq3 (FA_MFr d2.2.2.1.1 d2.2.2.1.2)), by rw [d2.2.2.1.1.2.2.1 0 0 (Or.inr (by decide))]; exact t0q3⟩) n 0 hc2 (by omega) ⟨MS_FA V Fq3, Or.inl rfl, ⟨MFr_rf, Fq3.2.2.2⟩, rvq3⟩)
    · refine K_aload_n (dt_at dtX12_days 16 rfl) rfl rfl ?_
      refine K_iconst (dt_at dtX12_days 17 rfl) ?_
      exact (by omega : False).elim
  · rw [if_neg z1]
    refine K_if_eq (tgt := 29) (dt_at dtX12_days 7 rfl) (by decide) (by first | assumption | exact ⟨by omega, by omega⟩) (fun c4 => ?_) (fun c4 => absurd c4 (by omega))
    refine K_aload_n (dt_at dtX12_days 16 rfl) rfl rfl ?_
    refine K_iconst (dt_at dtX12_days 17 rfl) ?_
    exact (by omega : False).elim
