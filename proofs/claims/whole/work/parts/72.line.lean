abbrev DR : Type := (Nat × Nat) × ((Int → Int) × (Int → Int) × (Int → Int)) × ((Int → Int) × (Int → Int) × (Int → Int) × (Int → Int) × (Int → Int)) × Option (List Int) × Option (List Int)
def DRf (h : HP) (t : Nat) (D : DR) : Prop := (hI h t 10 = (D.1.1 : Int) ∧ D.1.1 ≤ 6) ∧ (hI h t 11 = (D.1.2 : Int) ∧ D.1.2 ≤ 7) ∧ (hA h (t + 1) = D.2.1.1 ∧ hA h (t + 2) = D.2.1.2.1 ∧ hA h (t + 3) = D.2.1.2.2) ∧ (hA h (t + 4) = D.2.2.1.1 ∧ hA h (t + 5) = D.2.2.1.2.1 ∧ hA h (t + 6) = D.2.2.1.2.2.1 ∧ hA h (t + 7) = D.2.2.1.2.2.2.1 ∧ hA h (t + 8) = D.2.2.1.2.2.2.2) ∧ rlD h (t + 9) D.2.2.2.1 ∧ rlD h (t + 12) D.2.2.2.2
def thB (tp : Int → Int) (n : Nat) (D : DR) (p : Nat) : (Int × Nat) ⊕ (DR × Nat) := if D.1.1 = 6 then .inl (2, (tk tp n p).2.1) else match thN tp n (tk tp n p).2.2 with
  | .inl e => .inl e
  | .inr (w, u, s, q) => .inr (((D.1.1 + 1, D.1.2), (upI D.2.1.1 (D.1.1 : Int) w, upI D.2.1.2.1 (D.1.1 : Int) u, upI D.2.1.2.2 (D.1.1 : Int) s), D.2.2.1, D.2.2.2.1, D.2.2.2.2), q)
def peB (tp : Int → Int) (n : Nat) (D : DR) (p : Nat) : (Int × Nat) ⊕ (DR × Nat) := if D.1.2 = 7 then .inl (2, (tk tp n p).2.1) else match peN tp n (D.1.2 : Int) (tk tp n p).2.2 with
  | .inl e => .inl e
  | .inr (a, b, c, f, y, q) => .inr (((D.1.1, D.1.2 + 1), D.2.1, (upI D.2.2.1.1 (D.1.2 : Int) a, upI D.2.2.1.2.1 (D.1.2 : Int) b, upI D.2.2.1.2.2.1 (D.1.2 : Int) c, upI D.2.2.1.2.2.2.1 (D.1.2 : Int) f, upI D.2.2.1.2.2.2.2 (D.1.2 : Int) y), D.2.2.2.1, D.2.2.2.2), q)
def puE (tp : Int → Int) (n : Nat) (D : DR) (p : Nat) : PR → (Int × Nat) ⊕ (DR × Nat)
  | .inl e => .inl e
  | .inr (q, L) => .inr ((D.1, D.2.1, D.2.2.1, some L, D.2.2.2.2), q)
def feE (tp : Int → Int) (n : Nat) (D : DR) (p : Nat) : PR → (Int × Nat) ⊕ (DR × Nat)
  | .inl e => .inl e
  | .inr (q, L) => .inr ((D.1, D.2.1, D.2.2.1, D.2.2.2.1, some L), q)
def puB (tp : Int → Int) (n : Nat) (D : DR) (p : Nat) : (Int × Nat) ⊕ (DR × Nat) := if D.2.2.2.1.isSome = true then .inl (5, (tk tp n p).2.1) else puE tp n D p (exP tp n 1 6 (tk tp n p).2.2)
def feB (tp : Int → Int) (n : Nat) (D : DR) (p : Nat) : (Int × Nat) ⊕ (DR × Nat) := if D.2.2.2.2.isSome = true then .inl (5, (tk tp n p).2.1) else feE tp n D p (exP tp n 0 6 (tk tp n p).2.2)
def lnB (tp : Int → Int) (n : Nat) (D : DR) (p : Nat) : (Int × Nat) ⊕ (DR × Nat) :=
  if isWb tp (tk tp n p) 0 = true then thB tp n D p else if isWb tp (tk tp n p) 1 = true then peB tp n D p else if isWb tp (tk tp n p) 3 = true then puB tp n D p else if isWb tp (tk tp n p) 15 = true then feB tp n D p else .inl (1, (tk tp n p).2.1)
def siP (tp : Int → Int) (n : Nat) : (Int × Nat) ⊕ (DR × Nat) → (Int × Nat) ⊕ (DR × Nat)
  | .inl e => .inl e
  | .inr (D, q) => if Sg tp (tk tp n q) 59 then .inr (D, (tk tp n q).2.2) else .inl (1, (tk tp n q).2.1)
def lnP (tp : Int → Int) (n : Nat) (D : DR) (p : Nat) : (Int × Nat) ⊕ (DR × Nat) := siP tp n (lnB tp n D p)
def LNr (h : HP) (t : Nat) (tp : Int → Int) (n : Nat) : (Int × Nat) ⊕ (DR × Nat) → Prop
  | .inl e => TE h tp n e
  | .inr (D, q) => TG h tp n q ∧ hR h 63 1 = t ∧ DRf h t D
def HK (t : Nat) (h h' : HP) : Prop := (∀ a, ¬ (t < a ∧ a ≤ t + 8) → a ≠ t + 10 → a ≠ t + 13 → hA h' a = hA h a) ∧ (∀ a k, a ≠ t → a ≠ t + 9 → a ≠ t + 12 → a ≠ 63 → a ≠ 64 → hI h' a k = hI h a k) ∧ (∀ a k, a ≠ 63 → a ≠ 64 → hR h' a k = hR h a k) ∧ hR h' 63 1 = hR h 63 1
theorem HK_rf {t : Nat} {h : HP} : HK t h h := ⟨fun _ _ _ _ => rfl, fun _ _ _ _ _ _ _ => rfl, fun _ _ _ _ => rfl, rfl⟩
theorem HK_tr {t : Nat} {h h1 h2 : HP} (a : HK t h h1) (b : HK t h1 h2) : HK t h h2 := ⟨fun x z1 z2 z3 => (b.1 x z1 z2 z3).trans (a.1 x z1 z2 z3), fun x k z1 z2 z3 z4 z5 => (b.2.1 x k z1 z2 z3 z4 z5).trans (a.2.1 x k z1 z2 z3 z4 z5), fun x k z1 z2 => (b.2.2.1 x k z1 z2).trans (a.2.2.1 x k z1 z2), b.2.2.2.trans a.2.2.2⟩
theorem HK_FL {t : Nat} {h h' : HP} (F : FL [] TR [] h h') : HK t h h' := ⟨fun a _ _ _ => F.1 a rfl, fun a k _ _ _ h1 h2 => F.2.1 a k (TR_63 h1 h2), fun a k _ _ => F.2.2 a k rfl, F.2.2 63 1 rfl⟩
theorem HK_RK {t r : Nat} {h h' : HP} (F : RK r h h') (hr : r = t + 9 ∨ r = t + 12) : HK t h h' := ⟨fun a _ z1 z2 => F.1 a (by omega), fun a k _ z1 z2 z3 z4 => F.2.1 a k (by omega) z3 z4, fun a k z1 z2 => F.2.2 a k z2 (by omega), F.2.2 63 1 (by omega) (by omega)⟩
theorem rlD_fr {h h' : HP} {r : Nat} {o : Option (List Int)} (R : rlD h r o) (e2 : hI h' r 2 = hI h r 2) (e3 : hI h' r 3 = hI h r 3) (ea : hA h' (r + 1) = hA h (r + 1)) : rlD h' r o := by
  cases o with
  | none => exact ⟨by rw [e3]; exact R.1, by rw [e2]; exact R.2⟩
  | some L => exact ⟨by rw [e3]; exact R.1, by rw [e2]; exact R.2.1, R.2.2.1, fun j hj => by rw [ea]; exact R.2.2.2 j hj⟩
theorem siP_t {tp : Int → Int} {n q : Nat} {D : DR} (h : Sg tp (tk tp n q) 59) : siP tp n (.inr (D, q)) = .inr (D, (tk tp n q).2.2) := if_pos h
theorem siP_f {tp : Int → Int} {n q : Nat} {D : DR} (h : ¬ Sg tp (tk tp n q) 59) : siP tp n (.inr (D, q)) = .inl (1, (tk tp n q).2.1) := if_neg h
theorem DRf_FL {h h' : HP} {t : Nat} {D : DR} (ht : t = 33 ∨ t = 48) (d : DRf h t D) (F : FL [] TR [] h h') : DRf h' t D := by
  obtain ⟨⟨d1, d2⟩, ⟨d3, d4⟩, ⟨w1, w2, w3⟩, ⟨p1, p2, p3, p4, p5⟩, r1, r2⟩ := d
  have fi : ∀ a k, a ≠ 63 → a ≠ 64 → hI h' a k = hI h a k := fun a k x y => F.2.1 a k (TR_63 x y)
  have fa : ∀ a, hA h' a = hA h a := fun a => F.1 a rfl
  exact ⟨⟨by rw [fi t 10 (by omega) (by omega)]; exact d1, d2⟩, ⟨by rw [fi t 11 (by omega) (by omega)]; exact d3, d4⟩, ⟨by rw [fa]; exact w1, by rw [fa]; exact w2, by rw [fa]; exact w3⟩, ⟨by rw [fa]; exact p1, by rw [fa]; exact p2, by rw [fa]; exact p3, by rw [fa]; exact p4, by rw [fa]; exact p5⟩, rlD_fr r1 (fi _ _ (by omega) (by omega)) (fi _ _ (by omega) (by omega)) (fa _), rlD_fr r2 (fi _ _ (by omega) (by omega)) (fi _ _ (by omega) (by omega)) (fa _)⟩
theorem thing_L_33 {h : HP} {tp : Int → Int} {n p : Nat} {D : DR} (A : TG h tp n p) (i1 : hR h 63 1 = 33) (Dd : DRf h 33 D) : SpecK mX5_readThing [vr 63] h (fun o h' => o = .inl none ∧ LNr h' 33 tp n (thB tp n D p) ∧ HK 33 h h') := by
  obtain ⟨⟨d1, d2⟩, ⟨d3, d4⟩, ⟨w1, w2, w3⟩, ⟨p1, p2, p3, p4, p5⟩, r1, r2⟩ := id Dd
  unfold thB
  by_cases c : D.1.1 = 6
  · rw [if_pos c]
    exact Spec_mono (fun o h' q => ⟨q.1, q.2.1, HK_FL q.2.2⟩) (sX5_readThing_33_x A i1 d1 c)
  · rw [if_neg c]
    refine Spec_mono (fun o h' q => ?_) (sX5_readThing_33 A i1 d1 (by omega))
    obtain ⟨q1, q2, F⟩ := q
    have HF : HK 33 h h' := ⟨fun a z1 z2 z3 => F.1 a (by simp; omega), fun a k z1 z2 z3 z4 z5 => F.2.1 a k (by simp [TR]; omega), fun a k _ _ => F.2.2 a k rfl, F.2.2 63 1 rfl⟩
    rcases u : thN tp n (tk tp n p).2.2 with e | ⟨w, x, s, q⟩
    · rw [u] at q2
      exact ⟨q1, q2, HF⟩
    · rw [u] at q2
      obtain ⟨t1, t2, t3, t4, t5⟩ := q2
      exact ⟨q1, ⟨t1, by rw [HF.2.2.2]; exact i1, ⟨t2, by show D.1.1 + 1 ≤ 6; omega⟩, ⟨by rw [F.2.1 33 11 rfl]; exact d3, d4⟩, ⟨by rw [t3, w1], by rw [t4, w2], by rw [t5, w3]⟩, ⟨by rw [F.1 _ rfl]; exact p1, by rw [F.1 _ rfl]; exact p2, by rw [F.1 _ rfl]; exact p3, by rw [F.1 _ rfl]; exact p4, by rw [F.1 _ rfl]; exact p5⟩, rlD_fr r1 (F.2.1 _ _ rfl) (F.2.1 _ _ rfl) (F.1 _ rfl), rlD_fr r2 (F.2.1 _ _ rfl) (F.2.1 _ _ rfl) (F.1 _ rfl)⟩, HF⟩
theorem person_L_33 {h : HP} {tp : Int → Int} {n p : Nat} {D : DR} (A : TG h tp n p) (i1 : hR h 63 1 = 33) (Dd : DRf h 33 D) : SpecK mX5_readPerson [vr 63] h (fun o h' => o = .inl none ∧ LNr h' 33 tp n (peB tp n D p) ∧ HK 33 h h') := by
  obtain ⟨⟨d1, d2⟩, ⟨d3, d4⟩, ⟨w1, w2, w3⟩, ⟨p1, p2, p3, p4, p5⟩, r1, r2⟩ := id Dd
  unfold peB
  by_cases c : D.1.2 = 7
  · rw [if_pos c]
    exact Spec_mono (fun o h' q => ⟨q.1, q.2.1, HK_FL q.2.2⟩) (sX5_readPerson_33_x A i1 d3 c)
  · rw [if_neg c]
    refine Spec_mono (fun o h' q => ?_) (sX5_readPerson_33 A i1 d3 (by omega))
    obtain ⟨q1, q2, F⟩ := q
    have HF : HK 33 h h' := ⟨fun a z1 z2 z3 => F.1 a (by simp; omega), fun a k z1 z2 z3 z4 z5 => F.2.1 a k (by simp [TR]; omega), fun a k _ _ => F.2.2 a k rfl, F.2.2 63 1 rfl⟩
    rcases u : peN tp n (D.1.2 : Int) (tk tp n p).2.2 with e | ⟨a, b, c, f, y, q⟩
    · rw [u] at q2
      exact ⟨q1, q2, HF⟩
    · rw [u] at q2
      obtain ⟨t1, t2, t3, t4, t5, t6, t7⟩ := q2
      exact ⟨q1, ⟨t1, by rw [HF.2.2.2]; exact i1, ⟨by rw [F.2.1 33 10 rfl]; exact d1, d2⟩, ⟨t2, by show D.1.2 + 1 ≤ 7; omega⟩, ⟨by rw [F.1 _ rfl]; exact w1, by rw [F.1 _ rfl]; exact w2, by rw [F.1 _ rfl]; exact w3⟩, ⟨by rw [t3, p1], by rw [t4, p2], by rw [t5, p3], by rw [t6, p4], by rw [t7, p5]⟩, rlD_fr r1 (F.2.1 _ _ rfl) (F.2.1 _ _ rfl) (F.1 _ rfl), rlD_fr r2 (F.2.1 _ _ rfl) (F.2.1 _ _ rfl) (F.1 _ rfl)⟩, HF⟩
theorem puts_L_33 {h : HP} {tp : Int → Int} {n p : Nat} {D : DR} (A : TG h tp n p) (i1 : hR h 63 1 = 33) (Dd : DRf h 33 D) : SpecK mX5_readRule [vr 63, vr 42, vi 1] h (fun o h' => o = .inl none ∧ LNr h' 33 tp n (puB tp n D p) ∧ HK 33 h h') := by
  obtain ⟨⟨d1, d2⟩, ⟨d3, d4⟩, ⟨w1, w2, w3⟩, ⟨p1, p2, p3, p4, p5⟩, r1, r2⟩ := id Dd
  unfold puB
  rcases eo : D.2.2.2.1 with _ | L0
  · rw [if_neg (by decide)]
    rw [eo] at r1
    refine Spec_mono (fun o h' q => ?_) (sX5_readRule_42 A (Or.inr rfl) r1.1 r1.2)
    obtain ⟨q1, q3, F⟩ := q
    have HF : HK 33 h h' := HK_RK F (Or.inl rfl)
    have fi : ∀ k, hI h' 33 k = hI h 33 k := fun k => F.2.1 33 k (by decide) (by decide) (by decide)
    rcases u : exP tp n 1 6 (tk tp n p).2.2 with e | ⟨q, L⟩
    · rw [u] at q3
      exact ⟨q1, q3, HF⟩
    · rw [u] at q3
      exact ⟨q1, ⟨q3.1, by rw [HF.2.2.2]; exact i1, ⟨by rw [fi]; exact d1, d2⟩, ⟨by rw [fi]; exact d3, d4⟩, ⟨by rw [F.1 _ (by decide)]; exact w1, by rw [F.1 _ (by decide)]; exact w2, by rw [F.1 _ (by decide)]; exact w3⟩, ⟨by rw [F.1 _ (by decide)]; exact p1, by rw [F.1 _ (by decide)]; exact p2, by rw [F.1 _ (by decide)]; exact p3, by rw [F.1 _ (by decide)]; exact p4, by rw [F.1 _ (by decide)]; exact p5⟩, q3.2, rlD_fr r2 (F.2.1 45 2 (by decide) (by decide) (by decide)) (F.2.1 45 3 (by decide) (by decide) (by decide)) (F.1 46 (by decide))⟩, HF⟩
  · rw [if_pos (show (some L0).isSome = true from rfl)]
    rw [eo] at r1
    exact Spec_mono (fun o h' q => ⟨q.1, q.2.1, HK_FL q.2.2⟩) (sX5_readRule_42_x A r1.1)
theorem feels_L_33 {h : HP} {tp : Int → Int} {n p : Nat} {D : DR} (A : TG h tp n p) (i1 : hR h 63 1 = 33) (Dd : DRf h 33 D) : SpecK mX5_readRule [vr 63, vr 45, vi 0] h (fun o h' => o = .inl none ∧ LNr h' 33 tp n (feB tp n D p) ∧ HK 33 h h') := by
  obtain ⟨⟨d1, d2⟩, ⟨d3, d4⟩, ⟨w1, w2, w3⟩, ⟨p1, p2, p3, p4, p5⟩, r1, r2⟩ := id Dd
  unfold feB
  rcases eo : D.2.2.2.2 with _ | L0
  · rw [if_neg (by decide)]
    rw [eo] at r2
    refine Spec_mono (fun o h' q => ?_) (sX5_readRule_45 A (Or.inl rfl) r2.1 r2.2)
    obtain ⟨q1, q3, F⟩ := q
    have HF : HK 33 h h' := HK_RK F (Or.inr rfl)
    have fi : ∀ k, hI h' 33 k = hI h 33 k := fun k => F.2.1 33 k (by decide) (by decide) (by decide)
    rcases u : exP tp n 0 6 (tk tp n p).2.2 with e | ⟨q, L⟩
    · rw [u] at q3
      exact ⟨q1, q3, HF⟩
    · rw [u] at q3
      exact ⟨q1, ⟨q3.1, by rw [HF.2.2.2]; exact i1, ⟨by rw [fi]; exact d1, d2⟩, ⟨by rw [fi]; exact d3, d4⟩, ⟨by rw [F.1 _ (by decide)]; exact w1, by rw [F.1 _ (by decide)]; exact w2, by rw [F.1 _ (by decide)]; exact w3⟩, ⟨by rw [F.1 _ (by decide)]; exact p1, by rw [F.1 _ (by decide)]; exact p2, by rw [F.1 _ (by decide)]; exact p3, by rw [F.1 _ (by decide)]; exact p4, by rw [F.1 _ (by decide)]; exact p5⟩, rlD_fr r1 (F.2.1 42 2 (by decide) (by decide) (by decide)) (F.2.1 42 3 (by decide) (by decide) (by decide)) (F.1 43 (by decide)), q3.2⟩, HF⟩
  · rw [if_pos (show (some L0).isSome = true from rfl)]
    rw [eo] at r2
    exact Spec_mono (fun o h' q => ⟨q.1, q.2.1, HK_FL q.2.2⟩) (sX5_readRule_45_x A r2.1)
theorem thing_L_48 {h : HP} {tp : Int → Int} {n p : Nat} {D : DR} (A : TG h tp n p) (i1 : hR h 63 1 = 48) (Dd : DRf h 48 D) : SpecK mX5_readThing [vr 63] h (fun o h' => o = .inl none ∧ LNr h' 48 tp n (thB tp n D p) ∧ HK 48 h h') := by
  obtain ⟨⟨d1, d2⟩, ⟨d3, d4⟩, ⟨w1, w2, w3⟩, ⟨p1, p2, p3, p4, p5⟩, r1, r2⟩ := id Dd
  unfold thB
  by_cases c : D.1.1 = 6
  · rw [if_pos c]
    exact Spec_mono (fun o h' q => ⟨q.1, q.2.1, HK_FL q.2.2⟩) (sX5_readThing_48_x A i1 d1 c)
  · rw [if_neg c]
    refine Spec_mono (fun o h' q => ?_) (sX5_readThing_48 A i1 d1 (by omega))
    obtain ⟨q1, q2, F⟩ := q
    have HF : HK 48 h h' := ⟨fun a z1 z2 z3 => F.1 a (by simp; omega), fun a k z1 z2 z3 z4 z5 => F.2.1 a k (by simp [TR]; omega), fun a k _ _ => F.2.2 a k rfl, F.2.2 63 1 rfl⟩
    rcases u : thN tp n (tk tp n p).2.2 with e | ⟨w, x, s, q⟩
    · rw [u] at q2
      exact ⟨q1, q2, HF⟩
    · rw [u] at q2
      obtain ⟨t1, t2, t3, t4, t5⟩ := q2
      exact ⟨q1, ⟨t1, by rw [HF.2.2.2]; exact i1, ⟨t2, by show D.1.1 + 1 ≤ 6; omega⟩, ⟨by rw [F.2.1 48 11 rfl]; exact d3, d4⟩, ⟨by rw [t3, w1], by rw [t4, w2], by rw [t5, w3]⟩, ⟨by rw [F.1 _ rfl]; exact p1, by rw [F.1 _ rfl]; exact p2, by rw [F.1 _ rfl]; exact p3, by rw [F.1 _ rfl]; exact p4, by rw [F.1 _ rfl]; exact p5⟩, rlD_fr r1 (F.2.1 _ _ rfl) (F.2.1 _ _ rfl) (F.1 _ rfl), rlD_fr r2 (F.2.1 _ _ rfl) (F.2.1 _ _ rfl) (F.1 _ rfl)⟩, HF⟩
theorem person_L_48 {h : HP} {tp : Int → Int} {n p : Nat} {D : DR} (A : TG h tp n p) (i1 : hR h 63 1 = 48) (Dd : DRf h 48 D) : SpecK mX5_readPerson [vr 63] h (fun o h' => o = .inl none ∧ LNr h' 48 tp n (peB tp n D p) ∧ HK 48 h h') := by
  obtain ⟨⟨d1, d2⟩, ⟨d3, d4⟩, ⟨w1, w2, w3⟩, ⟨p1, p2, p3, p4, p5⟩, r1, r2⟩ := id Dd
  unfold peB
  by_cases c : D.1.2 = 7
  · rw [if_pos c]
    exact Spec_mono (fun o h' q => ⟨q.1, q.2.1, HK_FL q.2.2⟩) (sX5_readPerson_48_x A i1 d3 c)
  · rw [if_neg c]
    refine Spec_mono (fun o h' q => ?_) (sX5_readPerson_48 A i1 d3 (by omega))
    obtain ⟨q1, q2, F⟩ := q
    have HF : HK 48 h h' := ⟨fun a z1 z2 z3 => F.1 a (by simp; omega), fun a k z1 z2 z3 z4 z5 => F.2.1 a k (by simp [TR]; omega), fun a k _ _ => F.2.2 a k rfl, F.2.2 63 1 rfl⟩
    rcases u : peN tp n (D.1.2 : Int) (tk tp n p).2.2 with e | ⟨a, b, c, f, y, q⟩
    · rw [u] at q2
      exact ⟨q1, q2, HF⟩
    · rw [u] at q2
      obtain ⟨t1, t2, t3, t4, t5, t6, t7⟩ := q2
      exact ⟨q1, ⟨t1, by rw [HF.2.2.2]; exact i1, ⟨by rw [F.2.1 48 10 rfl]; exact d1, d2⟩, ⟨t2, by show D.1.2 + 1 ≤ 7; omega⟩, ⟨by rw [F.1 _ rfl]; exact w1, by rw [F.1 _ rfl]; exact w2, by rw [F.1 _ rfl]; exact w3⟩, ⟨by rw [t3, p1], by rw [t4, p2], by rw [t5, p3], by rw [t6, p4], by rw [t7, p5]⟩, rlD_fr r1 (F.2.1 _ _ rfl) (F.2.1 _ _ rfl) (F.1 _ rfl), rlD_fr r2 (F.2.1 _ _ rfl) (F.2.1 _ _ rfl) (F.1 _ rfl)⟩, HF⟩
theorem puts_L_48 {h : HP} {tp : Int → Int} {n p : Nat} {D : DR} (A : TG h tp n p) (i1 : hR h 63 1 = 48) (Dd : DRf h 48 D) : SpecK mX5_readRule [vr 63, vr 57, vi 1] h (fun o h' => o = .inl none ∧ LNr h' 48 tp n (puB tp n D p) ∧ HK 48 h h') := by
  obtain ⟨⟨d1, d2⟩, ⟨d3, d4⟩, ⟨w1, w2, w3⟩, ⟨p1, p2, p3, p4, p5⟩, r1, r2⟩ := id Dd
  unfold puB
  rcases eo : D.2.2.2.1 with _ | L0
  · rw [if_neg (by decide)]
    rw [eo] at r1
    refine Spec_mono (fun o h' q => ?_) (sX5_readRule_57 A (Or.inr rfl) r1.1 r1.2)
    obtain ⟨q1, q3, F⟩ := q
    have HF : HK 48 h h' := HK_RK F (Or.inl rfl)
    have fi : ∀ k, hI h' 48 k = hI h 48 k := fun k => F.2.1 48 k (by decide) (by decide) (by decide)
    rcases u : exP tp n 1 6 (tk tp n p).2.2 with e | ⟨q, L⟩
    · rw [u] at q3
      exact ⟨q1, q3, HF⟩
    · rw [u] at q3
      exact ⟨q1, ⟨q3.1, by rw [HF.2.2.2]; exact i1, ⟨by rw [fi]; exact d1, d2⟩, ⟨by rw [fi]; exact d3, d4⟩, ⟨by rw [F.1 _ (by decide)]; exact w1, by rw [F.1 _ (by decide)]; exact w2, by rw [F.1 _ (by decide)]; exact w3⟩, ⟨by rw [F.1 _ (by decide)]; exact p1, by rw [F.1 _ (by decide)]; exact p2, by rw [F.1 _ (by decide)]; exact p3, by rw [F.1 _ (by decide)]; exact p4, by rw [F.1 _ (by decide)]; exact p5⟩, q3.2, rlD_fr r2 (F.2.1 60 2 (by decide) (by decide) (by decide)) (F.2.1 60 3 (by decide) (by decide) (by decide)) (F.1 61 (by decide))⟩, HF⟩
  · rw [if_pos (show (some L0).isSome = true from rfl)]
    rw [eo] at r1
    exact Spec_mono (fun o h' q => ⟨q.1, q.2.1, HK_FL q.2.2⟩) (sX5_readRule_57_x A r1.1)
theorem feels_L_48 {h : HP} {tp : Int → Int} {n p : Nat} {D : DR} (A : TG h tp n p) (i1 : hR h 63 1 = 48) (Dd : DRf h 48 D) : SpecK mX5_readRule [vr 63, vr 60, vi 0] h (fun o h' => o = .inl none ∧ LNr h' 48 tp n (feB tp n D p) ∧ HK 48 h h') := by
  obtain ⟨⟨d1, d2⟩, ⟨d3, d4⟩, ⟨w1, w2, w3⟩, ⟨p1, p2, p3, p4, p5⟩, r1, r2⟩ := id Dd
  unfold feB
  rcases eo : D.2.2.2.2 with _ | L0
  · rw [if_neg (by decide)]
    rw [eo] at r2
    refine Spec_mono (fun o h' q => ?_) (sX5_readRule_60 A (Or.inl rfl) r2.1 r2.2)
    obtain ⟨q1, q3, F⟩ := q
    have HF : HK 48 h h' := HK_RK F (Or.inr rfl)
    have fi : ∀ k, hI h' 48 k = hI h 48 k := fun k => F.2.1 48 k (by decide) (by decide) (by decide)
    rcases u : exP tp n 0 6 (tk tp n p).2.2 with e | ⟨q, L⟩
    · rw [u] at q3
      exact ⟨q1, q3, HF⟩
    · rw [u] at q3
      exact ⟨q1, ⟨q3.1, by rw [HF.2.2.2]; exact i1, ⟨by rw [fi]; exact d1, d2⟩, ⟨by rw [fi]; exact d3, d4⟩, ⟨by rw [F.1 _ (by decide)]; exact w1, by rw [F.1 _ (by decide)]; exact w2, by rw [F.1 _ (by decide)]; exact w3⟩, ⟨by rw [F.1 _ (by decide)]; exact p1, by rw [F.1 _ (by decide)]; exact p2, by rw [F.1 _ (by decide)]; exact p3, by rw [F.1 _ (by decide)]; exact p4, by rw [F.1 _ (by decide)]; exact p5⟩, rlD_fr r1 (F.2.1 57 2 (by decide) (by decide) (by decide)) (F.2.1 57 3 (by decide) (by decide) (by decide)) (F.1 58 (by decide)), q3.2⟩, HF⟩
  · rw [if_pos (show (some L0).isSome = true from rfl)]
    rw [eo] at r2
    exact Spec_mono (fun o h' q => ⟨q.1, q.2.1, HK_FL q.2.2⟩) (sX5_readRule_60_x A r2.1)
