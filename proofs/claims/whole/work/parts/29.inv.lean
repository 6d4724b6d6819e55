/-! heaps that are the same but for some cells -/
def FL (la : List Nat) (li lr : List (Nat × Nat)) (h h' : HP) : Prop := (∀ a, la.contains a = false → hA h' a = hA h a) ∧ (∀ a k, li.contains (a, k) = false → hI h' a k = hI h a k) ∧ ∀ a k, lr.contains (a, k) = false → hR h' a k = hR h a k
theorem FL_rf {la : List Nat} {li lr : List (Nat × Nat)} {h : HP} : FL la li lr h h := ⟨fun _ _ => rfl, fun _ _ _ => rfl, fun _ _ _ => rfl⟩
theorem FL_tr {la : List Nat} {li lr : List (Nat × Nat)} {h h1 h2 : HP} (a : FL la li lr h h1) (b : FL la li lr h1 h2) : FL la li lr h h2 := ⟨fun x hx => (b.1 x hx).trans (a.1 x hx), fun x k hx => (b.2.1 x k hx).trans (a.2.1 x k hx), fun x k hx => (b.2.2 x k hx).trans (a.2.2 x k hx)⟩
theorem FL_up {la lb : List Nat} {li lj lr ls : List (Nat × Nat)} {h h' : HP} (F : FL la li lr h h') (h1 : la.all lb.contains = true) (h2 : li.all lj.contains = true) (h3 : lr.all ls.contains = true) : FL lb lj ls h h' := by
  have key : ∀ {α : Type} [BEq α] [LawfulBEq α] (xs ys : List α) (x : α), xs.all ys.contains = true → ys.contains x = false → xs.contains x = false := by
    intro α _ _ xs ys x q1 q2
    cases e : xs.contains x
    · rfl
    · have := List.all_eq_true.mp q1 x (List.contains_iff_mem.mp e)
      rw [q2] at this
      cases this
  exact ⟨fun a ha => F.1 a (key _ _ _ h1 ha), fun a k ha => F.2.1 a k (key _ _ _ h2 ha), fun a k ha => F.2.2 a k (key _ _ _ h3 ha)⟩
theorem ncon {α : Type} [BEq α] [LawfulBEq α] {xs : List α} {q : α → Bool} (hq : xs.all (fun x => !q x) = true) {a : α} (ha : q a = true) : xs.contains a = false := by
  cases e : xs.contains a
  · rfl
  · have := List.all_eq_true.mp hq a (List.contains_iff_mem.mp e)
    rw [ha] at this
    cases this
theorem FL_sA {h : HP} {a : Nat} {i x : Int} {la : List Nat} {li lr : List (Nat × Nat)} (ha : la.contains a = true) : FL la li lr h (sA h a i x) := by
  obtain ⟨-, f, i1, r1⟩ := sA_fx (g := sA h a i x) rfl
  exact ⟨fun b hb => f b (fun e => by rw [e, ha] at hb; cases hb), fun _ _ _ => by rw [i1], fun _ _ _ => by rw [r1]⟩
theorem FL_sF {h : HP} {a : Nat} {g : Int → Int} {la : List Nat} {li lr : List (Nat × Nat)} (ha : la.contains a = true) : FL la li lr h (sF h a g) := by
  obtain ⟨-, f, i1, r1⟩ := sF_fx (g := sF h a g) rfl
  exact ⟨fun b hb => f b (fun e => by rw [e, ha] at hb; cases hb), fun _ _ _ => by rw [i1], fun _ _ _ => by rw [r1]⟩
theorem FL_sI {h : HP} {a k : Nat} {x : Int} {la : List Nat} {li lr : List (Nat × Nat)} (ha : li.contains (a, k) = true) : FL la li lr h (sI h a k x) := by
  obtain ⟨-, f, a1, r1⟩ := sI_fx (g := sI h a k x) rfl
  refine ⟨fun _ _ => by rw [a1], fun b j hb => f b j ?_, fun _ _ _ => by rw [r1]⟩
  by_cases e : b = a
  · exact Or.inr (fun e2 => by rw [e, e2, ha] at hb; cases hb)
  · exact Or.inl e
theorem FL_sR {h : HP} {a k x : Nat} {la : List Nat} {li lr : List (Nat × Nat)} (ha : lr.contains (a, k) = true) : FL la li lr h (sR h a k x) := by
  obtain ⟨-, f, a1, i1⟩ := sR_fx (g := sR h a k x) rfl
  refine ⟨fun _ _ => by rw [a1], fun _ _ _ => by rw [i1], fun b j hb => f b j ?_⟩
  by_cases e : b = a
  · exact Or.inr (fun e2 => by rw [e, e2, ha] at hb; cases hb)
  · exact Or.inl e
/-! what is kept, seen; a house now; all that calls show -/
abbrev SN : Type := Nat × (Nat → Int) × (Nat → Int) × (Nat → Int) × (Nat → Int)
def seR (h : HP) (e : Nat) (s : SN) : Prop := s.1 ≤ 8 ∧ hI h e 4 = (s.1 : Int) ∧ ∀ i : Nat, i < s.1 → hA h (e + 1) (i : Int) = s.2.1 i ∧ hA h (e + 2) (i : Int) = s.2.2.1 i ∧ hA h (e + 3) (i : Int) = s.2.2.2.1 i ∧ hA h (e + 4) (i : Int) = s.2.2.2.2 i
def seO (S : HS) (s : SN) : Prop := ∀ i : Nat, i < s.1 → (0 ≤ s.2.1 i ∧ s.2.1 i < sNp S) ∧ (0 ≤ s.2.2.1 i ∧ s.2.2.1 i < sNt S) ∧ (0 ≤ s.2.2.2.1 i ∧ s.2.2.2.1 i ≤ 30) ∧ (0 ≤ s.2.2.2.2 i ∧ s.2.2.2.2 i ≤ 9)
def seP (s : SN) (p t d n : Int) : SN := (s.1 + 1, fun i => if i = s.1 then p else s.2.1 i, fun i => if i = s.1 then t else s.2.2.1 i, fun i => if i = s.1 then d else s.2.2.2.1 i, fun i => if i = s.1 then n else s.2.2.2.2 i)
abbrev AC : Type := Nat × (Nat → Int → Int)
def acR (h : HP) (a : Nat) (c : AC) : Prop := ∃ o : Nat, o < 40 ∧ hI h a 1 = (o : Int) ∧ hI h a 2 = (c.1 : Int) ∧ c.1 ≤ 40 ∧ ∀ i : Nat, i < c.1 → ∀ j : Int, 0 ≤ j → j < 77 → hA h (a + 1) ((((o + i) % 40 : Nat) : Int) * 77 + j) = c.2 i j
def acP (c : AC) (f : Int → Int) : AC := if c.1 < 40 then (c.1 + 1, fun i => if i = c.1 then f else c.2 i) else (40, fun i => if i = 39 then f else c.2 (i + 1))
/-- a case weighs at most what it holds; nothing lies where no case and no thing is -/
def wgF (w f : Int → Int) (c : Int) (n : Nat) : Int := itN (fun k v => v + w (k : Int) * f (35 + c * 6 + (k : Int))) 0 n
def wH (S : HS) (f : Int → Int) : Prop := (∀ c : Int, 0 ≤ c → c < sNp S → wgF (sW S) f c (sNt S) ≤ sH S c) ∧ ∀ c t : Int, 0 ≤ c → c < 7 → 0 ≤ t → t < 6 → (sNp S ≤ c ∨ sNt S ≤ t) → f (35 + c * 6 + t) = 0
/-- no two have one case -/
def cP (S : HS) (f : Int → Int) : Prop := ∀ p q : Int, 0 ≤ p → p < sNp S → 0 ≤ q → q < sNp S → f (8 + p) = f (8 + q) → p = q
def pkP (S : HS) (f : Int → Int) : Prop := ∀ p : Int, 0 ≤ p → p < sNp S → f (22 + p) < sNp S ∧ f (22 + p) ≠ p
def rowOK (S : HS) (f : Int → Int) : Prop := rT 600 f ∧ rC S f ∧ f 0 ≤ 9999 ∧ wH S f ∧ cP S f ∧ pkP S f
abbrev SV : Type := (Int → Int) × AC × SN
def svR (h : HP) (s a e : Nat) (v : SV) : Prop := hA h (s + 1) = v.1 ∧ acR h a v.2.1 ∧ seR h e v.2.2
def svO (S : HS) (v : SV) : Prop := rowOK S v.1 ∧ (∀ i, i < v.2.1.1 → rowOK S (v.2.1.2 i)) ∧ seO S v.2.2
abbrev AS : Type := HS × SV × Option SV × (Int → Int) × Nat × (Int × Int × Int) × Int
def sb (x : Int) : Int := if x < 128 then x else x - 256
def imR (h : HP) (S : HS) (o : Option SV) : Prop := match o with
  | none => hI h 30 17 = 0
  | some v => hI h 30 17 = 1 ∧ svR h 75 77 79 v ∧ svO S v
def tpR (h : HP) (tp : Int → Int) (nt : Nat) (rf : Int × Int × Int) (fl : Int) : Prop := hI h 30 15 = (nt : Int) ∧ nt ≤ 700 ∧ (∀ i : Int, 0 ≤ i → i < nt → (0 ≤ tp i ∧ tp i < 256) ∧ hA h 31 i = sb (tp i)) ∧ (hA h 32 0 = rf.1 ∧ hA h 32 1 = rf.2.1 ∧ hA h 32 2 = rf.2.2) ∧ hI h 30 16 = fl
def CI (h : HP) (A : AS) : Prop := ∃ t : Nat, (t = 33 ∨ t = 48) ∧ hR h 30 2 = t ∧ hR h 30 3 = 81 - t ∧ cHS h t A.1 ∧ hsW A.1 ∧ G32 h ∧ svR h 66 68 70 A.2.1 ∧ svO A.1 A.2.1 ∧ imR h A.1 A.2.2.1 ∧ tpR h A.2.2.2.1 A.2.2.2.2.1 A.2.2.2.2.2.1 A.2.2.2.2.2.2
/-- nothing of the reference's own cells -/
def FM (h h' : HP) : Prop := (∀ a, a < 30 → hA h' a = hA h a) ∧ (∀ k, hI h' 0 k = hI h 0 k) ∧ ∀ k, hR h' 0 k = hR h 0 k
theorem FM_rf {h : HP} : FM h h := ⟨fun _ _ => rfl, fun _ => rfl, fun _ => rfl⟩
theorem FM_tr {h h1 h2 : HP} (a : FM h h1) (b : FM h1 h2) : FM h h2 := ⟨fun x hx => (b.1 x hx).trans (a.1 x hx), fun k => (b.2.1 k).trans (a.2.1 k), fun k => (b.2.2 k).trans (a.2.2 k)⟩
theorem FM_FS {h h' : HP} (F : FS h h') : FM h h' := by
  have key : ∀ a, a < 30 → scA a = false := by decide
  refine ⟨fun a ha => F.1 a (key a ha), fun k => F.2.1 0 k ?_, fun k => F.2.2.1 0 k ?_⟩
  · show List.contains _ _ = false
    simp
  · show List.contains _ _ = false
    simp
theorem FM_FL {la : List Nat} {li lr : List (Nat × Nat)} {h h' : HP} (F : FL la li lr h h') (h1 : la.all (fun x => !(decide (x < 30))) = true) (h2 : li.all (fun x => !(decide (x.1 = 0))) = true) (h3 : lr.all (fun x => !(decide (x.1 = 0))) = true) : FM h h' :=
  ⟨fun a ha => F.1 a (ncon (q := fun x => decide (x < 30)) h1 (decide_eq_true ha)), fun k => F.2.1 0 k (ncon (q := fun x : Nat × Nat => decide (x.1 = 0)) h2 rfl), fun k => F.2.2 0 k (ncon (q := fun x : Nat × Nat => decide (x.1 = 0)) h3 rfl)⟩
theorem CI_CQ {h : HP} {A : AS} {t : Nat} (ht : t = 33 ∨ t = 48) (h2 : hR h 30 2 = t) (hS : cHS h t A.1) (hB : hsW A.1) (G : G32 h) (hv : svR h 66 68 70 A.2.1) (hO : svO A.1 A.2.1) : CQ h t A.1 600 A.2.1.1 := ⟨ht, h2, hS, hB, hv.1, hO.1.1, hO.1.2.1, hO.1.2.2.1, G⟩
/-! what stays under a frame -/
theorem acR_fr {h h' : HP} {a : Nat} {c : AC} (k : acR h a c) (h1 : hI h' a 1 = hI h a 1) (h2 : hI h' a 2 = hI h a 2) (h3 : hA h' (a + 1) = hA h (a + 1)) : acR h' a c := by
  obtain ⟨o, k1, k2, k3, k4, k5⟩ := k
  exact ⟨o, k1, by rw [h1]; exact k2, by rw [h2]; exact k3, k4, by rw [h3]; exact k5⟩
theorem seR_fr {h h' : HP} {e : Nat} {s : SN} (k : seR h e s) (h0 : hI h' e 4 = hI h e 4) (h1 : hA h' (e + 1) = hA h (e + 1)) (h2 : hA h' (e + 2) = hA h (e + 2)) (h3 : hA h' (e + 3) = hA h (e + 3)) (h4 : hA h' (e + 4) = hA h (e + 4)) : seR h' e s := by
  obtain ⟨k1, k2, k3⟩ := k
  exact ⟨k1, by rw [h0]; exact k2, by rw [h1, h2, h3, h4]; exact k3⟩
theorem svR_fr {h h' : HP} {s a e : Nat} {v : SV} (k : svR h s a e v) (h0 : hA h' (s + 1) = hA h (s + 1)) (h1 : hI h' a 1 = hI h a 1) (h2 : hI h' a 2 = hI h a 2) (h3 : hA h' (a + 1) = hA h (a + 1)) (h4 : hI h' e 4 = hI h e 4) (h5 : hA h' (e + 1) = hA h (e + 1)) (h6 : hA h' (e + 2) = hA h (e + 2)) (h7 : hA h' (e + 3) = hA h (e + 3)) (h8 : hA h' (e + 4) = hA h (e + 4)) : svR h' s a e v :=
  ⟨by rw [h0]; exact k.1, acR_fr k.2.1 h1 h2 h3, seR_fr k.2.2 h4 h5 h6 h7 h8⟩
theorem imR_fr {h h' : HP} {S : HS} {o : Option SV} (k : imR h S o) (h17 : hI h' 30 17 = hI h 30 17) (h0 : hA h' (75 + 1) = hA h (75 + 1)) (h1 : hI h' 77 1 = hI h 77 1) (h2 : hI h' 77 2 = hI h 77 2) (h3 : hA h' (77 + 1) = hA h (77 + 1)) (h4 : hI h' 79 4 = hI h 79 4) (h5 : hA h' (79 + 1) = hA h (79 + 1)) (h6 : hA h' (79 + 2) = hA h (79 + 2)) (h7 : hA h' (79 + 3) = hA h (79 + 3)) (h8 : hA h' (79 + 4) = hA h (79 + 4)) : imR h' S o := by
  cases o with
  | none => show hI h' 30 17 = 0; rw [h17]; exact k
  | some v => exact ⟨by rw [h17]; exact k.1, svR_fr k.2.1 h0 h1 h2 h3 h4 h5 h6 h7 h8, k.2.2⟩
theorem tpR_fr {h h' : HP} {tp : Int → Int} {nt : Nat} {rf : Int × Int × Int} {fl : Int} (k : tpR h tp nt rf fl) (h1 : hI h' 30 15 = hI h 30 15) (h2 : hI h' 30 16 = hI h 30 16) (h3 : hA h' 31 = hA h 31) (h4 : hA h' 32 = hA h 32) : tpR h' tp nt rf fl := by
  obtain ⟨k1, k2, k3, k4, k5⟩ := k
  exact ⟨by rw [h1]; exact k1, k2, by rw [h3]; exact k3, by rw [h4]; exact k4, by rw [h2]; exact k5⟩
theorem CI_FS {h h' : HP} {A : AS} (I : CI h A) (F : FS h h') : CI h' A := by
  obtain ⟨t, ht, i2, i3, i4, i5, i6, i7, i8, i9, i10⟩ := I
  obtain ⟨f1, f2, f3, f4⟩ := id F
  exact ⟨t, ht, by rw [f3 _ _ rfl]; exact i2, by rw [f3 _ _ rfl]; exact i3, cHS_FS ht F i4, i5, f4,
    svR_fr i7 (f1 _ rfl) (f2 _ _ rfl) (f2 _ _ rfl) (f1 _ rfl) (f2 _ _ rfl) (f1 _ rfl) (f1 _ rfl) (f1 _ rfl) (f1 _ rfl), i8,
    imR_fr i9 (f2 _ _ rfl) (f1 _ rfl) (f2 _ _ rfl) (f2 _ _ rfl) (f1 _ rfl) (f2 _ _ rfl) (f1 _ rfl) (f1 _ rfl) (f1 _ rfl) (f1 _ rfl),
    tpR_fr i10 (f2 _ _ rfl) (f2 _ _ rfl) (f1 _ rfl) (f1 _ rfl)⟩
/-- an act: scratch cells, the row now, the rows kept -/
def FX (h h' : HP) : Prop := (∀ a, scA a = false → a ≠ 67 → a ≠ 69 → hA h' a = hA h a) ∧ (∀ a k, scI a k = false → a ≠ 68 → hI h' a k = hI h a k) ∧ (∀ a k, scR a k = false → hR h' a k = hR h a k) ∧ G32 h'
theorem FX_tr {h h1 h2 : HP} (a : FX h h1) (b : FX h1 h2) : FX h h2 := ⟨fun x hx h67 h69 => (b.1 x hx h67 h69).trans (a.1 x hx h67 h69), fun x k hx h68 => (b.2.1 x k hx h68).trans (a.2.1 x k hx h68), fun x k hx => (b.2.2.1 x k hx).trans (a.2.2.1 x k hx), b.2.2.2⟩
theorem FX_FS {h h' : HP} (F : FS h h') : FX h h' := ⟨fun a ha _ _ => F.1 a ha, fun a k ha _ => F.2.1 a k ha, F.2.2.1, F.2.2.2⟩
theorem G32_FL {la : List Nat} {li lr : List (Nat × Nat)} {h h' : HP} (F : FL la li lr h h') (G : G32 h) (h1 : la.all (fun x => !([44, 47, 59, 62, 87, 104].contains x)) = true) (h3 : lr.all (fun x => !([(84, 3), (84, 4)].contains x)) = true) : G32 h' := by
  obtain ⟨g1, g2, g3, g4, g5, g6, g7⟩ := G
  have e : ∀ a, [44, 47, 59, 62, 87, 104].contains a = true → hA h' a = hA h a := fun a ha => F.1 a (ncon (q := fun x => [44, 47, 59, 62, 87, 104].contains x) h1 ha)
  have e2 : ∀ k : Nat, [(84, 3), (84, 4)].contains (84, k) = true → hR h' 84 k = hR h 84 k := fun k hk => F.2.2 84 k (ncon (q := fun x => [(84, 3), (84, 4)].contains x) h3 hk)
  exact ⟨by rw [e 44 rfl]; exact g1, by rw [e 47 rfl]; exact g2, by rw [e 59 rfl]; exact g3, by rw [e 62 rfl]; exact g4, by rw [e 87 rfl]; exact g5, by rw [e 104 rfl]; exact g6, by rw [e2 3 rfl, e2 4 rfl]; exact g7⟩
theorem FX_FL {h h' : HP} (F : FL [67, 69] [(68, 1), (68, 2)] [] h h') (G : G32 h) : FX h h' := by
  refine ⟨fun a _ h67 h69 => F.1 a ?_, fun a k _ h68 => F.2.1 a k ?_, fun a k _ => F.2.2 a k rfl, G32_FL F G rfl rfl⟩
  · simp [h67, h69]
  · simp [h68]
theorem CI_act {h h' : HP} {S : HS} {f g : Int → Int} {C C' : AC} {N : SN} {im : Option SV} {tp : Int → Int} {nt : Nat} {rf : Int × Int × Int} {fl : Int} (I : CI h (S, (f, C, N), im, tp, nt, rf, fl)) (X : FX h h') (hf : hA h' 67 = g) (hc : acR h' 68 C') (hg : rowOK S g) (hC : ∀ i, i < C'.1 → rowOK S (C'.2 i)) : CI h' (S, (g, C', N), im, tp, nt, rf, fl) ∧ FM h h' := by
  obtain ⟨t, ht, i2, i3, i4, i5, i6, i7, i8, i9, i10⟩ := I
  obtain ⟨x1, x2, x3, x4⟩ := id X
  have f1 : ∀ a, scA a = false → a ≠ 67 → a ≠ 69 → hA h' a = hA h a := x1
  have hS : cHS h' t S := by
    obtain ⟨⟨k1, k2, k3, k4, k5⟩, ⟨k6, k7⟩, k8, k9⟩ := i4
    rcases ht with rfl | rfl
    · exact ⟨⟨by rw [f1 _ rfl (by decide) (by decide)]; exact k1, by rw [f1 _ rfl (by decide) (by decide)]; exact k2, by rw [f1 _ rfl (by decide) (by decide)]; exact k3, by rw [f1 _ rfl (by decide) (by decide)]; exact k4, by rw [f1 _ rfl (by decide) (by decide)]; exact k5⟩, ⟨by rw [x2 _ _ rfl (by decide)]; exact k6, by rw [x2 _ _ rfl (by decide)]; exact k7⟩, rlR_FS k8 (x2 _ _ rfl (by decide)) (x2 _ _ rfl (by decide)) (f1 _ rfl (by decide) (by decide)), rlR_FS k9 (x2 _ _ rfl (by decide)) (x2 _ _ rfl (by decide)) (f1 _ rfl (by decide) (by decide))⟩
    · exact ⟨⟨by rw [f1 _ rfl (by decide) (by decide)]; exact k1, by rw [f1 _ rfl (by decide) (by decide)]; exact k2, by rw [f1 _ rfl (by decide) (by decide)]; exact k3, by rw [f1 _ rfl (by decide) (by decide)]; exact k4, by rw [f1 _ rfl (by decide) (by decide)]; exact k5⟩, ⟨by rw [x2 _ _ rfl (by decide)]; exact k6, by rw [x2 _ _ rfl (by decide)]; exact k7⟩, rlR_FS k8 (x2 _ _ rfl (by decide)) (x2 _ _ rfl (by decide)) (f1 _ rfl (by decide) (by decide)), rlR_FS k9 (x2 _ _ rfl (by decide)) (x2 _ _ rfl (by decide)) (f1 _ rfl (by decide) (by decide))⟩
  refine ⟨⟨t, ht, by rw [x3 _ _ rfl]; exact i2, by rw [x3 _ _ rfl]; exact i3, hS, i5, x4, ⟨hf, hc, seR_fr i7.2.2 (x2 _ _ rfl (by decide)) (f1 _ rfl (by decide) (by decide)) (f1 _ rfl (by decide) (by decide)) (f1 _ rfl (by decide) (by decide)) (f1 _ rfl (by decide) (by decide))⟩, ⟨hg, hC, i8.2.2⟩,
    imR_fr i9 (x2 _ _ rfl (by decide)) (f1 _ rfl (by decide) (by decide)) (x2 _ _ rfl (by decide)) (x2 _ _ rfl (by decide)) (f1 _ rfl (by decide) (by decide)) (x2 _ _ rfl (by decide)) (f1 _ rfl (by decide) (by decide)) (f1 _ rfl (by decide) (by decide)) (f1 _ rfl (by decide) (by decide)) (f1 _ rfl (by decide) (by decide)),
    tpR_fr i10 (x2 _ _ rfl (by decide)) (x2 _ _ rfl (by decide)) (f1 _ rfl (by decide) (by decide)) (f1 _ rfl (by decide) (by decide))⟩, ?_⟩
  have key : ∀ a, a < 30 → scA a = false := by decide
  refine ⟨fun a ha => x1 a (key a ha) (by omega) (by omega), fun k => x2 0 k ?_ (by decide), fun k => x3 0 k ?_⟩
  · show List.contains _ _ = false
    simp
  · show List.contains _ _ = false
    simp
/-- one more is kept -/
theorem acR_keep {g g' f : Int → Int} {o : Nat} {c : AC} (ho : o < 40) (hc : c.1 ≤ 40) (h : ∀ i : Nat, i < c.1 → ∀ j : Int, 0 ≤ j → j < 77 → g ((((o + i) % 40 : Nat) : Int) * 77 + j) = c.2 i j) (hg : g' = cpF f g 0 ((((o + c.1) % 40 : Nat) : Int) * 77) 77) : ∃ o' : Nat, o' < 40 ∧ o' = (if c.1 < 40 then o else (o + 1) % 40) ∧ (acP c f).1 ≤ 40 ∧ (acP c f).1 = (if c.1 < 40 then c.1 + 1 else 40) ∧ ∀ i : Nat, i < (acP c f).1 → ∀ j : Int, 0 ≤ j → j < 77 → g' ((((o' + i) % 40 : Nat) : Int) * 77 + j) = (acP c f).2 i j := by
  have inb : ∀ j : Int, 0 ≤ j → j < 77 → ∀ u : Nat, u = (o + c.1) % 40 → g' ((u : Int) * 77 + j) = f j := by
    intro j j0 j1 u hu
    rw [hg]
    unfold cpF
    rw [if_pos (by subst hu; omega)]
    congr 1
    subst hu
    omega
  have outb : ∀ j : Int, 0 ≤ j → j < 77 → ∀ u : Nat, u ≠ (o + c.1) % 40 → g' ((u : Int) * 77 + j) = g ((u : Int) * 77 + j) := by
    intro j j0 j1 u hu
    rw [hg]
    unfold cpF
    rw [if_neg (by omega)]
  by_cases e : c.1 < 40
  · have ea : acP c f = (c.1 + 1, fun i => if i = c.1 then f else c.2 i) := if_pos e
    refine ⟨o, ho, (if_pos e).symm, by rw [ea]; show c.1 + 1 ≤ 40; omega, by rw [ea, if_pos e], fun i hi j j0 j1 => ?_⟩
    rw [ea] at hi ⊢
    have hi : i < c.1 + 1 := hi
    show _ = (if i = c.1 then f else c.2 i) j
    by_cases z : i = c.1
    · rw [if_pos z]
      exact inb j j0 j1 _ (by rw [z])
    · rw [if_neg z, outb j j0 j1 _ (by omega)]
      exact h i (by omega) j j0 j1
  · have ea : acP c f = (40, fun i => if i = 39 then f else c.2 (i + 1)) := if_neg e
    refine ⟨(o + 1) % 40, by omega, (if_neg e).symm, by rw [ea]; exact Nat.le_refl 40, by rw [ea, if_neg e], fun i hi j j0 j1 => ?_⟩
    rw [ea] at hi ⊢
    have hi : i < 40 := hi
    show _ = (if i = 39 then f else c.2 (i + 1)) j
    by_cases z : i = 39
    · rw [if_pos z]
      exact inb j j0 j1 _ (by omega)
    · rw [if_neg z, outb j j0 j1 _ (by omega)]
      have := h (i + 1) (by omega) j j0 j1
      rw [show (o + (i + 1)) % 40 = ((o + 1) % 40 + i) % 40 by omega] at this
      exact this
theorem acP_ok {S : HS} {f : Int → Int} {c : AC} (hf : rowOK S f) (h : ∀ i, i < c.1 → rowOK S (c.2 i)) (hc : c.1 ≤ 40) : ∀ i, i < (acP c f).1 → rowOK S ((acP c f).2 i) := by
  intro i hi
  unfold acP at hi ⊢
  by_cases e : c.1 < 40
  · rw [if_pos e] at hi ⊢
    have hi : i < c.1 + 1 := hi
    show rowOK S (if i = c.1 then f else c.2 i)
    by_cases z : i = c.1
    · rw [if_pos z]; exact hf
    · rw [if_neg z]; exact h i (by omega)
  · rw [if_neg e] at hi ⊢
    have hi : i < 40 := hi
    show rowOK S (if i = 39 then f else c.2 (i + 1))
    by_cases z : i = 39
    · rw [if_pos z]; exact hf
    · rw [if_neg z]; exact h (i + 1) (by omega)
