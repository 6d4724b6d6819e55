/-! what lies outside of an array's places doesn't count -/
theorem arrV_cg {c : ClassId} {n : Nat} {f g : Nat → Value} (h : ∀ j, j < n → f j = g j) : arrV c n f = arrV c n g := by
  unfold arrV
  rw [show (fun j : Fin n => f j.val) = (fun j : Fin n => g j.val) from funext (fun j => h j.val j.isLt)]
theorem va_rng {D : va_G} {C : Nat → ClassId} {as : Nat → Nat} {h h2 : HP} {H : Heap} (he : hI h = hI h2) (hr : hR h = hR h2) (ha : ∀ a i, 0 ≤ i → i < ((TT a).2 : Int) → hA h a i = hA h2 a i) (hP : va_P D vwCl (wsK as C h) H) : va_P D vwCl (wsK as C h2) H := by
  intro k q hq
  have hk : k < 120 := by
    rcases Nat.lt_or_ge k 120 with z | z
    · exact z
    · rw [List.getElem?_eq_none (by simp [wsK]; exact z)] at hq
      cases hq
  rw [wsK_get as C h2 hk] at hq
  cases hq
  have h1 := hP k _ (wsK_get as C h hk)
  have hfv : ∀ ci j, fv h2 k ci j = fv h k ci j := by
    intro ci j
    unfold fv
    rw [he, hr]
  have hn : ∀ i : Nat, i < (TT k).2 → hA h k i = hA h2 k i := fun i hi => ha k i (by omega) (by omega)
  show match (en as C h2 k) with
    | .inl a => H[as k]? = some (vp_cell a.1 a.2)
    | .inr o => ∃ r : vw_C, vwCl[o.1]? = some r ∧ t_OB (as k) (D.1 o.1) r.2.2 (D.2 o.1) H (vp_V o.2)
  have h1 : match (en as C h k) with
    | .inl a => H[as k]? = some (vp_cell a.1 a.2)
    | .inr o => ∃ r : vw_C, vwCl[o.1]? = some r ∧ t_OB (as k) (D.1 o.1) r.2.2 (D.2 o.1) H (vp_V o.2) := h1
  unfold en at h1 ⊢
  generalize hq : (TT k).1 = y at h1 ⊢
  match y, hq with
  | 0, _ =>
    simp only [hfv]
    exact h1
  | 1, _ =>
    have h1 : H[as k]? = some (arrV (C 0) (TT k).2 (fun j => .int (Int32.ofInt (hA h k j)))) := h1
    show H[as k]? = some (arrV (C 0) (TT k).2 (fun j => .int (Int32.ofInt (hA h2 k j))))
    rw [h1, arrV_cg (fun j hj => by rw [hn j hj])]
  | 2, _ =>
    have h1 : H[as k]? = some (arrV (C 1) (TT k).2 (fun j => .int (Int32.ofInt (hA h k j)))) := h1
    show H[as k]? = some (arrV (C 1) (TT k).2 (fun j => .int (Int32.ofInt (hA h2 k j))))
    rw [h1, arrV_cg (fun j hj => by rw [hn j hj])]
  | 3, _ =>
    have h1 : H[as k]? = some (arrV (C 2) (TT k).2 (fun j => .int (Int32.ofInt (hA h k j)))) := h1
    show H[as k]? = some (arrV (C 2) (TT k).2 (fun j => .int (Int32.ofInt (hA h2 k j))))
    rw [h1, arrV_cg (fun j hj => by rw [hn j hj])]
  | 4, _ =>
    have h1 : H[as k]? = some (arrV (C 3) (TT k).2 (fun j => .long (Int64.ofInt (hA h k j)))) := h1
    show H[as k]? = some (arrV (C 3) (TT k).2 (fun j => .long (Int64.ofInt (hA h2 k j))))
    rw [h1, arrV_cg (fun j hj => by rw [hn j hj])]
  | y + 5, _ => exact h1
theorem K_rng {M : MI} {G : CT → Prop} {Z : CT → State → Prop} {nc ns pc : Nat} {ls : List (Nat × AV)} {st : List AV} {h h2 : HP} (he : hI h = hI h2) (hr : hR h = hR h2) (ha : ∀ a i, 0 ≤ i → i < ((TT a).2 : Int) → hA h a i = hA h2 a i) (k : K M G Z nc ns pc ls st h2) : K M G Z nc ns pc ls st h := by
  intro p l e s m args below meth c D C as ad av H locs lsA cx hG hP hS hl
  exact k p l e s m args below meth c D C as ad av H locs lsA cx hG (va_rng he hr ha hP) hS hl
/-- one array, the same at its places -/
theorem K_rngF {M : MI} {G : CT → Prop} {Z : CT → State → Prop} {nc ns pc : Nat} {ls : List (Nat × AV)} {st : List AV} {h : HP} {a t n : Nat} {f g : Int → Int} (hT : TT a = (t, n)) (ha : ∀ i : Int, 0 ≤ i → i < n → f i = g i) (k : K M G Z nc ns pc ls st (sF h a g)) : K M G Z nc ns pc ls st (sF h a f) := by
  refine K_rng (h2 := sF h a g) rfl rfl (fun b i h0 h1 => ?_) k
  by_cases e : b = a
  · subst e
    rw [hT] at h1
    rw [hA_F, hA_F]
    exact ha i h0 h1
  · rw [hA_Fn e, hA_Fn e]
/-! what calls that only ask leave as it is -/
def scA (a : Nat) : Bool := [44, 47, 59, 62, 86, 87, 88, 89, 90, 93, 94, 95, 96, 97, 98, 99, 103, 104, 105, 106, 107, 108, 110, 111, 112, 113, 114, 115, 116, 118, 119].contains a
def scI (a k : Nat) : Bool := [(84, 6), (84, 7), (101, 6), (101, 7), (100, 4), (100, 5)].contains (a, k)
def scR (a k : Nat) : Bool := [(84, 3), (84, 4), (84, 5), (101, 3), (101, 4), (101, 5), (91, 1), (91, 2)].contains (a, k)
/-- the numbers that every evaluation leaves within 32 bits; the two ways arrays of a walk -/
def G32 (h : HP) : Prop := (∀ i, i32 (hA h 44 i)) ∧ (∀ i, i32 (hA h 47 i)) ∧ (∀ i, i32 (hA h 59 i)) ∧ (∀ i, i32 (hA h 62 i)) ∧ (∀ i, i32 (hA h 87 i)) ∧ (∀ i, i32 (hA h 104 i)) ∧ ((hR h 84 3 = 89 ∧ hR h 84 4 = 90) ∨ (hR h 84 3 = 90 ∧ hR h 84 4 = 89))
def FS (h h' : HP) : Prop := (∀ a, scA a = false → hA h' a = hA h a) ∧ (∀ a k, scI a k = false → hI h' a k = hI h a k) ∧ (∀ a k, scR a k = false → hR h' a k = hR h a k) ∧ G32 h'
theorem FS_rf {h : HP} (g : G32 h) : FS h h := ⟨fun _ _ => rfl, fun _ _ _ => rfl, fun _ _ _ => rfl, g⟩
theorem FS_tr {h h1 h2 : HP} (a : FS h h1) (b : FS h1 h2) : FS h h2 := ⟨fun x hx => (b.1 x hx).trans (a.1 x hx), fun x k hx => (b.2.1 x k hx).trans (a.2.1 x k hx), fun x k hx => (b.2.2.1 x k hx).trans (a.2.2.1 x k hx), b.2.2.2⟩
theorem rlR_FS {h h' : HP} {r : Nat} {mk : (Int → Int) → Int → Int} {o : Option ((Int → Int) → Int)} (k : rlR h r mk o) (h3 : hI h' r 3 = hI h r 3) (h2 : hI h' r 2 = hI h r 2) (ha : hA h' (r + 1) = hA h (r + 1)) : rlR h' r mk o := by
  cases o with
  | none =>
    show hI h' r 3 = 0
    rw [h3]; exact k
  | some F =>
    obtain ⟨k1, n, k2, k3, k4, k5⟩ := k
    exact ⟨by rw [h3]; exact k1, n, k2, by rw [h2]; exact k3, by rw [ha]; exact k4, by rw [ha]; exact k5⟩
theorem cHS_FS {h h' : HP} {t : Nat} {S : HS} (ht : t = 33 ∨ t = 48) (f : FS h h') (k : cHS h t S) : cHS h' t S := by
  obtain ⟨⟨k1, k2, k3, k4, k5⟩, ⟨k6, k7⟩, k8, k9⟩ := k
  rcases ht with rfl | rfl
  · exact ⟨⟨by rw [f.1 _ rfl]; exact k1, by rw [f.1 _ rfl]; exact k2, by rw [f.1 _ rfl]; exact k3, by rw [f.1 _ rfl]; exact k4, by rw [f.1 _ rfl]; exact k5⟩, ⟨by rw [f.2.1 _ _ rfl]; exact k6, by rw [f.2.1 _ _ rfl]; exact k7⟩, rlR_FS k8 (f.2.1 _ _ rfl) (f.2.1 _ _ rfl) (f.1 _ rfl), rlR_FS k9 (f.2.1 _ _ rfl) (f.2.1 _ _ rfl) (f.1 _ rfl)⟩
  · exact ⟨⟨by rw [f.1 _ rfl]; exact k1, by rw [f.1 _ rfl]; exact k2, by rw [f.1 _ rfl]; exact k3, by rw [f.1 _ rfl]; exact k4, by rw [f.1 _ rfl]; exact k5⟩, ⟨by rw [f.2.1 _ _ rfl]; exact k6, by rw [f.2.1 _ _ rfl]; exact k7⟩, rlR_FS k8 (f.2.1 _ _ rfl) (f.2.1 _ _ rfl) (f.1 _ rfl), rlR_FS k9 (f.2.1 _ _ rfl) (f.2.1 _ _ rfl) (f.1 _ rfl)⟩
/-- a walk's way stays within what doesn't count -/
theorem WK_FS {h0 h : HP} {w t : Nat} {S : HS} (X : WX h0 w t S) (k : WK h0 h w t) (g : G32 h0) : FS h0 h := by
  obtain ⟨hw, ht, -⟩ := X
  obtain ⟨k1, ⟨k2, k3, k4⟩, k5, k6⟩ := k
  have hA' : ∀ a, scA a = false → hA h a = hA h0 a := by
    intro a ha
    have q : ∀ b, scA b = true → a ≠ b := fun b hb e => by rw [e, hb] at ha; cases ha
    rcases hw with rfl | rfl <;> rcases ht with rfl | rfl <;> exact k1 a (q _ rfl) (q _ rfl) (q _ rfl) (q _ rfl) (q _ rfl)
  have hI' : ∀ a j, scI a j = false → hI h a j = hI h0 a j := by
    intro a j ha
    refine k5 a j ?_
    by_cases e : a = w
    · refine Or.inr (fun e2 => ?_)
      subst e; subst e2
      rcases hw with rfl | rfl <;> cases ha
    · exact Or.inl e
  refine ⟨hA', hI', fun a j _ => by rw [k6], ?_⟩
  have gg : ∀ a, a = 44 ∨ a = 47 ∨ a = 59 ∨ a = 62 ∨ a = 87 ∨ a = 104 → (∀ i, i32 (hA h0 a i)) → ∀ i, i32 (hA h a i) := by
    intro a ha hi i
    by_cases e1 : a = t + 9 + 2
    · rw [e1]; exact k2 i
    · by_cases e2 : a = t + 12 + 2
      · rw [e2]; exact k3 i
      · by_cases e3 : a = w + 3
        · rw [e3]; exact k4 i
        · rw [k1 a (by omega) e3 (by omega) e1 e2]; exact hi i
  obtain ⟨g1, g2, g3, g4, g5, g6, g7⟩ := g
  exact ⟨gg 44 (by omega) g1, gg 47 (by omega) g2, gg 59 (by omega) g3, gg 62 (by omega) g4, gg 87 (by omega) g5, gg 104 (by omega) g6, by rw [k6]; exact g7⟩
theorem WK_rf {h : HP} {w t : Nat} (hw : w = 84 ∨ w = 101) (ht : t = 33 ∨ t = 48) (g : G32 h) : WK h h w t := by
  obtain ⟨g1, g2, g3, g4, g5, g6, g7⟩ := g
  refine ⟨fun _ _ _ _ _ _ => rfl, ⟨?_, ?_, ?_⟩, fun _ _ _ => rfl, rfl⟩
  · rcases ht with rfl | rfl
    · exact g1
    · exact g3
  · rcases ht with rfl | rfl
    · exact g2
    · exact g4
  · rcases hw with rfl | rfl
    · exact g5
    · exact g6
