/-! the reference's way with an EXPR: operators wait; held against exP, purely -/
def sgF (x : Int) : Int := if x = -10 then 1 else if x = -11 then 2 else if x = -9 then 3 else if x = -12 ∨ x = -13 then 4 else if x = -14 ∨ x = -15 then 5 else 6
theorem sgF_b (x : Int) : 1 ≤ sgF x ∧ sgF x ≤ 6 := by
  unfold sgF
  split
  · omega
  · split
    · omega
    · split
      · omega
      · split
        · omega
        · split <;> omega
theorem sgF_4 {x : Int} (h : x = -12 ∨ x = -13) : sgF x = 4 := by unfold sgF; rw [if_neg (by omega), if_neg (by omega), if_neg (by omega), if_pos h]
theorem sgF_5 {x : Int} (h : x = -14 ∨ x = -15) : sgF x = 5 := by unfold sgF; rw [if_neg (by omega), if_neg (by omega), if_neg (by omega), if_neg (by omega), if_pos h]
theorem sgF_6 {x : Int} (h : x = -16 ∨ x = -17) : sgF x = 6 := by unfold sgF; rw [if_neg (by omega), if_neg (by omega), if_neg (by omega), if_neg (by omega), if_neg (by omega)]
def blk (s : Int) : List Int → Prop
  | [] => True
  | x :: _ => x = 0 ∨ sgF x < s
def opn (s : Int) (V : List Int) : Prop := ∀ x ∈ V, (-17 ≤ x ∧ x ≤ -9) ∧ s ≤ sgF x
theorem blk_up {s r : Int} {W : List Int} (h : blk s W) (hr : s ≤ r) : blk r W := by
  cases W with
  | nil => trivial
  | cons x W => exact h.imp id (fun z => by omega)
theorem blk_op {s : Int} {x : Int} {W : List Int} (h : sgF x < s) : blk s (x :: W) := Or.inr h
theorem opn_nil {s : Int} : opn s [] := fun x hx => absurd hx (List.not_mem_nil)
theorem opn_up {s r : Int} {V : List Int} (h : opn s V) (hr : r ≤ s) : opn r V := fun x hx => ⟨(h x hx).1, by have := (h x hx).2; omega⟩
theorem opn_ap {s : Int} {V U : List Int} (h : opn s V) (g : opn s U) : opn s (V ++ U) := fun x hx => by
  rcases List.mem_append.mp hx with z | z
  · exact h x z
  · exact g x z
theorem opn_one {s x : Int} (h : (-17 ≤ x ∧ x ≤ -9) ∧ s ≤ sgF x) : opn s [x] := fun y hy => by rw [List.mem_singleton.mp hy]; exact h
theorem opn_rep {s : Int} (h : s ≤ 3) (k : Nat) : opn s (List.replicate k (-9)) := fun x hx => by
  rw [List.eq_of_mem_replicate hx]
  exact ⟨by decide, by have : sgF (-9) = 3 := by decide; 
                       omega⟩
def ptF (tp : Int → Int) (n : Nat) (pu : Int) (p : Nat) : (Int × Nat) ⊕ (Nat × Int) :=
  if (tk tp n p).1 = 2 then (if (tk tp n p).2.1 + 4 < (tk tp n p).2.2 then .inl (2, (tk tp n p).2.1) else .inr ((tk tp n p).2.2, nmT tp (tk tp n p)))
  else if (tk tp n p).1 = 1 then (if vaW tp pu (tk tp n p) = 0 then .inl (3, (tk tp n p).2.1) else .inr ((tk tp n p).2.2, vaW tp pu (tk tp n p)))
  else .inl (1, (tk tp n p).2.1)
abbrev OR9 : Type := (Int × Nat) ⊕ (Nat × Int × List Int × List Bool)
def erP (tp : Int → Int) (n p : Nat) : Int × Nat := ((if (tk tp n p).1 = 2 ∨ (tk tp n p).1 = 1 ∨ Sg tp (tk tp n p) 40 then 2 else 1), (tk tp n p).2.1)
def ptO (W : List Int) (T : List Bool) : (Int × Nat) ⊕ (Nat × Int) → OR9
  | .inl e => .inl e
  | .inr (q, x) => .inr (q, x, W, T)
def opP (tp : Int → Int) (n : Nat) (pu : Int) : Nat → Nat → Nat → List Int → List Bool → OR9
  | 0, _, p, _, _ => .inl (1, p)
  | f + 1, k, p, W, T =>
    if k < 7 ∧ isWb tp (tk tp n p) 4 = true then (if k = 6 then .inl (2, (tk tp n p).2.1) else opP tp n pu f (k + 1) (tk tp n p).2.2 (-9 :: W) T)
    else if Sg tp (tk tp n p) 40 then (if T.length < 6 then opP tp n pu f 0 (tk tp n p).2.2 (0 :: W) (false :: T) else .inl (erP tp n (tk tp n p).2.2))
    else ptO W T (ptF tp n pu p)
section OPQ
variable {tp : Int → Int} {n : Nat} {pu : Int} {f k p : Nat} {W : List Int} {T : List Bool}
theorem opP_n (h : k < 6) (hw : isWb tp (tk tp n p) 4 = true) : opP tp n pu (f + 1) k p W T = opP tp n pu f (k + 1) (tk tp n p).2.2 (-9 :: W) T := by
  rw [opP, if_pos ⟨by omega, hw⟩, if_neg (by omega)]
theorem opP_6 (hw : isWb tp (tk tp n p) 4 = true) : opP tp n pu (f + 1) 6 p W T = .inl (2, (tk tp n p).2.1) := by
  rw [opP, if_pos ⟨by omega, hw⟩, if_pos rfl]
theorem opP_o (h : ¬ (k < 7 ∧ isWb tp (tk tp n p) 4 = true)) (hs : Sg tp (tk tp n p) 40) (ht : T.length < 6) : opP tp n pu (f + 1) k p W T = opP tp n pu f 0 (tk tp n p).2.2 (0 :: W) (false :: T) := by
  rw [opP, if_neg h, if_pos hs, if_pos ht]
theorem opP_x (h : ¬ (k < 7 ∧ isWb tp (tk tp n p) 4 = true)) (hs : Sg tp (tk tp n p) 40) (ht : ¬ T.length < 6) : opP tp n pu (f + 1) k p W T = .inl (erP tp n (tk tp n p).2.2) := by
  rw [opP, if_neg h, if_pos hs, if_neg ht]
theorem opP_p (h : ¬ (k < 7 ∧ isWb tp (tk tp n p) 4 = true)) (hs : ¬ Sg tp (tk tp n p) 40) : opP tp n pu (f + 1) k p W T = ptO W T (ptF tp n pu p) := by
  rw [opP, if_neg h, if_neg hs]
theorem Sg_w {t : TK} {c : Int} {i : Nat} (h : Sg tp t c) : ¬ isWb tp t i = true := fun z => by
  have z1 := (isWb_e z).1
  have z2 := h.1
  omega
end OPQ
def KOr (KL : Nat → List Int → List Int → List Bool → Prop) (KE : Int × Nat → Prop) (L : List Int) : OR9 → Prop
  | .inl e => KE e
  | .inr (q, x, W, T) => KL q (L ++ [x]) W T
def KO (tp : Int → Int) (n : Nat) (pu : Int) (KL : Nat → List Int → List Int → List Bool → Prop) (KE : Int × Nat → Prop) (k p : Nat) (L W : List Int) (T : List Bool) : Prop := ∀ f : Nat, n - p < f → KOr KL KE L (opP tp n pu f k p W T)
/-- what the loop of expression does at a token -/
def MA (tp : Int → Int) (n : Nat) (pu : Int) (KL : Nat → List Int → List Int → List Bool → Prop) (KE : Int × Nat → Prop) : Prop :=
  (∀ (p : Nat) (L V W : List Int) (b : Bool) (T : List Bool), p ≤ n → orS tp (tk tp n p) ≠ 0 → opn 1 V → blk 1 W → KO tp n pu KL KE 0 (tk tp n p).2.2 (L ++ V) (orS tp (tk tp n p) :: W) (false :: T) → KL p L (V ++ W) (b :: T)) ∧
  (∀ (p : Nat) (L V W : List Int) (b : Bool) (T : List Bool), p ≤ n → andS tp (tk tp n p) ≠ 0 → opn 2 V → blk 2 W → KO tp n pu KL KE 0 (tk tp n p).2.2 (L ++ V) (andS tp (tk tp n p) :: W) (false :: T) → KL p L (V ++ W) (b :: T)) ∧
  (∀ (p : Nat) (L V W : List Int) (T : List Bool), p ≤ n → tstS tp (tk tp n p) ≠ 0 → opn 4 V → blk 4 W → KO tp n pu KL KE 7 (tk tp n p).2.2 (L ++ V) (tstS tp (tk tp n p) :: W) (true :: T) → KL p L (V ++ W) (false :: T)) ∧
  (∀ (p : Nat) (L V W : List Int) (b : Bool) (T : List Bool), p ≤ n → sumS tp (tk tp n p) ≠ 0 → opn 5 V → blk 5 W → KO tp n pu KL KE 7 (tk tp n p).2.2 (L ++ V) (sumS tp (tk tp n p) :: W) (b :: T) → KL p L (V ++ W) (b :: T)) ∧
  (∀ (p : Nat) (L V W : List Int) (b : Bool) (T : List Bool), p ≤ n → prdS tp (tk tp n p) ≠ 0 → opn 6 V → blk 6 W → KO tp n pu KL KE 7 (tk tp n p).2.2 (L ++ V) (prdS tp (tk tp n p) :: W) (b :: T) → KL p L (V ++ W) (b :: T)) ∧
  (∀ (p : Nat) (L V W : List Int) (b c : Bool) (T : List Bool), p ≤ n → Sg tp (tk tp n p) 41 → opn 1 V → KL (tk tp n p).2.2 (L ++ V) W (c :: T) → KL p L (V ++ 0 :: W) (b :: c :: T)) ∧
  (∀ (p : Nat) (L V W : List Int) (b c : Bool) (T : List Bool), p ≤ n → ¬ Sg tp (tk tp n p) 41 → opn 1 V → (prdS tp (tk tp n p) = 0 ∧ sumS tp (tk tp n p) = 0 ∧ (b = false → tstS tp (tk tp n p) = 0)) ∧ andS tp (tk tp n p) = 0 ∧ orS tp (tk tp n p) = 0 → KE (1, (tk tp n p).2.1) → KL p L (V ++ 0 :: W) (b :: c :: T))
section YD
variable {tp : Int → Int} {n : Nat} {pu : Int} {KL : Nat → List Int → List Int → List Bool → Prop} {KE : Int × Nat → Prop} {k p q : Nat} {L W : List Int} {T : List Bool}
theorem KO_n (hp : p ≤ n) (h : k < 6) (hw : isWb tp (tk tp n p) 4 = true) (g : KO tp n pu KL KE (k + 1) (tk tp n p).2.2 L (-9 :: W) T) : KO tp n pu KL KE k p L W T := by
  intro f hf
  have ht := tk_lt hp (isWb_0 hw)
  have hn := tk_e (tp := tp) hp
  cases f with
  | zero => omega
  | succ f => rw [opP_n h hw]; exact g f (by omega)
theorem KO_6 (hw : isWb tp (tk tp n p) 4 = true) (g : KE (2, (tk tp n p).2.1)) : KO tp n pu KL KE 6 p L W T := by
  intro f hf
  cases f with
  | zero => omega
  | succ f => rw [opP_6 hw]; exact g
theorem KO_o (hp : p ≤ n) (hs : Sg tp (tk tp n p) 40) (ht : T.length < 6) (g : KO tp n pu KL KE 0 (tk tp n p).2.2 L (0 :: W) (false :: T)) : KO tp n pu KL KE k p L W T := by
  intro f hf
  have hl := tk_lt hp (by have := hs.1; omega : (tk tp n p).1 ≠ 0)
  have hn := tk_e (tp := tp) hp
  cases f with
  | zero => omega
  | succ f => rw [opP_o (fun z => Sg_w hs z.2) hs ht]; exact g f (by omega)
theorem KO_x (hs : Sg tp (tk tp n p) 40) (ht : ¬ T.length < 6) (g : KE (erP tp n (tk tp n p).2.2)) : KO tp n pu KL KE k p L W T := by
  intro f hf
  cases f with
  | zero => omega
  | succ f => rw [opP_x (fun z => Sg_w hs z.2) hs ht]; exact g
theorem KO_7 (hw : ¬ isWb tp (tk tp n p) 4 = true) (g : KO tp n pu KL KE 7 p L W T) : KO tp n pu KL KE k p L W T := by
  intro f hf
  have g1 := g f hf
  cases f with
  | zero => omega
  | succ f =>
    by_cases hs : Sg tp (tk tp n p) 40
    · by_cases ht : T.length < 6
      · rw [opP_o (fun z => hw z.2) hs ht] at g1 ⊢; exact g1
      · rw [opP_x (fun z => hw z.2) hs ht] at g1 ⊢; exact g1
    · rw [opP_p (fun z => hw z.2) hs] at g1 ⊢; exact g1
theorem KO_pe {e : Int × Nat} (hs : ¬ Sg tp (tk tp n p) 40) (he : ptF tp n pu p = .inl e) (g : KE e) : KO tp n pu KL KE 7 p L W T := by
  intro f hf
  cases f with
  | zero => omega
  | succ f => rw [opP_p (fun z => absurd z.1 (by decide)) hs, he]; exact g
theorem KO_pg {x : Int} (hs : ¬ Sg tp (tk tp n p) 40) (he : ptF tp n pu p = .inr (q, x)) (g : KL q (L ++ [x]) W T) : KO tp n pu KL KE 7 p L W T := by
  intro f hf
  cases f with
  | zero => omega
  | succ f => rw [opP_p (fun z => absurd z.1 (by decide)) hs, he]; exact g
/-- a level of the grammar, held against the loop -/
def LV (tp : Int → Int) (n : Nat) (pu : Int) (KL : Nat → List Int → List Int → List Bool → Prop) (KE : Int × Nat → Prop) (d k : Nat) (s : Int) (st : Bool → Prop) (fn : Nat → Bool → Prop) (rl : Bool → Bool → Prop) (sub : Nat → PR) : Prop :=
  ∀ (p : Nat) (L W : List Int) (b : Bool) (T : List Bool), st b → blk s W → T.length + d = 5 → p ≤ n →
    (∀ e, sub p = .inl e → KE e → KO tp n pu KL KE k p L W (b :: T)) ∧
    ∀ (q : Nat) (M : List Int), sub p = .inr (q, M) → (∀ (L' V : List Int) (b' : Bool), L' ++ V = L ++ M → opn s V → fn q b' → rl b b' → KL q L' (V ++ W) (b' :: T)) → KO tp n pu KL KE k p L W (b :: T)
/-- a chain of like operators -/
theorem LV_ch {d : Nat} {s : Int} {st : Bool → Prop} {fn : Nat → Bool → Prop} {rl : Bool → Bool → Prop} {sub : Nat → PR} {stp : (Int → Int) → TK → Int} {bt : Bool → Bool}
    (hO : PO n sub) (hS : SO stp) (hg : ∀ t, stp tp t ≠ 0 → (-17 ≤ stp tp t ∧ stp tp t ≤ -9) ∧ sgF (stp tp t) = s) (hst : ∀ b, st (bt b)) (htr : ∀ b0 b b', rl b0 b → rl (bt b) b' → rl b0 b')
    (hM : ∀ (p : Nat) (L V W : List Int) (b : Bool) (T : List Bool), p ≤ n → stp tp (tk tp n p) ≠ 0 → opn s V → blk s W → KO tp n pu KL KE k (tk tp n p).2.2 (L ++ V) (stp tp (tk tp n p) :: W) (bt b :: T) → KL p L (V ++ W) (b :: T))
    (hL : LV tp n pu KL KE d k (s + 1) st fn rl sub) {W : List Int} {b0 : Bool} {T : List Bool} (hW : blk s W) (hT : T.length + d = 5) (L : List Int) :
    ∀ (f p : Nat) (L' V M : List Int) (b : Bool), n ≤ p + f → p ≤ n → opn s V → L' ++ V = L ++ M → fn p b → rl b0 b →
      (∀ e, chP tp n sub stp f p M = .inl e → KE e → KL p L' (V ++ W) (b :: T)) ∧
      ∀ (q : Nat) (M' : List Int), chP tp n sub stp f p M = .inr (q, M') → (∀ (L2 V2 : List Int) (b' : Bool), L2 ++ V2 = L ++ M' → opn s V2 → (fn q b' ∧ stp tp (tk tp n q) = 0) → rl b0 b' → KL q L2 (V2 ++ W) (b' :: T)) → KL p L' (V ++ W) (b :: T) := by
  intro f
  induction f with
  | zero =>
    intro p L' V M b hf hp hV he hfn hrl
    have h0 : stp tp (tk tp n p) = 0 := by
      by_cases c : stp tp (tk tp n p) = 0
      · exact c
      · have h1 := tk_lt hp (hS _ _ c)
        have h2 := tk_e (tp := tp) hp
        omega
    refine ⟨fun e h1 _ => (by rw [chP_0 h0] at h1; cases h1), fun q M' h1 kx => ?_⟩
    rw [chP_0 h0] at h1
    obtain ⟨rfl, rfl⟩ := Prod.mk.inj (Sum.inr.inj h1)
    exact kx L' V b he hV ⟨hfn, h0⟩ hrl
  | succ f ih =>
    intro p L' V M b hf hp hV he hfn hrl
    by_cases h0 : stp tp (tk tp n p) = 0
    · refine ⟨fun e h1 _ => (by rw [chP_0 h0] at h1; cases h1), fun q M' h1 kx => ?_⟩
      rw [chP_0 h0] at h1
      obtain ⟨rfl, rfl⟩ := Prod.mk.inj (Sum.inr.inj h1)
      exact kx L' V b he hV ⟨hfn, h0⟩ hrl
    · have ht := tk_lt hp (hS _ _ h0)
      have hn := tk_e (tp := tp) hp
      have hgs := hg _ h0
      obtain ⟨k1, k2⟩ := hL (tk tp n p).2.2 (L' ++ V) (stp tp (tk tp n p) :: W) (bt b) T (hst b) (blk_op (by rw [hgs.2]; omega)) hT hn
      rcases hu : sub (tk tp n p).2.2 with e | ⟨u, N⟩
      · refine ⟨fun e' h1 hE => hM p L' V W b T hp h0 hV hW (k1 e hu ?_), fun q M' h1 _ => by rw [chP_e h0 hu] at h1; cases h1⟩
        rw [chP_e h0 hu] at h1
        rw [Sum.inl.inj h1]; exact hE
      · rw [chP_g h0 hu]
        have ho := hO _ _ _ hn hu
        have step : ∀ (L2 V2 : List Int) (b' : Bool), L2 ++ V2 = L' ++ V ++ N → opn (s + 1) V2 → fn u b' → rl (bt b) b' → _ := fun L2 V2 b' h1 h2 h3 h4 => ih u L2 (V2 ++ [stp tp (tk tp n p)]) (M ++ (N ++ [stp tp (tk tp n p)])) b' (by omega) ho.2.1 (opn_ap (opn_up h2 (by omega)) (opn_one ⟨hgs.1, by rw [hgs.2]; omega⟩)) (by rw [← List.append_assoc, h1, he]; simp [List.append_assoc]) h3 (htr _ _ _ hrl h4)
        refine ⟨fun e' h1 hE => hM p L' V W b T hp h0 hV hW (k2 u N hu (fun L2 V2 b' a1 a2 a3 a4 => ?_)), fun q M' h1 kx => hM p L' V W b T hp h0 hV hW (k2 u N hu (fun L2 V2 b' a1 a2 a3 a4 => ?_))⟩
        · have := (step L2 V2 b' a1 a2 a3 a4).1 e' h1 hE
          rw [List.append_assoc] at this
          exact this
        · have := (step L2 V2 b' a1 a2 a3 a4).2 q M' h1 kx
          rw [List.append_assoc] at this
          exact this
theorem LV_lv {d : Nat} {s : Int} {st : Bool → Prop} {fn : Nat → Bool → Prop} {rl : Bool → Bool → Prop} {sub : Nat → PR} {stp : (Int → Int) → TK → Int} {bt : Bool → Bool} (hn7 : n ≤ 700)
    (hO : PO n sub) (hS : SO stp) (hg : ∀ t, stp tp t ≠ 0 → (-17 ≤ stp tp t ∧ stp tp t ≤ -9) ∧ sgF (stp tp t) = s) (hst : ∀ b, st (bt b)) (htr : ∀ b0 b b', rl b0 b → rl (bt b) b' → rl b0 b')
    (hM : ∀ (p : Nat) (L V W : List Int) (b : Bool) (T : List Bool), p ≤ n → stp tp (tk tp n p) ≠ 0 → opn s V → blk s W → KO tp n pu KL KE k (tk tp n p).2.2 (L ++ V) (stp tp (tk tp n p) :: W) (bt b :: T) → KL p L (V ++ W) (b :: T))
    (hL : LV tp n pu KL KE d k (s + 1) st fn rl sub) : LV tp n pu KL KE d k s st (fun q b => fn q b ∧ stp tp (tk tp n q) = 0) rl (lvP tp n sub stp) := by
  intro p L W b T hb hW hT hp
  obtain ⟨k1, k2⟩ := hL p L W b T hb (blk_up hW (by omega)) hT hp
  rcases hu : sub p with e | ⟨u, N⟩
  · rw [lvP_e hu]
    exact ⟨fun e' h1 hE => k1 e hu (by rw [Sum.inl.inj h1]; exact hE), fun q M h1 _ => by cases h1⟩
  · rw [lvP_g hu]
    have ho := hO _ _ _ hp hu
    have step := fun (L2 V2 : List Int) (b' : Bool) (a1 : L2 ++ V2 = L ++ N) (a2 : opn (s + 1) V2) (a3 : fn u b') (a4 : rl b b') => LV_ch hO hS hg hst htr hM hL (b0 := b) hW hT L 700 u L2 V2 N b' (by omega) ho.2.1 (opn_up a2 (by omega)) a1 a3 a4
    exact ⟨fun e' h1 hE => k2 u N hu (fun L2 V2 b' a1 a2 a3 a4 => (step L2 V2 b' a1 a2 a3 a4).1 e' h1 hE), fun q M h1 kx => k2 u N hu (fun L2 V2 b' a1 a2 a3 a4 => (step L2 V2 b' a1 a2 a3 a4).2 q M h1 kx)⟩
def fnT (tp : Int → Int) (n q : Nat) (b : Bool) : Prop := prdS tp (tk tp n q) = 0 ∧ sumS tp (tk tp n q) = 0 ∧ (b = false → tstS tp (tk tp n q) = 0)
theorem LV_ts {d : Nat} {sub : Nat → PR} (hO : PO n sub) (hA : MA tp n pu KL KE) (hL : LV tp n pu KL KE d 7 5 (fun _ => True) (fun q _ => (True ∧ prdS tp (tk tp n q) = 0) ∧ sumS tp (tk tp n q) = 0) (fun b b' => b' = b) sub) : LV tp n pu KL KE d 7 4 (fun b => b = false) (fnT tp n) (fun _ _ => True) (tsP tp n sub) := by
  intro p L W b T hb hW hT hp
  cases hb
  obtain ⟨k1, k2⟩ := hL p L W false T trivial (blk_up hW (by omega)) hT hp
  rcases hu : sub p with e | ⟨u, N⟩
  · rw [tsP_e hu]
    exact ⟨fun e' h1 hE => k1 e hu (by rw [Sum.inl.inj h1]; exact hE), fun q M h1 _ => by cases h1⟩
  · have ho := hO _ _ _ hp hu
    by_cases c : tstS tp (tk tp n u) = 0
    · rw [tsP_0 hu c]
      refine ⟨fun e' h1 => (by cases h1), fun q M h1 kx => ?_⟩
      obtain ⟨rfl, rfl⟩ := Prod.mk.inj (Sum.inr.inj h1)
      exact k2 _ _ hu (fun L2 V2 b' a1 a2 a3 a4 => by rw [a4]; exact kx L2 V2 false a1 (opn_up a2 (by omega)) ⟨a3.1.2, a3.2, fun _ => c⟩ trivial)
    · have hn := tk_e (tp := tp) ho.2.1
      have hg : (tstS tp (tk tp n u) = -12 ∨ tstS tp (tk tp n u) = -13) := by
        unfold tstS at c ⊢
        split
        · exact Or.inl rfl
        · split
          · exact Or.inr rfl
          · rename_i c1 c2; rw [if_neg c1, if_neg c2] at c; exact absurd rfl c
      have hs4 := sgF_4 hg
      have key : ∀ (L2 V2 : List Int), L2 ++ V2 = L ++ N → opn 5 V2 → KO tp n pu KL KE 7 (tk tp n u).2.2 (L2 ++ V2) (tstS tp (tk tp n u) :: W) (true :: T) → KL u L2 (V2 ++ W) (false :: T) := fun L2 V2 _ a2 g => hA.2.2.1 u L2 V2 W T ho.2.1 c (opn_up a2 (by omega)) hW g
      have sb2 := fun (L2 : List Int) => hL (tk tp n u).2.2 L2 (tstS tp (tk tp n u) :: W) true T trivial (blk_op (by omega)) hT hn
      rcases hv : sub (tk tp n u).2.2 with e | ⟨v, K⟩
      · rw [tsP_f hu c hv]
        refine ⟨fun e' h1 hE => k2 _ _ hu (fun L2 V2 b' a1 a2 a3 a4 => ?_), fun q M h1 _ => by cases h1⟩
        rw [a4]
        exact key L2 V2 a1 a2 ((sb2 _).1 e hv (by rw [Sum.inl.inj h1]; exact hE))
      · rw [tsP_g hu c hv]
        refine ⟨fun e' h1 => (by cases h1), fun q M h1 kx => k2 _ _ hu (fun L2 V2 b' a1 a2 a3 a4 => ?_)⟩
        obtain ⟨rfl, rfl⟩ := Prod.mk.inj (Sum.inr.inj h1)
        rw [a4]
        refine key L2 V2 a1 a2 ((sb2 _).2 _ _ hv (fun L3 V3 b3 d1 d2 d3 d4 => ?_))
        have := kx L3 (V3 ++ [tstS tp (tk tp n u)]) b3 (by rw [← List.append_assoc, d1, a1]; simp [List.append_assoc]) (opn_ap (opn_up d2 (by omega)) (opn_one ⟨by omega, by omega⟩)) ⟨d3.1.2, d3.2, fun z => by rw [d4] at z; cases z⟩ trivial
        rw [List.append_assoc] at this
        exact this
/-- nots -/
theorem KO_nots : ∀ (f k p : Nat) (L W : List Int) (T : List Bool), k + f = 6 → p ≤ n → ((ntP tp n f p).1 + k = 6 ∧ isWb tp (tk tp n (ntP tp n f p).2) 4 = true → KE (2, (tk tp n (ntP tp n f p).2).2.1)) → (¬ ((ntP tp n f p).1 + k = 6 ∧ isWb tp (tk tp n (ntP tp n f p).2) 4 = true) → KO tp n pu KL KE 7 (ntP tp n f p).2 L (List.replicate (ntP tp n f p).1 (-9) ++ W) T) → KO tp n pu KL KE k p L W T
  | 0, k, p, L, W, T, hk9, hp, h1, h2 => by
    have e : ntP tp n 0 p = (0, p) := rfl
    rw [e] at h1 h2
    obtain rfl : k = 6 := by omega
    by_cases c : isWb tp (tk tp n p) 4 = true
    · exact KO_6 c (h1 ⟨rfl, c⟩)
    · exact KO_7 c (h2 (fun z => c z.2))
  | f + 1, k, p, L, W, T, hk9, hp, h1, h2 => by
    by_cases c : isWb tp (tk tp n p) 4 = true
    · rw [ntP_t c] at h1 h2
      refine KO_n hp (by omega) c (KO_nots f (k + 1) (tk tp n p).2.2 L (-9 :: W) T (by omega) (tk_e hp) (fun z => h1 ⟨by dsimp only; omega, z.2⟩) (fun z => ?_))
      have h3 := h2 (fun y => z ⟨by have := y.1; dsimp only at this; omega, y.2⟩)
      dsimp only at h3
      rw [List.replicate_succ', List.append_assoc] at h3
      exact h3
    · rw [ntP_f c] at h2
      exact KO_7 c (h2 (fun z => c z.2))
theorem LV_no {d : Nat} {sub : Nat → PR} (hL : LV tp n pu KL KE d 7 4 (fun b => b = false) (fnT tp n) (fun _ _ => True) sub) : LV tp n pu KL KE d 0 3 (fun b => b = false) (fnT tp n) (fun _ _ => True) (noP tp n sub) := by
  intro p L W b T hb hW hT hp
  have hpb := (ntP_b (tp := tp) (n := n) 6 p hp).1
  have e0 : noP tp n sub p = noE tp n sub (ntP tp n 6 p).1 (ntP tp n 6 p).2 := rfl
  rw [e0]
  have hB : blk 4 (List.replicate (ntP tp n 6 p).1 (-9) ++ W) := by
    cases (ntP tp n 6 p).1 with
    | zero => exact blk_up hW (by omega)
    | succ j => exact Or.inr (by decide)
  obtain ⟨k1, k2⟩ := hL (ntP tp n 6 p).2 L (List.replicate (ntP tp n 6 p).1 (-9) ++ W) b T hb hB hT hpb
  by_cases c : (ntP tp n 6 p).1 = 6 ∧ isWb tp (tk tp n (ntP tp n 6 p).2) 4 = true
  · rw [noE_x c]
    refine ⟨fun e h1 hE => KO_nots 6 0 p L W (b :: T) rfl hp (fun _ => by rw [Sum.inl.inj h1]; exact hE) (fun z => absurd c z), fun q M h1 _ => by cases h1⟩
  · rcases hu : sub (ntP tp n 6 p).2 with e | ⟨u, N⟩
    · rw [noE_e c hu]
      exact ⟨fun e' h1 hE => KO_nots 6 0 p L W (b :: T) rfl hp (fun z => absurd z c) (fun _ => k1 e hu (by rw [Sum.inl.inj h1]; exact hE)), fun q M h1 _ => by cases h1⟩
    · rw [noE_g c hu]
      refine ⟨fun e' h1 => (by cases h1), fun q M h1 kx => KO_nots 6 0 p L W (b :: T) rfl hp (fun z => absurd z c) (fun _ => k2 u N hu (fun L2 V2 b' a1 a2 a3 a4 => ?_))⟩
      obtain ⟨rfl, rfl⟩ := Prod.mk.inj (Sum.inr.inj h1)
      have := kx L2 (V2 ++ List.replicate (ntP tp n 6 p).1 (-9)) b' (by rw [← List.append_assoc, a1, List.append_assoc]) (opn_ap (opn_up a2 (by omega)) (opn_rep (by omega) _)) a3 trivial
      rw [List.append_assoc] at this
      exact this
theorem ptF_pa {E : Nat → PR} (h3 : ¬ Sg tp (tk tp n p) 40) : paP tp n pu E p = (match ptF tp n pu p with
    | .inl e => .inl e
    | .inr (q, x) => .inr (q, [x])) := by
  unfold paP ptF
  by_cases c1 : (tk tp n p).1 = 2
  · rw [if_pos c1, if_pos c1]
    by_cases c2 : (tk tp n p).2.1 + 4 < (tk tp n p).2.2
    · rw [if_pos c2, if_pos c2]
    · rw [if_neg c2, if_neg c2]
  · rw [if_neg c1, if_neg c1]
    by_cases c2 : (tk tp n p).1 = 1
    · rw [if_pos c2, if_pos c2]
      by_cases c3 : vaW tp pu (tk tp n p) = 0
      · rw [if_pos c3, if_pos c3]
      · rw [if_neg c3, if_neg c3]
    · rw [if_neg c2, if_neg c2, if_neg h3]
abbrev fnO (tp : Int → Int) (n q : Nat) (b : Bool) : Prop := (fnT tp n q b ∧ andS tp (tk tp n q) = 0) ∧ orS tp (tk tp n q) = 0
theorem LV_pa {d : Nat} {E : Nat → PR} (hA : MA tp n pu KL KE) (hO : PO n E) (h0 : d = 0 → ∀ p, E p = .inl (erP tp n p)) (hE : ∀ d', d = d' + 1 → LV tp n pu KL KE d' 0 1 (fun b => b = false) (fnO tp n) (fun _ _ => True) E) : LV tp n pu KL KE d 7 7 (fun _ => True) (fun _ _ => True) (fun b b' => b' = b) (paP tp n pu E) := by
  intro p L W b T _ hW hT hp
  by_cases hs : Sg tp (tk tp n p) 40
  · have hn := tk_e (tp := tp) hp
    have h1 : ¬ (tk tp n p).1 = 2 := by have := hs.1; omega
    have h2 : ¬ (tk tp n p).1 = 1 := by have := hs.1; omega
    rw [paP_4 h1 h2 hs]
    rcases d with _ | d'
    · have hl : ¬ (b :: T).length < 6 := by show ¬ T.length + 1 < 6; omega
      rw [h0 rfl]
      exact ⟨fun e h3 hE => KO_x hs hl (by rw [Sum.inl.inj h3]; exact hE), fun q M h3 _ => by cases h3⟩
    · have hl : (b :: T).length < 6 := by show T.length + 1 < 6; omega
      obtain ⟨k1, k2⟩ := hE d' rfl (tk tp n p).2.2 L (0 :: W) false (b :: T) rfl (Or.inl rfl) (by show T.length + 1 + d' = 5; omega) hn
      rcases hu : E (tk tp n p).2.2 with e | ⟨u, N⟩
      · exact ⟨fun e' h3 hE => KO_o hp hs hl (k1 e hu (by rw [Sum.inl.inj h3]; exact hE)), fun q M h3 _ => by cases h3⟩
      · have ho := hO _ _ _ hn hu
        by_cases c : Sg tp (tk tp n u) 41
        · rw [clP_t c]
          refine ⟨fun e' h3 => (by cases h3), fun q M h3 kx => KO_o hp hs hl (k2 u N hu (fun L2 V2 b' a1 a2 a3 a4 => ?_))⟩
          obtain ⟨rfl, rfl⟩ := Prod.mk.inj (Sum.inr.inj h3)
          refine hA.2.2.2.2.2.1 u L2 V2 W b' b T ho.2.1 c a2 ?_
          exact kx (L2 ++ V2) [] b (by rw [List.append_nil]; exact a1) opn_nil trivial rfl
        · rw [clP_f c]
          refine ⟨fun e' h3 hE => KO_o hp hs hl (k2 u N hu (fun L2 V2 b' a1 a2 a3 a4 => ?_)), fun q M h3 _ => by cases h3⟩
          exact hA.2.2.2.2.2.2 u L2 V2 W b' b T ho.2.1 c a2 ⟨a3.1.1, a3.1.2, a3.2⟩ (by rw [Sum.inl.inj h3]; exact hE)
  · rw [ptF_pa hs]
    rcases hu : ptF tp n pu p with e | ⟨u, x⟩
    · exact ⟨fun e' h3 hE => KO_pe hs hu (by rw [Sum.inl.inj h3]; exact hE), fun q M h3 _ => by cases h3⟩
    · refine ⟨fun e' h3 => (by cases h3), fun q M h3 kx => ?_⟩
      obtain ⟨rfl, rfl⟩ := Prod.mk.inj (Sum.inr.inj h3)
      exact KO_pg hs hu (kx (L ++ [x]) [] b (by rw [List.append_nil]) opn_nil trivial rfl)
theorem stp_g : (∀ t, prdS tp t ≠ 0 → (-17 ≤ prdS tp t ∧ prdS tp t ≤ -9) ∧ sgF (prdS tp t) = 6) ∧ (∀ t, sumS tp t ≠ 0 → (-17 ≤ sumS tp t ∧ sumS tp t ≤ -9) ∧ sgF (sumS tp t) = 5) ∧ (∀ t, andS tp t ≠ 0 → (-17 ≤ andS tp t ∧ andS tp t ≤ -9) ∧ sgF (andS tp t) = 2) ∧ (∀ t, orS tp t ≠ 0 → (-17 ≤ orS tp t ∧ orS tp t ≤ -9) ∧ sgF (orS tp t) = 1) := by
  unfold prdS sumS andS orS
  refine ⟨fun t h => ?_, fun t h => ?_, fun t h => ?_, fun t h => ?_⟩
  · split
    · exact ⟨by decide, by decide⟩
    · split
      · exact ⟨by decide, by decide⟩
      · rename_i c1 c2; rw [if_neg c1, if_neg c2] at h; exact absurd rfl h
  · split
    · exact ⟨by decide, by decide⟩
    · split
      · exact ⟨by decide, by decide⟩
      · rename_i c1 c2; rw [if_neg c1, if_neg c2] at h; exact absurd rfl h
  · split
    · exact ⟨by decide, by decide⟩
    · rename_i c1; rw [if_neg c1] at h; exact absurd rfl h
  · split
    · exact ⟨by decide, by decide⟩
    · rename_i c1; rw [if_neg c1] at h; exact absurd rfl h
theorem LV_ex (hn7 : n ≤ 700) (hA : MA tp n pu KL KE) : ∀ d : Nat, LV tp n pu KL KE d 0 1 (fun b => b = false) (fnO tp n) (fun _ _ => True) (exP tp n pu (d + 1))
  | d => by
    have q0 : PO n (exP tp n pu d) := PO_ex d
    have q1 := PO_pa (pu := pu) (tp := tp) q0
    have q2 := PO_lv (tp := tp) q1 SO_p
    have q3 := PO_lv (tp := tp) q2 SO_s
    have q4 := PO_ts (tp := tp) q3
    have q5 := PO_no (tp := tp) q4
    have q6 := PO_lv (tp := tp) q5 SO_a
    obtain ⟨g1, g2, g3, g4⟩ := stp_g (tp := tp)
    have h0 : d = 0 → ∀ p, exP tp n pu d p = .inl (erP tp n p) := fun z p => by rw [z]; rfl
    have hE : ∀ d', d = d' + 1 → LV tp n pu KL KE d' 0 1 (fun b => b = false) (fnO tp n) (fun _ _ => True) (exP tp n pu d) := fun d' z => by
      rw [z]
      exact LV_ex hn7 hA d'
    have l1 := LV_pa hA q0 h0 hE
    have l2 := LV_lv (bt := id) hn7 q1 SO_p g1 (fun _ => trivial) (fun b0 b b' z1 z2 => z2.trans z1) (fun p L V W b T a1 a2 a3 a4 a5 => hA.2.2.2.2.1 p L V W b T a1 a2 a3 a4 a5) l1
    have l3 := LV_lv (bt := id) hn7 q2 SO_s g2 (fun _ => trivial) (fun b0 b b' z1 z2 => z2.trans z1) (fun p L V W b T a1 a2 a3 a4 a5 => hA.2.2.2.1 p L V W b T a1 a2 a3 a4 a5) l2
    have l4 := LV_ts q3 hA l3
    have l5 := LV_no l4
    have l6 := LV_lv (bt := fun _ => false) (st := fun b => b = false) hn7 q5 SO_a g3 (fun _ => rfl) (fun b0 b b' z1 z2 => trivial) (fun p L V W b T a1 a2 a3 a4 a5 => hA.2.1 p L V W b T a1 a2 a3 a4 a5) l5
    exact LV_lv (bt := fun _ => false) (st := fun b => b = false) hn7 q6 SO_o g4 (fun _ => rfl) (fun b0 b b' z1 z2 => trivial) (fun p L V W b T a1 a2 a3 a4 a5 => hA.1 p L V W b T a1 a2 a3 a4 a5) l6
termination_by d => d
decreasing_by omega
end YD
