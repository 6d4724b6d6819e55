/-! the reference's code and what waits -/
def wcF (x : Int) : Int := if x = 0 then 14 else opF x
theorem wcF_0 : wcF 0 = 14 := rfl
theorem wcF_o {x : Int} (h : -17 ≤ x ∧ x ≤ -9) : wcF x = opF x := if_neg (by omega)
theorem opG_b {x : Int} (h : -17 ≤ x ∧ x ≤ -9) : (3 ≤ opF x ∧ opF x ≤ 11) ∧ stgF (opF x) = sgF x := by
  have hx : x = -17 ∨ x = -16 ∨ x = -15 ∨ x = -14 ∨ x = -13 ∨ x = -12 ∨ x = -11 ∨ x = -10 ∨ x = -9 := by omega
  rcases hx with rfl | rfl | rfl | rfl | rfl | rfl | rfl | rfl | rfl <;> decide
/-- what waits, the uppermost first -/
def WLs (h : HP) (W : List Int) : Prop := hI h 0 31 = (W.length : Int) ∧ ∀ j : Nat, j < W.length → hA h 16 ((W.length : Int) - 1 - (j : Int)) = wcF (W.getD j 0)
def opw (W : List Int) : Prop := ∀ x ∈ W, x = 0 ∨ (-17 ≤ x ∧ x ≤ -9)
theorem WL_hd {h : HP} {x : Int} {W : List Int} (w : WLs h (x :: W)) : hI h 0 31 = (W.length : Int) + 1 ∧ hA h 16 ((W.length : Int) + 1 - 1) = wcF x := by
  have e : ((x :: W).length : Int) = (W.length : Int) + 1 := rfl
  refine ⟨w.1.trans e, ?_⟩
  have := w.2 0 (Nat.succ_pos _)
  rw [e] at this
  rw [show (W.length : Int) + 1 - 1 = (W.length : Int) + 1 - 1 - ((0 : Nat) : Int) by omega]
  exact this
theorem WL_tl {h h' : HP} {x : Int} {W : List Int} (w : WLs h (x :: W)) (e : hI h' 0 31 = (W.length : Int)) (ea : hA h' 16 = hA h 16) : WLs h' W := by
  refine ⟨e, fun j hj => ?_⟩
  have := w.2 (j + 1) (by show j + 1 < W.length + 1; omega)
  have e2 : ((x :: W).length : Int) - 1 - ((j + 1 : Nat) : Int) = (W.length : Int) - 1 - (j : Int) := by
    show ((W.length + 1 : Nat) : Int) - 1 - ((j + 1 : Nat) : Int) = _
    omega
  rw [e2] at this
  rw [ea]
  exact this
theorem WL_fr {h h' : HP} {W : List Int} (w : WLs h W) (e : hI h' 0 31 = hI h 0 31) (ea : hA h' 16 = hA h 16) : WLs h' W := ⟨by rw [e]; exact w.1, by rw [ea]; exact w.2⟩
theorem WL_push {h h' : HP} {x : Int} {W : List Int} (w : WLs h W) (e : hI h' 0 31 = hI h 0 31 + 1) (ea : hA h' 16 = upI (hA h 16) (hI h 0 31) (wcF x)) : WLs h' (x :: W) := by
  refine ⟨by rw [e, w.1]; rfl, fun j hj => ?_⟩
  have hj : j < W.length + 1 := hj
  rw [ea, w.1]
  cases j with
  | zero =>
    have e2 : ((x :: W).length : Int) - 1 - ((0 : Nat) : Int) = (W.length : Int) := by
      show ((W.length + 1 : Nat) : Int) - 1 - ((0 : Nat) : Int) = _
      omega
    rw [e2, upI_s]
    rfl
  | succ j =>
    have e2 : ((x :: W).length : Int) - 1 - ((j + 1 : Nat) : Int) = (W.length : Int) - 1 - (j : Int) := by
      show ((W.length + 1 : Nat) : Int) - 1 - ((j + 1 : Nat) : Int) = _
      omega
    rw [e2, upI_n (by omega)]
    exact w.2 j (by omega)
/-- what a call of drops does -/
def DRo (h h' : HP) (V W : List Int) : Prop := WLs h' W ∧ hI h' 0 28 = hI h 0 28 + (V.length : Int) ∧ (∀ i : Int, i < hI h 0 28 → hA h' 15 i = hA h 15 i) ∧ (∀ j : Nat, j < V.length → hA h' 15 (hI h 0 28 + (j : Int)) = opF (V.getD j 0)) ∧ FL [15] [(0, 28), (0, 31)] [] h h'
theorem DRo_0 {h : HP} {W : List Int} (w : WLs h W) : DRo h h [] W := ⟨w, by show _ = hI h 0 28 + 0; omega, fun _ _ => rfl, fun j hj => absurd hj (Nat.not_lt_zero j), FL_rf⟩
theorem DRo_c {h h1 h' : HP} {x : Int} {V W : List Int} (e1 : hI h1 0 28 = hI h 0 28 + 1) (ea : hA h1 15 = upI (hA h 15) (hI h 0 28) (opF x)) (F : FL [15] [(0, 28), (0, 31)] [] h h1) (d : DRo h1 h' V W) : DRo h h' (x :: V) W := by
  obtain ⟨d1, d2, d3, d4, d5⟩ := d
  refine ⟨d1, by rw [d2, e1]; show _ = _ + ((V.length + 1 : Nat) : Int); omega, fun i hi => by rw [d3 i (by omega), ea, upI_n (by omega)], fun j hj => ?_, FL_tr F d5⟩
  have hj : j < V.length + 1 := hj
  cases j with
  | zero =>
    have e2 : hI h 0 28 + ((0 : Nat) : Int) = hI h 0 28 := by omega
    rw [e2, d3 _ (by omega), ea, upI_s]
    rfl
  | succ j =>
    have := d4 j (by omega)
    rw [e1] at this
    rw [show hI h 0 28 + ((j + 1 : Nat) : Int) = hI h 0 28 + 1 + (j : Int) by omega]
    exact this
theorem spl (W : List Int) (h : opw W) : ∃ V U : List Int, W = V ++ U ∧ opn 0 V ∧ blk 0 U ∧ opw U := by
  induction W with
  | nil => exact ⟨[], [], rfl, opn_nil, trivial, h⟩
  | cons x W ih =>
    rcases h x (List.mem_cons_self ..) with z | z
    · exact ⟨[], x :: W, rfl, opn_nil, Or.inl z, h⟩
    · obtain ⟨V, U, e, a, b, c⟩ := ih (fun y hy => h y (List.mem_cons_of_mem _ hy))
      exact ⟨x :: V, U, by rw [e]; rfl, opn_ap (V := [x]) (opn_one ⟨z, by have := sgF_b x; omega⟩) a, b, c⟩
theorem opn_c {s x : Int} {V : List Int} (h : opn s (x :: V)) : ((-17 ≤ x ∧ x ≤ -9) ∧ s ≤ sgF x) ∧ opn s V := ⟨h x (List.mem_cons_self ..), fun y hy => h y (List.mem_cons_of_mem _ hy)⟩
theorem opw_opn {s : Int} {V : List Int} (h : opn s V) : opw V := fun x hx => Or.inr (h x hx).1
/-- tested, by depth -/
def TLt (h : HP) (T : List Bool) : Prop := hI h 0 32 = (T.length : Int) ∧ ∀ j : Nat, j < T.length → hA h 17 ((T.length : Int) - (j : Int)) = (if T.getD j false = true then 1 else 0)
theorem TLt_fr {h h' : HP} {T : List Bool} (w : TLt h T) (e : hI h' 0 32 = hI h 0 32) (ea : hA h' 17 = hA h 17) : TLt h' T := ⟨by rw [e]; exact w.1, by rw [ea]; exact w.2⟩
theorem TLt_hd {h : HP} {b : Bool} {T : List Bool} (w : TLt h (b :: T)) : hA h 17 (hI h 0 32) = (if b = true then 1 else 0) := by
  have := w.2 0 (Nat.succ_pos _)
  rw [w.1]
  rw [show ((b :: T).length : Int) = ((b :: T).length : Int) - ((0 : Nat) : Int) by omega]
  exact this
theorem TLt_set {h h' : HP} {b c : Bool} {T : List Bool} (w : TLt h (b :: T)) (e : hI h' 0 32 = hI h 0 32) (ea : hA h' 17 = upI (hA h 17) (hI h 0 32) (if c = true then 1 else 0)) : TLt h' (c :: T) := by
  refine ⟨by rw [e]; exact w.1, fun j hj => ?_⟩
  rw [ea, w.1]
  cases j with
  | zero =>
    have e2 : ((c :: T).length : Int) - ((0 : Nat) : Int) = ((b :: T).length : Int) := by
      show ((T.length + 1 : Nat) : Int) - ((0 : Nat) : Int) = ((T.length + 1 : Nat) : Int)
      omega
    rw [e2, upI_s]
    rfl
  | succ j =>
    have := w.2 (j + 1) hj
    rw [upI_n (by show ((T.length + 1 : Nat) : Int) - ((j + 1 : Nat) : Int) ≠ ((T.length + 1 : Nat) : Int); omega)]
    exact this
theorem TLt_push {h h' : HP} {c : Bool} {T : List Bool} (w : TLt h T) (e : hI h' 0 32 = hI h 0 32 + 1) (ea : hA h' 17 = upI (hA h 17) (hI h 0 32 + 1) (if c = true then 1 else 0)) : TLt h' (c :: T) := by
  refine ⟨by rw [e, w.1]; rfl, fun j hj => ?_⟩
  have hj : j < T.length + 1 := hj
  rw [ea, w.1]
  cases j with
  | zero =>
    have e2 : ((c :: T).length : Int) - ((0 : Nat) : Int) = (T.length : Int) + 1 := by
      show ((T.length + 1 : Nat) : Int) - ((0 : Nat) : Int) = _
      omega
    rw [e2, upI_s]
    rfl
  | succ j =>
    have e2 : ((c :: T).length : Int) - ((j + 1 : Nat) : Int) = (T.length : Int) - (j : Int) := by
      show ((T.length + 1 : Nat) : Int) - ((j + 1 : Nat) : Int) = _
      omega
    rw [e2, upI_n (by omega)]
    exact w.2 j (by omega)
theorem TLt_pop {h h' : HP} {b : Bool} {T : List Bool} (w : TLt h (b :: T)) (e : hI h' 0 32 = hI h 0 32 - 1) (ea : hA h' 17 = hA h 17) : TLt h' T := by
  refine ⟨by rw [e, w.1]; show ((T.length + 1 : Nat) : Int) - 1 = _; omega, fun j hj => ?_⟩
  have := w.2 (j + 1) (by show j + 1 < T.length + 1; omega)
  rw [ea, show (T.length : Int) - (j : Int) = ((b :: T).length : Int) - ((j + 1 : Nat) : Int) by show _ = ((T.length + 1 : Nat) : Int) - ((j + 1 : Nat) : Int); omega]
  exact this
/-- code so far -/
def clN : List Int → Nat
  | [] => 0
  | s :: r => (if -8 ≤ s then 2 else 1) + clN r
def cdP (c : Int → Int) : Int → List Int → Prop
  | _, [] => True
  | a, s :: r => if 0 ≤ s then c a = 1 ∧ c (a + 1) = s ∧ cdP c (a + 2) r else if -8 ≤ s then c a = 2 ∧ c (a + 1) = vkF s ∧ cdP c (a + 2) r else c a = opF s ∧ cdP c (a + 1) r
theorem clN_ap : ∀ L M : List Int, clN (L ++ M) = clN L + clN M
  | [], M => by show clN M = 0 + clN M; omega
  | s :: r, M => by
    show (if -8 ≤ s then 2 else 1) + clN (r ++ M) = (if -8 ≤ s then 2 else 1) + clN r + clN M
    rw [clN_ap r M]; omega
theorem clN_op : ∀ V : List Int, opn 0 V → clN V = V.length
  | [], _ => rfl
  | x :: V, h => by
    have h1 := opn_c h
    show (if -8 ≤ x then 2 else 1) + clN V = V.length + 1
    rw [clN_op V h1.2, if_neg (by omega)]; omega
theorem cdP_cg {c c' : Int → Int} : ∀ (L : List Int) (a : Int), (∀ i : Int, a ≤ i → i < a + (clN L : Int) → c' i = c i) → cdP c a L → cdP c' a L
  | [], _, _, _ => trivial
  | s :: r, a, h, g => by
    have hl : (clN (s :: r) : Nat) = (if -8 ≤ s then 2 else 1) + clN r := rfl
    show if 0 ≤ s then _ else _
    have g : if 0 ≤ s then c a = 1 ∧ c (a + 1) = s ∧ cdP c (a + 2) r else if -8 ≤ s then c a = 2 ∧ c (a + 1) = vkF s ∧ cdP c (a + 2) r else c a = opF s ∧ cdP c (a + 1) r := g
    by_cases c0 : 0 ≤ s
    · rw [if_pos c0] at g ⊢
      rw [if_pos (by omega)] at hl
      exact ⟨by rw [h a (by omega) (by omega)]; exact g.1, by rw [h (a + 1) (by omega) (by omega)]; exact g.2.1, cdP_cg r (a + 2) (fun i h1 h2 => h i (by omega) (by omega)) g.2.2⟩
    · rw [if_neg c0] at g ⊢
      by_cases c8 : -8 ≤ s
      · rw [if_pos c8] at g ⊢
        rw [if_pos c8] at hl
        exact ⟨by rw [h a (by omega) (by omega)]; exact g.1, by rw [h (a + 1) (by omega) (by omega)]; exact g.2.1, cdP_cg r (a + 2) (fun i h1 h2 => h i (by omega) (by omega)) g.2.2⟩
      · rw [if_neg c8] at g ⊢
        rw [if_neg c8] at hl
        exact ⟨by rw [h a (by omega) (by omega)]; exact g.1, cdP_cg r (a + 1) (fun i h1 h2 => h i (by omega) (by omega)) g.2⟩
theorem cdP_ap {c : Int → Int} : ∀ (L M : List Int) (a : Int), cdP c a L → cdP c (a + (clN L : Int)) M → cdP c a (L ++ M)
  | [], M, a, _, g => by
    have e : a + ((clN [] : Nat) : Int) = a := by show a + ((0 : Nat) : Int) = a; omega
    rw [e] at g
    exact g
  | s :: r, M, a, f, g => by
    have hl : (clN (s :: r) : Nat) = (if -8 ≤ s then 2 else 1) + clN r := rfl
    have f : if 0 ≤ s then c a = 1 ∧ c (a + 1) = s ∧ cdP c (a + 2) r else if -8 ≤ s then c a = 2 ∧ c (a + 1) = vkF s ∧ cdP c (a + 2) r else c a = opF s ∧ cdP c (a + 1) r := f
    show if 0 ≤ s then c a = 1 ∧ c (a + 1) = s ∧ cdP c (a + 2) (r ++ M) else if -8 ≤ s then c a = 2 ∧ c (a + 1) = vkF s ∧ cdP c (a + 2) (r ++ M) else c a = opF s ∧ cdP c (a + 1) (r ++ M)
    by_cases c0 : 0 ≤ s
    · rw [if_pos c0] at f ⊢
      rw [if_pos (by omega)] at hl
      exact ⟨f.1, f.2.1, cdP_ap r M (a + 2) f.2.2 (by rw [show a + 2 + (clN r : Int) = a + (clN (s :: r) : Int) by omega]; exact g)⟩
    · rw [if_neg c0] at f ⊢
      by_cases c8 : -8 ≤ s
      · rw [if_pos c8] at f ⊢
        rw [if_pos c8] at hl
        exact ⟨f.1, f.2.1, cdP_ap r M (a + 2) f.2.2 (by rw [show a + 2 + (clN r : Int) = a + (clN (s :: r) : Int) by omega]; exact g)⟩
      · rw [if_neg c8] at f ⊢
        rw [if_neg c8] at hl
        exact ⟨f.1, cdP_ap r M (a + 1) f.2 (by rw [show a + 1 + (clN r : Int) = a + (clN (s :: r) : Int) by omega]; exact g)⟩
theorem cdP_op {c : Int → Int} : ∀ (V : List Int) (a : Int), opn 0 V → (∀ j : Nat, j < V.length → c (a + (j : Int)) = opF (V.getD j 0)) → cdP c a V
  | [], _, _, _ => trivial
  | x :: V, a, h, g => by
    have h1 := opn_c h
    show if 0 ≤ x then _ else if -8 ≤ x then _ else c a = opF x ∧ cdP c (a + 1) V
    rw [if_neg (by omega), if_neg (by omega)]
    refine ⟨?_, cdP_op V (a + 1) h1.2 (fun j hj => ?_)⟩
    · have := g 0 (Nat.succ_pos _)
      rw [show a + ((0 : Nat) : Int) = a by omega] at this
      exact this
    · have := g (j + 1) (by show j + 1 < V.length + 1; omega)
      rw [show a + ((j + 1 : Nat) : Int) = a + 1 + (j : Int) by omega] at this
      exact this
theorem cdR_P {c : Int → Int} : ∀ (L : List Int) (a : Int), 0 ≤ a → a + (clN L : Int) < 1400 → cdP c a L → c (a + (clN L : Int)) = 0 → cdR c a L
  | [], a, h0, h1, _, g => by
    have e : a + ((clN [] : Nat) : Int) = a := by show a + ((0 : Nat) : Int) = a; omega
    rw [e] at g h1
    exact ⟨⟨h0, h1⟩, g⟩
  | s :: r, a, h0, h1, f, g => by
    have hl : (clN (s :: r) : Nat) = (if -8 ≤ s then 2 else 1) + clN r := rfl
    have f : if 0 ≤ s then c a = 1 ∧ c (a + 1) = s ∧ cdP c (a + 2) r else if -8 ≤ s then c a = 2 ∧ c (a + 1) = vkF s ∧ cdP c (a + 2) r else c a = opF s ∧ cdP c (a + 1) r := f
    show (0 ≤ a ∧ a + 1 < 1400) ∧ (if 0 ≤ s then c a = 1 ∧ c (a + 1) = s ∧ cdR c (a + 2) r else if -8 ≤ s then c a = 2 ∧ c (a + 1) = vkF s ∧ cdR c (a + 2) r else c a = opF s ∧ cdR c (a + 1) r)
    by_cases c0 : 0 ≤ s
    · rw [if_pos c0] at f ⊢
      rw [if_pos (by omega)] at hl
      exact ⟨⟨h0, by omega⟩, f.1, f.2.1, cdR_P r (a + 2) (by omega) (by omega) f.2.2 (by rw [show a + 2 + (clN r : Int) = a + (clN (s :: r) : Int) by omega]; exact g)⟩
    · rw [if_neg c0] at f ⊢
      by_cases c8 : -8 ≤ s
      · rw [if_pos c8] at f ⊢
        rw [if_pos c8] at hl
        exact ⟨⟨h0, by omega⟩, f.1, f.2.1, cdR_P r (a + 2) (by omega) (by omega) f.2.2 (by rw [show a + 2 + (clN r : Int) = a + (clN (s :: r) : Int) by omega]; exact g)⟩
      · rw [if_neg c8] at f ⊢
        rw [if_neg c8] at hl
        exact ⟨⟨h0, by omega⟩, f.1, cdR_P r (a + 1) (by omega) (by omega) f.2 (by rw [show a + 1 + (clN r : Int) = a + (clN (s :: r) : Int) by omega]; exact g)⟩
/-- which values a rule has -/
def fvP (pu : Int) : Int := if pu = 0 then 4 else 0
def laV (pu : Int) : Int := if pu = 0 then 7 else 5
theorem kw_va {tp : Int → Int} {t : TK} {pu : Int} (hp : pu = 0 ∨ pu = 1) : (fvP pu ≤ kwF tp t ∧ kwF tp t ≤ laV pu → vaW tp pu t ≠ 0 ∧ vkF (vaW tp pu t) = kwF tp t) ∧ (¬ (fvP pu ≤ kwF tp t ∧ kwF tp t ≤ laV pu) → vaW tp pu t = 0) := by
  have kb := kwF_b tp t
  refine ⟨fun h => ?_, fun h => ?_⟩
  · rcases hp with rfl | rfl
    · have h1 : 4 ≤ kwF tp t ∧ kwF tp t ≤ 7 := h
      have h2 : kwF tp t = 4 ∨ kwF tp t = 5 ∨ kwF tp t = 6 ∨ kwF tp t = 7 := by omega
      rcases h2 with e | e | e | e
      · have h34 := kwI_4 e
        rw [e, show vaW tp 0 t = -1 from (vaW_b (by unfold vBo; rw [if_pos h34]; decide)).trans (if_pos h34)]
        decide
      · have h35 := kwI_5 e
        rw [e, show vaW tp 0 t = -2 from (vaW_b (by unfold vBo; rw [if_neg (fun z => absurd (isWb_1 (by decide) (by decide) h35 z) (by decide)), if_pos h35]; decide)).trans (by unfold vBo; rw [if_neg (fun z => absurd (isWb_1 (by decide) (by decide) h35 z) (by decide)), if_pos h35])]
        decide
      · have h36 := kwI_6 e
        rw [e, show vaW tp 0 t = -7 from (vaW_f (by unfold vBo; rw [if_neg (fun z => absurd (isWb_1 (by decide) (by decide) h36 z) (by decide)), if_neg (fun z => absurd (isWb_1 (by decide) (by decide) h36 z) (by decide))]) rfl).trans (by unfold vFe; rw [if_pos h36])]
        decide
      · have h37 := kwI_7 e
        rw [e, show vaW tp 0 t = -8 from (vaW_f (by unfold vBo; rw [if_neg (fun z => absurd (isWb_1 (by decide) (by decide) h37 z) (by decide)), if_neg (fun z => absurd (isWb_1 (by decide) (by decide) h37 z) (by decide))]) rfl).trans (by unfold vFe; rw [if_neg (fun z => absurd (isWb_1 (by decide) (by decide) h37 z) (by decide)), if_pos h37])]
        decide
    · have h1 : 0 ≤ kwF tp t ∧ kwF tp t ≤ 5 := h
      have h2 : kwF tp t = 0 ∨ kwF tp t = 1 ∨ kwF tp t = 2 ∨ kwF tp t = 3 ∨ kwF tp t = 4 ∨ kwF tp t = 5 := by omega
      rcases h2 with e | e | e | e | e | e
      · have h30 := kwI_0 e
        rw [e, show vaW tp 1 t = -3 from (vaW_p (by unfold vBo; rw [if_neg (fun z => absurd (isWb_1 (by decide) (by decide) h30 z) (by decide)), if_neg (fun z => absurd (isWb_1 (by decide) (by decide) h30 z) (by decide))]) (by decide)).trans (by unfold vPu; rw [if_pos h30])]
        decide
      · have h31 := kwI_1 e
        rw [e, show vaW tp 1 t = -4 from (vaW_p (by unfold vBo; rw [if_neg (fun z => absurd (isWb_1 (by decide) (by decide) h31 z) (by decide)), if_neg (fun z => absurd (isWb_1 (by decide) (by decide) h31 z) (by decide))]) (by decide)).trans (by unfold vPu; rw [if_neg (fun z => absurd (isWb_1 (by decide) (by decide) h31 z) (by decide)), if_pos h31])]
        decide
      · have h32 := kwI_2 e
        rw [e, show vaW tp 1 t = -5 from (vaW_p (by unfold vBo; rw [if_neg (fun z => absurd (isWb_1 (by decide) (by decide) h32 z) (by decide)), if_neg (fun z => absurd (isWb_1 (by decide) (by decide) h32 z) (by decide))]) (by decide)).trans (by unfold vPu; rw [if_neg (fun z => absurd (isWb_1 (by decide) (by decide) h32 z) (by decide)), if_neg (fun z => absurd (isWb_1 (by decide) (by decide) h32 z) (by decide)), if_pos h32])]
        decide
      · have h33 := kwI_3 e
        rw [e, show vaW tp 1 t = -6 from (vaW_p (by unfold vBo; rw [if_neg (fun z => absurd (isWb_1 (by decide) (by decide) h33 z) (by decide)), if_neg (fun z => absurd (isWb_1 (by decide) (by decide) h33 z) (by decide))]) (by decide)).trans (by unfold vPu; rw [if_neg (fun z => absurd (isWb_1 (by decide) (by decide) h33 z) (by decide)), if_neg (fun z => absurd (isWb_1 (by decide) (by decide) h33 z) (by decide)), if_neg (fun z => absurd (isWb_1 (by decide) (by decide) h33 z) (by decide)), if_pos h33])]
        decide
      · have h34 := kwI_4 e
        rw [e, show vaW tp 1 t = -1 from (vaW_b (by unfold vBo; rw [if_pos h34]; decide)).trans (if_pos h34)]
        decide
      · have h35 := kwI_5 e
        rw [e, show vaW tp 1 t = -2 from (vaW_b (by unfold vBo; rw [if_neg (fun z => absurd (isWb_1 (by decide) (by decide) h35 z) (by decide)), if_pos h35]; decide)).trans (by unfold vBo; rw [if_neg (fun z => absurd (isWb_1 (by decide) (by decide) h35 z) (by decide)), if_pos h35])]
        decide
  · rcases hp with rfl | rfl
    · have h1 : ¬ (4 ≤ kwF tp t ∧ kwF tp t ≤ 7) := h
      have n34 : ¬ isWb tp t 5 = true := fun z => by have := kwF_4 z; omega
      have n35 : ¬ isWb tp t 6 = true := fun z => by have := kwF_5 z; omega
      have n36 : ¬ isWb tp t 11 = true := fun z => by have := kwF_6 z; omega
      have n37 : ¬ isWb tp t 12 = true := fun z => by have := kwF_7 z; omega
      exact (vaW_f (by unfold vBo; rw [if_neg n34, if_neg n35]) rfl).trans (by unfold vFe; rw [if_neg n36, if_neg n37])
    · have h1 : ¬ (0 ≤ kwF tp t ∧ kwF tp t ≤ 5) := h
      have n30 : ¬ isWb tp t 7 = true := fun z => by have := kwF_0 z; omega
      have n31 : ¬ isWb tp t 8 = true := fun z => by have := kwF_1 z; omega
      have n32 : ¬ isWb tp t 9 = true := fun z => by have := kwF_2 z; omega
      have n33 : ¬ isWb tp t 10 = true := fun z => by have := kwF_3 z; omega
      have n34 : ¬ isWb tp t 5 = true := fun z => by have := kwF_4 z; omega
      have n35 : ¬ isWb tp t 6 = true := fun z => by have := kwF_5 z; omega
      exact (vaW_p (by unfold vBo; rw [if_neg n34, if_neg n35]) (by decide)).trans (by unfold vPu; rw [if_neg n30, if_neg n31, if_neg n32, if_neg n33])
theorem vaW_rng {tp : Int → Int} {t : TK} {pu : Int} (hp : pu = 0 ∨ pu = 1) (h : vaW tp pu t ≠ 0) : -8 ≤ vaW tp pu t ∧ vaW tp pu t < 0 := by
  rcases hp with rfl | rfl
  · exact (vaW_in (Or.inl ⟨rfl, rfl⟩) h).1
  · exact (vaW_in (Or.inr ⟨rfl, rfl⟩) h).1
def mX12_drops : MI := (yX12_drops, cX12_drops, 2, none, rmK 2 0)
def tX12_drops : List (Nat × Instr × Nat) := [(0, .aload_n 0, 1), (1, .getfield 177, 3), (4, .ifCond .le 64, 3), (7, .aload_n 0, 1), (8, .getfield 65, 3), (11, .aload_n 0, 1), (12, .getfield 177, 3), (15, .iconst 1, 1), (16, .isub, 1), (17, .iaload, 1), (18, .invokestatic 180, 3), (21, .ifCond .ne 47, 3), (24, .aload_n 0, 1), (25, .getfield 65, 3), (28, .aload_n 0, 1), (29, .getfield 177, 3), (32, .iconst 1, 1), (33, .isub, 1), (34, .iaload, 1), (35, .invokestatic 183, 3), (38, .iload_n 1, 1), (39, .if_icmp .lt 29, 3), (42, .aload_n 0, 1), (43, .dup, 1), (44, .getfield 177, 3), (47, .iconst 1, 1), (48, .isub, 1), (49, .putfield 177, 3), (52, .aload_n 0, 1), (53, .aload_n 0, 1), (54, .getfield 65, 3), (57, .aload_n 0, 1), (58, .getfield 177, 3), (61, .iaload, 1), (62, .invokevirtual 186, 3), (65, .goto (-65), 3), (68, .return_, 1)]
theorem dtX12_drops : tX12_drops.all (fun q => decide (decode cX12_drops q.1 = .ok (q.2.1, q.2.2))) = true := by decide +kernel
theorem npX12_drops : (parseMethodDescriptor (mY mX12_drops).desc).map (fun d => d.parameters.length) = some 1 := by decide +kernel
theorem vX12_drops : mV mX12_drops := ⟨wI_X12_drops, wS_X12_drops, wN_X12, wC_X12_drops, by decide +kernel, by decide +kernel⟩
set_option maxHeartbeats 4000000 in
set_option maxRecDepth 100000 in
theorem lp_drops {s : Int} (hs : i32 s) {W : List Int} (hb : blk s W) (hw : opw W) {Q : AO → HP → Prop} : ∀ (V : List Int) (hh : HP), opn s V → WLs hh (V ++ W) → (V ++ W).length ≤ 950 → 0 ≤ hI hh 0 28 → hI hh 0 28 + (V.length : Int) ≤ 1400 → (∀ h', DRo hh h' V W → Q (.inl none) h') → K mX12_drops GK (ZK Q 0 0) 0 0 0 [(0, vr 0), (1, vi s)] [] hh := by
  intro V
  induction V with
  | nil =>
    intro hh hV w hl ht htl kx
    cases W with
    | nil =>
      refine K_aload_n (dt_at dtX12_drops 0 rfl) rfl rfl ?_
      refine K_get (a := 0) (ci := 12) (k := 31) (v := vi 0) (dt_at dtX12_drops 1 rfl) (show TT 0 = (0, 12) from rfl) rfl (by decide) wF_X12_177 (by show vi (hI hh 0 31) = vi 0; rw [(show hI hh 0 31 = 0 from w.1)]) ?_
      refine K_if_le (tgt := 68) (dt_at dtX12_drops 2 rfl) (by decide) (by first | assumption | exact ⟨by omega, by omega⟩) (fun c1 => ?_) (fun c1 => absurd c1 (by omega))
      exact K_vret (dt_at dtX12_drops 36 rfl) rfl (by decide) (by decide) (kx hh (DRo_0 w))
    | cons x W =>
      obtain ⟨w1, w2⟩ := WL_hd w
      have hl : W.length + 1 ≤ 950 := hl
      have hx := hw x (List.mem_cons_self ..)
      by_cases c0 : x = 0
      · rw [c0] at w2
        refine K_aload_n (dt_at dtX12_drops 0 rfl) rfl rfl ?_
        refine K_get (a := 0) (ci := 12) (k := 31) (v := vi ((W.length : Int) + 1)) (dt_at dtX12_drops 1 rfl) (show TT 0 = (0, 12) from rfl) rfl (by decide) wF_X12_177 (by show vi (hI hh 0 31) = vi ((W.length : Int) + 1); rw [w1]) ?_
        refine K_if_le (tgt := 68) (dt_at dtX12_drops 2 rfl) (by decide) (by first | assumption | exact ⟨by omega, by omega⟩) (fun c1 => absurd c1 (by omega)) (fun c1 => ?_)
        refine K_aload_n (dt_at dtX12_drops 3 rfl) rfl rfl ?_
        refine K_get (a := 0) (ci := 12) (k := 40) (v := vr 16) (dt_at dtX12_drops 4 rfl) (show TT 0 = (0, 12) from rfl) rfl (by decide) wF_X12_65 rfl ?_
        refine K_aload_n (dt_at dtX12_drops 5 rfl) rfl rfl ?_
        refine K_get (a := 0) (ci := 12) (k := 31) (v := vi ((W.length : Int) + 1)) (dt_at dtX12_drops 6 rfl) (show TT 0 = (0, 12) from rfl) rfl (by decide) wF_X12_177 (by show vi (hI hh 0 31) = vi ((W.length : Int) + 1); rw [w1]) ?_
        refine K_iconst (dt_at dtX12_drops 7 rfl) ?_
        refine K_isub (dt_at dtX12_drops 8 rfl) ?_
        refine K_iald (dt_at dtX12_drops 9 rfl) (show TT 16 = (1, 950) from rfl) (by omega) (by omega) ?_
        rw [w2.trans wcF_0]
        refine K_callS (M' := mX12_isOpen) (As := [vi 14]) (st := []) (dt_at dtX12_drops 10 rfl) (sX12_isOpen (x := 14) ⟨by omega, by omega⟩) wL_X12_180 vX12_isOpen rfl npX12_isOpen (by decide) (by decide) (Nat.le_of_ble_eq_true rfl) (by decide) (by decide) GK_E (fun v9 h9 hq => ?_) (fun E h9 hq => by cases hq.1)
        obtain ⟨e9, e8⟩ := hq
        cases e9
        rw [e8]
        show K mX12_drops _ _ 0 0 21 [(0, vr 0), (1, vi s)] [vi (if 14 ≤ 14 then 1 else 0)] hh
        rw [if_pos (by decide)]
        refine K_if_ne (tgt := 68) (dt_at dtX12_drops 11 rfl) (by decide) (by first | assumption | exact ⟨by omega, by omega⟩) (fun c2 => ?_) (fun c2 => absurd c2 (by omega))
        exact K_vret (dt_at dtX12_drops 36 rfl) rfl (by decide) (by decide) (kx hh (DRo_0 w))
      · have hx2 : -17 ≤ x ∧ x ≤ -9 := by omega
        have ho := opG_b hx2
        have hb2 : sgF x < s := hb.resolve_left c0
        have sb9 := sgF_b x
        refine K_aload_n (dt_at dtX12_drops 0 rfl) rfl rfl ?_
        refine K_get (a := 0) (ci := 12) (k := 31) (v := vi ((W.length : Int) + 1)) (dt_at dtX12_drops 1 rfl) (show TT 0 = (0, 12) from rfl) rfl (by decide) wF_X12_177 (by show vi (hI hh 0 31) = vi ((W.length : Int) + 1); rw [w1]) ?_
        refine K_if_le (tgt := 68) (dt_at dtX12_drops 2 rfl) (by decide) (by first | assumption | exact ⟨by omega, by omega⟩) (fun c1 => absurd c1 (by omega)) (fun c1 => ?_)
        refine K_aload_n (dt_at dtX12_drops 3 rfl) rfl rfl ?_
        refine K_get (a := 0) (ci := 12) (k := 40) (v := vr 16) (dt_at dtX12_drops 4 rfl) (show TT 0 = (0, 12) from rfl) rfl (by decide) wF_X12_65 rfl ?_
        refine K_aload_n (dt_at dtX12_drops 5 rfl) rfl rfl ?_
        refine K_get (a := 0) (ci := 12) (k := 31) (v := vi ((W.length : Int) + 1)) (dt_at dtX12_drops 6 rfl) (show TT 0 = (0, 12) from rfl) rfl (by decide) wF_X12_177 (by show vi (hI hh 0 31) = vi ((W.length : Int) + 1); rw [w1]) ?_
        refine K_iconst (dt_at dtX12_drops 7 rfl) ?_
        refine K_isub (dt_at dtX12_drops 8 rfl) ?_
        refine K_iald (dt_at dtX12_drops 9 rfl) (show TT 16 = (1, 950) from rfl) (by omega) (by omega) ?_
        rw [w2.trans (wcF_o hx2)]
        refine K_callS (M' := mX12_isOpen) (As := [vi (opF x)]) (st := []) (dt_at dtX12_drops 10 rfl) (sX12_isOpen (x := (opF x)) ⟨by omega, by omega⟩) wL_X12_180 vX12_isOpen rfl npX12_isOpen (by decide) (by decide) (Nat.le_of_ble_eq_true rfl) (by decide) (by decide) GK_E (fun v9 h9 hq => ?_) (fun E h9 hq => by cases hq.1)
        obtain ⟨e9, e8⟩ := hq
        cases e9
        rw [e8]
        show K mX12_drops _ _ 0 0 21 [(0, vr 0), (1, vi s)] [vi (if 14 ≤ (opF x) then 1 else 0)] hh
        rw [if_neg (by omega)]
        refine K_if_ne (tgt := 68) (dt_at dtX12_drops 11 rfl) (by decide) (by first | assumption | exact ⟨by omega, by omega⟩) (fun c2 => absurd c2 (by omega)) (fun c2 => ?_)
        refine K_aload_n (dt_at dtX12_drops 12 rfl) rfl rfl ?_
        refine K_get (a := 0) (ci := 12) (k := 40) (v := vr 16) (dt_at dtX12_drops 13 rfl) (show TT 0 = (0, 12) from rfl) rfl (by decide) wF_X12_65 rfl ?_
        refine K_aload_n (dt_at dtX12_drops 14 rfl) rfl rfl ?_
        refine K_get (a := 0) (ci := 12) (k := 31) (v := vi ((W.length : Int) + 1)) (dt_at dtX12_drops 15 rfl) (show TT 0 = (0, 12) from rfl) rfl (by decide) wF_X12_177 (by show vi (hI hh 0 31) = vi ((W.length : Int) + 1); rw [w1]) ?_
        refine K_iconst (dt_at dtX12_drops 16 rfl) ?_
        refine K_isub (dt_at dtX12_drops 17 rfl) ?_
        refine K_iald (dt_at dtX12_drops 18 rfl) (show TT 16 = (1, 950) from rfl) (by omega) (by omega) ?_
        rw [w2.trans (wcF_o hx2)]
        refine K_callS (M' := mX12_strength) (As := [vi (opF x)]) (st := []) (dt_at dtX12_drops 19 rfl) (sX12_strength (x := (opF x)) ⟨by omega, by omega⟩) wL_X12_183 vX12_strength rfl npX12_strength (by decide) (by decide) (Nat.le_of_ble_eq_true rfl) (by decide) (by decide) GK_E (fun v9 h9 hq => ?_) (fun E h9 hq => by cases hq.1)
        obtain ⟨e9, e8⟩ := hq
        cases e9
        rw [e8]
        show K mX12_drops _ _ 0 0 38 [(0, vr 0), (1, vi s)] [vi (stgF (opF x))] hh
        refine K_iload_n (dt_at dtX12_drops 20 rfl) rfl rfl ?_
        refine K_icmp_lt (tgt := 68) (dt_at dtX12_drops 21 rfl) (by decide) ⟨by omega, by omega⟩ hs (fun c3 => ?_) (fun c3 => absurd c3 (by omega))
        exact K_vret (dt_at dtX12_drops 36 rfl) rfl (by decide) (by decide) (kx hh (DRo_0 w))
  | cons x V ih =>
    intro hh hV w hl ht htl kx
    obtain ⟨⟨hx2, hs2⟩, hV2⟩ := opn_c hV
    obtain ⟨w1, w2⟩ := WL_hd (W := V ++ W) w
    have ho := opG_b hx2
    have sb9 := sgF_b x
    have hl : (V ++ W).length + 1 ≤ 950 := hl
    have htl : hI hh 0 28 + ((V.length + 1 : Nat) : Int) ≤ 1400 := htl
    refine K_aload_n (dt_at dtX12_drops 0 rfl) rfl rfl ?_
    refine K_get (a := 0) (ci := 12) (k := 31) (v := vi (((V ++ W).length : Int) + 1)) (dt_at dtX12_drops 1 rfl) (show TT 0 = (0, 12) from rfl) rfl (by decide) wF_X12_177 (by show vi (hI hh 0 31) = vi (((V ++ W).length : Int) + 1); rw [w1]) ?_
    refine K_if_le (tgt := 68) (dt_at dtX12_drops 2 rfl) (by decide) (by first | assumption | exact ⟨by omega, by omega⟩) (fun c1 => absurd c1 (by omega)) (fun c1 => ?_)
    refine K_aload_n (dt_at dtX12_drops 3 rfl) rfl rfl ?_
    refine K_get (a := 0) (ci := 12) (k := 40) (v := vr 16) (dt_at dtX12_drops 4 rfl) (show TT 0 = (0, 12) from rfl) rfl (by decide) wF_X12_65 rfl ?_
    refine K_aload_n (dt_at dtX12_drops 5 rfl) rfl rfl ?_
    refine K_get (a := 0) (ci := 12) (k := 31) (v := vi (((V ++ W).length : Int) + 1)) (dt_at dtX12_drops 6 rfl) (show TT 0 = (0, 12) from rfl) rfl (by decide) wF_X12_177 (by show vi (hI hh 0 31) = vi (((V ++ W).length : Int) + 1); rw [w1]) ?_
    refine K_iconst (dt_at dtX12_drops 7 rfl) ?_
    refine K_isub (dt_at dtX12_drops 8 rfl) ?_
    refine K_iald (dt_at dtX12_drops 9 rfl) (show TT 16 = (1, 950) from rfl) (by omega) (by omega) ?_
    rw [w2.trans (wcF_o hx2)]
    refine K_callS (M' := mX12_isOpen) (As := [vi (opF x)]) (st := []) (dt_at dtX12_drops 10 rfl) (sX12_isOpen (x := (opF x)) ⟨by omega, by omega⟩) wL_X12_180 vX12_isOpen rfl npX12_isOpen (by decide) (by decide) (Nat.le_of_ble_eq_true rfl) (by decide) (by decide) GK_E (fun v9 h9 hq => ?_) (fun E h9 hq => by cases hq.1)
    obtain ⟨e9, e8⟩ := hq
    cases e9
    rw [e8]
    show K mX12_drops _ _ 0 0 21 [(0, vr 0), (1, vi s)] [vi (if 14 ≤ (opF x) then 1 else 0)] hh
    rw [if_neg (by omega)]
    refine K_if_ne (tgt := 68) (dt_at dtX12_drops 11 rfl) (by decide) (by first | assumption | exact ⟨by omega, by omega⟩) (fun c2 => absurd c2 (by omega)) (fun c2 => ?_)
    refine K_aload_n (dt_at dtX12_drops 12 rfl) rfl rfl ?_
    refine K_get (a := 0) (ci := 12) (k := 40) (v := vr 16) (dt_at dtX12_drops 13 rfl) (show TT 0 = (0, 12) from rfl) rfl (by decide) wF_X12_65 rfl ?_
    refine K_aload_n (dt_at dtX12_drops 14 rfl) rfl rfl ?_
    refine K_get (a := 0) (ci := 12) (k := 31) (v := vi (((V ++ W).length : Int) + 1)) (dt_at dtX12_drops 15 rfl) (show TT 0 = (0, 12) from rfl) rfl (by decide) wF_X12_177 (by show vi (hI hh 0 31) = vi (((V ++ W).length : Int) + 1); rw [w1]) ?_
    refine K_iconst (dt_at dtX12_drops 16 rfl) ?_
    refine K_isub (dt_at dtX12_drops 17 rfl) ?_
    refine K_iald (dt_at dtX12_drops 18 rfl) (show TT 16 = (1, 950) from rfl) (by omega) (by omega) ?_
    rw [w2.trans (wcF_o hx2)]
    refine K_callS (M' := mX12_strength) (As := [vi (opF x)]) (st := []) (dt_at dtX12_drops 19 rfl) (sX12_strength (x := (opF x)) ⟨by omega, by omega⟩) wL_X12_183 vX12_strength rfl npX12_strength (by decide) (by decide) (Nat.le_of_ble_eq_true rfl) (by decide) (by decide) GK_E (fun v9 h9 hq => ?_) (fun E h9 hq => by cases hq.1)
    obtain ⟨e9, e8⟩ := hq
    cases e9
    rw [e8]
    show K mX12_drops _ _ 0 0 38 [(0, vr 0), (1, vi s)] [vi (stgF (opF x))] hh
    refine K_iload_n (dt_at dtX12_drops 20 rfl) rfl rfl ?_
    refine K_icmp_lt (tgt := 68) (dt_at dtX12_drops 21 rfl) (by decide) ⟨by omega, by omega⟩ hs (fun c3 => absurd c3 (by omega)) (fun c3 => ?_)
    refine K_aload_n (dt_at dtX12_drops 22 rfl) rfl rfl ?_
    refine K_dup (dt_at dtX12_drops 23 rfl) rfl ?_
    refine K_get (a := 0) (ci := 12) (k := 31) (v := vi (((V ++ W).length : Int) + 1)) (dt_at dtX12_drops 24 rfl) (show TT 0 = (0, 12) from rfl) rfl (by decide) wF_X12_177 (by show vi (hI hh 0 31) = vi (((V ++ W).length : Int) + 1); rw [w1]) ?_
    refine K_iconst (dt_at dtX12_drops 25 rfl) ?_
    refine K_isub (dt_at dtX12_drops 26 rfl) ?_
    refine K_putI (a := 0) (ci := 12) (k := 31) (dt_at dtX12_drops 27 rfl) (show TT 0 = (0, 12) from rfl) rfl (by decide) wF_X12_177 rfl (Or.inl rfl) rfl rfl ?_
    obtain ⟨hq1, eq1⟩ : ∃ z, z = sI hh 0 31 ((((V ++ W).length : Int) + 1) - 1) := ⟨_, rfl⟩
    rw [← eq1]
    obtain ⟨iq1, fq1, aq1, rq1⟩ := sI_fx eq1
    refine K_aload_n (dt_at dtX12_drops 28 rfl) rfl rfl ?_
    refine K_aload_n (dt_at dtX12_drops 29 rfl) rfl rfl ?_
    refine K_get (a := 0) (ci := 12) (k := 40) (v := vr 16) (dt_at dtX12_drops 30 rfl) (show TT 0 = (0, 12) from rfl) rfl (by decide) wF_X12_65 rfl ?_
    refine K_aload_n (dt_at dtX12_drops 31 rfl) rfl rfl ?_
    refine K_get (a := 0) (ci := 12) (k := 31) (v := vi ((((V ++ W).length : Int) + 1) - 1)) (dt_at dtX12_drops 32 rfl) (show TT 0 = (0, 12) from rfl) rfl (by decide) wF_X12_177 (by show vi (hI hq1 0 31) = vi ((((V ++ W).length : Int) + 1) - 1); rw [iq1]) ?_
    refine K_iald (dt_at dtX12_drops 33 rfl) (show TT 16 = (1, 950) from rfl) (by omega) (by omega) ?_
    rw [aq1, w2.trans (wcF_o hx2)]
    refine K_callV (M' := mX12_puts) (a := 0) (ci := 12) (As := [vi (opF x)]) (st := []) (dt_at dtX12_drops 34 rfl) (sX12_puts (v := (opF x)) ⟨by rw [(fq1 0 28 (by omega))]; omega, by rw [(fq1 0 28 (by omega))]; omega⟩) (show TT 0 = (0, 12) from rfl) rfl wL_X12_186 vX12_puts rfl npX12_puts (by decide) (by decide) (Nat.le_of_ble_eq_true rfl) (by decide) (by decide) GK_E (fun v9 h9 hq => ?_) (fun E h9 hq => by cases hq.1)
    obtain ⟨e9, e8⟩ := hq
    cases e9
    rw [e8]
    show K mX12_drops _ _ 0 0 65 [(0, vr 0), (1, vi s)] [] (sI (sA hq1 15 (hI hq1 0 28) (opF x)) 0 28 (hI hq1 0 28 + 1))
    obtain ⟨hq2, eq2⟩ : ∃ z, z = sA hq1 15 (hI hq1 0 28) (opF x) := ⟨_, rfl⟩
    rw [← eq2]
    obtain ⟨aq2, fq2, iq2, rq2⟩ := sA_fx eq2
    rw [(fq1 0 28 (by omega))] at aq2
    rw [aq1] at aq2
    obtain ⟨hq3, eq3⟩ : ∃ z, z = sI hq2 0 28 (hI hq1 0 28 + 1) := ⟨_, rfl⟩
    rw [← eq3]
    obtain ⟨iq3, fq3, aq3, rq3⟩ := sI_fx eq3
    rw [(fq1 0 28 (by omega))] at iq3
    refine K_goto (tgt := 0) (dt_at dtX12_drops 35 rfl) (by decide) ?_
    have e28 : hI hq3 0 28 = hI hh 0 28 + 1 := by rw [iq3]
    exact ih hq3 hV2 (WL_tl w (by rw [(fq3 0 31 (by omega)), iq2, iq1]; omega) (by rw [aq3, (fq2 16 (by omega)), aq1])) (by omega) (by omega) (by omega) (fun h' d => kx h' (DRo_c e28 (by rw [aq3, aq2]) (FL_tr (FL_tr (FL_tr (FL_rf : FL [15] [(0, 28), (0, 31)] [] hh hh) (FL_eI eq1 rfl)) (FL_eA eq2 rfl)) (FL_eI eq3 rfl)) d))
theorem drops_K {h : HP} {s : Int} {V W : List Int} (hs : i32 s) (hb : blk s W) (hw : opw W) (hV : opn s V) (w : WLs h (V ++ W)) (hl : (V ++ W).length ≤ 950) (ht : 0 ≤ hI h 0 28) (htl : hI h 0 28 + (V.length : Int) ≤ 1400) : SpecK mX12_drops [vr 0, vi s] h (fun o h' => o = .inl none ∧ DRo h h' V W) := by
  refine Spec_of (by decide +kernel) (Nat.le_of_ble_eq_true rfl) ?_
  exact lp_drops hs hb hw V h hV w hl ht htl (fun h' d => ⟨rfl, d⟩)
def mX12_isOpened : MI := (yX12_isOpened, cX12_isOpened, 2, (some .boolean), rmK 2 0)
def tX12_isOpened : List (Nat × Instr × Nat) := [(0, .aload_n 0, 1), (1, .getfield 177, 3), (4, .iconst 1, 1), (5, .isub, 1), (6, .istore_n 1, 1), (7, .iload_n 1, 1), (8, .ifCond .lt 21, 3), (11, .aload_n 0, 1), (12, .getfield 65, 3), (15, .iload_n 1, 1), (16, .iaload, 1), (17, .invokestatic 180, 3), (20, .ifCond .ne 9, 3), (23, .iinc 1 (-1), 3), (26, .goto (-19), 3), (29, .iload_n 1, 1), (30, .ifCond .lt 7, 3), (33, .iconst 1, 1), (34, .goto 4, 3), (37, .iconst 0, 1), (38, .ireturn, 1)]
theorem dtX12_isOpened : tX12_isOpened.all (fun q => decide (decode cX12_isOpened q.1 = .ok (q.2.1, q.2.2))) = true := by decide +kernel
theorem npX12_isOpened : (parseMethodDescriptor (mY mX12_isOpened).desc).map (fun d => d.parameters.length) = some 0 := by decide +kernel
theorem vX12_isOpened : mV mX12_isOpened := ⟨wI_X12_isOpened, wS_X12_isOpened, wN_X12, wC_X12_isOpened, by decide +kernel, by decide +kernel⟩
set_option maxHeartbeats 4000000 in
set_option maxRecDepth 100000 in
theorem lp_opened_t {h : HP} {Q : AO → HP → Prop} {W : List Int} : ∀ (V U : List Int), opn 1 V → WLs h (U ++ (V ++ 0 :: W)) → (U ++ (V ++ 0 :: W)).length ≤ 950 → Q (.inl (some (vi 1))) h → K mX12_isOpened GK (ZK Q 0 0) 0 0 7 [(1, vi (((V ++ 0 :: W).length : Int) - 1)), (0, vr 0)] [] h := by
  intro V
  induction V with
  | nil =>
    intro U hV w hl kx
    have w2 := w.2 U.length (by rw [List.length_append]; show U.length < U.length + (W.length + 1); omega)
    have hl2 : U.length + (W.length + 1) ≤ 950 := by rw [List.length_append] at hl; exact hl
    have e1 : ((U ++ ([] ++ 0 :: W)).length : Int) - 1 - (U.length : Int) = (W.length : Int) := by rw [List.length_append]; show ((U.length + (W.length + 1) : Nat) : Int) - 1 - (U.length : Int) = _; omega
    have e2 : (U ++ ([] ++ 0 :: W)).getD U.length 0 = 0 := by simp
    rw [e1, e2] at w2
    have e3 : (([] ++ 0 :: W : List Int).length : Int) - 1 = (W.length : Int) := by show ((W.length + 1 : Nat) : Int) - 1 = _; omega
    rw [e3]
    refine K_iload_n (dt_at dtX12_isOpened 5 rfl) rfl rfl ?_
    refine K_if_lt (tgt := 29) (dt_at dtX12_isOpened 6 rfl) (by decide) (by first | assumption | exact ⟨by omega, by omega⟩) (fun c1 => absurd c1 (by omega)) (fun c1 => ?_)
    refine K_aload_n (dt_at dtX12_isOpened 7 rfl) rfl rfl ?_
    refine K_get (a := 0) (ci := 12) (k := 40) (v := vr 16) (dt_at dtX12_isOpened 8 rfl) (show TT 0 = (0, 12) from rfl) rfl (by decide) wF_X12_65 rfl ?_
    refine K_iload_n (dt_at dtX12_isOpened 9 rfl) rfl rfl ?_
    refine K_iald (dt_at dtX12_isOpened 10 rfl) (show TT 16 = (1, 950) from rfl) (by omega) (by omega) ?_
    rw [w2.trans wcF_0]
    refine K_callS (M' := mX12_isOpen) (As := [vi 14]) (st := []) (dt_at dtX12_isOpened 11 rfl) (sX12_isOpen (x := 14) ⟨by omega, by omega⟩) wL_X12_180 vX12_isOpen rfl npX12_isOpen (by decide) (by decide) (Nat.le_of_ble_eq_true rfl) (by decide) (by decide) GK_E (fun v9 h9 hq => ?_) (fun E h9 hq => by cases hq.1)
    obtain ⟨e9, e8⟩ := hq
    cases e9
    rw [e8]
    show K mX12_isOpened _ _ 0 0 20 [(1, vi (W.length : Int)), (0, vr 0)] [vi (if 14 ≤ 14 then 1 else 0)] h
    rw [if_pos (by decide)]
    refine K_if_ne (tgt := 29) (dt_at dtX12_isOpened 12 rfl) (by decide) (by first | assumption | exact ⟨by omega, by omega⟩) (fun c2 => ?_) (fun c2 => absurd c2 (by omega))
    refine K_iload_n (dt_at dtX12_isOpened 15 rfl) rfl rfl ?_
    refine K_if_lt (tgt := 37) (dt_at dtX12_isOpened 16 rfl) (by decide) (by first | assumption | exact ⟨by omega, by omega⟩) (fun c3 => absurd c3 (by omega)) (fun c3 => ?_)
    refine K_iconst (dt_at dtX12_isOpened 17 rfl) ?_
    refine K_goto (tgt := 38) (dt_at dtX12_isOpened 18 rfl) (by decide) ?_
    exact K_iret (dt_at dtX12_isOpened 20 rfl) rfl (by decide) (by decide) (by decide) kx
  | cons x V ih =>
    intro U hV w hl kx
    obtain ⟨⟨hx2, hs2⟩, hV2⟩ := opn_c hV
    have ho := opG_b hx2
    have w2 := w.2 U.length (by rw [List.length_append]; show U.length < U.length + ((V ++ 0 :: W).length + 1); omega)
    have hl2 : U.length + ((V ++ 0 :: W).length + 1) ≤ 950 := by rw [List.length_append] at hl; exact hl
    have e1 : ((U ++ (x :: V ++ 0 :: W)).length : Int) - 1 - (U.length : Int) = ((V ++ 0 :: W).length : Int) := by rw [List.length_append]; show ((U.length + ((V ++ 0 :: W).length + 1) : Nat) : Int) - 1 - (U.length : Int) = _; omega
    have e2 : (U ++ (x :: V ++ 0 :: W)).getD U.length 0 = x := by simp
    rw [e1, e2, wcF_o hx2] at w2
    have e3 : ((x :: V ++ 0 :: W).length : Int) - 1 = ((V ++ 0 :: W).length : Int) := by show (((V ++ 0 :: W).length + 1 : Nat) : Int) - 1 = _; omega
    rw [e3]
    refine K_iload_n (dt_at dtX12_isOpened 5 rfl) rfl rfl ?_
    refine K_if_lt (tgt := 29) (dt_at dtX12_isOpened 6 rfl) (by decide) (by first | assumption | exact ⟨by omega, by omega⟩) (fun c1 => absurd c1 (by omega)) (fun c1 => ?_)
    refine K_aload_n (dt_at dtX12_isOpened 7 rfl) rfl rfl ?_
    refine K_get (a := 0) (ci := 12) (k := 40) (v := vr 16) (dt_at dtX12_isOpened 8 rfl) (show TT 0 = (0, 12) from rfl) rfl (by decide) wF_X12_65 rfl ?_
    refine K_iload_n (dt_at dtX12_isOpened 9 rfl) rfl rfl ?_
    refine K_iald (dt_at dtX12_isOpened 10 rfl) (show TT 16 = (1, 950) from rfl) (by omega) (by omega) ?_
    rw [w2]
    refine K_callS (M' := mX12_isOpen) (As := [vi (opF x)]) (st := []) (dt_at dtX12_isOpened 11 rfl) (sX12_isOpen (x := (opF x)) ⟨by omega, by omega⟩) wL_X12_180 vX12_isOpen rfl npX12_isOpen (by decide) (by decide) (Nat.le_of_ble_eq_true rfl) (by decide) (by decide) GK_E (fun v9 h9 hq => ?_) (fun E h9 hq => by cases hq.1)
    obtain ⟨e9, e8⟩ := hq
    cases e9
    rw [e8]
    show K mX12_isOpened _ _ 0 0 20 [(1, vi ((V ++ 0 :: W).length : Int)), (0, vr 0)] [vi (if 14 ≤ (opF x) then 1 else 0)] h
    rw [if_neg (by omega)]
    refine K_if_ne (tgt := 29) (dt_at dtX12_isOpened 12 rfl) (by decide) (by first | assumption | exact ⟨by omega, by omega⟩) (fun c2 => absurd c2 (by omega)) (fun c2 => ?_)
    refine K_iinc (ls' := [(1, vi (((V ++ 0 :: W).length : Int) + (-1))), (0, vr 0)]) (dt_at dtX12_isOpened 13 rfl) rfl (by decide) rfl ?_
    refine K_goto (tgt := 7) (dt_at dtX12_isOpened 14 rfl) (by decide) ?_
    have eU : U ++ (x :: V ++ 0 :: W) = (U ++ [x]) ++ (V ++ 0 :: W) := by simp
    rw [eU] at w hl
    exact K_pk [0, 1] (ls' := [(1, vi (((V ++ 0 :: W).length : Int) - 1)), (0, vr 0)]) rfl (ih (U ++ [x]) hV2 w hl kx)
set_option maxHeartbeats 4000000 in
set_option maxRecDepth 100000 in
theorem opened_t {h : HP} {V W : List Int} (hV : opn 1 V) (w : WLs h (V ++ 0 :: W)) (hl : (V ++ 0 :: W).length ≤ 950) : SpecK mX12_isOpened [vr 0] h (fun o h' => o = .inl (some (vi 1)) ∧ h' = h) := by
  refine Spec_of (by decide +kernel) (Nat.le_of_ble_eq_true rfl) ?_
  refine K_aload_n (dt_at dtX12_isOpened 0 rfl) rfl rfl ?_
  refine K_get (a := 0) (ci := 12) (k := 31) (v := vi ((V ++ 0 :: W).length : Int)) (dt_at dtX12_isOpened 1 rfl) (show TT 0 = (0, 12) from rfl) rfl (by decide) wF_X12_177 (by show vi (hI h 0 31) = vi ((V ++ 0 :: W).length : Int); rw [w.1]) ?_
  refine K_iconst (dt_at dtX12_isOpened 2 rfl) ?_
  refine K_isub (dt_at dtX12_isOpened 3 rfl) ?_
  refine K_istore_n (ls' := [(1, vi (((V ++ 0 :: W).length : Int) - 1)), (0, vr 0)]) (dt_at dtX12_isOpened 4 rfl) rfl (by decide) rfl ?_
  exact K_pk [0, 1] (ls' := [(1, vi (((V ++ 0 :: W).length : Int) - 1)), (0, vr 0)]) rfl (lp_opened_t (W := W) V [] hV w hl ⟨rfl, rfl⟩)
set_option maxHeartbeats 4000000 in
set_option maxRecDepth 100000 in
theorem lp_opened_f {h : HP} {Q : AO → HP → Prop} {W : List Int} : ∀ (V U : List Int), opn 1 V → WLs h (U ++ (V ++ [])) → (U ++ (V ++ [])).length ≤ 950 → Q (.inl (some (vi 0))) h → K mX12_isOpened GK (ZK Q 0 0) 0 0 7 [(1, vi (((V ++ []).length : Int) - 1)), (0, vr 0)] [] h := by
  intro V
  induction V with
  | nil =>
    intro U hV w hl kx
    have e3 : (([] ++ [] : List Int).length : Int) - 1 = -1 := by decide
    rw [e3]
    refine K_iload_n (dt_at dtX12_isOpened 5 rfl) rfl rfl ?_
    refine K_if_lt (tgt := 29) (dt_at dtX12_isOpened 6 rfl) (by decide) (by first | assumption | exact ⟨by omega, by omega⟩) (fun c1 => ?_) (fun c1 => absurd c1 (by omega))
    refine K_iload_n (dt_at dtX12_isOpened 15 rfl) rfl rfl ?_
    refine K_if_lt (tgt := 37) (dt_at dtX12_isOpened 16 rfl) (by decide) (by first | assumption | exact ⟨by omega, by omega⟩) (fun c2 => ?_) (fun c2 => absurd c2 (by omega))
    refine K_iconst (dt_at dtX12_isOpened 19 rfl) ?_
    exact K_iret (dt_at dtX12_isOpened 20 rfl) rfl (by decide) (by decide) (by decide) kx
  | cons x V ih =>
    intro U hV w hl kx
    obtain ⟨⟨hx2, hs2⟩, hV2⟩ := opn_c hV
    have ho := opG_b hx2
    have w2 := w.2 U.length (by rw [List.length_append]; show U.length < U.length + ((V ++ []).length + 1); omega)
    have hl2 : U.length + ((V ++ []).length + 1) ≤ 950 := by rw [List.length_append] at hl; exact hl
    have e1 : ((U ++ (x :: V ++ [])).length : Int) - 1 - (U.length : Int) = ((V ++ []).length : Int) := by rw [List.length_append]; show ((U.length + ((V ++ []).length + 1) : Nat) : Int) - 1 - (U.length : Int) = _; omega
    have e2 : (U ++ (x :: V ++ [])).getD U.length 0 = x := by simp
    rw [e1, e2, wcF_o hx2] at w2
    have e3 : ((x :: V ++ []).length : Int) - 1 = ((V ++ []).length : Int) := by show (((V ++ []).length + 1 : Nat) : Int) - 1 = _; omega
    rw [e3]
    refine K_iload_n (dt_at dtX12_isOpened 5 rfl) rfl rfl ?_
    refine K_if_lt (tgt := 29) (dt_at dtX12_isOpened 6 rfl) (by decide) (by first | assumption | exact ⟨by omega, by omega⟩) (fun c1 => absurd c1 (by omega)) (fun c1 => ?_)
    refine K_aload_n (dt_at dtX12_isOpened 7 rfl) rfl rfl ?_
    refine K_get (a := 0) (ci := 12) (k := 40) (v := vr 16) (dt_at dtX12_isOpened 8 rfl) (show TT 0 = (0, 12) from rfl) rfl (by decide) wF_X12_65 rfl ?_
    refine K_iload_n (dt_at dtX12_isOpened 9 rfl) rfl rfl ?_
    refine K_iald (dt_at dtX12_isOpened 10 rfl) (show TT 16 = (1, 950) from rfl) (by omega) (by omega) ?_
    rw [w2]
    refine K_callS (M' := mX12_isOpen) (As := [vi (opF x)]) (st := []) (dt_at dtX12_isOpened 11 rfl) (sX12_isOpen (x := (opF x)) ⟨by omega, by omega⟩) wL_X12_180 vX12_isOpen rfl npX12_isOpen (by decide) (by decide) (Nat.le_of_ble_eq_true rfl) (by decide) (by decide) GK_E (fun v9 h9 hq => ?_) (fun E h9 hq => by cases hq.1)
    obtain ⟨e9, e8⟩ := hq
    cases e9
    rw [e8]
    show K mX12_isOpened _ _ 0 0 20 [(1, vi ((V ++ []).length : Int)), (0, vr 0)] [vi (if 14 ≤ (opF x) then 1 else 0)] h
    rw [if_neg (by omega)]
    refine K_if_ne (tgt := 29) (dt_at dtX12_isOpened 12 rfl) (by decide) (by first | assumption | exact ⟨by omega, by omega⟩) (fun c2 => absurd c2 (by omega)) (fun c2 => ?_)
    refine K_iinc (ls' := [(1, vi (((V ++ []).length : Int) + (-1))), (0, vr 0)]) (dt_at dtX12_isOpened 13 rfl) rfl (by decide) rfl ?_
    refine K_goto (tgt := 7) (dt_at dtX12_isOpened 14 rfl) (by decide) ?_
    have eU : U ++ (x :: V ++ []) = (U ++ [x]) ++ (V ++ []) := by simp
    rw [eU] at w hl
    exact K_pk [0, 1] (ls' := [(1, vi (((V ++ []).length : Int) - 1)), (0, vr 0)]) rfl (ih (U ++ [x]) hV2 w hl kx)
set_option maxHeartbeats 4000000 in
set_option maxRecDepth 100000 in
theorem opened_f {h : HP} {V W : List Int} (hV : opn 1 V) (w : WLs h (V ++ [])) (hl : (V ++ []).length ≤ 950) : SpecK mX12_isOpened [vr 0] h (fun o h' => o = .inl (some (vi 0)) ∧ h' = h) := by
  refine Spec_of (by decide +kernel) (Nat.le_of_ble_eq_true rfl) ?_
  refine K_aload_n (dt_at dtX12_isOpened 0 rfl) rfl rfl ?_
  refine K_get (a := 0) (ci := 12) (k := 31) (v := vi ((V ++ []).length : Int)) (dt_at dtX12_isOpened 1 rfl) (show TT 0 = (0, 12) from rfl) rfl (by decide) wF_X12_177 (by show vi (hI h 0 31) = vi ((V ++ []).length : Int); rw [w.1]) ?_
  refine K_iconst (dt_at dtX12_isOpened 2 rfl) ?_
  refine K_isub (dt_at dtX12_isOpened 3 rfl) ?_
  refine K_istore_n (ls' := [(1, vi (((V ++ []).length : Int) - 1)), (0, vr 0)]) (dt_at dtX12_isOpened 4 rfl) rfl (by decide) rfl ?_
  exact K_pk [0, 1] (ls' := [(1, vi (((V ++ []).length : Int) - 1)), (0, vr 0)]) rfl (lp_opened_f (W := []) V [] hV w hl ⟨rfl, rfl⟩)
def mX12_deeper : MI := (yX12_deeper, cX12_deeper, 1, none, rmK 2 0)
def tX12_deeper : List (Nat × Instr × Nat) := [(0, .aload_n 0, 1), (1, .getfield 199, 3), (4, .bipush 6, 2), (6, .if_icmp .ge 24, 3), (9, .aload_n 0, 1), (10, .dup, 1), (11, .getfield 199, 3), (14, .iconst 1, 1), (15, .iadd, 1), (16, .putfield 199, 3), (19, .aload_n 0, 1), (20, .getfield 68, 3), (23, .aload_n 0, 1), (24, .getfield 199, 3), (27, .iconst 0, 1), (28, .bastore, 1), (29, .return_, 1), (30, .aload_n 0, 1), (31, .aload_n 0, 1), (32, .getfield 138, 3), (35, .iconst 2, 1), (36, .if_icmp .eq 20, 3), (39, .aload_n 0, 1), (40, .getfield 138, 3), (43, .iconst 1, 1), (44, .if_icmp .eq 12, 3), (47, .aload_n 0, 1), (48, .bipush 40, 2), (50, .invokevirtual 202, 3), (53, .ifCond .eq 7, 3), (56, .iconst 2, 1), (57, .goto 4, 3), (60, .iconst 1, 1), (61, .invokevirtual 171, 3), (64, .return_, 1)]
theorem dtX12_deeper : tX12_deeper.all (fun q => decide (decode cX12_deeper q.1 = .ok (q.2.1, q.2.2))) = true := by decide +kernel
theorem npX12_deeper : (parseMethodDescriptor (mY mX12_deeper).desc).map (fun d => d.parameters.length) = some 0 := by decide +kernel
theorem vX12_deeper : mV mX12_deeper := ⟨wI_X12_deeper, wS_X12_deeper, wN_X12, wC_X12_deeper, by decide +kernel, by decide +kernel⟩
set_option maxHeartbeats 4000000 in
set_option maxRecDepth 100000 in
theorem deeper_t {h : HP} {T : List Bool} (t : TLt h T) (ht : T.length < 6) : SpecK mX12_deeper [vr 0] h (fun o h' => o = .inl none ∧ TLt h' (false :: T) ∧ FL [17] [(0, 32)] [] h h') := by
  refine Spec_of (by decide +kernel) (Nat.le_of_ble_eq_true rfl) ?_
  refine K_aload_n (dt_at dtX12_deeper 0 rfl) rfl rfl ?_
  refine K_get (a := 0) (ci := 12) (k := 32) (v := vi (T.length : Int)) (dt_at dtX12_deeper 1 rfl) (show TT 0 = (0, 12) from rfl) rfl (by decide) wF_X12_199 (by show vi (hI h 0 32) = vi (T.length : Int); rw [t.1]) ?_
  refine K_bipush (dt_at dtX12_deeper 2 rfl) (by decide) ?_
  refine K_icmp_ge (tgt := 30) (dt_at dtX12_deeper 3 rfl) (by decide) (by first | assumption | exact ⟨by omega, by omega⟩) (by first | assumption | exact ⟨by omega, by omega⟩) (fun c1 => absurd c1 (by omega)) (fun c1 => ?_)
  refine K_aload_n (dt_at dtX12_deeper 4 rfl) rfl rfl ?_
  refine K_dup (dt_at dtX12_deeper 5 rfl) rfl ?_
  refine K_get (a := 0) (ci := 12) (k := 32) (v := vi (T.length : Int)) (dt_at dtX12_deeper 6 rfl) (show TT 0 = (0, 12) from rfl) rfl (by decide) wF_X12_199 (by show vi (hI h 0 32) = vi (T.length : Int); rw [t.1]) ?_
  refine K_iconst (dt_at dtX12_deeper 7 rfl) ?_
  refine K_iadd (dt_at dtX12_deeper 8 rfl) ?_
  refine K_putI (a := 0) (ci := 12) (k := 32) (dt_at dtX12_deeper 9 rfl) (show TT 0 = (0, 12) from rfl) rfl (by decide) wF_X12_199 rfl (Or.inl rfl) rfl rfl ?_
  obtain ⟨hq1, eq1⟩ : ∃ z, z = sI h 0 32 ((T.length : Int) + 1) := ⟨_, rfl⟩
  rw [← eq1]
  obtain ⟨iq1, fq1, aq1, rq1⟩ := sI_fx eq1
  refine K_aload_n (dt_at dtX12_deeper 10 rfl) rfl rfl ?_
  refine K_get (a := 0) (ci := 12) (k := 41) (v := vr 17) (dt_at dtX12_deeper 11 rfl) (show TT 0 = (0, 12) from rfl) rfl (by decide) wF_X12_68 rfl ?_
  refine K_aload_n (dt_at dtX12_deeper 12 rfl) rfl rfl ?_
  refine K_get (a := 0) (ci := 12) (k := 32) (v := vi ((T.length : Int) + 1)) (dt_at dtX12_deeper 13 rfl) (show TT 0 = (0, 12) from rfl) rfl (by decide) wF_X12_199 (by show vi (hI hq1 0 32) = vi ((T.length : Int) + 1); rw [iq1]) ?_
  refine K_iconst (dt_at dtX12_deeper 14 rfl) ?_
  refine K_zast (dt_at dtX12_deeper 15 rfl) (show TT 17 = (3, 9) from rfl) (by omega) (by omega) (by omega) ?_
  obtain ⟨hq2, eq2⟩ : ∃ z, z = sA hq1 17 ((T.length : Int) + 1) 0 := ⟨_, rfl⟩
  rw [← eq2]
  obtain ⟨aq2, fq2, iq2, rq2⟩ := sA_fx eq2
  rw [aq1] at aq2
  exact K_vret (dt_at dtX12_deeper 16 rfl) rfl (by decide) (by decide) ⟨rfl, TLt_push t (by rw [iq2, iq1, t.1]) (by rw [aq2, t.1]; rfl), (FL_tr (FL_tr (FL_rf : FL [17] [(0, 32)] [] h h) (FL_eI eq1 rfl)) (FL_eA eq2 rfl))⟩
set_option maxHeartbeats 4000000 in
set_option maxRecDepth 100000 in
theorem deeper_f {h : HP} {tp : Int → Int} {n p : Nat} {T : List Bool} (A : MGd h tp n p) (t : TLt h T) (ht : T.length = 6) : SpecK mX12_deeper [vr 0] h (fun o h' => o = .inl none ∧ MEr h' tp n (erP tp n p) ∧ FL [] [(0, 13), (0, 14)] [] h h') := by
  refine Spec_of (by decide +kernel) (Nat.le_of_ble_eq_true rfl) ?_
  have gk := (tk_G (tp := tp) A.2.2.1).1
  refine K_aload_n (dt_at dtX12_deeper 0 rfl) rfl rfl ?_
  refine K_get (a := 0) (ci := 12) (k := 32) (v := vi 6) (dt_at dtX12_deeper 1 rfl) (show TT 0 = (0, 12) from rfl) rfl (by decide) wF_X12_199 (by show vi (hI h 0 32) = vi 6; rw [(by rw [t.1, ht]; rfl : hI h 0 32 = 6)]) ?_
  refine K_bipush (dt_at dtX12_deeper 2 rfl) (by decide) ?_
  refine K_icmp_ge (tgt := 30) (dt_at dtX12_deeper 3 rfl) (by decide) (by first | assumption | exact ⟨by omega, by omega⟩) (by first | assumption | exact ⟨by omega, by omega⟩) (fun c1 => ?_) (fun c1 => absurd c1 (by omega))
  refine K_aload_n (dt_at dtX12_deeper 17 rfl) rfl rfl ?_
  refine K_aload_n (dt_at dtX12_deeper 18 rfl) rfl rfl ?_
  refine K_get (a := 0) (ci := 12) (k := 18) (v := vi ((tk tp n p).1)) (dt_at dtX12_deeper 19 rfl) (show TT 0 = (0, 12) from rfl) rfl (by decide) wF_X12_138 (by show vi (hI h 0 18) = vi ((tk tp n p).1); rw [A.2.1.1.1]) ?_
  refine K_iconst (dt_at dtX12_deeper 20 rfl) ?_
  refine K_icmp_eq (tgt := 56) (dt_at dtX12_deeper 21 rfl) (by decide) (by first | assumption | exact ⟨by omega, by omega⟩) (by first | assumption | exact ⟨by omega, by omega⟩) (fun c2 => ?_) (fun c2 => ?_)
  · refine K_iconst (dt_at dtX12_deeper 30 rfl) ?_
    refine K_goto (tgt := 61) (dt_at dtX12_deeper 31 rfl) (by decide) ?_
    have ee : erP tp n p = (2, (tk tp n p).2.1) := by unfold erP; rw [if_pos (by first | exact Or.inl (by omega) | exact Or.inr (Or.inl (by omega)) | exact Or.inr (Or.inr (by assumption)))]
    rw [ee]
    refine K_callV (M' := mX12_wrong) (a := 0) (ci := 12) (As := [vi 2]) (st := []) (dt_at dtX12_deeper 33 rfl) (wrong_g A (by omega)) (show TT 0 = (0, 12) from rfl) rfl wL_X12_171 vX12_wrong rfl npX12_wrong (by decide) (by decide) (Nat.le_of_ble_eq_true rfl) (by decide) (by decide) GK_E (fun v9 hc1 hq => ?_) (fun E h9 hq => by cases hq.1)
    have hqq2 := hq
    obtain ⟨e9q2, Eq2, Gq2⟩ := hqq2
    cases e9q2
    show K mX12_deeper _ _ 0 0 64 [(0, vr 0)] [] hc1
    exact K_vret (dt_at dtX12_deeper 34 rfl) rfl (by decide) (by decide) ⟨rfl, Eq2, Gq2⟩
  · refine K_aload_n (dt_at dtX12_deeper 22 rfl) rfl rfl ?_
    refine K_get (a := 0) (ci := 12) (k := 18) (v := vi ((tk tp n p).1)) (dt_at dtX12_deeper 23 rfl) (show TT 0 = (0, 12) from rfl) rfl (by decide) wF_X12_138 (by show vi (hI h 0 18) = vi ((tk tp n p).1); rw [A.2.1.1.1]) ?_
    refine K_iconst (dt_at dtX12_deeper 24 rfl) ?_
    refine K_icmp_eq (tgt := 56) (dt_at dtX12_deeper 25 rfl) (by decide) (by first | assumption | exact ⟨by omega, by omega⟩) (by first | assumption | exact ⟨by omega, by omega⟩) (fun c3 => ?_) (fun c3 => ?_)
    · refine K_iconst (dt_at dtX12_deeper 30 rfl) ?_
      refine K_goto (tgt := 61) (dt_at dtX12_deeper 31 rfl) (by decide) ?_
      have ee : erP tp n p = (2, (tk tp n p).2.1) := by unfold erP; rw [if_pos (by first | exact Or.inl (by omega) | exact Or.inr (Or.inl (by omega)) | exact Or.inr (Or.inr (by assumption)))]
      rw [ee]
      refine K_callV (M' := mX12_wrong) (a := 0) (ci := 12) (As := [vi 2]) (st := []) (dt_at dtX12_deeper 33 rfl) (wrong_g A (by omega)) (show TT 0 = (0, 12) from rfl) rfl wL_X12_171 vX12_wrong rfl npX12_wrong (by decide) (by decide) (Nat.le_of_ble_eq_true rfl) (by decide) (by decide) GK_E (fun v9 hc3 hq => ?_) (fun E h9 hq => by cases hq.1)
      have hqq4 := hq
      obtain ⟨e9q4, Eq4, Gq4⟩ := hqq4
      cases e9q4
      show K mX12_deeper _ _ 0 0 64 [(0, vr 0)] [] hc3
      exact K_vret (dt_at dtX12_deeper 34 rfl) rfl (by decide) (by decide) ⟨rfl, Eq4, Gq4⟩
    · refine K_aload_n (dt_at dtX12_deeper 26 rfl) rfl rfl ?_
      refine K_bipush (dt_at dtX12_deeper 27 rfl) (by decide) ?_
      refine K_callV (M' := mX12_isSign) (a := 0) (ci := 12) (As := [vi 40]) (st := [vr 0]) (dt_at dtX12_deeper 28 rfl) (sg_g (c := 40) A (by first | assumption | exact ⟨by decide, by decide⟩)) (show TT 0 = (0, 12) from rfl) rfl wL_X12_202 vX12_isSign rfl npX12_isSign (by decide) (by decide) (Nat.le_of_ble_eq_true rfl) (by decide) (by decide) GK_E (fun v9 h9 hq => ?_) (fun E h9 hq => by cases hq.1)
      obtain ⟨e9, e8⟩ := hq
      cases e9
      rw [e8]
      show K mX12_deeper _ _ 0 0 53 [(0, vr 0)] [vi (if Sg tp (tk tp n p) 40 then 1 else 0), vr 0] h
      by_cases z4 : Sg tp (tk tp n p) 40
      · rw [if_pos z4]
        refine K_if_eq (tgt := 60) (dt_at dtX12_deeper 29 rfl) (by decide) (by first | assumption | exact ⟨by omega, by omega⟩) (fun c5 => absurd c5 (by omega)) (fun c5 => ?_)
        refine K_iconst (dt_at dtX12_deeper 30 rfl) ?_
        refine K_goto (tgt := 61) (dt_at dtX12_deeper 31 rfl) (by decide) ?_
        have ee : erP tp n p = (2, (tk tp n p).2.1) := by unfold erP; rw [if_pos (by first | exact Or.inl (by omega) | exact Or.inr (Or.inl (by omega)) | exact Or.inr (Or.inr (by assumption)))]
        rw [ee]
        refine K_callV (M' := mX12_wrong) (a := 0) (ci := 12) (As := [vi 2]) (st := []) (dt_at dtX12_deeper 33 rfl) (wrong_g A (by omega)) (show TT 0 = (0, 12) from rfl) rfl wL_X12_171 vX12_wrong rfl npX12_wrong (by decide) (by decide) (Nat.le_of_ble_eq_true rfl) (by decide) (by decide) GK_E (fun v9 hc5 hq => ?_) (fun E h9 hq => by cases hq.1)
        have hqq6 := hq
        obtain ⟨e9q6, Eq6, Gq6⟩ := hqq6
        cases e9q6
        show K mX12_deeper _ _ 0 0 64 [(0, vr 0)] [] hc5
        exact K_vret (dt_at dtX12_deeper 34 rfl) rfl (by decide) (by decide) ⟨rfl, Eq6, Gq6⟩
      · rw [if_neg z4]
        refine K_if_eq (tgt := 60) (dt_at dtX12_deeper 29 rfl) (by decide) (by first | assumption | exact ⟨by omega, by omega⟩) (fun c6 => ?_) (fun c6 => absurd c6 (by omega))
        refine K_iconst (dt_at dtX12_deeper 32 rfl) ?_
        have ee : erP tp n p = (1, (tk tp n p).2.1) := by unfold erP; rw [if_neg (fun z => z.elim (fun z => by omega) (fun z => z.elim (fun z => by omega) (fun z => absurd z (by assumption))))]
        rw [ee]
        refine K_callV (M' := mX12_wrong) (a := 0) (ci := 12) (As := [vi 1]) (st := []) (dt_at dtX12_deeper 33 rfl) (wrong_g A (by omega)) (show TT 0 = (0, 12) from rfl) rfl wL_X12_171 vX12_wrong rfl npX12_wrong (by decide) (by decide) (Nat.le_of_ble_eq_true rfl) (by decide) (by decide) GK_E (fun v9 hc7 hq => ?_) (fun E h9 hq => by cases hq.1)
        have hqq8 := hq
        obtain ⟨e9q8, Eq8, Gq8⟩ := hqq8
        cases e9q8
        show K mX12_deeper _ _ 0 0 64 [(0, vr 0)] [] hc7
        exact K_vret (dt_at dtX12_deeper 34 rfl) rfl (by decide) (by decide) ⟨rfl, Eq8, Gq8⟩
def mX12_part : MI := (yX12_part, cX12_part, 2, none, rmK 4 0)
def tX12_part : List (Nat × Instr × Nat) := [(0, .aload_n 0, 1), (1, .invokevirtual 164, 3), (4, .ifCond .ne 4, 3), (7, .return_, 1), (8, .aload_n 0, 1), (9, .getfield 138, 3), (12, .iconst 2, 1), (13, .if_icmp .ne 32, 3), (16, .aload_n 0, 1), (17, .getfield 148, 3), (20, .iconst 4, 1), (21, .if_icmp .le 8, 3), (24, .aload_n 0, 1), (25, .iconst 2, 1), (26, .invokevirtual 171, 3), (29, .aload_n 0, 1), (30, .iconst 1, 1), (31, .invokevirtual 186, 3), (34, .aload_n 0, 1), (35, .aload_n 0, 1), (36, .getfield 132, 3), (39, .invokevirtual 186, 3), (42, .goto 55, 3), (45, .aload_n 0, 1), (46, .getfield 138, 3), (49, .iconst 1, 1), (50, .if_icmp .ne 42, 3), (53, .aload_n 0, 1), (54, .invokevirtual 189, 3), (57, .istore_n 1, 1), (58, .iload_n 1, 1), (59, .aload_n 0, 1), (60, .getfield 193, 3), (63, .if_icmp .lt 11, 3), (66, .iload_n 1, 1), (67, .aload_n 0, 1), (68, .getfield 196, 3), (71, .if_icmp .le 8, 3), (74, .aload_n 0, 1), (75, .iconst 3, 1), (76, .invokevirtual 171, 3), (79, .aload_n 0, 1), (80, .iconst 2, 1), (81, .invokevirtual 186, 3), (84, .aload_n 0, 1), (85, .iload_n 1, 1), (86, .invokevirtual 186, 3), (89, .goto 8, 3), (92, .aload_n 0, 1), (93, .iconst 1, 1), (94, .invokevirtual 171, 3), (97, .aload_n 0, 1), (98, .invokevirtual 164, 3), (101, .ifCond .eq 7, 3), (104, .aload_n 0, 1), (105, .invokevirtual 168, 3), (108, .return_, 1)]
theorem dtX12_part : tX12_part.all (fun q => decide (decode cX12_part q.1 = .ok (q.2.1, q.2.2))) = true := by decide +kernel
theorem npX12_part : (parseMethodDescriptor (mY mX12_part).desc).map (fun d => d.parameters.length) = some 0 := by decide +kernel
theorem vX12_part : mV mX12_part := ⟨wI_X12_part, wS_X12_part, wN_X12, wC_X12_part, by decide +kernel, by decide +kernel⟩
def PTo (h h' : HP) (tp : Int → Int) (n : Nat) : (Int × Nat) ⊕ (Nat × Int) → Prop
  | .inl e => MEr h' tp n e ∧ (hI h 0 28 ≤ hI h' 0 28 ∧ hI h' 0 28 ≤ hI h 0 28 + 2)
  | .inr (q, x) => MGd h' tp n q ∧ hI h' 0 28 = hI h 0 28 + 2 ∧ (-8 ≤ x ∧ x ≤ 9999) ∧ (if 0 ≤ x then hA h' 15 (hI h 0 28) = 1 ∧ hA h' 15 (hI h 0 28 + 1) = x else hA h' 15 (hI h 0 28) = 2 ∧ hA h' 15 (hI h 0 28 + 1) = vkF x)
def PTf (h h' : HP) : Prop := (∀ i : Int, i < hI h 0 28 → hA h' 15 i = hA h 15 i) ∧ FL [15] ((0, 28) :: MRl) [] h h'
theorem up2 {f : Int → Int} {i a b : Int} : upI (upI f i a) (i + 1) b i = a ∧ upI (upI f i a) (i + 1) b (i + 1) = b ∧ ∀ j : Int, j < i → upI (upI f i a) (i + 1) b j = f j := ⟨by rw [upI_n (by omega), upI_s], upI_s .., fun j hj => by rw [upI_n (by omega), upI_n (by omega)]⟩
set_option maxHeartbeats 4000000 in
set_option maxRecDepth 100000 in
theorem part_n {h : HP} {tp : Int → Int} {n p : Nat} {pu : Int} (A : MGd h tp n p) (hpu : pu = 0 ∨ pu = 1) (e29 : hI h 0 29 = fvP pu) (e30 : hI h 0 30 = laV pu) (ht : 0 ≤ hI h 0 28 ∧ hI h 0 28 + 2 ≤ 1400) (h1 : (tk tp n p).1 = 2) (h2 : ¬ (tk tp n p).2.1 + 4 < (tk tp n p).2.2) : SpecK mX12_part [vr 0] h (fun o h' => o = .inl none ∧ PTo h h' tp n (ptF tp n pu p) ∧ PTf h h') := by
  refine Spec_of (by decide +kernel) (Nat.le_of_ble_eq_true rfl) ?_
  have gk := tk_G (tp := tp) A.2.2.1
  obtain ⟨⟨g1, g2⟩, g3, g4, g5, g6⟩ := id gk
  have hn7 := A.1.2.1
  have fb : i32 (fvP pu) ∧ i32 (laV pu) := by rcases hpu with rfl | rfl <;> exact ⟨⟨by decide, by decide⟩, ⟨by decide, by decide⟩⟩
  have kb := kwF_b tp (tk tp n p)
  have kv := kw_va (tp := tp) (t := tk tp n p) hpu
  have ep : ptF tp n pu p = .inr ((tk tp n p).2.2, nmT tp (tk tp n p)) := by unfold ptF; rw [if_pos h1, if_neg h2]
  have hv2 := A.2.1.2.1.2 h1
  have hvb := nmT_b gk h1
  refine K_aload_n (dt_at dtX12_part 0 rfl) rfl rfl ?_
  refine K_callV (M' := mX12_isGood) (a := 0) (ci := 12) (As := []) (st := []) (dt_at dtX12_part 1 rfl) (good_t A.2.2.2.1) (show TT 0 = (0, 12) from rfl) rfl wL_X12_164 vX12_isGood rfl npX12_isGood (by decide) (by decide) (Nat.le_of_ble_eq_true rfl) (by decide) (by decide) GK_E (fun v9 h9 hq => ?_) (fun E h9 hq => by cases hq.1)
  obtain ⟨e9, e8⟩ := hq
  cases e9
  rw [e8]
  show K mX12_part _ _ 0 0 4 [(0, vr 0)] [vi 1] h
  refine K_if_ne (tgt := 8) (dt_at dtX12_part 2 rfl) (by decide) (by first | assumption | exact ⟨by omega, by omega⟩) (fun c1 => ?_) (fun c1 => absurd c1 (by omega))
  refine K_aload_n (dt_at dtX12_part 4 rfl) rfl rfl ?_
  refine K_get (a := 0) (ci := 12) (k := 18) (v := vi ((tk tp n p).1)) (dt_at dtX12_part 5 rfl) (show TT 0 = (0, 12) from rfl) rfl (by decide) wF_X12_138 (by show vi (hI h 0 18) = vi ((tk tp n p).1); rw [A.2.1.1.1]) ?_
  refine K_iconst (dt_at dtX12_part 6 rfl) ?_
  refine K_icmp_ne (tgt := 45) (dt_at dtX12_part 7 rfl) (by decide) (by first | assumption | exact ⟨by omega, by omega⟩) (by first | assumption | exact ⟨by omega, by omega⟩) (fun c2 => absurd c2 (by omega)) (fun c2 => ?_)
  refine K_aload_n (dt_at dtX12_part 8 rfl) rfl rfl ?_
  refine K_get (a := 0) (ci := 12) (k := 20) (v := vi (((tk tp n p).2.2 : Int) - ((tk tp n p).2.1 : Int))) (dt_at dtX12_part 9 rfl) (show TT 0 = (0, 12) from rfl) rfl (by decide) wF_X12_148 (by show vi (hI h 0 20) = vi (((tk tp n p).2.2 : Int) - ((tk tp n p).2.1 : Int)); rw [A.2.1.1.2.2.2]) ?_
  refine K_iconst (dt_at dtX12_part 10 rfl) ?_
  refine K_icmp_le (tgt := 29) (dt_at dtX12_part 11 rfl) (by decide) (by first | assumption | exact ⟨by omega, by omega⟩) (by first | assumption | exact ⟨by omega, by omega⟩) (fun c3 => ?_) (fun c3 => absurd c3 (by omega))
  refine K_aload_n (dt_at dtX12_part 15 rfl) rfl rfl ?_
  refine K_iconst (dt_at dtX12_part 16 rfl) ?_
  refine K_callV (M' := mX12_puts) (a := 0) (ci := 12) (As := [vi 1]) (st := []) (dt_at dtX12_part 17 rfl) (sX12_puts (v := 1) ⟨by omega, by omega⟩) (show TT 0 = (0, 12) from rfl) rfl wL_X12_186 vX12_puts rfl npX12_puts (by decide) (by decide) (Nat.le_of_ble_eq_true rfl) (by decide) (by decide) GK_E (fun v9 h9 hq => ?_) (fun E h9 hq => by cases hq.1)
  obtain ⟨e9, e8⟩ := hq
  cases e9
  rw [e8]
  show K mX12_part _ _ 0 0 34 [(0, vr 0)] [] (sI (sA h 15 (hI h 0 28) 1) 0 28 (hI h 0 28 + 1))
  obtain ⟨hq1, eq1⟩ : ∃ z, z = sA h 15 (hI h 0 28) 1 := ⟨_, rfl⟩
  rw [← eq1]
  obtain ⟨aq1, fq1, iq1, rq1⟩ := sA_fx eq1
  obtain ⟨hq2, eq2⟩ : ∃ z, z = sI hq1 0 28 (hI h 0 28 + 1) := ⟨_, rfl⟩
  rw [← eq2]
  obtain ⟨iq2, fq2, aq2, rq2⟩ := sI_fx eq2
  have R3 := MGd_up A (FL_tr (FL_eA eq1 rfl : FL [15] [(0, 28)] [] h hq1) (FL_eI eq2 rfl)) rfl rfl
  refine K_aload_n (dt_at dtX12_part 18 rfl) rfl rfl ?_
  refine K_aload_n (dt_at dtX12_part 19 rfl) rfl rfl ?_
  refine K_get (a := 0) (ci := 12) (k := 21) (v := vi (nmT tp (tk tp n p))) (dt_at dtX12_part 20 rfl) (show TT 0 = (0, 12) from rfl) rfl (by decide) wF_X12_132 (by show vi (hI hq2 0 21) = vi (nmT tp (tk tp n p)); rw [(fq2 0 21 (by omega)), iq1, hv2]) ?_
  refine K_callV (M' := mX12_puts) (a := 0) (ci := 12) (As := [vi (nmT tp (tk tp n p))]) (st := []) (dt_at dtX12_part 21 rfl) (sX12_puts (v := (nmT tp (tk tp n p))) ⟨by rw [iq2]; omega, by rw [iq2]; omega⟩) (show TT 0 = (0, 12) from rfl) rfl wL_X12_186 vX12_puts rfl npX12_puts (by decide) (by decide) (Nat.le_of_ble_eq_true rfl) (by decide) (by decide) GK_E (fun v9 h9 hq => ?_) (fun E h9 hq => by cases hq.1)
  obtain ⟨e9, e8⟩ := hq
  cases e9
  rw [e8]
  show K mX12_part _ _ 0 0 42 [(0, vr 0)] [] (sI (sA hq2 15 (hI hq2 0 28) (nmT tp (tk tp n p))) 0 28 (hI hq2 0 28 + 1))
  obtain ⟨hq4, eq4⟩ : ∃ z, z = sA hq2 15 (hI hq2 0 28) (nmT tp (tk tp n p)) := ⟨_, rfl⟩
  rw [← eq4]
  obtain ⟨aq4, fq4, iq4, rq4⟩ := sA_fx eq4
  rw [iq2] at aq4
  rw [aq2, aq1] at aq4
  obtain ⟨hq5, eq5⟩ : ∃ z, z = sI hq4 0 28 (hI hq2 0 28 + 1) := ⟨_, rfl⟩
  rw [← eq5]
  obtain ⟨iq5, fq5, aq5, rq5⟩ := sI_fx eq5
  rw [iq2] at iq5
  have R6 := MGd_up R3 (FL_tr (FL_eA eq4 rfl : FL [15] [(0, 28)] [] hq2 hq4) (FL_eI eq5 rfl)) rfl rfl
  refine K_goto (tgt := 97) (dt_at dtX12_part 22 rfl) (by decide) ?_
  refine K_aload_n (dt_at dtX12_part 51 rfl) rfl rfl ?_
  refine K_callV (M' := mX12_isGood) (a := 0) (ci := 12) (As := []) (st := []) (dt_at dtX12_part 52 rfl) (good_t R6.2.2.2.1) (show TT 0 = (0, 12) from rfl) rfl wL_X12_164 vX12_isGood rfl npX12_isGood (by decide) (by decide) (Nat.le_of_ble_eq_true rfl) (by decide) (by decide) GK_E (fun v9 h9 hq => ?_) (fun E h9 hq => by cases hq.1)
  obtain ⟨e9, e8⟩ := hq
  cases e9
  rw [e8]
  show K mX12_part _ _ 0 0 101 [(0, vr 0)] [vi 1] hq5
  refine K_if_eq (tgt := 108) (dt_at dtX12_part 53 rfl) (by decide) (by first | assumption | exact ⟨by omega, by omega⟩) (fun c4 => absurd c4 (by omega)) (fun c4 => ?_)
  refine K_aload_n (dt_at dtX12_part 54 rfl) rfl rfl ?_
  refine K_callV (M' := mX12_goes) (a := 0) (ci := 12) (As := []) (st := []) (dt_at dtX12_part 55 rfl) (goes_g R6) (show TT 0 = (0, 12) from rfl) rfl wL_X12_168 vX12_goes rfl npX12_goes (by decide) (by decide) (Nat.le_of_ble_eq_true rfl) (by decide) (by decide) GK_E (fun v9 hc7 hq => ?_) (fun E h9 hq => by cases hq.1)
  have hqq8 := hq
  obtain ⟨e9q8, Aq8, Gq8⟩ := hqq8
  cases e9q8
  show K mX12_part _ _ 0 0 108 [(0, vr 0)] [] hc7
  rw [ep]
  exact K_vret (dt_at dtX12_part 56 rfl) rfl (by decide) (by decide) ⟨rfl, ⟨Aq8, by rw [(Gq8.2.1 0 28 rfl), iq5]; omega, by omega, by rw [if_pos (by omega), (Gq8.1 15 rfl), aq5, aq4]; exact ⟨up2.1, by rw [up2.2.1]⟩⟩, fun i hi => by rw [(Gq8.1 15 rfl), aq5, aq4]; exact up2.2.2 i hi, (FL_tr (FL_tr (FL_tr (FL_tr (FL_tr (FL_rf : FL [15] ((0, 28) :: MRl) [] h h) (FL_eA eq1 rfl)) (FL_eI eq2 rfl)) (FL_eA eq4 rfl)) (FL_eI eq5 rfl)) (FL_up Gq8 rfl rfl rfl))⟩
set_option maxHeartbeats 4000000 in
set_option maxRecDepth 100000 in
theorem part_l {h : HP} {tp : Int → Int} {n p : Nat} {pu : Int} (A : MGd h tp n p) (hpu : pu = 0 ∨ pu = 1) (e29 : hI h 0 29 = fvP pu) (e30 : hI h 0 30 = laV pu) (ht : 0 ≤ hI h 0 28 ∧ hI h 0 28 + 2 ≤ 1400) (h1 : (tk tp n p).1 = 2) (h2 : (tk tp n p).2.1 + 4 < (tk tp n p).2.2) : SpecK mX12_part [vr 0] h (fun o h' => o = .inl none ∧ PTo h h' tp n (ptF tp n pu p) ∧ PTf h h') := by
  refine Spec_of (by decide +kernel) (Nat.le_of_ble_eq_true rfl) ?_
  have gk := tk_G (tp := tp) A.2.2.1
  obtain ⟨⟨g1, g2⟩, g3, g4, g5, g6⟩ := id gk
  have hn7 := A.1.2.1
  have fb : i32 (fvP pu) ∧ i32 (laV pu) := by rcases hpu with rfl | rfl <;> exact ⟨⟨by decide, by decide⟩, ⟨by decide, by decide⟩⟩
  have kb := kwF_b tp (tk tp n p)
  have kv := kw_va (tp := tp) (t := tk tp n p) hpu
  have ep : ptF tp n pu p = .inl (2, (tk tp n p).2.1) := by unfold ptF; rw [if_pos h1, if_pos h2]
  refine K_aload_n (dt_at dtX12_part 0 rfl) rfl rfl ?_
  refine K_callV (M' := mX12_isGood) (a := 0) (ci := 12) (As := []) (st := []) (dt_at dtX12_part 1 rfl) (good_t A.2.2.2.1) (show TT 0 = (0, 12) from rfl) rfl wL_X12_164 vX12_isGood rfl npX12_isGood (by decide) (by decide) (Nat.le_of_ble_eq_true rfl) (by decide) (by decide) GK_E (fun v9 h9 hq => ?_) (fun E h9 hq => by cases hq.1)
  obtain ⟨e9, e8⟩ := hq
  cases e9
  rw [e8]
  show K mX12_part _ _ 0 0 4 [(0, vr 0)] [vi 1] h
  refine K_if_ne (tgt := 8) (dt_at dtX12_part 2 rfl) (by decide) (by first | assumption | exact ⟨by omega, by omega⟩) (fun c1 => ?_) (fun c1 => absurd c1 (by omega))
  refine K_aload_n (dt_at dtX12_part 4 rfl) rfl rfl ?_
  refine K_get (a := 0) (ci := 12) (k := 18) (v := vi ((tk tp n p).1)) (dt_at dtX12_part 5 rfl) (show TT 0 = (0, 12) from rfl) rfl (by decide) wF_X12_138 (by show vi (hI h 0 18) = vi ((tk tp n p).1); rw [A.2.1.1.1]) ?_
  refine K_iconst (dt_at dtX12_part 6 rfl) ?_
  refine K_icmp_ne (tgt := 45) (dt_at dtX12_part 7 rfl) (by decide) (by first | assumption | exact ⟨by omega, by omega⟩) (by first | assumption | exact ⟨by omega, by omega⟩) (fun c2 => absurd c2 (by omega)) (fun c2 => ?_)
  refine K_aload_n (dt_at dtX12_part 8 rfl) rfl rfl ?_
  refine K_get (a := 0) (ci := 12) (k := 20) (v := vi (((tk tp n p).2.2 : Int) - ((tk tp n p).2.1 : Int))) (dt_at dtX12_part 9 rfl) (show TT 0 = (0, 12) from rfl) rfl (by decide) wF_X12_148 (by show vi (hI h 0 20) = vi (((tk tp n p).2.2 : Int) - ((tk tp n p).2.1 : Int)); rw [A.2.1.1.2.2.2]) ?_
  refine K_iconst (dt_at dtX12_part 10 rfl) ?_
  refine K_icmp_le (tgt := 29) (dt_at dtX12_part 11 rfl) (by decide) (by first | assumption | exact ⟨by omega, by omega⟩) (by first | assumption | exact ⟨by omega, by omega⟩) (fun c3 => absurd c3 (by omega)) (fun c3 => ?_)
  refine K_aload_n (dt_at dtX12_part 12 rfl) rfl rfl ?_
  refine K_iconst (dt_at dtX12_part 13 rfl) ?_
  refine K_callV (M' := mX12_wrong) (a := 0) (ci := 12) (As := [vi 2]) (st := []) (dt_at dtX12_part 14 rfl) (wrong_g A (by omega)) (show TT 0 = (0, 12) from rfl) rfl wL_X12_171 vX12_wrong rfl npX12_wrong (by decide) (by decide) (Nat.le_of_ble_eq_true rfl) (by decide) (by decide) GK_E (fun v9 hc1 hq => ?_) (fun E h9 hq => by cases hq.1)
  have hqq2 := hq
  obtain ⟨e9q2, Eq2, Gq2⟩ := hqq2
  cases e9q2
  show K mX12_part _ _ 0 0 29 [(0, vr 0)] [] hc1
  refine K_aload_n (dt_at dtX12_part 15 rfl) rfl rfl ?_
  refine K_iconst (dt_at dtX12_part 16 rfl) ?_
  refine K_callV (M' := mX12_puts) (a := 0) (ci := 12) (As := [vi 1]) (st := []) (dt_at dtX12_part 17 rfl) (sX12_puts (v := 1) ⟨by rw [(Gq2.2.1 0 28 rfl)]; omega, by rw [(Gq2.2.1 0 28 rfl)]; omega⟩) (show TT 0 = (0, 12) from rfl) rfl wL_X12_186 vX12_puts rfl npX12_puts (by decide) (by decide) (Nat.le_of_ble_eq_true rfl) (by decide) (by decide) GK_E (fun v9 h9 hq => ?_) (fun E h9 hq => by cases hq.1)
  obtain ⟨e9, e8⟩ := hq
  cases e9
  rw [e8]
  show K mX12_part _ _ 0 0 34 [(0, vr 0)] [] (sI (sA hc1 15 (hI hc1 0 28) 1) 0 28 (hI hc1 0 28 + 1))
  obtain ⟨hq3, eq3⟩ : ∃ z, z = sA hc1 15 (hI hc1 0 28) 1 := ⟨_, rfl⟩
  rw [← eq3]
  obtain ⟨aq3, fq3, iq3, rq3⟩ := sA_fx eq3
  rw [(Gq2.2.1 0 28 rfl)] at aq3
  rw [(Gq2.1 15 rfl)] at aq3
  obtain ⟨hq4, eq4⟩ : ∃ z, z = sI hq3 0 28 (hI hc1 0 28 + 1) := ⟨_, rfl⟩
  rw [← eq4]
  obtain ⟨iq4, fq4, aq4, rq4⟩ := sI_fx eq4
  rw [(Gq2.2.1 0 28 rfl)] at iq4
  have R5 := MEr_up Eq2 (FL_tr (FL_eA eq3 rfl : FL [15] [(0, 28)] [] hc1 hq3) (FL_eI eq4 rfl)) rfl rfl
  refine K_aload_n (dt_at dtX12_part 18 rfl) rfl rfl ?_
  refine K_aload_n (dt_at dtX12_part 19 rfl) rfl rfl ?_
  refine K_get (a := 0) (ci := 12) (k := 21) (v := vi (hI h 0 21)) (dt_at dtX12_part 20 rfl) (show TT 0 = (0, 12) from rfl) rfl (by decide) wF_X12_132 (by show vi (hI hq4 0 21) = vi (hI h 0 21); rw [(fq4 0 21 (by omega)), iq3, (Gq2.2.1 0 21 rfl)]) ?_
  refine K_callV (M' := mX12_puts) (a := 0) (ci := 12) (As := [vi (hI h 0 21)]) (st := []) (dt_at dtX12_part 21 rfl) (sX12_puts (v := (hI h 0 21)) ⟨by rw [iq4]; omega, by rw [iq4]; omega⟩) (show TT 0 = (0, 12) from rfl) rfl wL_X12_186 vX12_puts rfl npX12_puts (by decide) (by decide) (Nat.le_of_ble_eq_true rfl) (by decide) (by decide) GK_E (fun v9 h9 hq => ?_) (fun E h9 hq => by cases hq.1)
  obtain ⟨e9, e8⟩ := hq
  cases e9
  rw [e8]
  show K mX12_part _ _ 0 0 42 [(0, vr 0)] [] (sI (sA hq4 15 (hI hq4 0 28) (hI h 0 21)) 0 28 (hI hq4 0 28 + 1))
  obtain ⟨hq6, eq6⟩ : ∃ z, z = sA hq4 15 (hI hq4 0 28) (hI h 0 21) := ⟨_, rfl⟩
  rw [← eq6]
  obtain ⟨aq6, fq6, iq6, rq6⟩ := sA_fx eq6
  rw [iq4] at aq6
  rw [aq4, aq3] at aq6
  obtain ⟨hq7, eq7⟩ : ∃ z, z = sI hq6 0 28 (hI hq4 0 28 + 1) := ⟨_, rfl⟩
  rw [← eq7]
  obtain ⟨iq7, fq7, aq7, rq7⟩ := sI_fx eq7
  rw [iq4] at iq7
  have R8 := MEr_up R5 (FL_tr (FL_eA eq6 rfl : FL [15] [(0, 28)] [] hq4 hq6) (FL_eI eq7 rfl)) rfl rfl
  refine K_goto (tgt := 97) (dt_at dtX12_part 22 rfl) (by decide) ?_
  refine K_aload_n (dt_at dtX12_part 51 rfl) rfl rfl ?_
  refine K_callV (M' := mX12_isGood) (a := 0) (ci := 12) (As := []) (st := []) (dt_at dtX12_part 52 rfl) (good_f R8.2.2.2.1 R8.2.2.1) (show TT 0 = (0, 12) from rfl) rfl wL_X12_164 vX12_isGood rfl npX12_isGood (by decide) (by decide) (Nat.le_of_ble_eq_true rfl) (by decide) (by decide) GK_E (fun v9 h9 hq => ?_) (fun E h9 hq => by cases hq.1)
  obtain ⟨e9, e8⟩ := hq
  cases e9
  rw [e8]
  show K mX12_part _ _ 0 0 101 [(0, vr 0)] [vi 0] hq7
  refine K_if_eq (tgt := 108) (dt_at dtX12_part 53 rfl) (by decide) (by first | assumption | exact ⟨by omega, by omega⟩) (fun c4 => ?_) (fun c4 => absurd c4 (by omega))
  rw [ep]
  exact K_vret (dt_at dtX12_part 56 rfl) rfl (by decide) (by decide) ⟨rfl, ⟨R8, by rw [iq7]; omega, by rw [iq7]; omega⟩, fun i hi => by rw [aq7, aq6]; exact up2.2.2 i hi, (FL_tr (FL_tr (FL_tr (FL_tr (FL_tr (FL_rf : FL [15] ((0, 28) :: MRl) [] h h) (FL_up Gq2 rfl rfl rfl)) (FL_eA eq3 rfl)) (FL_eI eq4 rfl)) (FL_eA eq6 rfl)) (FL_eI eq7 rfl))⟩
set_option maxHeartbeats 4000000 in
set_option maxRecDepth 100000 in
theorem part_w {h : HP} {tp : Int → Int} {n p : Nat} {pu : Int} (A : MGd h tp n p) (hpu : pu = 0 ∨ pu = 1) (e29 : hI h 0 29 = fvP pu) (e30 : hI h 0 30 = laV pu) (ht : 0 ≤ hI h 0 28 ∧ hI h 0 28 + 2 ≤ 1400) (h1 : (tk tp n p).1 = 1) (h2 : fvP pu ≤ kwF tp (tk tp n p) ∧ kwF tp (tk tp n p) ≤ laV pu) : SpecK mX12_part [vr 0] h (fun o h' => o = .inl none ∧ PTo h h' tp n (ptF tp n pu p) ∧ PTf h h') := by
  refine Spec_of (by decide +kernel) (Nat.le_of_ble_eq_true rfl) ?_
  have gk := tk_G (tp := tp) A.2.2.1
  obtain ⟨⟨g1, g2⟩, g3, g4, g5, g6⟩ := id gk
  have hn7 := A.1.2.1
  have fb : i32 (fvP pu) ∧ i32 (laV pu) := by rcases hpu with rfl | rfl <;> exact ⟨⟨by decide, by decide⟩, ⟨by decide, by decide⟩⟩
  have kb := kwF_b tp (tk tp n p)
  have kv := kw_va (tp := tp) (t := tk tp n p) hpu
  have ep : ptF tp n pu p = .inr ((tk tp n p).2.2, vaW tp pu (tk tp n p)) := by unfold ptF; rw [if_neg (by omega), if_pos h1, if_neg (kv.1 h2).1]
  have hkv := (kv.1 h2).2
  have hvi := vaW_rng (tp := tp) (t := tk tp n p) hpu (kv.1 h2).1
  refine K_aload_n (dt_at dtX12_part 0 rfl) rfl rfl ?_
  refine K_callV (M' := mX12_isGood) (a := 0) (ci := 12) (As := []) (st := []) (dt_at dtX12_part 1 rfl) (good_t A.2.2.2.1) (show TT 0 = (0, 12) from rfl) rfl wL_X12_164 vX12_isGood rfl npX12_isGood (by decide) (by decide) (Nat.le_of_ble_eq_true rfl) (by decide) (by decide) GK_E (fun v9 h9 hq => ?_) (fun E h9 hq => by cases hq.1)
  obtain ⟨e9, e8⟩ := hq
  cases e9
  rw [e8]
  show K mX12_part _ _ 0 0 4 [(0, vr 0)] [vi 1] h
  refine K_if_ne (tgt := 8) (dt_at dtX12_part 2 rfl) (by decide) (by first | assumption | exact ⟨by omega, by omega⟩) (fun c1 => ?_) (fun c1 => absurd c1 (by omega))
  refine K_aload_n (dt_at dtX12_part 4 rfl) rfl rfl ?_
  refine K_get (a := 0) (ci := 12) (k := 18) (v := vi ((tk tp n p).1)) (dt_at dtX12_part 5 rfl) (show TT 0 = (0, 12) from rfl) rfl (by decide) wF_X12_138 (by show vi (hI h 0 18) = vi ((tk tp n p).1); rw [A.2.1.1.1]) ?_
  refine K_iconst (dt_at dtX12_part 6 rfl) ?_
  refine K_icmp_ne (tgt := 45) (dt_at dtX12_part 7 rfl) (by decide) (by first | assumption | exact ⟨by omega, by omega⟩) (by first | assumption | exact ⟨by omega, by omega⟩) (fun c2 => ?_) (fun c2 => absurd c2 (by omega))
  refine K_aload_n (dt_at dtX12_part 23 rfl) rfl rfl ?_
  refine K_get (a := 0) (ci := 12) (k := 18) (v := vi ((tk tp n p).1)) (dt_at dtX12_part 24 rfl) (show TT 0 = (0, 12) from rfl) rfl (by decide) wF_X12_138 (by show vi (hI h 0 18) = vi ((tk tp n p).1); rw [A.2.1.1.1]) ?_
  refine K_iconst (dt_at dtX12_part 25 rfl) ?_
  refine K_icmp_ne (tgt := 92) (dt_at dtX12_part 26 rfl) (by decide) (by first | assumption | exact ⟨by omega, by omega⟩) (by first | assumption | exact ⟨by omega, by omega⟩) (fun c3 => absurd c3 (by omega)) (fun c3 => ?_)
  refine K_aload_n (dt_at dtX12_part 27 rfl) rfl rfl ?_
  refine K_callV (M' := mX12_knownWord) (a := 0) (ci := 12) (As := []) (st := []) (dt_at dtX12_part 28 rfl) (kw_g A) (show TT 0 = (0, 12) from rfl) rfl wL_X12_189 vX12_knownWord rfl npX12_knownWord (by decide) (by decide) (Nat.le_of_ble_eq_true rfl) (by decide) (by decide) GK_E (fun v9 h9 hq => ?_) (fun E h9 hq => by cases hq.1)
  obtain ⟨e9, e8⟩ := hq
  cases e9
  rw [e8]
  show K mX12_part _ _ 0 0 57 [(0, vr 0)] [vi (kwF tp (tk tp n p))] h
  refine K_istore_n (ls' := [(1, vi (kwF tp (tk tp n p))), (0, vr 0)]) (dt_at dtX12_part 29 rfl) rfl (by decide) rfl ?_
  refine K_iload_n (dt_at dtX12_part 30 rfl) rfl rfl ?_
  refine K_aload_n (dt_at dtX12_part 31 rfl) rfl rfl ?_
  refine K_get (a := 0) (ci := 12) (k := 29) (v := vi (fvP pu)) (dt_at dtX12_part 32 rfl) (show TT 0 = (0, 12) from rfl) rfl (by decide) wF_X12_193 (by show vi (hI h 0 29) = vi (fvP pu); rw [e29]) ?_
  refine K_icmp_lt (tgt := 74) (dt_at dtX12_part 33 rfl) (by decide) ⟨by omega, by omega⟩ fb.1 (fun c4 => absurd c4 (by omega)) (fun c4 => ?_)
  refine K_iload_n (dt_at dtX12_part 34 rfl) rfl rfl ?_
  refine K_aload_n (dt_at dtX12_part 35 rfl) rfl rfl ?_
  refine K_get (a := 0) (ci := 12) (k := 30) (v := vi (laV pu)) (dt_at dtX12_part 36 rfl) (show TT 0 = (0, 12) from rfl) rfl (by decide) wF_X12_196 (by show vi (hI h 0 30) = vi (laV pu); rw [e30]) ?_
  refine K_icmp_le (tgt := 79) (dt_at dtX12_part 37 rfl) (by decide) ⟨by omega, by omega⟩ fb.2 (fun c5 => ?_) (fun c5 => absurd c5 (by omega))
  refine K_aload_n (dt_at dtX12_part 41 rfl) rfl rfl ?_
  refine K_iconst (dt_at dtX12_part 42 rfl) ?_
  refine K_callV (M' := mX12_puts) (a := 0) (ci := 12) (As := [vi 2]) (st := []) (dt_at dtX12_part 43 rfl) (sX12_puts (v := 2) ⟨by omega, by omega⟩) (show TT 0 = (0, 12) from rfl) rfl wL_X12_186 vX12_puts rfl npX12_puts (by decide) (by decide) (Nat.le_of_ble_eq_true rfl) (by decide) (by decide) GK_E (fun v9 h9 hq => ?_) (fun E h9 hq => by cases hq.1)
  obtain ⟨e9, e8⟩ := hq
  cases e9
  rw [e8]
  show K mX12_part _ _ 0 0 84 [(1, vi (kwF tp (tk tp n p))), (0, vr 0)] [] (sI (sA h 15 (hI h 0 28) 2) 0 28 (hI h 0 28 + 1))
  obtain ⟨hq1, eq1⟩ : ∃ z, z = sA h 15 (hI h 0 28) 2 := ⟨_, rfl⟩
  rw [← eq1]
  obtain ⟨aq1, fq1, iq1, rq1⟩ := sA_fx eq1
  obtain ⟨hq2, eq2⟩ : ∃ z, z = sI hq1 0 28 (hI h 0 28 + 1) := ⟨_, rfl⟩
  rw [← eq2]
  obtain ⟨iq2, fq2, aq2, rq2⟩ := sI_fx eq2
  have R3 := MGd_up A (FL_tr (FL_eA eq1 rfl : FL [15] [(0, 28)] [] h hq1) (FL_eI eq2 rfl)) rfl rfl
  refine K_aload_n (dt_at dtX12_part 44 rfl) rfl rfl ?_
  refine K_iload_n (dt_at dtX12_part 45 rfl) rfl rfl ?_
  refine K_callV (M' := mX12_puts) (a := 0) (ci := 12) (As := [vi (kwF tp (tk tp n p))]) (st := []) (dt_at dtX12_part 46 rfl) (sX12_puts (v := (kwF tp (tk tp n p))) ⟨by rw [iq2]; omega, by rw [iq2]; omega⟩) (show TT 0 = (0, 12) from rfl) rfl wL_X12_186 vX12_puts rfl npX12_puts (by decide) (by decide) (Nat.le_of_ble_eq_true rfl) (by decide) (by decide) GK_E (fun v9 h9 hq => ?_) (fun E h9 hq => by cases hq.1)
  obtain ⟨e9, e8⟩ := hq
  cases e9
  rw [e8]
  show K mX12_part _ _ 0 0 89 [(1, vi (kwF tp (tk tp n p))), (0, vr 0)] [] (sI (sA hq2 15 (hI hq2 0 28) (kwF tp (tk tp n p))) 0 28 (hI hq2 0 28 + 1))
  obtain ⟨hq4, eq4⟩ : ∃ z, z = sA hq2 15 (hI hq2 0 28) (kwF tp (tk tp n p)) := ⟨_, rfl⟩
  rw [← eq4]
  obtain ⟨aq4, fq4, iq4, rq4⟩ := sA_fx eq4
  rw [iq2] at aq4
  rw [aq2, aq1] at aq4
  obtain ⟨hq5, eq5⟩ : ∃ z, z = sI hq4 0 28 (hI hq2 0 28 + 1) := ⟨_, rfl⟩
  rw [← eq5]
  obtain ⟨iq5, fq5, aq5, rq5⟩ := sI_fx eq5
  rw [iq2] at iq5
  have R6 := MGd_up R3 (FL_tr (FL_eA eq4 rfl : FL [15] [(0, 28)] [] hq2 hq4) (FL_eI eq5 rfl)) rfl rfl
  refine K_goto (tgt := 97) (dt_at dtX12_part 47 rfl) (by decide) ?_
  refine K_aload_n (dt_at dtX12_part 51 rfl) rfl rfl ?_
  refine K_callV (M' := mX12_isGood) (a := 0) (ci := 12) (As := []) (st := []) (dt_at dtX12_part 52 rfl) (good_t R6.2.2.2.1) (show TT 0 = (0, 12) from rfl) rfl wL_X12_164 vX12_isGood rfl npX12_isGood (by decide) (by decide) (Nat.le_of_ble_eq_true rfl) (by decide) (by decide) GK_E (fun v9 h9 hq => ?_) (fun E h9 hq => by cases hq.1)
  obtain ⟨e9, e8⟩ := hq
  cases e9
  rw [e8]
  show K mX12_part _ _ 0 0 101 [(1, vi (kwF tp (tk tp n p))), (0, vr 0)] [vi 1] hq5
  refine K_if_eq (tgt := 108) (dt_at dtX12_part 53 rfl) (by decide) (by first | assumption | exact ⟨by omega, by omega⟩) (fun c6 => absurd c6 (by omega)) (fun c6 => ?_)
  refine K_aload_n (dt_at dtX12_part 54 rfl) rfl rfl ?_
  refine K_callV (M' := mX12_goes) (a := 0) (ci := 12) (As := []) (st := []) (dt_at dtX12_part 55 rfl) (goes_g R6) (show TT 0 = (0, 12) from rfl) rfl wL_X12_168 vX12_goes rfl npX12_goes (by decide) (by decide) (Nat.le_of_ble_eq_true rfl) (by decide) (by decide) GK_E (fun v9 hc7 hq => ?_) (fun E h9 hq => by cases hq.1)
  have hqq8 := hq
  obtain ⟨e9q8, Aq8, Gq8⟩ := hqq8
  cases e9q8
  show K mX12_part _ _ 0 0 108 [(1, vi (kwF tp (tk tp n p))), (0, vr 0)] [] hc7
  rw [ep]
  exact K_vret (dt_at dtX12_part 56 rfl) rfl (by decide) (by decide) ⟨rfl, ⟨Aq8, by rw [(Gq8.2.1 0 28 rfl), iq5]; omega, by omega, by rw [if_neg (by omega), (Gq8.1 15 rfl), aq5, aq4]; exact ⟨up2.1, by rw [up2.2.1, hkv]⟩⟩, fun i hi => by rw [(Gq8.1 15 rfl), aq5, aq4]; exact up2.2.2 i hi, (FL_tr (FL_tr (FL_tr (FL_tr (FL_tr (FL_rf : FL [15] ((0, 28) :: MRl) [] h h) (FL_eA eq1 rfl)) (FL_eI eq2 rfl)) (FL_eA eq4 rfl)) (FL_eI eq5 rfl)) (FL_up Gq8 rfl rfl rfl))⟩
set_option maxHeartbeats 4000000 in
set_option maxRecDepth 100000 in
theorem part_b {h : HP} {tp : Int → Int} {n p : Nat} {pu : Int} (A : MGd h tp n p) (hpu : pu = 0 ∨ pu = 1) (e29 : hI h 0 29 = fvP pu) (e30 : hI h 0 30 = laV pu) (ht : 0 ≤ hI h 0 28 ∧ hI h 0 28 + 2 ≤ 1400) (h1 : (tk tp n p).1 = 1) (h2 : ¬ (fvP pu ≤ kwF tp (tk tp n p) ∧ kwF tp (tk tp n p) ≤ laV pu)) : SpecK mX12_part [vr 0] h (fun o h' => o = .inl none ∧ PTo h h' tp n (ptF tp n pu p) ∧ PTf h h') := by
  refine Spec_of (by decide +kernel) (Nat.le_of_ble_eq_true rfl) ?_
  have gk := tk_G (tp := tp) A.2.2.1
  obtain ⟨⟨g1, g2⟩, g3, g4, g5, g6⟩ := id gk
  have hn7 := A.1.2.1
  have fb : i32 (fvP pu) ∧ i32 (laV pu) := by rcases hpu with rfl | rfl <;> exact ⟨⟨by decide, by decide⟩, ⟨by decide, by decide⟩⟩
  have kb := kwF_b tp (tk tp n p)
  have kv := kw_va (tp := tp) (t := tk tp n p) hpu
  have ep : ptF tp n pu p = .inl (3, (tk tp n p).2.1) := by unfold ptF; rw [if_neg (by omega), if_pos h1, if_pos (kv.2 h2)]
  refine K_aload_n (dt_at dtX12_part 0 rfl) rfl rfl ?_
  refine K_callV (M' := mX12_isGood) (a := 0) (ci := 12) (As := []) (st := []) (dt_at dtX12_part 1 rfl) (good_t A.2.2.2.1) (show TT 0 = (0, 12) from rfl) rfl wL_X12_164 vX12_isGood rfl npX12_isGood (by decide) (by decide) (Nat.le_of_ble_eq_true rfl) (by decide) (by decide) GK_E (fun v9 h9 hq => ?_) (fun E h9 hq => by cases hq.1)
  obtain ⟨e9, e8⟩ := hq
  cases e9
  rw [e8]
  show K mX12_part _ _ 0 0 4 [(0, vr 0)] [vi 1] h
  refine K_if_ne (tgt := 8) (dt_at dtX12_part 2 rfl) (by decide) (by first | assumption | exact ⟨by omega, by omega⟩) (fun c1 => ?_) (fun c1 => absurd c1 (by omega))
  refine K_aload_n (dt_at dtX12_part 4 rfl) rfl rfl ?_
  refine K_get (a := 0) (ci := 12) (k := 18) (v := vi ((tk tp n p).1)) (dt_at dtX12_part 5 rfl) (show TT 0 = (0, 12) from rfl) rfl (by decide) wF_X12_138 (by show vi (hI h 0 18) = vi ((tk tp n p).1); rw [A.2.1.1.1]) ?_
  refine K_iconst (dt_at dtX12_part 6 rfl) ?_
  refine K_icmp_ne (tgt := 45) (dt_at dtX12_part 7 rfl) (by decide) (by first | assumption | exact ⟨by omega, by omega⟩) (by first | assumption | exact ⟨by omega, by omega⟩) (fun c2 => ?_) (fun c2 => absurd c2 (by omega))
  refine K_aload_n (dt_at dtX12_part 23 rfl) rfl rfl ?_
  refine K_get (a := 0) (ci := 12) (k := 18) (v := vi ((tk tp n p).1)) (dt_at dtX12_part 24 rfl) (show TT 0 = (0, 12) from rfl) rfl (by decide) wF_X12_138 (by show vi (hI h 0 18) = vi ((tk tp n p).1); rw [A.2.1.1.1]) ?_
  refine K_iconst (dt_at dtX12_part 25 rfl) ?_
  refine K_icmp_ne (tgt := 92) (dt_at dtX12_part 26 rfl) (by decide) (by first | assumption | exact ⟨by omega, by omega⟩) (by first | assumption | exact ⟨by omega, by omega⟩) (fun c3 => absurd c3 (by omega)) (fun c3 => ?_)
  refine K_aload_n (dt_at dtX12_part 27 rfl) rfl rfl ?_
  refine K_callV (M' := mX12_knownWord) (a := 0) (ci := 12) (As := []) (st := []) (dt_at dtX12_part 28 rfl) (kw_g A) (show TT 0 = (0, 12) from rfl) rfl wL_X12_189 vX12_knownWord rfl npX12_knownWord (by decide) (by decide) (Nat.le_of_ble_eq_true rfl) (by decide) (by decide) GK_E (fun v9 h9 hq => ?_) (fun E h9 hq => by cases hq.1)
  obtain ⟨e9, e8⟩ := hq
  cases e9
  rw [e8]
  show K mX12_part _ _ 0 0 57 [(0, vr 0)] [vi (kwF tp (tk tp n p))] h
  refine K_istore_n (ls' := [(1, vi (kwF tp (tk tp n p))), (0, vr 0)]) (dt_at dtX12_part 29 rfl) rfl (by decide) rfl ?_
  refine K_iload_n (dt_at dtX12_part 30 rfl) rfl rfl ?_
  refine K_aload_n (dt_at dtX12_part 31 rfl) rfl rfl ?_
  refine K_get (a := 0) (ci := 12) (k := 29) (v := vi (fvP pu)) (dt_at dtX12_part 32 rfl) (show TT 0 = (0, 12) from rfl) rfl (by decide) wF_X12_193 (by show vi (hI h 0 29) = vi (fvP pu); rw [e29]) ?_
  refine K_icmp_lt (tgt := 74) (dt_at dtX12_part 33 rfl) (by decide) ⟨by omega, by omega⟩ fb.1 (fun c4 => ?_) (fun c4 => ?_)
  · refine K_aload_n (dt_at dtX12_part 38 rfl) rfl rfl ?_
    refine K_iconst (dt_at dtX12_part 39 rfl) ?_
    refine K_callV (M' := mX12_wrong) (a := 0) (ci := 12) (As := [vi 3]) (st := []) (dt_at dtX12_part 40 rfl) (wrong_g A (by omega)) (show TT 0 = (0, 12) from rfl) rfl wL_X12_171 vX12_wrong rfl npX12_wrong (by decide) (by decide) (Nat.le_of_ble_eq_true rfl) (by decide) (by decide) GK_E (fun v9 hc1 hq => ?_) (fun E h9 hq => by cases hq.1)
    have hqq2 := hq
    obtain ⟨e9q2, Eq2, Gq2⟩ := hqq2
    cases e9q2
    show K mX12_part _ _ 0 0 79 [(1, vi (kwF tp (tk tp n p))), (0, vr 0)] [] hc1
    refine K_aload_n (dt_at dtX12_part 41 rfl) rfl rfl ?_
    refine K_iconst (dt_at dtX12_part 42 rfl) ?_
    refine K_callV (M' := mX12_puts) (a := 0) (ci := 12) (As := [vi 2]) (st := []) (dt_at dtX12_part 43 rfl) (sX12_puts (v := 2) ⟨by rw [(Gq2.2.1 0 28 rfl)]; omega, by rw [(Gq2.2.1 0 28 rfl)]; omega⟩) (show TT 0 = (0, 12) from rfl) rfl wL_X12_186 vX12_puts rfl npX12_puts (by decide) (by decide) (Nat.le_of_ble_eq_true rfl) (by decide) (by decide) GK_E (fun v9 h9 hq => ?_) (fun E h9 hq => by cases hq.1)
    obtain ⟨e9, e8⟩ := hq
    cases e9
    rw [e8]
    show K mX12_part _ _ 0 0 84 [(1, vi (kwF tp (tk tp n p))), (0, vr 0)] [] (sI (sA hc1 15 (hI hc1 0 28) 2) 0 28 (hI hc1 0 28 + 1))
    obtain ⟨hq3, eq3⟩ : ∃ z, z = sA hc1 15 (hI hc1 0 28) 2 := ⟨_, rfl⟩
    rw [← eq3]
    obtain ⟨aq3, fq3, iq3, rq3⟩ := sA_fx eq3
    rw [(Gq2.2.1 0 28 rfl)] at aq3
    rw [(Gq2.1 15 rfl)] at aq3
    obtain ⟨hq4, eq4⟩ : ∃ z, z = sI hq3 0 28 (hI hc1 0 28 + 1) := ⟨_, rfl⟩
    rw [← eq4]
    obtain ⟨iq4, fq4, aq4, rq4⟩ := sI_fx eq4
    rw [(Gq2.2.1 0 28 rfl)] at iq4
    have R5 := MEr_up Eq2 (FL_tr (FL_eA eq3 rfl : FL [15] [(0, 28)] [] hc1 hq3) (FL_eI eq4 rfl)) rfl rfl
    refine K_aload_n (dt_at dtX12_part 44 rfl) rfl rfl ?_
    refine K_iload_n (dt_at dtX12_part 45 rfl) rfl rfl ?_
    refine K_callV (M' := mX12_puts) (a := 0) (ci := 12) (As := [vi (kwF tp (tk tp n p))]) (st := []) (dt_at dtX12_part 46 rfl) (sX12_puts (v := (kwF tp (tk tp n p))) ⟨by rw [iq4]; omega, by rw [iq4]; omega⟩) (show TT 0 = (0, 12) from rfl) rfl wL_X12_186 vX12_puts rfl npX12_puts (by decide) (by decide) (Nat.le_of_ble_eq_true rfl) (by decide) (by decide) GK_E (fun v9 h9 hq => ?_) (fun E h9 hq => by cases hq.1)
    obtain ⟨e9, e8⟩ := hq
    cases e9
    rw [e8]
    show K mX12_part _ _ 0 0 89 [(1, vi (kwF tp (tk tp n p))), (0, vr 0)] [] (sI (sA hq4 15 (hI hq4 0 28) (kwF tp (tk tp n p))) 0 28 (hI hq4 0 28 + 1))
    obtain ⟨hq6, eq6⟩ : ∃ z, z = sA hq4 15 (hI hq4 0 28) (kwF tp (tk tp n p)) := ⟨_, rfl⟩
    rw [← eq6]
    obtain ⟨aq6, fq6, iq6, rq6⟩ := sA_fx eq6
    rw [iq4] at aq6
    rw [aq4, aq3] at aq6
    obtain ⟨hq7, eq7⟩ : ∃ z, z = sI hq6 0 28 (hI hq4 0 28 + 1) := ⟨_, rfl⟩
    rw [← eq7]
    obtain ⟨iq7, fq7, aq7, rq7⟩ := sI_fx eq7
    rw [iq4] at iq7
    have R8 := MEr_up R5 (FL_tr (FL_eA eq6 rfl : FL [15] [(0, 28)] [] hq4 hq6) (FL_eI eq7 rfl)) rfl rfl
    refine K_goto (tgt := 97) (dt_at dtX12_part 47 rfl) (by decide) ?_
    refine K_aload_n (dt_at dtX12_part 51 rfl) rfl rfl ?_
    refine K_callV (M' := mX12_isGood) (a := 0) (ci := 12) (As := []) (st := []) (dt_at dtX12_part 52 rfl) (good_f R8.2.2.2.1 R8.2.2.1) (show TT 0 = (0, 12) from rfl) rfl wL_X12_164 vX12_isGood rfl npX12_isGood (by decide) (by decide) (Nat.le_of_ble_eq_true rfl) (by decide) (by decide) GK_E (fun v9 h9 hq => ?_) (fun E h9 hq => by cases hq.1)
    obtain ⟨e9, e8⟩ := hq
    cases e9
    rw [e8]
    show K mX12_part _ _ 0 0 101 [(1, vi (kwF tp (tk tp n p))), (0, vr 0)] [vi 0] hq7
    refine K_if_eq (tgt := 108) (dt_at dtX12_part 53 rfl) (by decide) (by first | assumption | exact ⟨by omega, by omega⟩) (fun c5 => ?_) (fun c5 => absurd c5 (by omega))
    rw [ep]
    exact K_vret (dt_at dtX12_part 56 rfl) rfl (by decide) (by decide) ⟨rfl, ⟨R8, by rw [iq7]; omega, by rw [iq7]; omega⟩, fun i hi => by rw [aq7, aq6]; exact up2.2.2 i hi, (FL_tr (FL_tr (FL_tr (FL_tr (FL_tr (FL_rf : FL [15] ((0, 28) :: MRl) [] h h) (FL_up Gq2 rfl rfl rfl)) (FL_eA eq3 rfl)) (FL_eI eq4 rfl)) (FL_eA eq6 rfl)) (FL_eI eq7 rfl))⟩
  · refine K_iload_n (dt_at dtX12_part 34 rfl) rfl rfl ?_
    refine K_aload_n (dt_at dtX12_part 35 rfl) rfl rfl ?_
    refine K_get (a := 0) (ci := 12) (k := 30) (v := vi (laV pu)) (dt_at dtX12_part 36 rfl) (show TT 0 = (0, 12) from rfl) rfl (by decide) wF_X12_196 (by show vi (hI h 0 30) = vi (laV pu); rw [e30]) ?_
    refine K_icmp_le (tgt := 79) (dt_at dtX12_part 37 rfl) (by decide) ⟨by omega, by omega⟩ fb.2 (fun c6 => ?_) (fun c6 => ?_)
    · exfalso
      omega
    · refine K_aload_n (dt_at dtX12_part 38 rfl) rfl rfl ?_
      refine K_iconst (dt_at dtX12_part 39 rfl) ?_
      refine K_callV (M' := mX12_wrong) (a := 0) (ci := 12) (As := [vi 3]) (st := []) (dt_at dtX12_part 40 rfl) (wrong_g A (by omega)) (show TT 0 = (0, 12) from rfl) rfl wL_X12_171 vX12_wrong rfl npX12_wrong (by decide) (by decide) (Nat.le_of_ble_eq_true rfl) (by decide) (by decide) GK_E (fun v9 hc9 hq => ?_) (fun E h9 hq => by cases hq.1)
      have hqq10 := hq
      obtain ⟨e9q10, Eq10, Gq10⟩ := hqq10
      cases e9q10
      show K mX12_part _ _ 0 0 79 [(1, vi (kwF tp (tk tp n p))), (0, vr 0)] [] hc9
      refine K_aload_n (dt_at dtX12_part 41 rfl) rfl rfl ?_
      refine K_iconst (dt_at dtX12_part 42 rfl) ?_
      refine K_callV (M' := mX12_puts) (a := 0) (ci := 12) (As := [vi 2]) (st := []) (dt_at dtX12_part 43 rfl) (sX12_puts (v := 2) ⟨by rw [(Gq10.2.1 0 28 rfl)]; omega, by rw [(Gq10.2.1 0 28 rfl)]; omega⟩) (show TT 0 = (0, 12) from rfl) rfl wL_X12_186 vX12_puts rfl npX12_puts (by decide) (by decide) (Nat.le_of_ble_eq_true rfl) (by decide) (by decide) GK_E (fun v9 h9 hq => ?_) (fun E h9 hq => by cases hq.1)
      obtain ⟨e9, e8⟩ := hq
      cases e9
      rw [e8]
      show K mX12_part _ _ 0 0 84 [(1, vi (kwF tp (tk tp n p))), (0, vr 0)] [] (sI (sA hc9 15 (hI hc9 0 28) 2) 0 28 (hI hc9 0 28 + 1))
      obtain ⟨hq11, eq11⟩ : ∃ z, z = sA hc9 15 (hI hc9 0 28) 2 := ⟨_, rfl⟩
      rw [← eq11]
      obtain ⟨aq11, fq11, iq11, rq11⟩ := sA_fx eq11
      rw [(Gq10.2.1 0 28 rfl)] at aq11
      rw [(Gq10.1 15 rfl)] at aq11
      obtain ⟨hq12, eq12⟩ : ∃ z, z = sI hq11 0 28 (hI hc9 0 28 + 1) := ⟨_, rfl⟩
      rw [← eq12]
      obtain ⟨iq12, fq12, aq12, rq12⟩ := sI_fx eq12
      rw [(Gq10.2.1 0 28 rfl)] at iq12
      have R13 := MEr_up Eq10 (FL_tr (FL_eA eq11 rfl : FL [15] [(0, 28)] [] hc9 hq11) (FL_eI eq12 rfl)) rfl rfl
      refine K_aload_n (dt_at dtX12_part 44 rfl) rfl rfl ?_
      refine K_iload_n (dt_at dtX12_part 45 rfl) rfl rfl ?_
      refine K_callV (M' := mX12_puts) (a := 0) (ci := 12) (As := [vi (kwF tp (tk tp n p))]) (st := []) (dt_at dtX12_part 46 rfl) (sX12_puts (v := (kwF tp (tk tp n p))) ⟨by rw [iq12]; omega, by rw [iq12]; omega⟩) (show TT 0 = (0, 12) from rfl) rfl wL_X12_186 vX12_puts rfl npX12_puts (by decide) (by decide) (Nat.le_of_ble_eq_true rfl) (by decide) (by decide) GK_E (fun v9 h9 hq => ?_) (fun E h9 hq => by cases hq.1)
      obtain ⟨e9, e8⟩ := hq
      cases e9
      rw [e8]
      show K mX12_part _ _ 0 0 89 [(1, vi (kwF tp (tk tp n p))), (0, vr 0)] [] (sI (sA hq12 15 (hI hq12 0 28) (kwF tp (tk tp n p))) 0 28 (hI hq12 0 28 + 1))
      obtain ⟨hq14, eq14⟩ : ∃ z, z = sA hq12 15 (hI hq12 0 28) (kwF tp (tk tp n p)) := ⟨_, rfl⟩
      rw [← eq14]
      obtain ⟨aq14, fq14, iq14, rq14⟩ := sA_fx eq14
      rw [iq12] at aq14
      rw [aq12, aq11] at aq14
      obtain ⟨hq15, eq15⟩ : ∃ z, z = sI hq14 0 28 (hI hq12 0 28 + 1) := ⟨_, rfl⟩
      rw [← eq15]
      obtain ⟨iq15, fq15, aq15, rq15⟩ := sI_fx eq15
      rw [iq12] at iq15
      have R16 := MEr_up R13 (FL_tr (FL_eA eq14 rfl : FL [15] [(0, 28)] [] hq12 hq14) (FL_eI eq15 rfl)) rfl rfl
      refine K_goto (tgt := 97) (dt_at dtX12_part 47 rfl) (by decide) ?_
      refine K_aload_n (dt_at dtX12_part 51 rfl) rfl rfl ?_
      refine K_callV (M' := mX12_isGood) (a := 0) (ci := 12) (As := []) (st := []) (dt_at dtX12_part 52 rfl) (good_f R16.2.2.2.1 R16.2.2.1) (show TT 0 = (0, 12) from rfl) rfl wL_X12_164 vX12_isGood rfl npX12_isGood (by decide) (by decide) (Nat.le_of_ble_eq_true rfl) (by decide) (by decide) GK_E (fun v9 h9 hq => ?_) (fun E h9 hq => by cases hq.1)
      obtain ⟨e9, e8⟩ := hq
      cases e9
      rw [e8]
      show K mX12_part _ _ 0 0 101 [(1, vi (kwF tp (tk tp n p))), (0, vr 0)] [vi 0] hq15
      refine K_if_eq (tgt := 108) (dt_at dtX12_part 53 rfl) (by decide) (by first | assumption | exact ⟨by omega, by omega⟩) (fun c7 => ?_) (fun c7 => absurd c7 (by omega))
      rw [ep]
      exact K_vret (dt_at dtX12_part 56 rfl) rfl (by decide) (by decide) ⟨rfl, ⟨R16, by rw [iq15]; omega, by rw [iq15]; omega⟩, fun i hi => by rw [aq15, aq14]; exact up2.2.2 i hi, (FL_tr (FL_tr (FL_tr (FL_tr (FL_tr (FL_rf : FL [15] ((0, 28) :: MRl) [] h h) (FL_up Gq10 rfl rfl rfl)) (FL_eA eq11 rfl)) (FL_eI eq12 rfl)) (FL_eA eq14 rfl)) (FL_eI eq15 rfl))⟩
set_option maxHeartbeats 4000000 in
set_option maxRecDepth 100000 in
theorem part_o {h : HP} {tp : Int → Int} {n p : Nat} {pu : Int} (A : MGd h tp n p) (hpu : pu = 0 ∨ pu = 1) (e29 : hI h 0 29 = fvP pu) (e30 : hI h 0 30 = laV pu) (ht : 0 ≤ hI h 0 28 ∧ hI h 0 28 + 2 ≤ 1400) (h1 : ¬ (tk tp n p).1 = 1) (h2 : ¬ (tk tp n p).1 = 2) : SpecK mX12_part [vr 0] h (fun o h' => o = .inl none ∧ PTo h h' tp n (ptF tp n pu p) ∧ PTf h h') := by
  refine Spec_of (by decide +kernel) (Nat.le_of_ble_eq_true rfl) ?_
  have gk := tk_G (tp := tp) A.2.2.1
  obtain ⟨⟨g1, g2⟩, g3, g4, g5, g6⟩ := id gk
  have hn7 := A.1.2.1
  have fb : i32 (fvP pu) ∧ i32 (laV pu) := by rcases hpu with rfl | rfl <;> exact ⟨⟨by decide, by decide⟩, ⟨by decide, by decide⟩⟩
  have kb := kwF_b tp (tk tp n p)
  have kv := kw_va (tp := tp) (t := tk tp n p) hpu
  have ep : ptF tp n pu p = .inl (1, (tk tp n p).2.1) := by unfold ptF; rw [if_neg h2, if_neg h1]
  refine K_aload_n (dt_at dtX12_part 0 rfl) rfl rfl ?_
  refine K_callV (M' := mX12_isGood) (a := 0) (ci := 12) (As := []) (st := []) (dt_at dtX12_part 1 rfl) (good_t A.2.2.2.1) (show TT 0 = (0, 12) from rfl) rfl wL_X12_164 vX12_isGood rfl npX12_isGood (by decide) (by decide) (Nat.le_of_ble_eq_true rfl) (by decide) (by decide) GK_E (fun v9 h9 hq => ?_) (fun E h9 hq => by cases hq.1)
  obtain ⟨e9, e8⟩ := hq
  cases e9
  rw [e8]
  show K mX12_part _ _ 0 0 4 [(0, vr 0)] [vi 1] h
  refine K_if_ne (tgt := 8) (dt_at dtX12_part 2 rfl) (by decide) (by first | assumption | exact ⟨by omega, by omega⟩) (fun c1 => ?_) (fun c1 => absurd c1 (by omega))
  refine K_aload_n (dt_at dtX12_part 4 rfl) rfl rfl ?_
  refine K_get (a := 0) (ci := 12) (k := 18) (v := vi ((tk tp n p).1)) (dt_at dtX12_part 5 rfl) (show TT 0 = (0, 12) from rfl) rfl (by decide) wF_X12_138 (by show vi (hI h 0 18) = vi ((tk tp n p).1); rw [A.2.1.1.1]) ?_
  refine K_iconst (dt_at dtX12_part 6 rfl) ?_
  refine K_icmp_ne (tgt := 45) (dt_at dtX12_part 7 rfl) (by decide) (by first | assumption | exact ⟨by omega, by omega⟩) (by first | assumption | exact ⟨by omega, by omega⟩) (fun c2 => ?_) (fun c2 => absurd c2 (by omega))
  refine K_aload_n (dt_at dtX12_part 23 rfl) rfl rfl ?_
  refine K_get (a := 0) (ci := 12) (k := 18) (v := vi ((tk tp n p).1)) (dt_at dtX12_part 24 rfl) (show TT 0 = (0, 12) from rfl) rfl (by decide) wF_X12_138 (by show vi (hI h 0 18) = vi ((tk tp n p).1); rw [A.2.1.1.1]) ?_
  refine K_iconst (dt_at dtX12_part 25 rfl) ?_
  refine K_icmp_ne (tgt := 92) (dt_at dtX12_part 26 rfl) (by decide) (by first | assumption | exact ⟨by omega, by omega⟩) (by first | assumption | exact ⟨by omega, by omega⟩) (fun c3 => ?_) (fun c3 => absurd c3 (by omega))
  refine K_aload_n (dt_at dtX12_part 48 rfl) rfl rfl ?_
  refine K_iconst (dt_at dtX12_part 49 rfl) ?_
  refine K_callV (M' := mX12_wrong) (a := 0) (ci := 12) (As := [vi 1]) (st := []) (dt_at dtX12_part 50 rfl) (wrong_g A (by omega)) (show TT 0 = (0, 12) from rfl) rfl wL_X12_171 vX12_wrong rfl npX12_wrong (by decide) (by decide) (Nat.le_of_ble_eq_true rfl) (by decide) (by decide) GK_E (fun v9 hc1 hq => ?_) (fun E h9 hq => by cases hq.1)
  have hqq2 := hq
  obtain ⟨e9q2, Eq2, Gq2⟩ := hqq2
  cases e9q2
  show K mX12_part _ _ 0 0 97 [(0, vr 0)] [] hc1
  refine K_aload_n (dt_at dtX12_part 51 rfl) rfl rfl ?_
  refine K_callV (M' := mX12_isGood) (a := 0) (ci := 12) (As := []) (st := []) (dt_at dtX12_part 52 rfl) (good_f Eq2.2.2.2.1 Eq2.2.2.1) (show TT 0 = (0, 12) from rfl) rfl wL_X12_164 vX12_isGood rfl npX12_isGood (by decide) (by decide) (Nat.le_of_ble_eq_true rfl) (by decide) (by decide) GK_E (fun v9 h9 hq => ?_) (fun E h9 hq => by cases hq.1)
  obtain ⟨e9, e8⟩ := hq
  cases e9
  rw [e8]
  show K mX12_part _ _ 0 0 101 [(0, vr 0)] [vi 0] hc1
  refine K_if_eq (tgt := 108) (dt_at dtX12_part 53 rfl) (by decide) (by first | assumption | exact ⟨by omega, by omega⟩) (fun c4 => ?_) (fun c4 => absurd c4 (by omega))
  rw [ep]
  exact K_vret (dt_at dtX12_part 56 rfl) rfl (by decide) (by decide) ⟨rfl, ⟨Eq2, by rw [(Gq2.2.1 0 28 rfl)]; omega, by rw [(Gq2.2.1 0 28 rfl)]; omega⟩, fun i _ => by rw [(Gq2.1 15 rfl)], (FL_tr (FL_rf : FL [15] ((0, 28) :: MRl) [] h h) (FL_up Gq2 rfl rfl rfl))⟩
set_option maxHeartbeats 4000000 in
set_option maxRecDepth 100000 in
theorem part_e {h : HP} {tp : Int → Int} {n : Nat} {e : Int × Nat} (A : MEr h tp n e) : SpecK mX12_part [vr 0] h (fun o h' => o = .inl (none) ∧ h' = h) := by
  refine Spec_of (by decide +kernel) (Nat.le_of_ble_eq_true rfl) ?_
  refine K_aload_n (dt_at dtX12_part 0 rfl) rfl rfl ?_
  refine K_callV (M' := mX12_isGood) (a := 0) (ci := 12) (As := []) (st := []) (dt_at dtX12_part 1 rfl) (good_f A.2.2.2.1 A.2.2.1) (show TT 0 = (0, 12) from rfl) rfl wL_X12_164 vX12_isGood rfl npX12_isGood (by decide) (by decide) (Nat.le_of_ble_eq_true rfl) (by decide) (by decide) GK_E (fun v9 h9 hq => ?_) (fun E h9 hq => by cases hq.1)
  obtain ⟨e9, e8⟩ := hq
  cases e9
  rw [e8]
  show K mX12_part _ _ 0 0 4 [(0, vr 0)] [vi 0] h
  refine K_if_ne (tgt := 8) (dt_at dtX12_part 2 rfl) (by decide) (by first | assumption | exact ⟨by omega, by omega⟩) (fun c1 => absurd c1 (by omega)) (fun c1 => ?_)
  exact K_vret (dt_at dtX12_part 3 rfl) rfl (by decide) (by decide) ⟨rfl, rfl⟩
theorem part_K {h : HP} {tp : Int → Int} {n p : Nat} {pu : Int} (A : MGd h tp n p) (hpu : pu = 0 ∨ pu = 1) (e29 : hI h 0 29 = fvP pu) (e30 : hI h 0 30 = laV pu) (ht : 0 ≤ hI h 0 28 ∧ hI h 0 28 + 2 ≤ 1400) : SpecK mX12_part [vr 0] h (fun o h' => o = .inl none ∧ PTo h h' tp n (ptF tp n pu p) ∧ PTf h h') := by
  by_cases c1 : (tk tp n p).1 = 2
  · by_cases c2 : (tk tp n p).2.1 + 4 < (tk tp n p).2.2
    · exact part_l A hpu e29 e30 ht c1 c2
    · exact part_n A hpu e29 e30 ht c1 c2
  · by_cases c2 : (tk tp n p).1 = 1
    · by_cases c3 : fvP pu ≤ kwF tp (tk tp n p) ∧ kwF tp (tk tp n p) ≤ laV pu
      · exact part_w A hpu e29 e30 ht c2 c3
      · exact part_b A hpu e29 e30 ht c2 c3
    · exact part_o A hpu e29 e30 ht c2 c1
