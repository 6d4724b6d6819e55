/-! what exP reads can be run: its pile, its values -/
def SG (M : List Int) (b : Nat) : Prop := ∀ (x : Nat) (R : List Int), x + b ≤ 64 → wfL (x + 1) R → wfL x (M ++ R)
theorem SG_up {M : List Int} {b c : Nat} (h : SG M b) (hc : b ≤ c) : SG M c := fun x R h1 h2 => h x R (by omega) h2
theorem SG_one {s : Int} (h : -8 ≤ s ∧ s ≤ 9999) : SG [s] 1 := by
  intro x R h1 h2
  show (-17 ≤ s ∧ s ≤ 9999) ∧ (if -8 ≤ s then x < 64 ∧ wfL (x + 1) R else if s = -9 then 1 ≤ x ∧ wfL x R else 2 ≤ x ∧ wfL (x - 1) R)
  rw [if_pos h.1]
  exact ⟨by omega, by omega, h2⟩
theorem SG_op {L M : List Int} {b c : Nat} {s : Int} (hL : SG L b) (hM : SG M c) (hs : -17 ≤ s ∧ s < -9) : SG (L ++ (M ++ [s])) (max b (c + 1)) := by
  intro x R h1 h2
  rw [List.append_assoc, List.append_assoc]
  refine hL x _ (by omega) (hM (x + 1) _ (by omega) ?_)
  show (-17 ≤ s ∧ s ≤ 9999) ∧ (if -8 ≤ s then x + 1 + 1 < 64 ∧ wfL (x + 1 + 1 + 1) R else if s = -9 then 1 ≤ x + 1 + 1 ∧ wfL (x + 1 + 1) R else 2 ≤ x + 1 + 1 ∧ wfL (x + 1 + 1 - 1) R)
  rw [if_neg (by omega), if_neg (by omega)]
  exact ⟨by omega, by omega, h2⟩
theorem SG_no {L : List Int} {b : Nat} (hL : SG L b) : SG (L ++ [-9]) b := by
  intro x R h1 h2
  rw [List.append_assoc]
  refine hL x _ h1 ?_
  show ((-17 : Int) ≤ -9 ∧ (-9 : Int) ≤ 9999) ∧ (if (-8 : Int) ≤ -9 then x + 1 < 64 ∧ wfL (x + 1 + 1) R else if (-9 : Int) = -9 then 1 ≤ x + 1 ∧ wfL (x + 1) R else 2 ≤ x + 1 ∧ wfL (x + 1 - 1) R)
  rw [if_neg (by decide), if_pos rfl]
  exact ⟨by decide, by omega, h2⟩
theorem SG_nos {L : List Int} {b : Nat} (hL : SG L b) : ∀ k : Nat, SG (L ++ List.replicate k (-9)) b
  | 0 => by rw [List.replicate_zero, List.append_nil]; exact hL
  | k + 1 => by
    rw [List.replicate_succ', ← List.append_assoc]
    exact SG_no (SG_nos hL k)
theorem SG_wf {M : List Int} {b : Nat} (h : SG M b) (hb : b ≤ 64) : wfL 0 M := by
  have := h 0 [] (by omega) rfl
  rwa [List.append_nil] at this
theorem vaL_ap {P : Int → Prop} {L M : List Int} (h1 : vaL P L) (h2 : vaL P M) : vaL P (L ++ M) := by
  intro s hs
  rcases List.mem_append.mp hs with z | z
  · exact h1 s z
  · exact h2 s z
theorem vaL_op {P : Int → Prop} {s : Int} (h : s < -8) : vaL P [s] := by
  intro x hx h1 h2
  rw [List.mem_singleton.mp hx] at h2
  omega
theorem vaL_nn {P : Int → Prop} {s : Int} (h : 0 ≤ s) : vaL P [s] := by
  intro x hx h1 h2
  rw [List.mem_singleton.mp hx] at h1
  omega
theorem vaL_rp {P : Int → Prop} (k : Nat) : vaL P (List.replicate k (-9)) := by
  intro x hx h1 h2
  rw [List.eq_of_mem_replicate hx] at h2
  omega
def PV (P : Int → Prop) (n b : Nat) (sub : Nat → PR) : Prop := ∀ (p q : Nat) (M : List Int), p ≤ n → sub p = .inr (q, M) → SG M b ∧ vaL P M
def SV9 (stp : (Int → Int) → TK → Int) : Prop := ∀ (tp : Int → Int) (t : TK), stp tp t ≠ 0 → -17 ≤ stp tp t ∧ stp tp t < -9
theorem SV_t : SV9 tstS := by
  intro tp t h
  unfold tstS at h ⊢
  split
  · omega
  · split
    · omega
    · rename_i c1 c2; rw [if_neg c1, if_neg c2] at h; exact absurd rfl h
theorem SV_s : SV9 sumS := by
  intro tp t h
  unfold sumS at h ⊢
  split
  · omega
  · split
    · omega
    · rename_i c1 c2; rw [if_neg c1, if_neg c2] at h; exact absurd rfl h
theorem SV_p : SV9 prdS := by
  intro tp t h
  unfold prdS at h ⊢
  split
  · omega
  · split
    · omega
    · rename_i c1 c2; rw [if_neg c1, if_neg c2] at h; exact absurd rfl h
theorem SV_a : SV9 andS := by
  intro tp t h
  unfold andS at h ⊢
  split
  · omega
  · rename_i c1; rw [if_neg c1] at h; exact absurd rfl h
theorem SV_o : SV9 orS := by
  intro tp t h
  unfold orS at h ⊢
  split
  · omega
  · rename_i c1; rw [if_neg c1] at h; exact absurd rfl h
section PVS
variable {P : Int → Prop} {tp : Int → Int} {n b : Nat} {sub : Nat → PR} {stp : (Int → Int) → TK → Int}
theorem PV_ch (hO : PO n sub) (hV : PV P n b sub) (hS : SV9 stp) : ∀ (f p : Nat) (L : List Int) (q : Nat) (M : List Int), p ≤ n → SG L (b + 1) ∧ vaL P L → chP tp n sub stp f p L = .inr (q, M) → SG M (b + 1) ∧ vaL P M := by
  intro f
  induction f with
  | zero =>
    intro p L q M hp hl he
    obtain ⟨rfl, rfl⟩ := Prod.mk.inj (Sum.inr.inj he)
    exact hl
  | succ f ih =>
    intro p L q M hp hl he
    by_cases c : stp tp (tk tp n p) = 0
    · rw [chP_0 c] at he
      obtain ⟨rfl, rfl⟩ := Prod.mk.inj (Sum.inr.inj he)
      exact hl
    · have hn := tk_e (tp := tp) hp
      rcases hu : sub (tk tp n p).2.2 with e | ⟨u, N⟩
      · rw [chP_e c hu] at he; cases he
      · rw [chP_g c hu] at he
        have hs := hS _ _ c
        have hv := hV _ _ _ hn hu
        exact ih u _ q M (hO _ _ _ hn hu).2.1 ⟨SG_up (SG_op hl.1 hv.1 hs) (by omega), vaL_ap hl.2 (vaL_ap hv.2 (vaL_op (by omega)))⟩ he
theorem PV_lv (hO : PO n sub) (hV : PV P n b sub) (hS : SV9 stp) : PV P n (b + 1) (lvP tp n sub stp) := by
  intro p q M hp he
  rcases hu : sub p with e | ⟨u, N⟩
  · rw [lvP_e hu] at he; cases he
  · rw [lvP_g hu] at he
    have hv := hV _ _ _ hp hu
    exact PV_ch hO hV hS 700 u N q M (hO _ _ _ hp hu).2.1 ⟨SG_up hv.1 (by omega), hv.2⟩ he
theorem PV_ts (hO : PO n sub) (hV : PV P n b sub) : PV P n (b + 1) (tsP tp n sub) := by
  intro p q M hp he
  rcases hu : sub p with e | ⟨u, N⟩
  · rw [tsP_e hu] at he; cases he
  · have h1 := hV _ _ _ hp hu
    have a2 := (hO _ _ _ hp hu).2.1
    by_cases c : tstS tp (tk tp n u) = 0
    · rw [tsP_0 hu c] at he
      obtain ⟨rfl, rfl⟩ := Prod.mk.inj (Sum.inr.inj he)
      exact ⟨SG_up h1.1 (by omega), h1.2⟩
    · have hs := SV_t _ _ c
      rcases hv : sub (tk tp n u).2.2 with e | ⟨v, K⟩
      · rw [tsP_f hu c hv] at he; cases he
      · rw [tsP_g hu c hv] at he
        obtain ⟨rfl, rfl⟩ := Prod.mk.inj (Sum.inr.inj he)
        have h2 := hV _ _ _ (tk_e a2) hv
        exact ⟨SG_up (SG_op h1.1 h2.1 hs) (by omega), vaL_ap h1.2 (vaL_ap h2.2 (vaL_op (by omega)))⟩
theorem PV_no (hV : PV P n b sub) : PV P n b (noP tp n sub) := by
  intro p q M hp he
  have hb := ntP_b (tp := tp) (n := n) 6 p hp
  have e0 : noP tp n sub p = noE tp n sub (ntP tp n 6 p).1 (ntP tp n 6 p).2 := rfl
  rw [e0] at he
  generalize (ntP tp n 6 p).1 = k at he hb
  generalize (ntP tp n 6 p).2 = p' at he hb
  by_cases c : k = 6 ∧ isWb tp (tk tp n p') 4 = true
  · rw [noE_x c] at he; cases he
  · rcases hu : sub p' with e | ⟨u, N⟩
    · rw [noE_e c hu] at he; cases he
    · rw [noE_g c hu] at he
      obtain ⟨rfl, rfl⟩ := Prod.mk.inj (Sum.inr.inj he)
      have h1 := hV _ _ _ hb.1 hu
      exact ⟨SG_nos h1.1 k, vaL_ap h1.2 (vaL_rp k)⟩
end PVS
theorem vaW_in {tp : Int → Int} {pu : Int} {t : TK} {P : Int → Prop} (hP : (pu = 0 ∧ P = inFe) ∨ (pu = 1 ∧ P = inPu)) (h : vaW tp pu t ≠ 0) : (-8 ≤ vaW tp pu t ∧ vaW tp pu t < 0) ∧ P (-1 - vaW tp pu t) := by
  have hb := vBo_b tp t
  have hb2 : vBo tp t = 0 ∨ vBo tp t = -1 ∨ vBo tp t = -2 := by
    unfold vBo
    split
    · exact Or.inr (Or.inl rfl)
    · split
      · exact Or.inr (Or.inr rfl)
      · exact Or.inl rfl
  have hf2 : vFe tp t = 0 ∨ vFe tp t = -7 ∨ vFe tp t = -8 := by
    unfold vFe
    split
    · exact Or.inr (Or.inl rfl)
    · split
      · exact Or.inr (Or.inr rfl)
      · exact Or.inl rfl
  have hp2 : vPu tp t = 0 ∨ (-6 ≤ vPu tp t ∧ vPu tp t ≤ -3) := by
    unfold vPu
    split
    · exact Or.inr (by omega)
    · split
      · exact Or.inr (by omega)
      · split
        · exact Or.inr (by omega)
        · split
          · exact Or.inr (by omega)
          · exact Or.inl rfl
  by_cases c : vBo tp t = 0
  · rcases hP with ⟨rfl, rfl⟩ | ⟨rfl, rfl⟩
    · rw [vaW_f c rfl] at h ⊢
      unfold inFe
      omega
    · rw [vaW_p c (by decide)] at h ⊢
      unfold inPu
      omega
  · rw [vaW_b c]
    rcases hP with ⟨rfl, rfl⟩ | ⟨rfl, rfl⟩
    · unfold inFe
      omega
    · unfold inPu
      omega
theorem PV_pa {P : Int → Prop} {tp : Int → Int} {n b : Nat} {pu : Int} {E : Nat → PR} (hP : (pu = 0 ∧ P = inFe) ∨ (pu = 1 ∧ P = inPu)) (hV : PV P n b E) (hb : 1 ≤ b) : PV P n b (paP tp n pu E) := by
  intro p q M hp he
  have hn := tk_e (tp := tp) hp
  by_cases c1 : (tk tp n p).1 = 2
  · by_cases c2 : (tk tp n p).2.1 + 4 < (tk tp n p).2.2
    · rw [paP_1 c1 c2] at he; cases he
    · rw [paP_2 c1 c2] at he
      obtain ⟨rfl, rfl⟩ := Prod.mk.inj (Sum.inr.inj he)
      have h1 := nmT_b (tk_G (tp := tp) hp) c1
      exact ⟨SG_up (SG_one ⟨by omega, by omega⟩) hb, vaL_nn h1.1⟩
  · by_cases c2 : (tk tp n p).1 = 1
    · rw [paP_3 c1 c2] at he
      unfold vaR at he
      by_cases c3 : vaW tp pu (tk tp n p) = 0
      · rw [if_pos c3] at he; cases he
      · rw [if_neg c3] at he
        obtain ⟨rfl, rfl⟩ := Prod.mk.inj (Sum.inr.inj he)
        have h1 := vaW_in hP c3
        refine ⟨SG_up (SG_one ⟨by omega, by omega⟩) hb, fun s hs _ _ => ?_⟩
        rw [List.mem_singleton.mp hs]
        exact h1.2
    · by_cases c3 : Sg tp (tk tp n p) 40
      · rw [paP_4 c1 c2 c3] at he
        rcases hu : E (tk tp n p).2.2 with e | ⟨u, N⟩
        · rw [hu] at he; cases he
        · rw [hu] at he
          by_cases c4 : Sg tp (tk tp n u) 41
          · rw [clP_t c4] at he
            obtain ⟨rfl, rfl⟩ := Prod.mk.inj (Sum.inr.inj he)
            exact hV _ _ _ hn hu
          · rw [clP_f c4] at he; cases he
      · rw [paP_5 c1 c2 c3] at he; cases he
theorem PV_ex {P : Int → Prop} {tp : Int → Int} {n : Nat} {pu : Int} (hP : (pu = 0 ∧ P = inFe) ∨ (pu = 1 ∧ P = inPu)) : ∀ d : Nat, PV P n (1 + 5 * d) (exP tp n pu d)
  | 0 => fun p q M _ he => by cases he
  | d + 1 => by
    have h0 : PO n (exP tp n pu d) := PO_ex d
    have h1 := PO_pa (pu := pu) (tp := tp) h0
    have h2 := PO_lv (tp := tp) h1 SO_p
    have h3 := PO_lv (tp := tp) h2 SO_s
    have h4 := PO_ts (tp := tp) h3
    have h5 := PO_no (tp := tp) h4
    have h6 := PO_lv (tp := tp) h5 SO_a
    have e : 1 + 5 * (d + 1) = 1 + 5 * d + 1 + 1 + 1 + 1 + 1 := by omega
    rw [e]
    exact PV_lv h6 (PV_lv h5 (PV_no (PV_ts h3 (PV_lv h2 (PV_lv h1 (PV_pa hP (PV_ex hP d) (by omega : 1 ≤ 1 + 5 * d)) SV_p) SV_s))) SV_a) SV_o
/-- what a rule of the house reads: it runs, and takes its own values -/
theorem ex6 {P : Int → Prop} {tp : Int → Int} {n p q : Nat} {pu : Int} {L : List Int} (hP : (pu = 0 ∧ P = inFe) ∨ (pu = 1 ∧ P = inPu)) (hp : p ≤ n) (h : exP tp n pu 6 p = .inr (q, L)) : wfL 0 L ∧ vaL P L := by
  have h1 := PV_ex hP 6 p q L hp h
  exact ⟨SG_wf h1.1 (by decide), h1.2⟩
