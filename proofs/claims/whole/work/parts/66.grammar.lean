/-! what the parts of an EXPR take of the text -/
def PO (n : Nat) (sub : Nat → PR) : Prop := ∀ (p q : Nat) (M : List Int), p ≤ n → sub p = .inr (q, M) → p < q ∧ q ≤ n ∧ M.length + p ≤ q
def SO (stp : (Int → Int) → TK → Int) : Prop := ∀ (tp : Int → Int) (t : TK), stp tp t ≠ 0 → t.1 ≠ 0
theorem tk_lt {tp : Int → Int} {n p : Nat} (hp : p ≤ n) (h : (tk tp n p).1 ≠ 0) : p < (tk tp n p).2.2 := by
  obtain ⟨h1, h2, h3, h4, h5⟩ := tk_is (tp := tp) hp
  rcases h4 with ⟨a, -, -⟩ | ⟨a, b⟩
  · exact absurd a h
  · omega
theorem isWb_0 {tp : Int → Int} {t : TK} {i : Nat} (h : isWb tp t i = true) : t.1 ≠ 0 := by have := (isWb_e h).1; omega
theorem SO_t : SO tstS := by
  intro tp t h
  unfold tstS at h
  split at h
  · rename_i c; have := c.1; omega
  · split at h
    · rename_i c; have := c.1; omega
    · exact absurd rfl h
theorem SO_s : SO sumS := by
  intro tp t h
  unfold sumS at h
  split at h
  · rename_i c; have := c.1; omega
  · split at h
    · rename_i c; have := c.1; omega
    · exact absurd rfl h
theorem SO_p : SO prdS := by
  intro tp t h
  unfold prdS at h
  split at h
  · rename_i c; have := c.1; omega
  · split at h
    · rename_i c; have := c.1; omega
    · exact absurd rfl h
theorem SO_a : SO andS := by
  intro tp t h
  unfold andS at h
  split at h
  · rename_i c; exact isWb_0 c
  · exact absurd rfl h
theorem SO_o : SO orS := by
  intro tp t h
  unfold orS at h
  split at h
  · rename_i c; exact isWb_0 c
  · exact absurd rfl h
section PP
variable {tp : Int → Int} {n : Nat} {sub : Nat → PR} {stp : (Int → Int) → TK → Int}
theorem chP_0 {p : Nat} {L : List Int} (h : stp tp (tk tp n p) = 0) : ∀ f : Nat, chP tp n sub stp f p L = .inr (p, L)
  | 0 => rfl
  | _ + 1 => if_pos h
theorem chP_e {p f : Nat} {L : List Int} {e : Int × Nat} (h : stp tp (tk tp n p) ≠ 0) (hu : sub (tk tp n p).2.2 = .inl e) : chP tp n sub stp (f + 1) p L = .inl e := by
  unfold chP
  rw [if_neg h, hu]
theorem chP_g {p f q : Nat} {L M : List Int} (h : stp tp (tk tp n p) ≠ 0) (hu : sub (tk tp n p).2.2 = .inr (q, M)) : chP tp n sub stp (f + 1) p L = chP tp n sub stp f q (L ++ (M ++ [stp tp (tk tp n p)])) := by
  rw [chP, if_neg h, hu]
theorem lvP_e {p : Nat} {e : Int × Nat} (hu : sub p = .inl e) : lvP tp n sub stp p = .inl e := by unfold lvP; rw [hu]
theorem lvP_g {p q : Nat} {M : List Int} (hu : sub p = .inr (q, M)) : lvP tp n sub stp p = chP tp n sub stp 700 q M := by unfold lvP; rw [hu]
theorem tsP_e {p : Nat} {e : Int × Nat} (hu : sub p = .inl e) : tsP tp n sub p = .inl e := by unfold tsP; rw [hu]
theorem tsP_0 {p q : Nat} {L : List Int} (hu : sub p = .inr (q, L)) (h : tstS tp (tk tp n q) = 0) : tsP tp n sub p = .inr (q, L) := by unfold tsP; rw [hu]; exact if_pos h
theorem tsP_f {p q : Nat} {L : List Int} {e : Int × Nat} (hu : sub p = .inr (q, L)) (h : tstS tp (tk tp n q) ≠ 0) (hv : sub (tk tp n q).2.2 = .inl e) : tsP tp n sub p = .inl e := by
  unfold tsP
  rw [hu]
  show (if _ then _ else _) = _
  rw [if_neg h, hv]
theorem tsP_g {p q u : Nat} {L M : List Int} (hu : sub p = .inr (q, L)) (h : tstS tp (tk tp n q) ≠ 0) (hv : sub (tk tp n q).2.2 = .inr (u, M)) : tsP tp n sub p = .inr (u, L ++ (M ++ [tstS tp (tk tp n q)])) := by
  unfold tsP
  rw [hu]
  show (if _ then _ else _) = _
  rw [if_neg h, hv]
theorem PO_ch (hO : PO n sub) (hS : SO stp) (p0 : Nat) : ∀ (f p : Nat) (L : List Int) (q : Nat) (M : List Int), p ≤ n → p0 < p → L.length + p0 ≤ p → chP tp n sub stp f p L = .inr (q, M) → p0 < q ∧ q ≤ n ∧ M.length + p0 ≤ q := by
  intro f
  induction f with
  | zero =>
    intro p L q M hp h0 hl he
    obtain ⟨rfl, rfl⟩ := Prod.mk.inj (Sum.inr.inj he)
    exact ⟨h0, hp, hl⟩
  | succ f ih =>
    intro p L q M hp h0 hl he
    by_cases c : stp tp (tk tp n p) = 0
    · rw [chP_0 c] at he
      obtain ⟨rfl, rfl⟩ := Prod.mk.inj (Sum.inr.inj he)
      exact ⟨h0, hp, hl⟩
    · have ht := tk_lt hp (hS _ _ c)
      have hn := tk_e (tp := tp) hp
      rcases hu : sub (tk tp n p).2.2 with e | ⟨u, N⟩
      · rw [chP_e c hu] at he; cases he
      · rw [chP_g c hu] at he
        obtain ⟨a1, a2, a3⟩ := hO _ _ _ hn hu
        refine ih u _ q M a2 (by omega) ?_ he
        rw [List.length_append, List.length_append]
        show L.length + (N.length + 1) + p0 ≤ u
        omega
theorem PO_lv (hO : PO n sub) (hS : SO stp) : PO n (lvP tp n sub stp) := by
  intro p q M hp he
  rcases hu : sub p with e | ⟨u, N⟩
  · rw [lvP_e hu] at he; cases he
  · rw [lvP_g hu] at he
    obtain ⟨a1, a2, a3⟩ := hO _ _ _ hp hu
    exact PO_ch hO hS p 700 u N q M a2 a1 a3 he
theorem PO_ts (hO : PO n sub) : PO n (tsP tp n sub) := by
  intro p q M hp he
  rcases hu : sub p with e | ⟨u, N⟩
  · rw [tsP_e hu] at he; cases he
  · obtain ⟨a1, a2, a3⟩ := hO _ _ _ hp hu
    by_cases c : tstS tp (tk tp n u) = 0
    · rw [tsP_0 hu c] at he
      obtain ⟨rfl, rfl⟩ := Prod.mk.inj (Sum.inr.inj he)
      exact ⟨a1, a2, a3⟩
    · have ht := tk_lt a2 (SO_t _ _ c)
      have hn := tk_e (tp := tp) a2
      rcases hv : sub (tk tp n u).2.2 with e | ⟨v, K⟩
      · rw [tsP_f hu c hv] at he; cases he
      · rw [tsP_g hu c hv] at he
        obtain ⟨rfl, rfl⟩ := Prod.mk.inj (Sum.inr.inj he)
        obtain ⟨b1, b2, b3⟩ := hO _ _ _ hn hv
        refine ⟨by omega, b2, ?_⟩
        rw [List.length_append, List.length_append]
        show N.length + (K.length + 1) + p ≤ v
        omega
theorem ntP_t {f p : Nat} (h : isWb tp (tk tp n p) 4 = true) : ntP tp n (f + 1) p = ((ntP tp n f (tk tp n p).2.2).1 + 1, (ntP tp n f (tk tp n p).2.2).2) := if_pos h
theorem ntP_f {p : Nat} (h : ¬ isWb tp (tk tp n p) 4 = true) : ∀ f : Nat, ntP tp n f p = (0, p)
  | 0 => rfl
  | _ + 1 => if_neg h
theorem ntP_b : ∀ (f p : Nat), p ≤ n → (ntP tp n f p).2 ≤ n ∧ (ntP tp n f p).1 + p ≤ (ntP tp n f p).2 ∧ (ntP tp n f p).1 ≤ f
  | 0, p, hp => ⟨hp, by show 0 + p ≤ p; omega, Nat.le_refl _⟩
  | f + 1, p, hp => by
    by_cases c : isWb tp (tk tp n p) 4 = true
    · have ht := tk_lt hp (isWb_0 c)
      have h := ntP_b f (tk tp n p).2.2 (tk_e hp)
      rw [ntP_t c]
      dsimp only
      omega
    · rw [ntP_f c]
      dsimp only
      omega
theorem noE_x {k p : Nat} (h : k = 6 ∧ isWb tp (tk tp n p) 4 = true) : noE tp n sub k p = .inl (2, (tk tp n p).2.1) := if_pos h
theorem noE_e {k p : Nat} {e : Int × Nat} (h : ¬ (k = 6 ∧ isWb tp (tk tp n p) 4 = true)) (hu : sub p = .inl e) : noE tp n sub k p = .inl e := by unfold noE; rw [if_neg h, hu]
theorem noE_g {k p q : Nat} {L : List Int} (h : ¬ (k = 6 ∧ isWb tp (tk tp n p) 4 = true)) (hu : sub p = .inr (q, L)) : noE tp n sub k p = .inr (q, L ++ List.replicate k (-9)) := by unfold noE; rw [if_neg h, hu]
theorem PO_no (hO : PO n sub) : PO n (noP tp n sub) := by
  intro p q M hp he
  have hb := ntP_b (tp := tp) (n := n) 6 p hp
  have e0 : noP tp n sub p = noE tp n sub (ntP tp n 6 p).1 (ntP tp n 6 p).2 := rfl
  rw [e0] at he
  generalize (ntP tp n 6 p).1 = k at he hb
  generalize (ntP tp n 6 p).2 = p' at he hb
  by_cases c : k = 6 ∧ isWb tp (tk tp n p') 4 = true
  · rw [noE_x c] at he; cases he
  · rcases hu : sub p' with e | ⟨u, N⟩
    · rw [noE_e c hu] at he; cases he
    · rw [noE_g c hu] at he
      obtain ⟨rfl, rfl⟩ := Prod.mk.inj (Sum.inr.inj he)
      obtain ⟨b1, b2, b3⟩ := hO _ _ _ hb.1 hu
      refine ⟨by omega, b2, ?_⟩
      rw [List.length_append, List.length_replicate]
      omega
end PP
def vaR (tp : Int → Int) (n : Nat) (pu : Int) (p : Nat) : PR := if vaW tp pu (tk tp n p) = 0 then .inl (3, (tk tp n p).2.1) else .inr ((tk tp n p).2.2, [vaW tp pu (tk tp n p)])
section PQ
variable {tp : Int → Int} {n : Nat} {pu : Int} {E : Nat → PR} {p : Nat}
theorem paP_1 (h1 : (tk tp n p).1 = 2) (h2 : (tk tp n p).2.1 + 4 < (tk tp n p).2.2) : paP tp n pu E p = .inl (2, (tk tp n p).2.1) := by unfold paP; rw [if_pos h1, if_pos h2]
theorem paP_2 (h1 : (tk tp n p).1 = 2) (h2 : ¬ (tk tp n p).2.1 + 4 < (tk tp n p).2.2) : paP tp n pu E p = .inr ((tk tp n p).2.2, [nmT tp (tk tp n p)]) := by unfold paP; rw [if_pos h1, if_neg h2]
theorem paP_3 (h1 : ¬ (tk tp n p).1 = 2) (h2 : (tk tp n p).1 = 1) : paP tp n pu E p = vaR tp n pu p := by unfold paP; rw [if_neg h1, if_pos h2]; rfl
theorem paP_4 (h1 : ¬ (tk tp n p).1 = 2) (h2 : ¬ (tk tp n p).1 = 1) (h3 : Sg tp (tk tp n p) 40) : paP tp n pu E p = clP tp n 41 (E (tk tp n p).2.2) := by unfold paP; rw [if_neg h1, if_neg h2, if_pos h3]
theorem paP_5 (h1 : ¬ (tk tp n p).1 = 2) (h2 : ¬ (tk tp n p).1 = 1) (h3 : ¬ Sg tp (tk tp n p) 40) : paP tp n pu E p = .inl (1, (tk tp n p).2.1) := by unfold paP; rw [if_neg h1, if_neg h2, if_neg h3]
theorem clP_t {c : Int} {q : Nat} {L : List Int} (h : Sg tp (tk tp n q) c) : clP tp n c (.inr (q, L)) = .inr ((tk tp n q).2.2, L) := if_pos h
theorem clP_f {c : Int} {q : Nat} {L : List Int} (h : ¬ Sg tp (tk tp n q) c) : clP tp n c (.inr (q, L)) = .inl (1, (tk tp n q).2.1) := if_neg h
theorem PO_pa (hO : PO n E) : PO n (paP tp n pu E) := by
  intro p q M hp he
  have hn := tk_e (tp := tp) hp
  by_cases c1 : (tk tp n p).1 = 2
  · have ht := tk_lt hp (by omega : (tk tp n p).1 ≠ 0)
    by_cases c2 : (tk tp n p).2.1 + 4 < (tk tp n p).2.2
    · rw [paP_1 c1 c2] at he; cases he
    · rw [paP_2 c1 c2] at he
      obtain ⟨rfl, rfl⟩ := Prod.mk.inj (Sum.inr.inj he)
      exact ⟨ht, hn, by show 1 + p ≤ _; omega⟩
  · by_cases c2 : (tk tp n p).1 = 1
    · have ht := tk_lt hp (by omega : (tk tp n p).1 ≠ 0)
      rw [paP_3 c1 c2] at he
      unfold vaR at he
      by_cases c3 : vaW tp pu (tk tp n p) = 0
      · rw [if_pos c3] at he; cases he
      · rw [if_neg c3] at he
        obtain ⟨rfl, rfl⟩ := Prod.mk.inj (Sum.inr.inj he)
        exact ⟨ht, hn, by show 1 + p ≤ _; omega⟩
    · by_cases c3 : Sg tp (tk tp n p) 40
      · have ht := tk_lt hp (by have := c3.1; omega : (tk tp n p).1 ≠ 0)
        rw [paP_4 c1 c2 c3] at he
        rcases hu : E (tk tp n p).2.2 with e | ⟨u, N⟩
        · rw [hu] at he; cases he
        · rw [hu] at he
          obtain ⟨b1, b2, b3⟩ := hO _ _ _ hn hu
          by_cases c4 : Sg tp (tk tp n u) 41
          · rw [clP_t c4] at he
            obtain ⟨rfl, rfl⟩ := Prod.mk.inj (Sum.inr.inj he)
            have hv := tk_lt b2 (by have := c4.1; omega : (tk tp n u).1 ≠ 0)
            exact ⟨by omega, tk_e b2, by omega⟩
          · rw [clP_f c4] at he; cases he
      · rw [paP_5 c1 c2 c3] at he; cases he
theorem PO_ex : ∀ d : Nat, PO n (exP tp n pu d)
  | 0 => fun p q M _ he => by cases he
  | d + 1 => PO_lv (PO_lv (PO_no (PO_ts (PO_lv (PO_lv (PO_pa (PO_ex d)) SO_p) SO_s))) SO_a) SO_o
end PQ
theorem vBo_b (tp : Int → Int) (t : TK) : -8 ≤ vBo tp t ∧ vBo tp t ≤ 0 := by
  unfold vBo
  split
  · omega
  · split <;> omega
theorem vFe_b (tp : Int → Int) (t : TK) : -8 ≤ vFe tp t ∧ vFe tp t ≤ 0 := by
  unfold vFe
  split
  · omega
  · split <;> omega
theorem vPu_b (tp : Int → Int) (t : TK) : -8 ≤ vPu tp t ∧ vPu tp t ≤ 0 := by
  unfold vPu
  split
  · omega
  · split
    · omega
    · split
      · omega
      · split <;> omega
theorem stp_b (tp : Int → Int) (t : TK) : (-17 ≤ tstS tp t ∧ tstS tp t ≤ 0) ∧ (-17 ≤ sumS tp t ∧ sumS tp t ≤ 0) ∧ (-17 ≤ prdS tp t ∧ prdS tp t ≤ 0) := by
  unfold tstS sumS prdS
  refine ⟨?_, ?_, ?_⟩
  all_goals
    split
    · omega
    · split <;> omega
theorem vaW_b {tp : Int → Int} {pu : Int} {t : TK} (h : vBo tp t ≠ 0) : vaW tp pu t = vBo tp t := if_neg h
theorem vaW_p {tp : Int → Int} {pu : Int} {t : TK} (h : vBo tp t = 0) (hp : pu ≠ 0) : vaW tp pu t = vPu tp t := by unfold vaW; rw [if_pos h, if_neg hp]
theorem vaW_f {tp : Int → Int} {pu : Int} {t : TK} (h : vBo tp t = 0) (hp : pu = 0) : vaW tp pu t = vFe tp t := by unfold vaW; rw [if_pos h, if_pos hp]
theorem andS_t {tp : Int → Int} {t : TK} (h : isWb tp t 13 = true) : andS tp t = -11 := if_pos h
theorem andS_f {tp : Int → Int} {t : TK} (h : ¬ isWb tp t 13 = true) : andS tp t = 0 := if_neg h
theorem orS_t {tp : Int → Int} {t : TK} (h : isWb tp t 14 = true) : orS tp t = -10 := if_pos h
theorem orS_f {tp : Int → Int} {t : TK} (h : ¬ isWb tp t 14 = true) : orS tp t = 0 := if_neg h
