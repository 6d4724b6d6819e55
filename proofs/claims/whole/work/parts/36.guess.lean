/-! the guesses: found ones, unlike numbers -/
def GI (h hh : HP) (L : List Nat) : Prop := FS h hh ∧ hI hh 100 4 = (L.length : Int) ∧ ∀ (j x : Nat), L[j]? = some x → hA hh 108 (j : Int) = (x : Int)
theorem WK_at {h0 h : HP} {w t a : Nat} (ht : t = 33 ∨ t = 48) (hw : w = 84 ∨ w = 101) (k : WK h0 h w t) (h1 : a = 108 ∨ a = 116 ∨ (110 ≤ a ∧ a ≤ 115)) : hA h a = hA h0 a := k.1 a (by omega) (by omega) (by omega) (by omega) (by omega)
theorem gsR_at (f : Int → Int) {p k : Nat} (hk : k < 10) : gsR f (10 * p + k) = upI f (15 + (p : Int)) (k : Int) := by
  unfold gsR
  rw [show (10 * p + k) / 10 = p by omega, show (10 * p + k) % 10 = k by omega]
theorem gsR_ok {S : HS} {B : Int} {f : Int → Int} {g : Nat} (hT : rT B f) (hC : rC S f) (hS : sNp S ≤ 7) (hg : g < 10 * sNp S) : rT B (gsR f g) ∧ rC S (gsR f g) ∧ gsR f g 0 = f 0 := by
  unfold gsR
  refine ⟨fond_rT hT (by omega) (by omega), fun p a b => ?_, upI_n (by omega)⟩
  rw [upI_n (by omega)]
  exact hC p a b
theorem GI_add {h g g' : HP} {S : HS} {N : SN} {f : Int → Int} {n : Nat} (F : FS h g) (h1 : hI g 100 4 = ((gsL S N f n).length : Int)) (h2 : ∀ (j x : Nat), (gsL S N f n)[j]? = some x → hA g 108 (j : Int) = (x : Int)) (hb : gsB S N f n = true) {g1 : HP} (e1 : g1 = sA g 108 ((gsL S N f n).length : Int) (n : Int)) (e2 : g' = sI g1 100 4 (((gsL S N f n).length : Int) + 1)) : GI h g' (gsL S N f (n + 1)) := by
  obtain ⟨a1, f1, i1, r1⟩ := sA_fx e1
  obtain ⟨a2, f2, i2, r2⟩ := sI_fx e2
  obtain ⟨g1', g2, g3, g4, g5, g6, g7⟩ := F.2.2.2
  refine ⟨⟨fun a ha => ?_, fun a k ha => ?_, fun a k ha => by rw [r2, r1]; exact F.2.2.1 a k ha, ?_⟩, ?_, fun j x hj => ?_⟩
  · rw [i2, f1 a (fun z => by rw [z] at ha; cases ha)]; exact F.1 a ha
  · rw [f2 a k (by
      by_cases z : a = 100
      · exact Or.inr (fun z2 => by rw [z, z2] at ha; cases ha)
      · exact Or.inl z), i1]
    exact F.2.1 a k ha
  · exact ⟨by rw [i2, f1 44 (by decide)]; exact g1', by rw [i2, f1 47 (by decide)]; exact g2, by rw [i2, f1 59 (by decide)]; exact g3, by rw [i2, f1 62 (by decide)]; exact g4, by rw [i2, f1 87 (by decide)]; exact g5, by rw [i2, f1 104 (by decide)]; exact g6, by rw [r2, r1]; exact g7⟩
  · rw [a2, gsL_t hb, List.length_append]; rfl
  · rw [i2, a1]
    rw [gsL_t hb] at hj
    unfold upI
    by_cases z : j = (gsL S N f n).length
    · rw [z, List.getElem?_append_right (Nat.le_refl _), Nat.sub_self] at hj
      rw [if_pos (by rw [z])]
      have : n = x := Option.some.inj hj
      rw [this]
    · rw [if_neg (by omega)]
      have hl : j < (gsL S N f n).length := by
        rcases Nat.lt_or_ge j ((gsL S N f n).length + 1) with q | q
        · omega
        · rw [List.getElem?_eq_none (by rw [List.length_append]; exact q)] at hj; cases hj
      rw [List.getElem?_append_left hl] at hj
      exact h2 j x hj
/-! numbers that are unlike -/
def adL (L : List Int) (x : Int) : List Int := if x ∈ L then L else L ++ [x]
def dvL (v : Nat → Int) : Nat → List Int
  | 0 => []
  | k + 1 => adL (dvL v k) (v k)
theorem adL_len (L : List Int) (x : Int) : (adL L x).length ≤ L.length + 1 := by
  unfold adL
  by_cases e : x ∈ L
  · rw [if_pos e]; omega
  · rw [if_neg e, List.length_append]; exact Nat.le_refl _
theorem dvL_len (v : Nat → Int) : ∀ k, (dvL v k).length ≤ k
  | 0 => Nat.le_refl 0
  | k + 1 => Nat.le_trans (adL_len _ _) (Nat.succ_le_succ (dvL_len v k))
theorem dvL_in {v : Nat → Int} {P : Int → Prop} : ∀ k, (∀ j, j < k → P (v j)) → ∀ x ∈ dvL v k, P x
  | 0, _, x, hx => by cases hx
  | k + 1, h, x, hx => by
    have hx : x ∈ adL (dvL v k) (v k) := hx
    unfold adL at hx
    by_cases e : v k ∈ dvL v k
    · rw [if_pos e] at hx
      exact dvL_in k (fun j hj => h j (by omega)) x hx
    · rw [if_neg e] at hx
      rcases List.mem_append.mp hx with q | q
      · exact dvL_in k (fun j hj => h j (by omega)) x q
      · rw [List.mem_singleton.mp q]; exact h k (by omega)
/-- a list in an array -/
def laR (h : HP) (a : Nat) (L : List Int) : Prop := ∀ (j : Nat) (x : Int), L[j]? = some x → hA h a (j : Int) = x
/-- stocks behind ten days, by the guesses found -/
def svF (S : HS) (N : SN) (f : Int → Int) (q k : Nat) : Int := dysF S (gsR f (((gsL S N f (10 * sNp S))[k]?).getD 0)) 10 (29 + (q : Int))
/-- the unlike numbers so far: of things below m one more -/
def GV (h hh : HP) (S : HS) (N : SN) (f : Int → Int) (k m : Nat) : Prop := GI h hh (gsL S N f (10 * sNp S)) ∧ hI hh 100 5 = (sNt S : Int) ∧ ∀ q : Nat, q < sNt S → hA hh 116 (q : Int) = ((dvL (svF S N f q) (if q < m then k + 1 else k)).length : Int) ∧ laR hh (110 + q) (dvL (svF S N f q) (if q < m then k + 1 else k))
theorem GI_fr {h g g' : HP} {L : List Nat} (I : GI h g L) (F : FS h g') (h1 : hI g' 100 4 = hI g 100 4) (h2 : hA g' 108 = hA g 108) : GI h g' L := ⟨F, by rw [h1]; exact I.2.1, by rw [h2]; exact I.2.2⟩
theorem FS_un {h g g' : HP} (F : FS h g) (f1 : ∀ a, a ≠ 116 → ¬ (110 ≤ a ∧ a ≤ 115) → hA g' a = hA g a) (i1 : hI g' = hI g) (r1 : hR g' = hR g) : FS h g' := by
  obtain ⟨g1, g2, g3, g4, g5, g6, g7⟩ := F.2.2.2
  refine ⟨fun a ha => ?_, fun a k ha => by rw [i1]; exact F.2.1 a k ha, fun a k ha => by rw [r1]; exact F.2.2.1 a k ha, ?_⟩
  · have q : ∀ b, scA b = true → a ≠ b := fun b hb e => by rw [e, hb] at ha; cases ha
    rw [f1 a (q _ rfl) (by
      have := q 110 rfl; have := q 111 rfl; have := q 112 rfl; have := q 113 rfl; have := q 114 rfl; have := q 115 rfl
      omega)]
    exact F.1 a ha
  · exact ⟨by rw [f1 44 (by decide) (by decide)]; exact g1, by rw [f1 47 (by decide) (by decide)]; exact g2, by rw [f1 59 (by decide) (by decide)]; exact g3, by rw [f1 62 (by decide) (by decide)]; exact g4, by rw [f1 87 (by decide) (by decide)]; exact g5, by rw [f1 104 (by decide) (by decide)]; exact g6, by rw [r1]; exact g7⟩
theorem laR_add {h g : HP} {a : Nat} {L : List Int} {x : Int} (hL : laR h a L) (hx : ¬ x ∈ L) (e : hA g a = upI (hA h a) (L.length : Int) x) : laR g a (adL L x) := by
  intro j y hj
  unfold adL at hj
  rw [if_neg hx] at hj
  rw [e]
  unfold upI
  by_cases z : j = L.length
  · rw [z, List.getElem?_append_right (Nat.le_refl _), Nat.sub_self] at hj
    rw [if_pos (by rw [z])]
    exact Option.some.inj hj
  · rw [if_neg (by omega)]
    have hl : j < L.length := by
      rcases Nat.lt_or_ge j (L.length + 1) with q | q
      · omega
      · rw [List.getElem?_eq_none (by rw [List.length_append]; exact q)] at hj; cases hj
    rw [List.getElem?_append_left hl] at hj
    exact hL j y hj

def mX2_many : MI := (yX2_many, cX2_many, 1, (some .int), rmK 1 0)
def tX2_many : List (Nat × Instr × Nat) := [(0, .aload_n 0, 1), (1, .getfield 23, 3), (4, .ireturn, 1)]
theorem dtX2_many : tX2_many.all (fun q => decide (decode cX2_many q.1 = .ok (q.2.1, q.2.2))) = true := by decide +kernel
theorem npX2_many : (parseMethodDescriptor (mY mX2_many).desc).map (fun d => d.parameters.length) = some 0 := by decide +kernel
theorem vX2_many : mV mX2_many := ⟨wI_X2_many, wS_X2_many, wN_X2, wC_X2_many, by decide +kernel, by decide +kernel⟩
set_option maxHeartbeats 4000000 in
set_option maxRecDepth 100000 in
theorem sX2_many {h : HP}  : SpecK mX2_many [vr 100] h (fun o h' => o = .inl (some (vi (hI h 100 4))) ∧ h' = h) := by
  refine Spec_of (by decide +kernel) (Nat.le_of_ble_eq_true rfl) ?_
  refine K_aload_n (dt_at dtX2_many 0 rfl) rfl rfl ?_
  refine K_get (a := 100) (ci := 2) (k := 4) (v := vi (hI h 100 4)) (dt_at dtX2_many 1 rfl) (show TT 100 = (0, 2) from rfl) rfl (by decide) wF_X2_23 rfl ?_
  exact K_iret (dt_at dtX2_many 2 rfl) rfl rfl (by decide) (by decide) ⟨rfl, rfl⟩
def mX2_findAll : MI := (yX2_findAll, cX2_findAll, 6, none, rmK 7 0)
def tX2_findAll : List (Nat × Instr × Nat) := [(0, .aload_n 0, 1), (1, .iconst 0, 1), (2, .putfield 23, 3), (5, .iconst 0, 1), (6, .istore 4, 2), (8, .iload 4, 2), (10, .aload_n 1, 1), (11, .getfield 64, 3), (14, .if_icmp .ge 97, 3), (17, .iconst 0, 1), (18, .istore 5, 2), (20, .iload 5, 2), (22, .bipush 9, 2), (24, .if_icmp .gt 81, 3), (27, .iload 5, 2), (29, .aload_n 2, 1), (30, .iload 4, 2), (32, .invokevirtual 69, 3), (35, .if_icmp .ne 6, 3), (38, .goto 61, 3), (41, .aload_n 0, 1), (42, .getfield 35, 3), (45, .aload_n 1, 1), (46, .aload_n 2, 1), (47, .invokevirtual 39, 3), (50, .aload_n 0, 1), (51, .getfield 35, 3), (54, .getfield 53, 3), (57, .iload 4, 2), (59, .iload 5, 2), (61, .invokevirtual 75, 3), (64, .aload_n 0, 1), (65, .aload_n 3, 1), (66, .invokevirtual 43, 3), (69, .ifCond .eq 30, 3), (72, .aload_n 0, 1), (73, .getfield 9, 3), (76, .aload_n 0, 1), (77, .getfield 23, 3), (80, .bipush 10, 2), (82, .iload 4, 2), (84, .imul, 1), (85, .iload 5, 2), (87, .iadd, 1), (88, .iastore, 1), (89, .aload_n 0, 1), (90, .dup, 1), (91, .getfield 23, 3), (94, .iconst 1, 1), (95, .iadd, 1), (96, .putfield 23, 3), (99, .iinc 5 1, 3), (102, .goto (-82), 3), (105, .iinc 4 1, 3), (108, .goto (-100), 3), (111, .return_, 1)]
theorem dtX2_findAll : tX2_findAll.all (fun q => decide (decode cX2_findAll q.1 = .ok (q.2.1, q.2.2))) = true := by decide +kernel
theorem npX2_findAll : (parseMethodDescriptor (mY mX2_findAll).desc).map (fun d => d.parameters.length) = some 3 := by decide +kernel
theorem vX2_findAll : mV mX2_findAll := ⟨wI_X2_findAll, wS_X2_findAll, wN_X2, wC_X2_findAll, by decide +kernel, by decide +kernel⟩
set_option maxHeartbeats 4000000 in
set_option maxRecDepth 100000 in
theorem li_X2_findAll {Z : CT → State → Prop} {h : HP} {t : Nat} {S : HS} {B : Int} {f : Int → Int} {N : SN} {p : Nat} (u0 : GU h t S B f N) (hp0 : p < sNp S) (kx : ∀ h2, GI h h2 (gsL S N f (10 * p + 10)) → K mX2_findAll GK Z 0 0 105 [(4, vi (p : Int)), (0, vr 100), (1, vr t), (2, vr 66), (3, vr 70)] [] h2) : ∀ (d k : Nat) (hh : HP), k + d = 10 → GI h hh (gsL S N f (10 * p + k)) → K mX2_findAll GK Z 0 0 20 [(5, vi (k : Int)), (4, vi (p : Int)), (0, vr 100), (1, vr t), (2, vr 66), (3, vr 70)] [] hh := by
  intro d
  induction d with
  | zero =>
    intro k hh hk Gh
    have u := GU_FS u0 Gh.1
    have c := u.1
    have ht := c.1
    have hH := TTt ht
    have hB := c.2.2.2.1
    have hNt := hB.1
    have hNp := hB.2.1
    have hT := c.2.2.2.2.2.1
    have hC := c.2.2.2.2.2.2.1
    have h99 := c.2.2.2.2.2.2.2.1
    have G := c.2.2.2.2.2.2.2.2
    have hf0 := hT.2.2.2.1
    have gl := gsL_len (S := S) (N := N) (f := f) (10 * p + k)
    have ek : k = 10 := by omega
    subst ek
    refine K_iload (dt_at dtX2_findAll 11 rfl) rfl ?_
    refine K_bipush (dt_at dtX2_findAll 12 rfl) (by decide) ?_
    refine K_icmp_gt (tgt := 105) (dt_at dtX2_findAll 13 rfl) (by decide) (by first | assumption | exact ⟨by omega, by omega⟩) (by first | assumption | exact ⟨by omega, by omega⟩) (fun c1 => ?_) (fun c1 => absurd c1 (by omega))
    exact K_pk [1, 2, 3, 4, 5] rfl (kx hh Gh)
  | succ d ih =>
    intro k hh hk Gh
    have u := GU_FS u0 Gh.1
    have c := u.1
    have ht := c.1
    have hH := TTt ht
    have hB := c.2.2.2.1
    have hNt := hB.1
    have hNp := hB.2.1
    have hT := c.2.2.2.2.2.1
    have hC := c.2.2.2.2.2.2.1
    have h99 := c.2.2.2.2.2.2.2.1
    have G := c.2.2.2.2.2.2.2.2
    have hf0 := hT.2.2.2.1
    have gl := gsL_len (S := S) (N := N) (f := f) (10 * p + k)
    have wf := (hT.1.2 (p : Int) (by omega) (by omega)).2.2.1
    refine K_iload (dt_at dtX2_findAll 11 rfl) rfl ?_
    refine K_bipush (dt_at dtX2_findAll 12 rfl) (by decide) ?_
    refine K_icmp_gt (tgt := 105) (dt_at dtX2_findAll 13 rfl) (by decide) (by first | assumption | exact ⟨by omega, by omega⟩) (by first | assumption | exact ⟨by omega, by omega⟩) (fun c1 => absurd c1 (by omega)) (fun c1 => ?_)
    refine K_iload (dt_at dtX2_findAll 14 rfl) rfl ?_
    refine K_aload_n (dt_at dtX2_findAll 15 rfl) rfl rfl ?_
    refine K_iload (dt_at dtX2_findAll 16 rfl) rfl ?_
    refine K_callV (M' := mX8_fond) (a := 66) (ci := 8) (As := [vi (p : Int)]) (st := [vi (k : Int)]) (dt_at dtX2_findAll 17 rfl) (sX8_fond (a := 66) rfl ⟨by omega, by omega⟩) (show TT 66 = (0, 8) from rfl) rfl wL_X2_69 vX8_fond rfl npX8_fond (by decide) (by decide) (Nat.le_of_ble_eq_true rfl) (by decide) (by decide) GK_E (fun v9 h9 hq => ?_) (fun E h9 hq => by cases hq.1)
    obtain ⟨e9, e8⟩ := hq
    cases e9
    rw [e8]
    show K mX2_findAll _ _ 0 0 35 [(5, vi (k : Int)), (4, vi (p : Int)), (0, vr 100), (1, vr t), (2, vr 66), (3, vr 70)] [vi (hA hh (66 + 1) (15 + (p : Int))), vi (k : Int)] hh
    rw [show hA hh (66 + 1) = f from c.2.2.2.2.1]
    refine K_icmp_ne (tgt := 41) (dt_at dtX2_findAll 18 rfl) (by decide) (by first | assumption | exact ⟨by omega, by omega⟩) (by first | assumption | exact ⟨by omega, by omega⟩) (fun c2 => ?_) (fun c2 => ?_)
    · refine K_aload_n (dt_at dtX2_findAll 20 rfl) rfl rfl ?_
      refine K_get (a := 100) (ci := 2) (k := 0) (v := vr 101) (dt_at dtX2_findAll 21 rfl) (show TT 100 = (0, 2) from rfl) rfl (by decide) wF_X2_35 rfl ?_
      refine K_aload_n (dt_at dtX2_findAll 22 rfl) rfl rfl ?_
      refine K_aload_n (dt_at dtX2_findAll 23 rfl) rfl rfl ?_
      refine K_callV (M' := mX10_begin) (a := 101) (ci := 10) (As := [vr t, vr 66]) (st := []) (dt_at dtX2_findAll 24 rfl) (sX10_begin (w := 101) (t := t) (a := 66) (Or.inr rfl) ht (by decide) (by decide)) (show TT 101 = (0, 10) from rfl) rfl wL_X2_39 vX10_begin rfl npX10_begin (by decide) (by decide) (Nat.le_of_ble_eq_true rfl) (by decide) (by decide) GK_E (fun v9 hc1 hq => ?_) (fun E h9 hq => by cases hq.1)
      have hqq2 := hq
      obtain ⟨e9q2, b1, b2, b3, b4, b5, b6, b7⟩ := hqq2
      obtain ⟨F1, X, P1⟩ := BG_ok (w := 101) (Or.inr rfl) ht c.2.2.1 hB G b1 b2 b3 b4 b5 b6 b7
      rw [c.2.2.2.2.1] at P1
      cases e9q2
      show K mX2_findAll _ _ 0 0 50 [(5, vi (k : Int)), (4, vi (p : Int)), (0, vr 100), (1, vr t), (2, vr 66), (3, vr 70)] [] hc1
      refine K_aload_n (dt_at dtX2_findAll 25 rfl) rfl rfl ?_
      refine K_get (a := 100) (ci := 2) (k := 0) (v := vr 101) (dt_at dtX2_findAll 26 rfl) (show TT 100 = (0, 2) from rfl) rfl (by decide) wF_X2_35 rfl ?_
      refine K_get (a := 101) (ci := 10) (k := 0) (v := vr 102) (dt_at dtX2_findAll 27 rfl) (show TT 101 = (0, 10) from rfl) rfl (by decide) wF_X2_53 rfl ?_
      refine K_iload (dt_at dtX2_findAll 28 rfl) rfl ?_
      refine K_iload (dt_at dtX2_findAll 29 rfl) rfl ?_
      refine K_callV (M' := mX8_setFond) (a := 102) (ci := 8) (As := [vi (p : Int), vi (k : Int)]) (st := []) (dt_at dtX2_findAll 30 rfl) (sX8_setFond (a := 102) rfl ⟨by omega, by omega⟩ ⟨by omega, by omega⟩) (show TT 102 = (0, 8) from rfl) rfl wL_X2_75 vX8_setFond rfl npX8_setFond (by decide) (by decide) (Nat.le_of_ble_eq_true rfl) (by decide) (by decide) GK_E (fun v9 hc3 hq => ?_) (fun E h9 hq => by cases hq.1)
      have hqq4 := hq
      obtain ⟨e9q4, e8q4⟩ := hqq4
      obtain ⟨hfq4, frq4, hiq4, hrq4⟩ := sA_fx e8q4
      rw [show max 0 (min 9 (k : Int)) = (k : Int) by omega, show hA hc1 (102 + 1) = f from P1.2.1, ← gsR_at f (by omega)] at hfq4
      have P2 : PW hc1 hc3 101 t (gsR f (10 * p + k)) (fun _ => 0) 0 := ⟨WK_A X P1.1 (Or.inl rfl) frq4 hiq4 hrq4, hfq4, by rw [frq4 _ (by decide)]; exact P1.2.2.1, by rw [hiq4]; exact P1.2.2.2⟩
      have FF2 := FS_tr F1 (WK_FS X P2.1 F1.2.2.2)
      obtain ⟨gT, gC, g0⟩ := gsR_ok (g := 10 * p + k) hT hC hNp (by omega)
      cases e9q4
      show K mX2_findAll _ _ 0 0 64 [(5, vi (k : Int)), (4, vi (p : Int)), (0, vr 100), (1, vr t), (2, vr 66), (3, vr 70)] [] hc3
      refine K_aload_n (dt_at dtX2_findAll 31 rfl) rfl rfl ?_
      refine K_aload_n (dt_at dtX2_findAll 32 rfl) rfl rfl ?_
      refine K_callV (M' := mX2_isAllSeenSo) (a := 100) (ci := 2) (As := [vr 70]) (st := []) (dt_at dtX2_findAll 33 rfl) (sX2_isAllSeenSo u F1 X gT gC (by omega) P2) (show TT 100 = (0, 2) from rfl) rfl wL_X2_43 vX2_isAllSeenSo rfl npX2_isAllSeenSo (by decide) (by decide) (Nat.le_of_ble_eq_true rfl) (by decide) (by decide) GK_E (fun v9 hc5 hq => ?_) (fun E h9 hq => by cases hq.1)
      have hqq6 := hq
      obtain ⟨e9q6, K3⟩ := hqq6
      have F3 := FS_tr F1 (WK_FS X K3 F1.2.2.2)
      have n3 : hI hc5 100 4 = ((gsL S N f (10 * p + k)).length : Int) := by rw [K3.2.2.1 100 4 (Or.inl (by decide)), b5 100 4 (Or.inl (by decide))]; exact Gh.2.1
      have a3 : hA hc5 108 = hA hh 108 := (WK_at ht (Or.inr rfl) K3 (Or.inl rfl)).trans (b1 108 (by decide) (by decide))
      cases e9q6
      show K mX2_findAll _ _ 0 0 69 [(5, vi (k : Int)), (4, vi (p : Int)), (0, vr 100), (1, vr t), (2, vr 66), (3, vr 70)] [vi (if seB S N (gsR f (10 * p + k)) = true then 1 else 0)] hc5
      by_cases z3 : seB S N (gsR f (10 * p + k)) = true
      · rw [if_pos z3]
        refine K_if_eq (tgt := 99) (dt_at dtX2_findAll 34 rfl) (by decide) (by first | assumption | exact ⟨by omega, by omega⟩) (fun c4 => absurd c4 (by omega)) (fun c4 => ?_)
        refine K_aload_n (dt_at dtX2_findAll 35 rfl) rfl rfl ?_
        refine K_get (a := 100) (ci := 2) (k := 1) (v := vr 108) (dt_at dtX2_findAll 36 rfl) (show TT 100 = (0, 2) from rfl) rfl (by decide) wF_X2_9 rfl ?_
        refine K_aload_n (dt_at dtX2_findAll 37 rfl) rfl rfl ?_
        refine K_get (a := 100) (ci := 2) (k := 4) (v := vi ((gsL S N f (10 * p + k)).length : Int)) (dt_at dtX2_findAll 38 rfl) (show TT 100 = (0, 2) from rfl) rfl (by decide) wF_X2_23 (by show vi (hI hc5 100 4) = vi ((gsL S N f (10 * p + k)).length : Int); rw [n3]) ?_
        refine K_bipush (dt_at dtX2_findAll 39 rfl) (by decide) ?_
        refine K_iload (dt_at dtX2_findAll 40 rfl) rfl ?_
        refine K_imul (dt_at dtX2_findAll 41 rfl) ?_
        refine K_iload (dt_at dtX2_findAll 42 rfl) rfl ?_
        refine K_iadd (dt_at dtX2_findAll 43 rfl) ?_
        refine K_iast (dt_at dtX2_findAll 44 rfl) (show TT 108 = (1, 70) from rfl) (by omega) (by omega) ?_
        obtain ⟨hq7, eq7⟩ : ∃ z, z = sA hc5 108 ((gsL S N f (10 * p + k)).length : Int) ((10 * (p : Int)) + (k : Int)) := ⟨_, rfl⟩
        rw [← eq7]
        obtain ⟨aq7, fq7, iq7, rq7⟩ := sA_fx eq7
        refine K_aload_n (dt_at dtX2_findAll 45 rfl) rfl rfl ?_
        refine K_dup (dt_at dtX2_findAll 46 rfl) rfl ?_
        refine K_get (a := 100) (ci := 2) (k := 4) (v := vi ((gsL S N f (10 * p + k)).length : Int)) (dt_at dtX2_findAll 47 rfl) (show TT 100 = (0, 2) from rfl) rfl (by decide) wF_X2_23 (by show vi (hI hq7 100 4) = vi ((gsL S N f (10 * p + k)).length : Int); rw [iq7, n3]) ?_
        refine K_iconst (dt_at dtX2_findAll 48 rfl) ?_
        refine K_iadd (dt_at dtX2_findAll 49 rfl) ?_
        refine K_putI (a := 100) (ci := 2) (k := 4) (dt_at dtX2_findAll 50 rfl) (show TT 100 = (0, 2) from rfl) rfl (by decide) wF_X2_23 rfl (Or.inl rfl) rfl rfl ?_
        obtain ⟨hq8, eq8⟩ : ∃ z, z = sI hq7 100 4 (((gsL S N f (10 * p + k)).length : Int) + 1) := ⟨_, rfl⟩
        rw [← eq8]
        obtain ⟨iq8, fq8, aq8, rq8⟩ := sI_fx eq8
        refine K_iinc (ls' := [(5, vi ((k : Int) + 1)), (4, vi (p : Int)), (0, vr 100), (1, vr t), (2, vr 66), (3, vr 70)]) (dt_at dtX2_findAll 51 rfl) rfl (by decide) rfl ?_
        refine K_goto (tgt := 20) (dt_at dtX2_findAll 52 rfl) (by decide) ?_
        exact K_pk [0, 1, 2, 3, 4, 5] rfl (ih (k + 1) hq8 (by omega) (by rw [show 10 * p + (k + 1) = 10 * p + k + 1 from rfl]; exact GI_add (FS_tr Gh.1 F3) n3 (by rw [a3]; exact Gh.2.2) (by unfold gsB; rw [show seB S N (gsR f (10 * p + k)) = true by assumption, show (10 * p + k) / 10 = p by omega, show (10 * p + k) % 10 = k by omega, decide_eq_true (by omega)]; rfl) (by rw [eq7]; rfl) eq8))
      · rw [if_neg z3]
        refine K_if_eq (tgt := 99) (dt_at dtX2_findAll 34 rfl) (by decide) (by first | assumption | exact ⟨by omega, by omega⟩) (fun c5 => ?_) (fun c5 => absurd c5 (by omega))
        refine K_iinc (ls' := [(5, vi ((k : Int) + 1)), (4, vi (p : Int)), (0, vr 100), (1, vr t), (2, vr 66), (3, vr 70)]) (dt_at dtX2_findAll 51 rfl) rfl (by decide) rfl ?_
        refine K_goto (tgt := 20) (dt_at dtX2_findAll 52 rfl) (by decide) ?_
        exact K_pk [0, 1, 2, 3, 4, 5] rfl (ih (k + 1) hc5 (by omega) (by rw [show 10 * p + (k + 1) = 10 * p + k + 1 from rfl, gsL_f (by unfold gsB; rw [show seB S N (gsR f (10 * p + k)) = false by cases z9 : seB S N (gsR f (10 * p + k)); rfl; exact absurd z9 (by assumption)]; exact Bool.and_false _)]; exact GI_fr Gh (FS_tr Gh.1 F3) (n3.trans Gh.2.1.symm) a3))
    · refine K_goto (tgt := 99) (dt_at dtX2_findAll 19 rfl) (by decide) ?_
      refine K_iinc (ls' := [(5, vi ((k : Int) + 1)), (4, vi (p : Int)), (0, vr 100), (1, vr t), (2, vr 66), (3, vr 70)]) (dt_at dtX2_findAll 51 rfl) rfl (by decide) rfl ?_
      refine K_goto (tgt := 20) (dt_at dtX2_findAll 52 rfl) (by decide) ?_
      exact K_pk [0, 1, 2, 3, 4, 5] rfl (ih (k + 1) hh (by omega) (by rw [show 10 * p + (k + 1) = 10 * p + k + 1 from rfl, gsL_f (by unfold gsB; rw [show (10 * p + k) / 10 = p by omega, show (10 * p + k) % 10 = k by omega, decide_eq_false (by omega)]; rfl)]; exact Gh))
set_option maxHeartbeats 4000000 in
set_option maxRecDepth 100000 in
theorem lo_X2_findAll {Q : AO → HP → Prop} {h : HP} {t : Nat} {S : HS} {B : Int} {f : Int → Int} {N : SN} (u0 : GU h t S B f N) (hQ : ∀ h2, GI h h2 (gsL S N f (10 * sNp S)) → Q (.inl none) h2) : ∀ (d k : Nat) (hh : HP), k + d = sNp S → GI h hh (gsL S N f (10 * k)) → K mX2_findAll GK (ZK Q 0 0) 0 0 8 [(4, vi (k : Int)), (0, vr 100), (1, vr t), (2, vr 66), (3, vr 70)] [] hh := by
  intro d
  induction d with
  | zero =>
    intro k hh hk Gh
    have u := GU_FS u0 Gh.1
    have c := u.1
    have ht := c.1
    have hH := TTt ht
    have hB := c.2.2.2.1
    have hNt := hB.1
    have hNp := hB.2.1
    have hT := c.2.2.2.2.2.1
    have hC := c.2.2.2.2.2.2.1
    have h99 := c.2.2.2.2.2.2.2.1
    have G := c.2.2.2.2.2.2.2.2
    have hf0 := hT.2.2.2.1
    have ek : k = sNp S := by omega
    refine K_iload (dt_at dtX2_findAll 5 rfl) rfl ?_
    refine K_aload_n (dt_at dtX2_findAll 6 rfl) rfl rfl ?_
    refine K_get (a := t) (ci := 3) (k := 11) (v := vi (sNp S : Int)) (dt_at dtX2_findAll 7 rfl) hH rfl (by decide) wF_X2_64 (by show vi (hI hh t 11) = vi (sNp S : Int); rw [c.2.2.1.2.1.2]) ?_
    refine K_icmp_ge (tgt := 111) (dt_at dtX2_findAll 8 rfl) (by decide) (by first | assumption | exact ⟨by omega, by omega⟩) (by first | assumption | exact ⟨by omega, by omega⟩) (fun c1 => ?_) (fun c1 => absurd c1 (by omega))
    exact K_vret (dt_at dtX2_findAll 55 rfl) rfl (by decide) (by decide) (hQ hh (by rw [← ek]; exact Gh))
  | succ d ih =>
    intro k hh hk Gh
    have u := GU_FS u0 Gh.1
    have c := u.1
    have ht := c.1
    have hH := TTt ht
    have hB := c.2.2.2.1
    have hNt := hB.1
    have hNp := hB.2.1
    have hT := c.2.2.2.2.2.1
    have hC := c.2.2.2.2.2.2.1
    have h99 := c.2.2.2.2.2.2.2.1
    have G := c.2.2.2.2.2.2.2.2
    have hf0 := hT.2.2.2.1
    refine K_iload (dt_at dtX2_findAll 5 rfl) rfl ?_
    refine K_aload_n (dt_at dtX2_findAll 6 rfl) rfl rfl ?_
    refine K_get (a := t) (ci := 3) (k := 11) (v := vi (sNp S : Int)) (dt_at dtX2_findAll 7 rfl) hH rfl (by decide) wF_X2_64 (by show vi (hI hh t 11) = vi (sNp S : Int); rw [c.2.2.1.2.1.2]) ?_
    refine K_icmp_ge (tgt := 111) (dt_at dtX2_findAll 8 rfl) (by decide) (by first | assumption | exact ⟨by omega, by omega⟩) (by first | assumption | exact ⟨by omega, by omega⟩) (fun c1 => absurd c1 (by omega)) (fun c1 => ?_)
    refine K_iconst (dt_at dtX2_findAll 9 rfl) ?_
    refine K_istore (ls' := [(5, vi 0), (4, vi (k : Int)), (0, vr 100), (1, vr t), (2, vr 66), (3, vr 70)]) (dt_at dtX2_findAll 10 rfl) (by decide) rfl ?_
    refine K_pk [0, 1, 2, 3, 4, 5] rfl (li_X2_findAll u0 (p := k) (by omega) (fun h2 G2 => ?_) 10 0 hh (by omega) (by show GI h hh (gsL S N f (10 * k + 0)); exact Gh))
    refine K_iinc (ls' := [(4, vi ((k : Int) + 1)), (0, vr 100), (1, vr t), (2, vr 66), (3, vr 70)]) (dt_at dtX2_findAll 53 rfl) rfl (by decide) rfl ?_
    refine K_goto (tgt := 8) (dt_at dtX2_findAll 54 rfl) (by decide) ?_
    exact K_pk [0, 1, 2, 3, 4] rfl (ih (k + 1) h2 (by omega) (by rw [show 10 * (k + 1) = 10 * k + 10 from rfl]; exact G2))
theorem GI_0 {h g : HP} (F : FS h h) (e : g = sI h 100 4 0) : GI h g [] := by
  obtain ⟨a2, f2, i2, r2⟩ := sI_fx e
  obtain ⟨g1, g2, g3, g4, g5, g6, g7⟩ := F.2.2.2
  refine ⟨⟨fun a ha => by rw [i2], fun a k ha => f2 a k ?_, fun a k ha => by rw [r2], by unfold G32; rw [i2, r2]; exact F.2.2.2⟩, a2, fun j x hj => ?_⟩
  · by_cases z : a = 100
    · exact Or.inr (fun z2 => by rw [z, z2] at ha; cases ha)
    · exact Or.inl z
  · cases hj
set_option maxHeartbeats 4000000 in
set_option maxRecDepth 100000 in
theorem sX2_findAll {h : HP} {t : Nat} {S : HS} {B : Int} {f : Int → Int} {N : SN} (u : GU h t S B f N) : SpecK mX2_findAll [vr 100, vr t, vr 66, vr 70] h (fun o h' => o = .inl none ∧ GI h h' (gsL S N f (10 * sNp S))) := by
  refine Spec_of (by decide +kernel) (Nat.le_of_ble_eq_true rfl) ?_
  have c := u.1
  have ht := c.1
  have hH := TTt ht
  have hB := c.2.2.2.1
  have hNt := hB.1
  have hNp := hB.2.1
  have hT := c.2.2.2.2.2.1
  have hC := c.2.2.2.2.2.2.1
  have h99 := c.2.2.2.2.2.2.2.1
  have G := c.2.2.2.2.2.2.2.2
  have hf0 := hT.2.2.2.1
  refine K_aload_n (dt_at dtX2_findAll 0 rfl) rfl rfl ?_
  refine K_iconst (dt_at dtX2_findAll 1 rfl) ?_
  refine K_putI (a := 100) (ci := 2) (k := 4) (dt_at dtX2_findAll 2 rfl) (show TT 100 = (0, 2) from rfl) rfl (by decide) wF_X2_23 rfl (Or.inl rfl) rfl rfl ?_
  obtain ⟨hq1, eq1⟩ : ∃ z, z = sI h 100 4 0 := ⟨_, rfl⟩
  rw [← eq1]
  obtain ⟨iq1, fq1, aq1, rq1⟩ := sI_fx eq1
  refine K_iconst (dt_at dtX2_findAll 3 rfl) ?_
  refine K_istore (ls' := [(4, vi 0), (0, vr 100), (1, vr t), (2, vr 66), (3, vr 70)]) (dt_at dtX2_findAll 4 rfl) (by decide) rfl ?_
  exact K_pk [0, 1, 2, 3, 4] rfl (lo_X2_findAll u (fun h3 q_ => ⟨rfl, q_⟩) (sNp S) 0 hq1 (by omega) (GI_0 (FS_rf G) eq1))
def mX2_addIfUnlike : MI := (yX2_addIfUnlike, cX2_addIfUnlike, 4, none, rmK 1 0)
def tX2_addIfUnlike : List (Nat × Instr × Nat) := [(0, .iconst 0, 1), (1, .istore_n 3, 1), (2, .iload_n 3, 1), (3, .aload_n 0, 1), (4, .getfield 20, 3), (7, .iload_n 1, 1), (8, .iaload, 1), (9, .if_icmp .ge 22, 3), (12, .aload_n 0, 1), (13, .getfield 17, 3), (16, .iload_n 1, 1), (17, .aaload, 1), (18, .iload_n 3, 1), (19, .iaload, 1), (20, .iload_n 2, 1), (21, .if_icmp .ne 4, 3), (24, .return_, 1), (25, .iinc 3 1, 3), (28, .goto (-26), 3), (31, .aload_n 0, 1), (32, .getfield 17, 3), (35, .iload_n 1, 1), (36, .aaload, 1), (37, .aload_n 0, 1), (38, .getfield 20, 3), (41, .iload_n 1, 1), (42, .iaload, 1), (43, .iload_n 2, 1), (44, .iastore, 1), (45, .aload_n 0, 1), (46, .getfield 20, 3), (49, .iload_n 1, 1), (50, .dup2, 1), (51, .iaload, 1), (52, .iconst 1, 1), (53, .iadd, 1), (54, .iastore, 1), (55, .return_, 1)]
theorem dtX2_addIfUnlike : tX2_addIfUnlike.all (fun q => decide (decode cX2_addIfUnlike q.1 = .ok (q.2.1, q.2.2))) = true := by decide +kernel
theorem npX2_addIfUnlike : (parseMethodDescriptor (mY mX2_addIfUnlike).desc).map (fun d => d.parameters.length) = some 2 := by decide +kernel
theorem vX2_addIfUnlike : mV mX2_addIfUnlike := ⟨wI_X2_addIfUnlike, wS_X2_addIfUnlike, wN_X2, wC_X2_addIfUnlike, by decide +kernel, by decide +kernel⟩
set_option maxHeartbeats 4000000 in
set_option maxRecDepth 100000 in
theorem lp_X2_addIfUnlike {Q : AO → HP → Prop} {h : HP} {q : Nat} {L : List Int} {x : Int} (hq0 : q < 6) (hU : hA h 116 (q : Int) = (L.length : Int)) (hl : L.length < 70) (hE : laR h (109 + 1 + (q : Int).toNat) L) (h3 : ∀ y ∈ L, i32 y) (hx : i32 x) (hQ : ∀ h2, (hA h2 116 (q : Int) = ((adL L x).length : Int) ∧ laR h2 (110 + q) (adL L x)) ∧ (∀ a, a ≠ 116 → a ≠ 110 + q → hA h2 a = hA h a) ∧ (∀ i, i ≠ (q : Int) → hA h2 116 i = hA h 116 i) ∧ hI h2 = hI h ∧ hR h2 = hR h → Q (.inl none) h2) (kx : ¬ x ∈ L → K mX2_addIfUnlike GK (ZK Q 0 0) 0 0 31 [(0, vr 100), (1, vi (q : Int)), (2, vi x)] [] h) : ∀ (d k : Nat), k + d = L.length → ¬ x ∈ L.take k → K mX2_addIfUnlike GK (ZK Q 0 0) 0 0 2 [(3, vi (k : Int)), (0, vr 100), (1, vi (q : Int)), (2, vi x)] [] h := by
  intro d
  induction d with
  | zero =>
    intro k hk nk
    have ek : k = L.length := by omega
    rw [ek, List.take_length] at nk
    refine K_iload_n (dt_at dtX2_addIfUnlike 2 rfl) rfl rfl ?_
    refine K_aload_n (dt_at dtX2_addIfUnlike 3 rfl) rfl rfl ?_
    refine K_get (a := 100) (ci := 2) (k := 3) (v := vr 116) (dt_at dtX2_addIfUnlike 4 rfl) (show TT 100 = (0, 2) from rfl) rfl (by decide) wF_X2_20 rfl ?_
    refine K_iload_n (dt_at dtX2_addIfUnlike 5 rfl) rfl rfl ?_
    refine K_iald (dt_at dtX2_addIfUnlike 6 rfl) (show TT 116 = (1, 6) from rfl) (by omega) (by omega) ?_
    rw [hU]
    refine K_icmp_ge (tgt := 31) (dt_at dtX2_addIfUnlike 7 rfl) (by decide) (by first | assumption | exact ⟨by omega, by omega⟩) (by first | assumption | exact ⟨by omega, by omega⟩) (fun c1 => ?_) (fun c1 => absurd c1 (by omega))
    exact K_pk [1, 2, 3] rfl (kx nk)
  | succ d ih =>
    intro k hk nk
    obtain ⟨ek, hk1⟩ : ∃ y, L[k]? = some y := ⟨_, List.getElem?_eq_getElem (show k < L.length by omega)⟩
    have hk2 : ek ∈ L := List.mem_of_getElem? hk1
    have hk3 := hE k ek hk1
    have hk4 := h3 ek hk2
    refine K_iload_n (dt_at dtX2_addIfUnlike 2 rfl) rfl rfl ?_
    refine K_aload_n (dt_at dtX2_addIfUnlike 3 rfl) rfl rfl ?_
    refine K_get (a := 100) (ci := 2) (k := 3) (v := vr 116) (dt_at dtX2_addIfUnlike 4 rfl) (show TT 100 = (0, 2) from rfl) rfl (by decide) wF_X2_20 rfl ?_
    refine K_iload_n (dt_at dtX2_addIfUnlike 5 rfl) rfl rfl ?_
    refine K_iald (dt_at dtX2_addIfUnlike 6 rfl) (show TT 116 = (1, 6) from rfl) (by omega) (by omega) ?_
    rw [hU]
    refine K_icmp_ge (tgt := 31) (dt_at dtX2_addIfUnlike 7 rfl) (by decide) (by first | assumption | exact ⟨by omega, by omega⟩) (by first | assumption | exact ⟨by omega, by omega⟩) (fun c1 => absurd c1 (by omega)) (fun c1 => ?_)
    refine K_aload_n (dt_at dtX2_addIfUnlike 8 rfl) rfl rfl ?_
    refine K_get (a := 100) (ci := 2) (k := 2) (v := vr 109) (dt_at dtX2_addIfUnlike 9 rfl) (show TT 100 = (0, 2) from rfl) rfl (by decide) wF_X2_17 rfl ?_
    refine K_iload_n (dt_at dtX2_addIfUnlike 10 rfl) rfl rfl ?_
    refine K_aald (dt_at dtX2_addIfUnlike 11 rfl) (show TT 109 = (5, 6) from rfl) (by omega) (by omega) ?_
    refine K_iload_n (dt_at dtX2_addIfUnlike 12 rfl) rfl rfl ?_
    refine K_iald (dt_at dtX2_addIfUnlike 13 rfl) (grid_6 (show TT 109 = (5, 6) from rfl) (by omega) (by omega)) (by omega) (by omega) ?_
    rw [hk3]
    refine K_iload_n (dt_at dtX2_addIfUnlike 14 rfl) rfl rfl ?_
    refine K_icmp_ne (tgt := 25) (dt_at dtX2_addIfUnlike 15 rfl) (by decide) (by first | assumption | exact ⟨by omega, by omega⟩) (by first | assumption | exact ⟨by omega, by omega⟩) (fun c2 => ?_) (fun c2 => ?_)
    · refine K_iinc (ls' := [(3, vi ((k : Int) + 1)), (0, vr 100), (1, vi (q : Int)), (2, vi x)]) (dt_at dtX2_addIfUnlike 17 rfl) rfl (by decide) rfl ?_
      refine K_goto (tgt := 2) (dt_at dtX2_addIfUnlike 18 rfl) (by decide) ?_
      exact K_pk [0, 1, 2, 3] rfl (ih (k + 1) (by omega) (by rw [List.take_succ, hk1]; intro z; rcases List.mem_append.mp z with z | z; exact nk z; exact absurd (List.mem_singleton.mp z).symm (by assumption)))
    · exact K_vret (dt_at dtX2_addIfUnlike 16 rfl) rfl (by decide) (by decide) (hQ h (by rw [show adL L x = L from if_pos (by rw [← show ek = x by assumption]; exact hk2)]; exact ⟨⟨hU, by rw [show 110 + q = (109 + 1 + (q : Int).toNat) by omega]; exact hE⟩, fun _ _ _ => rfl, fun _ _ => rfl, rfl, rfl⟩))
set_option maxHeartbeats 4000000 in
set_option maxRecDepth 100000 in
theorem sX2_addIfUnlike {h : HP} {q : Nat} {L : List Int} {x : Int} (hq0 : q < 6) (hU : hA h 116 (q : Int) = (L.length : Int)) (hl : L.length < 70) (hE : laR h (109 + 1 + (q : Int).toNat) L) (h3 : ∀ y ∈ L, i32 y) (hx : i32 x) : SpecK mX2_addIfUnlike [vr 100, vi (q : Int), vi x] h (fun o h' => o = .inl none ∧ (hA h' 116 (q : Int) = ((adL L x).length : Int) ∧ laR h' (110 + q) (adL L x)) ∧ (∀ a, a ≠ 116 → a ≠ 110 + q → hA h' a = hA h a) ∧ (∀ i, i ≠ (q : Int) → hA h' 116 i = hA h 116 i) ∧ hI h' = hI h ∧ hR h' = hR h) := by
  refine Spec_of (by decide +kernel) (Nat.le_of_ble_eq_true rfl) ?_
  refine K_iconst (dt_at dtX2_addIfUnlike 0 rfl) ?_
  refine K_istore_n (ls' := [(3, vi 0), (0, vr 100), (1, vi (q : Int)), (2, vi x)]) (dt_at dtX2_addIfUnlike 1 rfl) rfl (by decide) rfl ?_
  refine K_pk [0, 1, 2, 3] rfl (lp_X2_addIfUnlike hq0 hU hl hE h3 hx (fun h2 q_ => ⟨rfl, q_⟩) (fun nx => ?_) L.length 0 (by omega) (by rw [List.take_zero]; exact List.not_mem_nil))
  refine K_aload_n (dt_at dtX2_addIfUnlike 19 rfl) rfl rfl ?_
  refine K_get (a := 100) (ci := 2) (k := 2) (v := vr 109) (dt_at dtX2_addIfUnlike 20 rfl) (show TT 100 = (0, 2) from rfl) rfl (by decide) wF_X2_17 rfl ?_
  refine K_iload_n (dt_at dtX2_addIfUnlike 21 rfl) rfl rfl ?_
  refine K_aald (dt_at dtX2_addIfUnlike 22 rfl) (show TT 109 = (5, 6) from rfl) (by omega) (by omega) ?_
  refine K_aload_n (dt_at dtX2_addIfUnlike 23 rfl) rfl rfl ?_
  refine K_get (a := 100) (ci := 2) (k := 3) (v := vr 116) (dt_at dtX2_addIfUnlike 24 rfl) (show TT 100 = (0, 2) from rfl) rfl (by decide) wF_X2_20 rfl ?_
  refine K_iload_n (dt_at dtX2_addIfUnlike 25 rfl) rfl rfl ?_
  refine K_iald (dt_at dtX2_addIfUnlike 26 rfl) (show TT 116 = (1, 6) from rfl) (by omega) (by omega) ?_
  rw [hU]
  refine K_iload_n (dt_at dtX2_addIfUnlike 27 rfl) rfl rfl ?_
  refine K_iast (dt_at dtX2_addIfUnlike 28 rfl) (grid_6 (show TT 109 = (5, 6) from rfl) (by omega) (by omega)) (by omega) (by omega) ?_
  obtain ⟨hq1, eq1⟩ : ∃ z, z = sA h (109 + 1 + (q : Int).toNat) (L.length : Int) x := ⟨_, rfl⟩
  rw [← eq1]
  obtain ⟨aq1, fq1, iq1, rq1⟩ := sA_fx eq1
  refine K_aload_n (dt_at dtX2_addIfUnlike 29 rfl) rfl rfl ?_
  refine K_get (a := 100) (ci := 2) (k := 3) (v := vr 116) (dt_at dtX2_addIfUnlike 30 rfl) (show TT 100 = (0, 2) from rfl) rfl (by decide) wF_X2_20 rfl ?_
  refine K_iload_n (dt_at dtX2_addIfUnlike 31 rfl) rfl rfl ?_
  refine K_dup2 (dt_at dtX2_addIfUnlike 32 rfl) rfl rfl ?_
  refine K_iald (dt_at dtX2_addIfUnlike 33 rfl) (show TT 116 = (1, 6) from rfl) (by omega) (by omega) ?_
  rw [(fq1 116 (by omega))]
  refine K_iconst (dt_at dtX2_addIfUnlike 34 rfl) ?_
  refine K_iadd (dt_at dtX2_addIfUnlike 35 rfl) ?_
  refine K_iast (dt_at dtX2_addIfUnlike 36 rfl) (show TT 116 = (1, 6) from rfl) (by omega) (by omega) ?_
  obtain ⟨hq2, eq2⟩ : ∃ z, z = sA hq1 116 (q : Int) ((hA h 116 (q : Int)) + 1) := ⟨_, rfl⟩
  rw [← eq2]
  obtain ⟨aq2, fq2, iq2, rq2⟩ := sA_fx eq2
  rw [(fq1 116 (by omega))] at aq2
  refine K_vret (dt_at dtX2_addIfUnlike 37 rfl) rfl (by decide) (by decide) ⟨rfl, ⟨by rw [aq2, upI_s, hU, show adL L x = L ++ [x] from if_neg nx, List.length_append]; rfl, laR_add (h := h) (by rw [show 110 + q = (109 + 1 + (q : Int).toNat) by omega]; exact hE) nx (by rw [fq2 _ (by omega), show 110 + q = (109 + 1 + (q : Int).toNat) by omega]; exact aq1)⟩, fun a h1 h2 => by rw [fq2 a h1, fq1 a (by omega)], fun i hi => by rw [aq2, upI_n hi], by rw [iq2, iq1], by rw [rq2, rq1]⟩
