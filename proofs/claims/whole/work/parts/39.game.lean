/-! a game of two packers -/
def crF (f : Int → Int) (q : Int) (k : Nat) : Int → Int := fun i => if 15 ≤ i ∧ i < 15 + (k : Int) ∧ f (i + 7) = q then 0 else f i
theorem crF_0 (f : Int → Int) (q : Int) : crF f q 0 = f := by
  funext i
  exact if_neg (by omega)
theorem crF_at (f : Int → Int) (q : Int) {k : Nat} (hk : k ≤ 7) : crF f q k (22 + (k : Int)) = f (22 + (k : Int)) := if_neg (by omega)
theorem crF_t {f : Int → Int} {q : Int} {k : Nat} (h : f (22 + (k : Int)) = q) : upI (crF f q k) (15 + (k : Int)) 0 = crF f q (k + 1) := by
  funext i
  unfold upI crF
  by_cases e : i = 15 + (k : Int)
  · subst e
    rw [if_pos rfl, if_pos ⟨by omega, by omega, by rw [show (15 + (k : Int) + 7) = 22 + (k : Int) by omega]; exact h⟩]
  · rw [if_neg e]
    by_cases e2 : 15 ≤ i ∧ i < 15 + (k : Int) ∧ f (i + 7) = q
    · rw [if_pos e2, if_pos ⟨e2.1, by omega, e2.2.2⟩]
    · rw [if_neg e2, if_neg (fun z => e2 ⟨z.1, by omega, z.2.2⟩)]
theorem crF_f {f : Int → Int} {q : Int} {k : Nat} (h : f (22 + (k : Int)) ≠ q) : crF f q k = crF f q (k + 1) := by
  funext i
  unfold crF
  by_cases e2 : 15 ≤ i ∧ i < 15 + (k : Int) ∧ f (i + 7) = q
  · rw [if_pos e2, if_pos ⟨e2.1, by omega, e2.2.2⟩]
  · rw [if_neg e2, if_neg (fun z => e2 ⟨z.1, (by
      have h1 := z.1
      have h2 := z.2.1
      by_cases e3 : i = 15 + (k : Int)
      · exact absurd (by have := z.2.2; rw [e3, show (15 + (k : Int) + 7) = 22 + (k : Int) by omega] at this; exact this) h
      · omega), z.2.2⟩)]
theorem crF_ok {S : HS} {B : Int} {f : Int → Int} {q : Int} {n : Nat} (h : rT B f) (hC : rC S f) (hn : n ≤ 7) (hS : sNp S ≤ 7) : rT B (crF f q n) ∧ rC S (crF f q n) ∧ crF f q n 0 = f 0 := by
  obtain ⟨g1, g2, g3, g4, g5, g6⟩ := h
  have hi : ∀ j, 22 ≤ j → crF f q n j = f j := fun j hj => if_neg (by omega)
  have lo : ∀ j, j < 15 → crF f q n j = f j := fun j hj => if_neg (by omega)
  refine ⟨⟨⟨fun i a b => ?_, fun p a b => ?_⟩, fun j a b => by rw [hi j (by omega)]; exact g2 j a b, fun t a b => ?_, by rw [lo 0 (by omega)]; exact g4, by rw [lo 0 (by omega)]; exact g5, g6⟩, fun p a b => by rw [lo (8 + p) (by omega)]; exact hC p a b, lo 0 (by omega)⟩
  · have w := g1.1 i a b
    unfold crF
    by_cases e : 15 ≤ i ∧ i < 15 + (n : Int) ∧ f (i + 7) = q
    · rw [if_pos e]; constructor <;> omega
    · rw [if_neg e]; exact w
  · have w := g1.2 p a b
    rw [lo (1 + p) (by omega), lo (8 + p) (by omega), hi (22 + p) (by omega)]
    refine ⟨w.1, w.2.1, ?_, w.2.2.2⟩
    unfold crF
    by_cases e : 15 ≤ 15 + p ∧ 15 + p < 15 + (n : Int) ∧ f (15 + p + 7) = q
    · rw [if_pos e]; constructor <;> omega
    · rw [if_neg e]; exact w.2.2.1
  · rw [hi (29 + t) (by omega), hi (35 + t) (by omega), hi (41 + t) (by omega), hi (47 + t) (by omega), hi (53 + t) (by omega), hi (59 + t) (by omega), hi (65 + t) (by omega), hi (71 + t) (by omega)]
    exact g3 t a b
def crX (f : Int → Int) (q : Int) (n : Nat) (x : Nat) : Int → Int := if x = 1 then crF f q n else f
theorem crX_ok {S : HS} {B : Int} {f : Int → Int} {q : Int} {n x : Nat} (h : rT B f) (hC : rC S f) (hn : n ≤ 7) (hS : sNp S ≤ 7) : rT B (crX f q n x) ∧ rC S (crX f q n x) ∧ crX f q n x 0 = f 0 := by
  unfold crX
  by_cases e : x = 1
  · rw [if_pos e]; exact crF_ok h hC hn hS
  · rw [if_neg e]; exact ⟨h, hC, rfl⟩
def guF (S : HS) (g : Int → Int) (q : Int) (n : Nat) : Int := itN (fun k v => if g (22 + (k : Int)) = q then v + sumF (sU S) g (k : Int) (sNt S) else v) 0 n
def gnF (S : HS) (g : Int → Int) (q : Int) (x : Nat) : Int := (guF S g q (sNp S)).tdiv 3 + (if x = 1 then 4 else 0)
theorem guF_b {S : HS} {B : Int} {g : Int → Int} {q : Int} (hB : hsW S) (hT : rT B g) : ∀ n : Nat, n ≤ 7 → 0 ≤ guF S g q n ∧ guF S g q n ≤ 120000000 * (n : Int)
  | 0, _ => ⟨Int.le_refl 0, by show (0 : Int) ≤ 120000000 * ((0 : Nat) : Int); omega⟩
  | n + 1, hn => by
    obtain ⟨a, b⟩ := guF_b (q := q) hB hT n (by omega)
    have s := sumF_rT (us := sU S) (p := (n : Int)) (n := sNt S) hT ⟨by omega, by omega⟩ hB.1 (fun i a b => by have := (hB.2.2.1 i a b).2; constructor <;> omega)
    show 0 ≤ (if g (22 + (n : Int)) = q then guF S g q n + sumF (sU S) g (n : Int) (sNt S) else guF S g q n) ∧ (if g (22 + (n : Int)) = q then guF S g q n + sumF (sU S) g (n : Int) (sNt S) else guF S g q n) ≤ _
    by_cases e : g (22 + (n : Int)) = q
    · rw [if_pos e]; constructor <;> omega
    · rw [if_neg e]; constructor <;> omega
theorem gnF_b {S : HS} {B : Int} {g : Int → Int} {q : Int} {x : Nat} (hB : hsW S) (hT : rT B g) : 0 ≤ gnF S g q x ∧ gnF S g q x ≤ 1000000000 := by
  obtain ⟨a, b⟩ := guF_b (q := q) hB hT (sNp S) hB.2.1
  have h7 := hB.2.1
  unfold gnF
  rw [Int.tdiv_eq_ediv_of_nonneg a]
  by_cases e : x = 1
  · rw [if_pos e]; omega
  · rw [if_neg e]; omega
theorem guF_t {S : HS} {g : Int → Int} {q : Int} {k : Nat} (h : g (22 + (k : Int)) = q) : guF S g q (k + 1) = guF S g q k + sumF (sU S) g (k : Int) (sNt S) := if_pos h
theorem guF_f {S : HS} {g : Int → Int} {q : Int} {k : Nat} (h : ¬ g (22 + (k : Int)) = q) : guF S g q (k + 1) = guF S g q k := if_neg h
theorem td2 (x : Nat) : (x : Int).tdiv 2 = ((x / 2 : Nat) : Int) := by
  rw [Int.tdiv_eq_ediv_of_nonneg (by omega)]; omega
theorem tm2 (x : Nat) : (x : Int).tmod 2 = ((x % 2 : Nat) : Int) := by
  rw [Int.tmod_eq_emod_of_nonneg (by omega)]; omega
def gmR (S : HS) (f : Int → Int) (p q : Int) (k : Nat) : Int → Int := dysF S (crX (crX f p (sNp S) (k / 2)) q (sNp S) (k % 2)) 5
def gm1 (S : HS) (f : Int → Int) (p q : Int) (k : Nat) : Int := gnF S (gmR S f p q k) p (k / 2)
def gm2 (S : HS) (f : Int → Int) (p q : Int) (k : Nat) : Int := gnF S (gmR S f p q k) q (k % 2)
def rsB (U V : Nat → Int) (k : Nat) : Bool := decide (U (k ^^^ 2) ≤ U k) && decide (V (k ^^^ 1) ≤ V k)
theorem bx2 : ∀ k : Nat, k < 4 → (bXor (k : Int) 2 = ((k ^^^ 2 : Nat) : Int) ∧ k ^^^ 2 < 4) ∧ (bXor (k : Int) 1 = ((k ^^^ 1 : Nat) : Int) ∧ k ^^^ 1 < 4) := by decide +kernel
theorem FS_gm {h g g' : HP} {a : Nat} {i x : Int} (F : FS h g) (ha : a = 118 ∨ a = 119) (e : g' = sA g a i x) : FS h g' := by
  obtain ⟨a1, f1, i1, r1⟩ := sA_fx e
  obtain ⟨g1, g2, g3, g4, g5, g6, g7⟩ := F.2.2.2
  have sc : scA a = true := by rcases ha with rfl | rfl <;> rfl
  refine ⟨fun b hb2 => ?_, fun b k hb2 => by rw [i1]; exact F.2.1 b k hb2, fun b k hb2 => by rw [r1]; exact F.2.2.1 b k hb2, ?_⟩
  · rw [f1 b (fun z => by rw [z, sc] at hb2; cases hb2)]; exact F.1 b hb2
  · exact ⟨by rw [f1 44 (by omega)]; exact g1, by rw [f1 47 (by omega)]; exact g2, by rw [f1 59 (by omega)]; exact g3, by rw [f1 62 (by omega)]; exact g4, by rw [f1 87 (by omega)]; exact g5, by rw [f1 104 (by omega)]; exact g6, by rw [r1]; exact g7⟩
def mX1_beCross : MI := (yX1_beCross, cX1_beCross, 5, none, rmK 3 0)
def tX1_beCross : List (Nat × Instr × Nat) := [(0, .iconst 0, 1), (1, .istore 4, 2), (3, .iload_n 3, 1), (4, .iconst 1, 1), (5, .if_icmp .ne 35, 3), (8, .iload 4, 2), (10, .aload_n 0, 1), (11, .getfield 40, 3), (14, .if_icmp .ge 26, 3), (17, .aload_n 1, 1), (18, .iload 4, 2), (20, .invokevirtual 46, 3), (23, .iload_n 2, 1), (24, .if_icmp .ne 10, 3), (27, .aload_n 1, 1), (28, .iload 4, 2), (30, .iconst 0, 1), (31, .invokevirtual 52, 3), (34, .iinc 4 1, 3), (37, .goto (-34), 3), (40, .return_, 1)]
theorem dtX1_beCross : tX1_beCross.all (fun q => decide (decode cX1_beCross q.1 = .ok (q.2.1, q.2.2))) = true := by decide +kernel
theorem npX1_beCross : (parseMethodDescriptor (mY mX1_beCross).desc).map (fun d => d.parameters.length) = some 4 := by decide +kernel
theorem vX1_beCross : mS mX1_beCross := ⟨wT_X1_beCross, wN_X1, wC_X1_beCross, by decide +kernel, by decide +kernel⟩
set_option maxHeartbeats 4000000 in
set_option maxRecDepth 100000 in
theorem lp_X1_beCross {Q : AO → HP → Prop} {h : HP} {t a n : Nat} {q : Int} (hH : TT t = (0, 3)) (hT8 : TT a = (0, 8)) (hW : rW (hA h (a + 1))) (hnp : hI h t 11 = (n : Int)) (hn : n ≤ 7) (hq0 : i32 q) (hQ : Q (.inl none) (sF h (a + 1) (crF (hA h (a + 1)) q n))) : ∀ (d k : Nat), k + d = n → K mX1_beCross GK (ZK Q 0 0) 0 0 3 [(4, vi (k : Int)), (0, vr t), (1, vr a), (2, vi q), (3, vi 1)] [] (sF h (a + 1) (crF (hA h (a + 1)) q k)) := by
  intro d
  induction d with
  | zero =>
    intro k hk
    have ek : n = k := by omega
    subst ek
    refine K_iload_n (dt_at dtX1_beCross 2 rfl) rfl rfl ?_
    refine K_iconst (dt_at dtX1_beCross 3 rfl) ?_
    refine K_icmp_ne (tgt := 40) (dt_at dtX1_beCross 4 rfl) (by decide) (by first | assumption | exact ⟨by omega, by omega⟩) (by first | assumption | exact ⟨by omega, by omega⟩) (fun c1 => absurd c1 (by omega)) (fun c1 => ?_)
    refine K_iload (dt_at dtX1_beCross 5 rfl) rfl ?_
    refine K_aload_n (dt_at dtX1_beCross 6 rfl) rfl rfl ?_
    refine K_get (a := t) (ci := 3) (k := 11) (v := vi (n : Int)) (dt_at dtX1_beCross 7 rfl) hH rfl (by decide) wF_X1_40 (by show vi (hI h t 11) = _; rw [hnp]) ?_
    refine K_icmp_ge (tgt := 40) (dt_at dtX1_beCross 8 rfl) (by decide) (by first | assumption | exact ⟨by omega, by omega⟩) (by first | assumption | exact ⟨by omega, by omega⟩) (fun c2 => ?_) (fun c2 => absurd c2 (by omega))
    exact K_vret (dt_at dtX1_beCross 20 rfl) rfl (by decide) (by decide) hQ
  | succ d ih =>
    intro k hk
    have w1 := (hW.2 k (by omega) (by omega)).2.2.2
    refine K_iload_n (dt_at dtX1_beCross 2 rfl) rfl rfl ?_
    refine K_iconst (dt_at dtX1_beCross 3 rfl) ?_
    refine K_icmp_ne (tgt := 40) (dt_at dtX1_beCross 4 rfl) (by decide) (by first | assumption | exact ⟨by omega, by omega⟩) (by first | assumption | exact ⟨by omega, by omega⟩) (fun c1 => absurd c1 (by omega)) (fun c1 => ?_)
    refine K_iload (dt_at dtX1_beCross 5 rfl) rfl ?_
    refine K_aload_n (dt_at dtX1_beCross 6 rfl) rfl rfl ?_
    refine K_get (a := t) (ci := 3) (k := 11) (v := vi (n : Int)) (dt_at dtX1_beCross 7 rfl) hH rfl (by decide) wF_X1_40 (by show vi (hI h t 11) = _; rw [hnp]) ?_
    refine K_icmp_ge (tgt := 40) (dt_at dtX1_beCross 8 rfl) (by decide) (by first | assumption | exact ⟨by omega, by omega⟩) (by first | assumption | exact ⟨by omega, by omega⟩) (fun c2 => absurd c2 (by omega)) (fun c2 => ?_)
    refine K_aload_n (dt_at dtX1_beCross 9 rfl) rfl rfl ?_
    refine K_iload (dt_at dtX1_beCross 10 rfl) rfl ?_
    refine K_callV (M' := mX8_packerOf) (a := a) (ci := 8) (As := [vi (k : Int)]) (st := []) (dt_at dtX1_beCross 11 rfl) (sX8_packerOf hT8 ⟨by omega, by omega⟩) hT8 rfl wL_X1_46 vX8_packerOf rfl npX8_packerOf (by decide) (by decide) (Nat.le_of_ble_eq_true rfl) (by decide) (by decide) GK_E (fun v9 h9 hq => ?_) (fun E h9 hq => by cases hq.1)
    obtain ⟨e9, e8⟩ := hq
    cases e9
    rw [e8]
    show K mX1_beCross _ _ 0 0 23 [(4, vi (k : Int)), (0, vr t), (1, vr a), (2, vi q), (3, vi 1)] [vi (hA (sF h (a + 1) (crF (hA h (a + 1)) q k)) (a + 1) (22 + (k : Int)))] (sF h (a + 1) (crF (hA h (a + 1)) q k))
    rw [hA_F, crF_at _ _ (by omega)]
    refine K_iload_n (dt_at dtX1_beCross 12 rfl) rfl rfl ?_
    refine K_icmp_ne (tgt := 34) (dt_at dtX1_beCross 13 rfl) (by decide) (by first | assumption | exact ⟨by omega, by omega⟩) (by first | assumption | exact ⟨by omega, by omega⟩) (fun c3 => ?_) (fun c3 => ?_)
    · refine K_iinc (ls' := [(4, vi ((k : Int) + 1)), (0, vr t), (1, vr a), (2, vi q), (3, vi 1)]) (dt_at dtX1_beCross 18 rfl) rfl (by decide) rfl ?_
      refine K_goto (tgt := 3) (dt_at dtX1_beCross 19 rfl) (by decide) ?_
      refine K_pk [0, 1, 2, 3, 4] (ls' := [(4, vi ((k : Int) + 1)), (0, vr t), (1, vr a), (2, vi q), (3, vi 1)]) rfl ?_
      exact K_cg (ls' := [(4, vi ((k + 1 : Nat) : Int)), (0, vr t), (1, vr a), (2, vi q), (3, vi 1)]) (h' := (sF h (a + 1) (crF (hA h (a + 1)) q (k + 1)))) (by rfl) (by rw [← crF_f (by assumption)]) (ih (k + 1) (by omega))
    · refine K_aload_n (dt_at dtX1_beCross 14 rfl) rfl rfl ?_
      refine K_iload (dt_at dtX1_beCross 15 rfl) rfl ?_
      refine K_iconst (dt_at dtX1_beCross 16 rfl) ?_
      refine K_callV (M' := mX8_setFond) (a := a) (ci := 8) (As := [vi (k : Int), vi 0]) (st := []) (dt_at dtX1_beCross 17 rfl) (sX8_setFond hT8 ⟨by omega, by omega⟩ ⟨by decide, by decide⟩) hT8 rfl wL_X1_52 vX8_setFond rfl npX8_setFond (by decide) (by decide) (Nat.le_of_ble_eq_true rfl) (by decide) (by decide) GK_E (fun v9 h9 hq => ?_) (fun E h9 hq => by cases hq.1)
      obtain ⟨e9, e8⟩ := hq
      cases e9
      rw [e8]
      show K mX1_beCross _ _ 0 0 34 [(4, vi (k : Int)), (0, vr t), (1, vr a), (2, vi q), (3, vi 1)] [] (sA (sF h (a + 1) (crF (hA h (a + 1)) q k)) (a + 1) (15 + (k : Int)) (max 0 (min 9 0)))
      refine K_iinc (ls' := [(4, vi ((k : Int) + 1)), (0, vr t), (1, vr a), (2, vi q), (3, vi 1)]) (dt_at dtX1_beCross 18 rfl) rfl (by decide) rfl ?_
      refine K_goto (tgt := 3) (dt_at dtX1_beCross 19 rfl) (by decide) ?_
      refine K_pk [0, 1, 2, 3, 4] (ls' := [(4, vi ((k : Int) + 1)), (0, vr t), (1, vr a), (2, vi q), (3, vi 1)]) rfl ?_
      exact K_cg (ls' := [(4, vi ((k + 1 : Nat) : Int)), (0, vr t), (1, vr a), (2, vi q), (3, vi 1)]) (h' := (sF h (a + 1) (crF (hA h (a + 1)) q (k + 1)))) (by rfl) (by rw [show max 0 (min 9 0) = (0 : Int) from rfl, sA_F, hA_F, sF_F, crF_t (by assumption)]) (ih (k + 1) (by omega))
set_option maxHeartbeats 4000000 in
set_option maxRecDepth 100000 in
theorem sX1_beCross_1 {h : HP} {t a n : Nat} {q : Int} (hH : TT t = (0, 3)) (hT8 : TT a = (0, 8)) (hW : rW (hA h (a + 1))) (hnp : hI h t 11 = (n : Int)) (hn : n ≤ 7) (hq0 : i32 q) : SpecK mX1_beCross [vr t, vr a, vi q, vi 1] h (fun o h' => o = .inl (none) ∧ h' = (sF h (a + 1) (crF (hA h (a + 1)) q n))) := by
  refine Spec_of (by decide +kernel) (Nat.le_of_ble_eq_true rfl) ?_
  refine K_iconst (dt_at dtX1_beCross 0 rfl) ?_
  refine K_istore (ls' := [(4, vi 0), (0, vr t), (1, vr a), (2, vi q), (3, vi 1)]) (dt_at dtX1_beCross 1 rfl) (by decide) rfl ?_
  exact K_pk [0, 1, 2, 3, 4] (ls' := [(4, vi ((0 : Nat) : Int)), (0, vr t), (1, vr a), (2, vi q), (3, vi 1)]) rfl (K_cg (h' := (sF h (a + 1) (crF (hA h (a + 1)) q 0))) rfl (by rw [crF_0, sF_self]) (lp_X1_beCross hH hT8 hW hnp hn hq0 ⟨rfl, rfl⟩ n 0 (by omega)))
set_option maxHeartbeats 4000000 in
set_option maxRecDepth 100000 in
theorem sX1_beCross_0 {h : HP} {t a n : Nat} {q : Int}  : SpecK mX1_beCross [vr t, vr a, vi q, vi 0] h (fun o h' => o = .inl (none) ∧ h' = h) := by
  refine Spec_of (by decide +kernel) (Nat.le_of_ble_eq_true rfl) ?_
  refine K_iconst (dt_at dtX1_beCross 0 rfl) ?_
  refine K_istore (ls' := [(4, vi 0), (0, vr t), (1, vr a), (2, vi q), (3, vi 0)]) (dt_at dtX1_beCross 1 rfl) (by decide) rfl ?_
  refine K_iload_n (dt_at dtX1_beCross 2 rfl) rfl rfl ?_
  refine K_iconst (dt_at dtX1_beCross 3 rfl) ?_
  refine K_icmp_ne (tgt := 40) (dt_at dtX1_beCross 4 rfl) (by decide) (by first | assumption | exact ⟨by omega, by omega⟩) (by first | assumption | exact ⟨by omega, by omega⟩) (fun c1 => ?_) (fun c1 => absurd c1 (by omega))
  exact K_vret (dt_at dtX1_beCross 20 rfl) rfl (by decide) (by decide) ⟨rfl, rfl⟩
theorem sX1_beCross {h : HP} {t a n : Nat} {q : Int} (hH : TT t = (0, 3)) (hT8 : TT a = (0, 8)) (hW : rW (hA h (a + 1))) (hnp : hI h t 11 = (n : Int)) (hn : n ≤ 7) (hq0 : i32 q) {x : Nat} (hx : x = 0 ∨ x = 1) : SpecK mX1_beCross [vr t, vr a, vi q, vi (x : Int)] h (fun o h' => o = .inl none ∧ h' = sF h (a + 1) (crX (hA h (a + 1)) q n x)) := by
  rcases hx with rfl | rfl
  · have e : sF h (a + 1) (crX (hA h (a + 1)) q n 0) = h := by
      rw [show crX (hA h (a + 1)) q n 0 = hA h (a + 1) from if_neg (by decide), sF_self]
    rw [e]
    exact sX1_beCross_0 (n := n)
  · rw [show crX (hA h (a + 1)) q n 1 = crF (hA h (a + 1)) q n from if_pos rfl]
    exact sX1_beCross_1 hH hT8 hW hnp hn hq0
def mX1_gain : MI := (yX1_gain, cX1_gain, 6, (some .int), rmK 3 0)
def tX1_gain : List (Nat × Instr × Nat) := [(0, .iconst 0, 1), (1, .istore 4, 2), (3, .iconst 0, 1), (4, .istore 5, 2), (6, .iload 5, 2), (8, .aload_n 0, 1), (9, .getfield 40, 3), (12, .if_icmp .ge 31, 3), (15, .aload_n 1, 1), (16, .iload 5, 2), (18, .invokevirtual 46, 3), (21, .iload_n 2, 1), (22, .if_icmp .ne 15, 3), (25, .iload 4, 2), (27, .aload_n 0, 1), (28, .aload_n 1, 1), (29, .iload 5, 2), (31, .invokevirtual 56, 3), (34, .iadd, 1), (35, .istore 4, 2), (37, .iinc 5 1, 3), (40, .goto (-34), 3), (43, .iload 4, 2), (45, .iconst 3, 1), (46, .idiv, 1), (47, .iload_n 3, 1), (48, .iconst 1, 1), (49, .if_icmp .ne 7, 3), (52, .iconst 4, 1), (53, .goto 4, 3), (56, .iconst 0, 1), (57, .iadd, 1), (58, .ireturn, 1)]
theorem dtX1_gain : tX1_gain.all (fun q => decide (decode cX1_gain q.1 = .ok (q.2.1, q.2.2))) = true := by decide +kernel
theorem npX1_gain : (parseMethodDescriptor (mY mX1_gain).desc).map (fun d => d.parameters.length) = some 4 := by decide +kernel
theorem vX1_gain : mS mX1_gain := ⟨wT_X1_gain, wN_X1, wC_X1_gain, by decide +kernel, by decide +kernel⟩
set_option maxHeartbeats 4000000 in
set_option maxRecDepth 100000 in
theorem lp_X1_gain {Z : CT → State → Prop} {h : HP} {t a : Nat} {S : HS} {B : Int} {g : Int → Int} {q : Int} {x : Int} (hH : TT t = (0, 3)) (hT8 : TT a = (0, 8)) (hS : cHS h t S) (hB : hsW S) (hg : hA h (a + 1) = g) (hTg : rT B g) (hq0 : i32 q) (kx : K mX1_gain GK Z 0 0 43 [(5, vi (sNp S : Int)), (4, vi (guF S g q (sNp S))), (0, vr t), (1, vr a), (2, vi q), (3, vi x)] [] h) : ∀ (d k : Nat), k + d = sNp S → K mX1_gain GK Z 0 0 6 [(5, vi (k : Int)), (4, vi (guF S g q k)), (0, vr t), (1, vr a), (2, vi q), (3, vi x)] [] h := by
  intro d
  induction d with
  | zero =>
    intro k hk
    have hNt := hB.1
    have hNp := hB.2.1
    have ek : k = sNp S := by omega
    subst ek
    refine K_iload (dt_at dtX1_gain 4 rfl) rfl ?_
    refine K_aload_n (dt_at dtX1_gain 5 rfl) rfl rfl ?_
    refine K_get (a := t) (ci := 3) (k := 11) (v := vi (sNp S : Int)) (dt_at dtX1_gain 6 rfl) hH rfl (by decide) wF_X1_40 (by show vi (hI h t 11) = vi (sNp S : Int); rw [hS.2.1.2]) ?_
    refine K_icmp_ge (tgt := 43) (dt_at dtX1_gain 7 rfl) (by decide) (by first | assumption | exact ⟨by omega, by omega⟩) (by first | assumption | exact ⟨by omega, by omega⟩) (fun c1 => ?_) (fun c1 => absurd c1 (by omega))
    exact K_pk [0, 1, 2, 3, 4, 5] rfl kx
  | succ d ih =>
    intro k hk
    have hNt := hB.1
    have hNp := hB.2.1
    have w1 := (hTg.1.2 k (by omega) (by omega)).2.2.2
    refine K_iload (dt_at dtX1_gain 4 rfl) rfl ?_
    refine K_aload_n (dt_at dtX1_gain 5 rfl) rfl rfl ?_
    refine K_get (a := t) (ci := 3) (k := 11) (v := vi (sNp S : Int)) (dt_at dtX1_gain 6 rfl) hH rfl (by decide) wF_X1_40 (by show vi (hI h t 11) = vi (sNp S : Int); rw [hS.2.1.2]) ?_
    refine K_icmp_ge (tgt := 43) (dt_at dtX1_gain 7 rfl) (by decide) (by first | assumption | exact ⟨by omega, by omega⟩) (by first | assumption | exact ⟨by omega, by omega⟩) (fun c1 => absurd c1 (by omega)) (fun c1 => ?_)
    refine K_aload_n (dt_at dtX1_gain 8 rfl) rfl rfl ?_
    refine K_iload (dt_at dtX1_gain 9 rfl) rfl ?_
    refine K_callV (M' := mX8_packerOf) (a := a) (ci := 8) (As := [vi (k : Int)]) (st := []) (dt_at dtX1_gain 10 rfl) (sX8_packerOf hT8 ⟨by omega, by omega⟩) hT8 rfl wL_X1_46 vX8_packerOf rfl npX8_packerOf (by decide) (by decide) (Nat.le_of_ble_eq_true rfl) (by decide) (by decide) GK_E (fun v9 h9 hq => ?_) (fun E h9 hq => by cases hq.1)
    obtain ⟨e9, e8⟩ := hq
    cases e9
    rw [e8]
    show K mX1_gain _ _ 0 0 21 [(5, vi (k : Int)), (4, vi (guF S g q k)), (0, vr t), (1, vr a), (2, vi q), (3, vi x)] [vi (hA h (a + 1) (22 + (k : Int)))] h
    rw [hg]
    refine K_iload_n (dt_at dtX1_gain 11 rfl) rfl rfl ?_
    refine K_icmp_ne (tgt := 37) (dt_at dtX1_gain 12 rfl) (by decide) (by first | assumption | exact ⟨by omega, by omega⟩) (by first | assumption | exact ⟨by omega, by omega⟩) (fun c2 => ?_) (fun c2 => ?_)
    · refine K_iinc (ls' := [(5, vi ((k : Int) + 1)), (4, vi (guF S g q k)), (0, vr t), (1, vr a), (2, vi q), (3, vi x)]) (dt_at dtX1_gain 20 rfl) rfl (by decide) rfl ?_
      refine K_goto (tgt := 6) (dt_at dtX1_gain 21 rfl) (by decide) ?_
      refine K_pk [0, 1, 2, 3, 4, 5] (ls' := [(5, vi ((k : Int) + 1)), (4, vi (guF S g q k)), (0, vr t), (1, vr a), (2, vi q), (3, vi x)]) rfl ?_
      exact K_cg (ls' := [(5, vi ((k + 1 : Nat) : Int)), (4, vi (guF S g q (k + 1))), (0, vr t), (1, vr a), (2, vi q), (3, vi x)]) (h' := h) (by rw [guF_f (by assumption)]; rfl) (by rfl) (ih (k + 1) (by omega))
    · refine K_iload (dt_at dtX1_gain 13 rfl) rfl ?_
      refine K_aload_n (dt_at dtX1_gain 14 rfl) rfl rfl ?_
      refine K_aload_n (dt_at dtX1_gain 15 rfl) rfl rfl ?_
      refine K_iload (dt_at dtX1_gain 16 rfl) rfl ?_
      refine K_callV (M' := mX3_useWith) (a := t) (ci := 3) (As := [vr a, vi (k : Int)]) (st := [vi (guF S g q k)]) (dt_at dtX1_gain 17 rfl) (sX3_useWith (n := sNt S) hH hT8 (by rw [hg]; exact hTg.1) hNt hS.2.1.1 ⟨by omega, by omega⟩) hH rfl wL_X1_56 vX3_useWith rfl npX3_useWith (by decide) (by decide) (Nat.le_of_ble_eq_true rfl) (by decide) (by decide) GK_E (fun v9 h9 hq => ?_) (fun E h9 hq => by cases hq.1)
      obtain ⟨e9, e8⟩ := hq
      cases e9
      rw [e8]
      show K mX1_gain _ _ 0 0 34 [(5, vi (k : Int)), (4, vi (guF S g q k)), (0, vr t), (1, vr a), (2, vi q), (3, vi x)] [vi (sumF (hA h (t + 2)) (hA h (a + 1)) (k : Int) (sNt S)), vi (guF S g q k)] h
      rw [hg, hS.1.2.1]
      refine K_iadd (dt_at dtX1_gain 18 rfl) ?_
      refine K_istore (ls' := [(4, vi ((guF S g q k) + (sumF (sU S) g (k : Int) (sNt S)))), (5, vi (k : Int)), (0, vr t), (1, vr a), (2, vi q), (3, vi x)]) (dt_at dtX1_gain 19 rfl) (by decide) rfl ?_
      refine K_iinc (ls' := [(5, vi ((k : Int) + 1)), (4, vi ((guF S g q k) + (sumF (sU S) g (k : Int) (sNt S)))), (0, vr t), (1, vr a), (2, vi q), (3, vi x)]) (dt_at dtX1_gain 20 rfl) rfl (by decide) rfl ?_
      refine K_goto (tgt := 6) (dt_at dtX1_gain 21 rfl) (by decide) ?_
      refine K_pk [0, 1, 2, 3, 4, 5] (ls' := [(5, vi ((k : Int) + 1)), (4, vi ((guF S g q k) + (sumF (sU S) g (k : Int) (sNt S)))), (0, vr t), (1, vr a), (2, vi q), (3, vi x)]) rfl ?_
      exact K_cg (ls' := [(5, vi ((k + 1 : Nat) : Int)), (4, vi (guF S g q (k + 1))), (0, vr t), (1, vr a), (2, vi q), (3, vi x)]) (h' := h) (by rw [guF_t (by assumption)]; rfl) (by rfl) (ih (k + 1) (by omega))
set_option maxHeartbeats 4000000 in
set_option maxRecDepth 100000 in
theorem sX1_gain_0 {h : HP} {t a : Nat} {S : HS} {B : Int} {g : Int → Int} {q : Int} (hH : TT t = (0, 3)) (hT8 : TT a = (0, 8)) (hS : cHS h t S) (hB : hsW S) (hg : hA h (a + 1) = g) (hTg : rT B g) (hq0 : i32 q) : SpecK mX1_gain [vr t, vr a, vi q, vi 0] h (fun o h' => o = .inl (some (vi (gnF S g q 0))) ∧ h' = h) := by
  refine Spec_of (by decide +kernel) (Nat.le_of_ble_eq_true rfl) ?_
  have hNt := hB.1
  have hNp := hB.2.1
  obtain ⟨w1, w2⟩ := guF_b (q := q) hB hTg (sNp S) hNp
  refine K_iconst (dt_at dtX1_gain 0 rfl) ?_
  refine K_istore (ls' := [(4, vi 0), (0, vr t), (1, vr a), (2, vi q), (3, vi 0)]) (dt_at dtX1_gain 1 rfl) (by decide) rfl ?_
  refine K_iconst (dt_at dtX1_gain 2 rfl) ?_
  refine K_istore (ls' := [(5, vi 0), (4, vi 0), (0, vr t), (1, vr a), (2, vi q), (3, vi 0)]) (dt_at dtX1_gain 3 rfl) (by decide) rfl ?_
  refine K_pk [0, 1, 2, 3, 4, 5] rfl (lp_X1_gain hH hT8 hS hB hg hTg hq0 ?_ (sNp S) 0 (by omega))
  refine K_iload (dt_at dtX1_gain 22 rfl) rfl ?_
  refine K_iconst (dt_at dtX1_gain 23 rfl) ?_
  refine K_idiv (dt_at dtX1_gain 24 rfl) (by first | assumption | exact ⟨by omega, by omega⟩) (by first | assumption | exact ⟨by omega, by omega⟩) (by omega) ?_
  refine K_iload_n (dt_at dtX1_gain 25 rfl) rfl rfl ?_
  refine K_iconst (dt_at dtX1_gain 26 rfl) ?_
  refine K_icmp_ne (tgt := 56) (dt_at dtX1_gain 27 rfl) (by decide) (by first | assumption | exact ⟨by omega, by omega⟩) (by first | assumption | exact ⟨by omega, by omega⟩) (fun c1 => ?_) (fun c1 => absurd c1 (by omega))
  refine K_iconst (dt_at dtX1_gain 30 rfl) ?_
  refine K_iadd (dt_at dtX1_gain 31 rfl) ?_
  exact K_iret (dt_at dtX1_gain 32 rfl) rfl rfl (by decide) (by decide) ⟨rfl, rfl⟩
set_option maxHeartbeats 4000000 in
set_option maxRecDepth 100000 in
theorem sX1_gain_1 {h : HP} {t a : Nat} {S : HS} {B : Int} {g : Int → Int} {q : Int} (hH : TT t = (0, 3)) (hT8 : TT a = (0, 8)) (hS : cHS h t S) (hB : hsW S) (hg : hA h (a + 1) = g) (hTg : rT B g) (hq0 : i32 q) : SpecK mX1_gain [vr t, vr a, vi q, vi 1] h (fun o h' => o = .inl (some (vi (gnF S g q 1))) ∧ h' = h) := by
  refine Spec_of (by decide +kernel) (Nat.le_of_ble_eq_true rfl) ?_
  have hNt := hB.1
  have hNp := hB.2.1
  obtain ⟨w1, w2⟩ := guF_b (q := q) hB hTg (sNp S) hNp
  refine K_iconst (dt_at dtX1_gain 0 rfl) ?_
  refine K_istore (ls' := [(4, vi 0), (0, vr t), (1, vr a), (2, vi q), (3, vi 1)]) (dt_at dtX1_gain 1 rfl) (by decide) rfl ?_
  refine K_iconst (dt_at dtX1_gain 2 rfl) ?_
  refine K_istore (ls' := [(5, vi 0), (4, vi 0), (0, vr t), (1, vr a), (2, vi q), (3, vi 1)]) (dt_at dtX1_gain 3 rfl) (by decide) rfl ?_
  refine K_pk [0, 1, 2, 3, 4, 5] rfl (lp_X1_gain hH hT8 hS hB hg hTg hq0 ?_ (sNp S) 0 (by omega))
  refine K_iload (dt_at dtX1_gain 22 rfl) rfl ?_
  refine K_iconst (dt_at dtX1_gain 23 rfl) ?_
  refine K_idiv (dt_at dtX1_gain 24 rfl) (by first | assumption | exact ⟨by omega, by omega⟩) (by first | assumption | exact ⟨by omega, by omega⟩) (by omega) ?_
  refine K_iload_n (dt_at dtX1_gain 25 rfl) rfl rfl ?_
  refine K_iconst (dt_at dtX1_gain 26 rfl) ?_
  refine K_icmp_ne (tgt := 56) (dt_at dtX1_gain 27 rfl) (by decide) (by first | assumption | exact ⟨by omega, by omega⟩) (by first | assumption | exact ⟨by omega, by omega⟩) (fun c1 => absurd c1 (by omega)) (fun c1 => ?_)
  refine K_iconst (dt_at dtX1_gain 28 rfl) ?_
  refine K_goto (tgt := 57) (dt_at dtX1_gain 29 rfl) (by decide) ?_
  refine K_iadd (dt_at dtX1_gain 31 rfl) ?_
  exact K_iret (dt_at dtX1_gain 32 rfl) rfl rfl (by decide) (by decide) ⟨rfl, rfl⟩
theorem sX1_gain {h : HP} {t a : Nat} {S : HS} {B : Int} {g : Int → Int} {q : Int} (hH : TT t = (0, 3)) (hT8 : TT a = (0, 8)) (hS : cHS h t S) (hB : hsW S) (hg : hA h (a + 1) = g) (hTg : rT B g) (hq0 : i32 q) {x : Nat} (hx : x = 0 ∨ x = 1) : SpecK mX1_gain [vr t, vr a, vi q, vi (x : Int)] h (fun o h' => o = .inl (some (vi (gnF S g q x))) ∧ h' = h) := by
  rcases hx with rfl | rfl
  · exact sX1_gain_0 hH hT8 hS hB hg hTg hq0
  · exact sX1_gain_1 hH hT8 hS hB hg hTg hq0
def mX1_play : MI := (yX1_play, cX1_play, 7, none, rmK 7 0)
def tX1_play : List (Nat × Instr × Nat) := [(0, .iconst 0, 1), (1, .istore 6, 2), (3, .iload 6, 2), (5, .iconst 4, 1), (6, .if_icmp .ge 90, 3), (9, .aload_n 3, 1), (10, .aload_n 1, 1), (11, .aload_n 2, 1), (12, .invokevirtual 18, 3), (15, .aload_n 1, 1), (16, .aload_n 3, 1), (17, .getfield 24, 3), (20, .iload 4, 2), (22, .iload 6, 2), (24, .iconst 2, 1), (25, .idiv, 1), (26, .invokestatic 28, 3), (29, .aload_n 1, 1), (30, .aload_n 3, 1), (31, .getfield 24, 3), (34, .iload 5, 2), (36, .iload 6, 2), (38, .iconst 2, 1), (39, .irem, 1), (40, .invokestatic 28, 3), (43, .aload_n 3, 1), (44, .iconst 5, 1), (45, .invokevirtual 32, 3), (48, .aload_n 0, 1), (49, .getfield 9, 3), (52, .iload 6, 2), (54, .aload_n 1, 1), (55, .aload_n 3, 1), (56, .getfield 24, 3), (59, .iload 4, 2), (61, .iload 6, 2), (63, .iconst 2, 1), (64, .idiv, 1), (65, .invokestatic 36, 3), (68, .iastore, 1), (69, .aload_n 0, 1), (70, .getfield 15, 3), (73, .iload 6, 2), (75, .aload_n 1, 1), (76, .aload_n 3, 1), (77, .getfield 24, 3), (80, .iload 5, 2), (82, .iload 6, 2), (84, .iconst 2, 1), (85, .irem, 1), (86, .invokestatic 36, 3), (89, .iastore, 1), (90, .iinc 6 1, 3), (93, .goto (-90), 3), (96, .return_, 1)]
theorem dtX1_play : tX1_play.all (fun q => decide (decode cX1_play q.1 = .ok (q.2.1, q.2.2))) = true := by decide +kernel
theorem npX1_play : (parseMethodDescriptor (mY mX1_play).desc).map (fun d => d.parameters.length) = some 5 := by decide +kernel
theorem vX1_play : mV mX1_play := ⟨wI_X1_play, wS_X1_play, wN_X1, wC_X1_play, by decide +kernel, by decide +kernel⟩
set_option maxHeartbeats 4000000 in
set_option maxRecDepth 100000 in
theorem lp_X1_play {Q : AO → HP → Prop} {h : HP} {t : Nat} {S : HS} {B : Int} {f : Int → Int} {p q : Int} (c0 : CQ h t S B f) (hp : 0 ≤ p ∧ p < sNp S) (hqt : 0 ≤ q ∧ q < sNp S) (hQ : ∀ h2, FS h h2 → (∀ j : Nat, j < 4 → hA h2 118 (j : Int) = gm1 S f p q j ∧ hA h2 119 (j : Int) = gm2 S f p q j) → Q (.inl none) h2) : ∀ (d k : Nat) (hh : HP), k + d = 4 → FS h hh → (∀ j : Nat, j < k → hA hh 118 (j : Int) = gm1 S f p q j ∧ hA hh 119 (j : Int) = gm2 S f p q j) → K mX1_play GK (ZK Q 0 0) 0 0 3 [(6, vi (k : Int)), (0, vr 117), (1, vr t), (2, vr 66), (3, vr 84), (4, vi p), (5, vi q)] [] hh := by
  intro d
  induction d with
  | zero =>
    intro k hh hk Fh ar
    have c := CQ_FS c0 Fh
    have ht := c.1
    have hH := TTt ht
    have hB := c.2.2.2.1
    have hNt := hB.1
    have hNp := hB.2.1
    have hT := c.2.2.2.2.2.1
    have hC := c.2.2.2.2.2.2.1
    have h99 := c.2.2.2.2.2.2.2.1
    have G := c.2.2.2.2.2.2.2.2
    have hf0 := hT.2.2.2.1
    have ek : k = 4 := by omega
    refine K_iload (dt_at dtX1_play 2 rfl) rfl ?_
    refine K_iconst (dt_at dtX1_play 3 rfl) ?_
    refine K_icmp_ge (tgt := 96) (dt_at dtX1_play 4 rfl) (by decide) (by first | assumption | exact ⟨by omega, by omega⟩) (by first | assumption | exact ⟨by omega, by omega⟩) (fun c1 => ?_) (fun c1 => absurd c1 (by omega))
    exact K_vret (dt_at dtX1_play 54 rfl) rfl (by decide) (by decide) (hQ hh Fh (by rw [ek] at ar; exact ar))
  | succ d ih =>
    intro k hh hk Fh ar
    have c := CQ_FS c0 Fh
    have ht := c.1
    have hH := TTt ht
    have hB := c.2.2.2.1
    have hNt := hB.1
    have hNp := hB.2.1
    have hT := c.2.2.2.2.2.1
    have hC := c.2.2.2.2.2.2.1
    have h99 := c.2.2.2.2.2.2.2.1
    have G := c.2.2.2.2.2.2.2.2
    have hf0 := hT.2.2.2.1
    refine K_iload (dt_at dtX1_play 2 rfl) rfl ?_
    refine K_iconst (dt_at dtX1_play 3 rfl) ?_
    refine K_icmp_ge (tgt := 96) (dt_at dtX1_play 4 rfl) (by decide) (by first | assumption | exact ⟨by omega, by omega⟩) (by first | assumption | exact ⟨by omega, by omega⟩) (fun c1 => absurd c1 (by omega)) (fun c1 => ?_)
    refine K_aload_n (dt_at dtX1_play 5 rfl) rfl rfl ?_
    refine K_aload_n (dt_at dtX1_play 6 rfl) rfl rfl ?_
    refine K_aload_n (dt_at dtX1_play 7 rfl) rfl rfl ?_
    refine K_callV (M' := mX10_begin) (a := 84) (ci := 10) (As := [vr t, vr 66]) (st := []) (dt_at dtX1_play 8 rfl) (sX10_begin (w := 84) (t := t) (a := 66) (Or.inl rfl) ht (by decide) (by decide)) (show TT 84 = (0, 10) from rfl) rfl wL_X1_18 vX10_begin rfl npX10_begin (by decide) (by decide) (Nat.le_of_ble_eq_true rfl) (by decide) (by decide) GK_E (fun v9 hc1 hq => ?_) (fun E h9 hq => by cases hq.1)
    have hqq2 := hq
    obtain ⟨e9q2, b1, b2, b3, b4, b5, b6, b7⟩ := hqq2
    obtain ⟨F1, X, P1⟩ := BG_ok (w := 84) (Or.inl rfl) ht c.2.2.1 hB G b1 b2 b3 b4 b5 b6 b7
    rw [c.2.2.2.2.1] at P1
    cases e9q2
    show K mX1_play _ _ 0 0 15 [(6, vi (k : Int)), (0, vr 117), (1, vr t), (2, vr 66), (3, vr 84), (4, vi p), (5, vi q)] [] hc1
    refine K_aload_n (dt_at dtX1_play 9 rfl) rfl rfl ?_
    refine K_aload_n (dt_at dtX1_play 10 rfl) rfl rfl ?_
    refine K_get (a := 84) (ci := 10) (k := 0) (v := vr 85) (dt_at dtX1_play 11 rfl) (show TT 84 = (0, 10) from rfl) rfl (by decide) wF_X1_24 rfl ?_
    refine K_iload (dt_at dtX1_play 12 rfl) rfl ?_
    refine K_iload (dt_at dtX1_play 13 rfl) rfl ?_
    refine K_iconst (dt_at dtX1_play 14 rfl) ?_
    refine K_idiv (dt_at dtX1_play 15 rfl) (by first | assumption | exact ⟨by omega, by omega⟩) (by first | assumption | exact ⟨by omega, by omega⟩) (by omega) ?_
    rw [td2]
    refine K_callS (M' := mX1_beCross) (As := [vr t, vr 85, vi p, vi ((k / 2 : Nat) : Int)]) (st := []) (dt_at dtX1_play 16 rfl) (sX1_beCross (a := 85) (n := sNp S) (x := (k / 2)) hH rfl (by rw [show hA hc1 (85 + 1) = f from P1.2.1]; exact hT.1) (CQ_FS c F1).2.2.1.2.1.2 hNp ⟨by omega, by omega⟩ (by omega)) wL_X1_28 vX1_beCross rfl npX1_beCross (by decide) (by decide) (Nat.le_of_ble_eq_true rfl) (by decide) (by decide) GK_E (fun v9 hc3 hq => ?_) (fun E h9 hq => by cases hq.1)
    have hqq4 := hq
    obtain ⟨e9q4, e8q4⟩ := hqq4
    obtain ⟨hfq4, frq4, hiq4, hrq4⟩ := sF_fx e8q4
    rw [show hA hc1 (85 + 1) = f from P1.2.1] at hfq4
    have P2 : PW hc1 hc3 84 t (crX f p (sNp S) (k / 2)) (fun _ => 0) 0 := ⟨WK_A X P1.1 (Or.inl rfl) frq4 hiq4 hrq4, hfq4, by rw [frq4 _ (by decide)]; exact P1.2.2.1, by rw [hiq4]; exact P1.2.2.2⟩
    have FF2 := FS_tr F1 (WK_FS X P2.1 F1.2.2.2)
    obtain ⟨rT2, rC2, r02⟩ := crX_ok (q := p) (n := sNp S) (x := (k / 2)) hT hC hNp hNp
    cases e9q4
    show K mX1_play _ _ 0 0 29 [(6, vi (k : Int)), (0, vr 117), (1, vr t), (2, vr 66), (3, vr 84), (4, vi p), (5, vi q)] [] hc3
    refine K_aload_n (dt_at dtX1_play 17 rfl) rfl rfl ?_
    refine K_aload_n (dt_at dtX1_play 18 rfl) rfl rfl ?_
    refine K_get (a := 84) (ci := 10) (k := 0) (v := vr 85) (dt_at dtX1_play 19 rfl) (show TT 84 = (0, 10) from rfl) rfl (by decide) wF_X1_24 rfl ?_
    refine K_iload (dt_at dtX1_play 20 rfl) rfl ?_
    refine K_iload (dt_at dtX1_play 21 rfl) rfl ?_
    refine K_iconst (dt_at dtX1_play 22 rfl) ?_
    refine K_irem (dt_at dtX1_play 23 rfl) (by first | assumption | exact ⟨by omega, by omega⟩) (by first | assumption | exact ⟨by omega, by omega⟩) (by omega) ?_
    rw [tm2]
    refine K_callS (M' := mX1_beCross) (As := [vr t, vr 85, vi q, vi ((k % 2 : Nat) : Int)]) (st := []) (dt_at dtX1_play 24 rfl) (sX1_beCross (a := 85) (n := sNp S) (x := (k % 2)) hH rfl (by rw [show hA hc3 (85 + 1) = (crX f p (sNp S) (k / 2)) from P2.2.1]; exact rT2.1) (CQ_FS c FF2).2.2.1.2.1.2 hNp ⟨by omega, by omega⟩ (by omega)) wL_X1_28 vX1_beCross rfl npX1_beCross (by decide) (by decide) (Nat.le_of_ble_eq_true rfl) (by decide) (by decide) GK_E (fun v9 hc5 hq => ?_) (fun E h9 hq => by cases hq.1)
    have hqq6 := hq
    obtain ⟨e9q6, e8q6⟩ := hqq6
    obtain ⟨hfq6, frq6, hiq6, hrq6⟩ := sF_fx e8q6
    rw [show hA hc3 (85 + 1) = (crX f p (sNp S) (k / 2)) from P2.2.1] at hfq6
    have P3 : PW hc1 hc5 84 t (crX (crX f p (sNp S) (k / 2)) q (sNp S) (k % 2)) (fun _ => 0) 0 := ⟨WK_A X P2.1 (Or.inl rfl) frq6 hiq6 hrq6, hfq6, by rw [frq6 _ (by decide)]; exact P2.2.2.1, by rw [hiq6]; exact P2.2.2.2⟩
    have FF3 := FS_tr F1 (WK_FS X P3.1 F1.2.2.2)
    obtain ⟨rT3, rC3, r03⟩ := crX_ok (q := q) (n := sNp S) (x := (k % 2)) rT2 rC2 hNp hNp
    cases e9q6
    show K mX1_play _ _ 0 0 43 [(6, vi (k : Int)), (0, vr 117), (1, vr t), (2, vr 66), (3, vr 84), (4, vi p), (5, vi q)] [] hc5
    refine K_aload_n (dt_at dtX1_play 25 rfl) rfl rfl ?_
    refine K_iconst (dt_at dtX1_play 26 rfl) ?_
    refine K_callV (M' := mX10_pass) (a := 84) (ci := 10) (As := [vi 5]) (st := []) (dt_at dtX1_play 27 rfl) (sX10_pass (n := 5) X P3 rT3 rC3 (by rw [r03, r02]; omega)) (show TT 84 = (0, 10) from rfl) rfl wL_X1_32 vX10_pass rfl npX10_pass (by decide) (by decide) (Nat.le_of_ble_eq_true rfl) (by decide) (by decide) GK_E (fun v9 hc7 hq => ?_) (fun E h9 hq => by cases hq.1)
    have hqq8 := hq
    obtain ⟨e9q8, P4⟩ := hqq8
    have F4 := FS_tr F1 (WK_FS X P4.1 F1.2.2.2)
    have r4 : hA hc7 86 = gmR S f p q k := P4.2.1
    have T4 : rT B (gmR S f p q k) := (dysF_ok hB rT3 rC3 5 (by rw [r03, r02]; omega)).1
    have w18 : hA hc7 118 = hA hh 118 := (P4.1.1 118 (by omega) (by omega) (by omega) (by omega) (by omega)).trans (b1 118 (by omega) (by omega))
    have w19 : hA hc7 119 = hA hh 119 := (P4.1.1 119 (by omega) (by omega) (by omega) (by omega) (by omega)).trans (b1 119 (by omega) (by omega))
    have c4 := CQ_FS c F4
    cases e9q8
    show K mX1_play _ _ 0 0 48 [(6, vi (k : Int)), (0, vr 117), (1, vr t), (2, vr 66), (3, vr 84), (4, vi p), (5, vi q)] [] hc7
    refine K_aload_n (dt_at dtX1_play 28 rfl) rfl rfl ?_
    refine K_get (a := 117) (ci := 1) (k := 0) (v := vr 118) (dt_at dtX1_play 29 rfl) (show TT 117 = (0, 1) from rfl) rfl (by decide) wF_X1_9 rfl ?_
    refine K_iload (dt_at dtX1_play 30 rfl) rfl ?_
    refine K_aload_n (dt_at dtX1_play 31 rfl) rfl rfl ?_
    refine K_aload_n (dt_at dtX1_play 32 rfl) rfl rfl ?_
    refine K_get (a := 84) (ci := 10) (k := 0) (v := vr 85) (dt_at dtX1_play 33 rfl) (show TT 84 = (0, 10) from rfl) rfl (by decide) wF_X1_24 rfl ?_
    refine K_iload (dt_at dtX1_play 34 rfl) rfl ?_
    refine K_iload (dt_at dtX1_play 35 rfl) rfl ?_
    refine K_iconst (dt_at dtX1_play 36 rfl) ?_
    refine K_idiv (dt_at dtX1_play 37 rfl) (by first | assumption | exact ⟨by omega, by omega⟩) (by first | assumption | exact ⟨by omega, by omega⟩) (by omega) ?_
    rw [td2]
    refine K_callS (M' := mX1_gain) (As := [vr t, vr 85, vi p, vi ((k / 2 : Nat) : Int)]) (st := [vi (k : Int), vr 118]) (dt_at dtX1_play 38 rfl) (sX1_gain (a := 85) (x := (k / 2)) hH rfl c4.2.2.1 hB r4 T4 ⟨by omega, by omega⟩ (by omega)) wL_X1_36 vX1_gain rfl npX1_gain (by decide) (by decide) (Nat.le_of_ble_eq_true rfl) (by decide) (by decide) GK_E (fun v9 h9 hq => ?_) (fun E h9 hq => by cases hq.1)
    obtain ⟨e9, e8⟩ := hq
    cases e9
    rw [e8]
    show K mX1_play _ _ 0 0 68 [(6, vi (k : Int)), (0, vr 117), (1, vr t), (2, vr 66), (3, vr 84), (4, vi p), (5, vi q)] [vi (gm1 S f p q k), vi (k : Int), vr 118] hc7
    refine K_iast (dt_at dtX1_play 39 rfl) (show TT 118 = (1, 4) from rfl) (by omega) (by omega) ?_
    obtain ⟨hq9, eq9⟩ : ∃ z, z = sA hc7 118 (k : Int) (gm1 S f p q k) := ⟨_, rfl⟩
    rw [← eq9]
    obtain ⟨aq9, fq9, iq9, rq9⟩ := sA_fx eq9
    refine K_aload_n (dt_at dtX1_play 40 rfl) rfl rfl ?_
    refine K_get (a := 117) (ci := 1) (k := 1) (v := vr 119) (dt_at dtX1_play 41 rfl) (show TT 117 = (0, 1) from rfl) rfl (by decide) wF_X1_15 rfl ?_
    refine K_iload (dt_at dtX1_play 42 rfl) rfl ?_
    refine K_aload_n (dt_at dtX1_play 43 rfl) rfl rfl ?_
    refine K_aload_n (dt_at dtX1_play 44 rfl) rfl rfl ?_
    refine K_get (a := 84) (ci := 10) (k := 0) (v := vr 85) (dt_at dtX1_play 45 rfl) (show TT 84 = (0, 10) from rfl) rfl (by decide) wF_X1_24 rfl ?_
    refine K_iload (dt_at dtX1_play 46 rfl) rfl ?_
    refine K_iload (dt_at dtX1_play 47 rfl) rfl ?_
    refine K_iconst (dt_at dtX1_play 48 rfl) ?_
    refine K_irem (dt_at dtX1_play 49 rfl) (by first | assumption | exact ⟨by omega, by omega⟩) (by first | assumption | exact ⟨by omega, by omega⟩) (by omega) ?_
    rw [tm2]
    refine K_callS (M' := mX1_gain) (As := [vr t, vr 85, vi q, vi ((k % 2 : Nat) : Int)]) (st := [vi (k : Int), vr 119]) (dt_at dtX1_play 50 rfl) (sX1_gain (a := 85) (x := (k % 2)) hH rfl (cHS_FS ht (FS_gm (FS_rf F4.2.2.2) (Or.inl rfl) eq9) c4.2.2.1) hB (by show hA hq9 86 = _; rw [(fq9 86 (by omega))]; exact r4) T4 ⟨by omega, by omega⟩ (by omega)) wL_X1_36 vX1_gain rfl npX1_gain (by decide) (by decide) (Nat.le_of_ble_eq_true rfl) (by decide) (by decide) GK_E (fun v9 h9 hq => ?_) (fun E h9 hq => by cases hq.1)
    obtain ⟨e9, e8⟩ := hq
    cases e9
    rw [e8]
    show K mX1_play _ _ 0 0 89 [(6, vi (k : Int)), (0, vr 117), (1, vr t), (2, vr 66), (3, vr 84), (4, vi p), (5, vi q)] [vi (gm2 S f p q k), vi (k : Int), vr 119] hq9
    refine K_iast (dt_at dtX1_play 51 rfl) (show TT 119 = (1, 4) from rfl) (by omega) (by omega) ?_
    obtain ⟨hq10, eq10⟩ : ∃ z, z = sA hq9 119 (k : Int) (gm2 S f p q k) := ⟨_, rfl⟩
    rw [← eq10]
    obtain ⟨aq10, fq10, iq10, rq10⟩ := sA_fx eq10
    rw [(fq9 119 (by omega))] at aq10
    refine K_iinc (ls' := [(6, vi ((k : Int) + 1)), (0, vr 117), (1, vr t), (2, vr 66), (3, vr 84), (4, vi p), (5, vi q)]) (dt_at dtX1_play 52 rfl) rfl (by decide) rfl ?_
    refine K_goto (tgt := 3) (dt_at dtX1_play 53 rfl) (by decide) ?_
    have F5 := FS_gm (FS_gm (FS_tr Fh F4) (Or.inl rfl) eq9) (Or.inr rfl) eq10
    exact K_pk [0, 1, 2, 3, 4, 5, 6] rfl (ih (k + 1) hq10 (by omega) F5 (fun j hj => by rw [fq10 118 (by decide), aq9, aq10, w18, w19]; unfold upI; by_cases z : (j : Int) = (k : Int); obtain rfl : j = k := (by omega); rw [if_pos rfl, if_pos rfl]; exact ⟨rfl, rfl⟩; rw [if_neg z, if_neg z]; exact ar j (by omega)))
set_option maxHeartbeats 4000000 in
set_option maxRecDepth 100000 in
theorem sX1_play {h : HP} {t : Nat} {S : HS} {B : Int} {f : Int → Int} {p q : Int} (c : CQ h t S B f) (hp : 0 ≤ p ∧ p < sNp S) (hqt : 0 ≤ q ∧ q < sNp S) : SpecK mX1_play [vr 117, vr t, vr 66, vr 84, vi p, vi q] h (fun o h' => o = .inl none ∧ FS h h' ∧ (∀ j : Nat, j < 4 → hA h' 118 (j : Int) = gm1 S f p q j ∧ hA h' 119 (j : Int) = gm2 S f p q j)) := by
  refine Spec_of (by decide +kernel) (Nat.le_of_ble_eq_true rfl) ?_
  have ht := c.1
  have hH := TTt ht
  have hB := c.2.2.2.1
  have hNt := hB.1
  have hNp := hB.2.1
  have hT := c.2.2.2.2.2.1
  have hC := c.2.2.2.2.2.2.1
  have h99 := c.2.2.2.2.2.2.2.1
  have G := c.2.2.2.2.2.2.2.2
  have hf0 := hT.2.2.2.1
  refine K_iconst (dt_at dtX1_play 0 rfl) ?_
  refine K_istore (ls' := [(6, vi 0), (0, vr 117), (1, vr t), (2, vr 66), (3, vr 84), (4, vi p), (5, vi q)]) (dt_at dtX1_play 1 rfl) (by decide) rfl ?_
  exact K_pk [0, 1, 2, 3, 4, 5, 6] rfl (lp_X1_play c hp hqt (fun h3 q1 q2 => ⟨rfl, q1, q2⟩) 4 0 h (by omega) (FS_rf G) (fun j hj => absurd hj (Nat.not_lt_zero j)))
def mX1_rests : MI := (yX1_rests, cX1_rests, 2, (some .boolean), rmK 1 0)
def tX1_rests : List (Nat × Instr × Nat) := [(0, .aload_n 0, 1), (1, .getfield 9, 3), (4, .iload_n 1, 1), (5, .iaload, 1), (6, .aload_n 0, 1), (7, .getfield 9, 3), (10, .iload_n 1, 1), (11, .iconst 2, 1), (12, .ixor, 1), (13, .iaload, 1), (14, .if_icmp .lt 24, 3), (17, .aload_n 0, 1), (18, .getfield 15, 3), (21, .iload_n 1, 1), (22, .iaload, 1), (23, .aload_n 0, 1), (24, .getfield 15, 3), (27, .iload_n 1, 1), (28, .iconst 1, 1), (29, .ixor, 1), (30, .iaload, 1), (31, .if_icmp .lt 7, 3), (34, .iconst 1, 1), (35, .goto 4, 3), (38, .iconst 0, 1), (39, .ireturn, 1)]
theorem dtX1_rests : tX1_rests.all (fun q => decide (decode cX1_rests q.1 = .ok (q.2.1, q.2.2))) = true := by decide +kernel
theorem npX1_rests : (parseMethodDescriptor (mY mX1_rests).desc).map (fun d => d.parameters.length) = some 1 := by decide +kernel
theorem vX1_rests : mV mX1_rests := ⟨wI_X1_rests, wS_X1_rests, wN_X1, wC_X1_rests, by decide +kernel, by decide +kernel⟩
set_option maxHeartbeats 4000000 in
set_option maxRecDepth 100000 in
theorem sX1_rests {h : HP} {U W : Nat → Int} {k : Nat} (hU : ∀ j : Nat, j < 4 → hA h 118 (j : Int) = U j ∧ hA h 119 (j : Int) = W j) (hb : ∀ j : Nat, j < 4 → i32 (U j) ∧ i32 (W j)) (hk : k < 4) : SpecK mX1_rests [vr 117, vi (k : Int)] h (fun o h' => o = .inl (some (vi (if rsB U W k = true then 1 else 0))) ∧ h' = h) := by
  refine Spec_of (by decide +kernel) (Nat.le_of_ble_eq_true rfl) ?_
  have n2 := (bx2 k hk).1.2
  have n1 := (bx2 k hk).2.2
  have b1 := (hb k hk).1
  have b2 := (hb k hk).2
  have b3 := (hb _ n2).1
  have b4 := (hb _ n1).2
  refine K_aload_n (dt_at dtX1_rests 0 rfl) rfl rfl ?_
  refine K_get (a := 117) (ci := 1) (k := 0) (v := vr 118) (dt_at dtX1_rests 1 rfl) (show TT 117 = (0, 1) from rfl) rfl (by decide) wF_X1_9 rfl ?_
  refine K_iload_n (dt_at dtX1_rests 2 rfl) rfl rfl ?_
  refine K_iald (dt_at dtX1_rests 3 rfl) (show TT 118 = (1, 4) from rfl) (by omega) (by omega) ?_
  rw [(hU k hk).1]
  refine K_aload_n (dt_at dtX1_rests 4 rfl) rfl rfl ?_
  refine K_get (a := 117) (ci := 1) (k := 0) (v := vr 118) (dt_at dtX1_rests 5 rfl) (show TT 117 = (0, 1) from rfl) rfl (by decide) wF_X1_9 rfl ?_
  refine K_iload_n (dt_at dtX1_rests 6 rfl) rfl rfl ?_
  refine K_iconst (dt_at dtX1_rests 7 rfl) ?_
  refine K_ixor (dt_at dtX1_rests 8 rfl) ?_
  rw [(bx2 k hk).1.1]
  refine K_iald (dt_at dtX1_rests 9 rfl) (show TT 118 = (1, 4) from rfl) (by omega) (by omega) ?_
  rw [(hU (k ^^^ 2) (bx2 k hk).1.2).1]
  refine K_icmp_lt (tgt := 38) (dt_at dtX1_rests 10 rfl) (by decide) (by first | assumption | exact ⟨by omega, by omega⟩) (by first | assumption | exact ⟨by omega, by omega⟩) (fun c1 => ?_) (fun c1 => ?_)
  · refine K_iconst (dt_at dtX1_rests 24 rfl) ?_
    exact K_iret (dt_at dtX1_rests 25 rfl) rfl (by decide) (by decide) (by decide) ⟨by rw [show rsB U W k = false by unfold rsB; simp only [Bool.and_eq_true, Bool.and_eq_false_iff, decide_eq_true_eq, decide_eq_false_iff_not]; omega]; rfl, rfl⟩
  · refine K_aload_n (dt_at dtX1_rests 11 rfl) rfl rfl ?_
    refine K_get (a := 117) (ci := 1) (k := 1) (v := vr 119) (dt_at dtX1_rests 12 rfl) (show TT 117 = (0, 1) from rfl) rfl (by decide) wF_X1_15 rfl ?_
    refine K_iload_n (dt_at dtX1_rests 13 rfl) rfl rfl ?_
    refine K_iald (dt_at dtX1_rests 14 rfl) (show TT 119 = (1, 4) from rfl) (by omega) (by omega) ?_
    rw [(hU k hk).2]
    refine K_aload_n (dt_at dtX1_rests 15 rfl) rfl rfl ?_
    refine K_get (a := 117) (ci := 1) (k := 1) (v := vr 119) (dt_at dtX1_rests 16 rfl) (show TT 117 = (0, 1) from rfl) rfl (by decide) wF_X1_15 rfl ?_
    refine K_iload_n (dt_at dtX1_rests 17 rfl) rfl rfl ?_
    refine K_iconst (dt_at dtX1_rests 18 rfl) ?_
    refine K_ixor (dt_at dtX1_rests 19 rfl) ?_
    rw [(bx2 k hk).2.1]
    refine K_iald (dt_at dtX1_rests 20 rfl) (show TT 119 = (1, 4) from rfl) (by omega) (by omega) ?_
    rw [(hU (k ^^^ 1) (bx2 k hk).2.2).2]
    refine K_icmp_lt (tgt := 38) (dt_at dtX1_rests 21 rfl) (by decide) (by first | assumption | exact ⟨by omega, by omega⟩) (by first | assumption | exact ⟨by omega, by omega⟩) (fun c2 => ?_) (fun c2 => ?_)
    · refine K_iconst (dt_at dtX1_rests 24 rfl) ?_
      exact K_iret (dt_at dtX1_rests 25 rfl) rfl (by decide) (by decide) (by decide) ⟨by rw [show rsB U W k = false by unfold rsB; simp only [Bool.and_eq_true, Bool.and_eq_false_iff, decide_eq_true_eq, decide_eq_false_iff_not]; omega]; rfl, rfl⟩
    · refine K_iconst (dt_at dtX1_rests 22 rfl) ?_
      refine K_goto (tgt := 39) (dt_at dtX1_rests 23 rfl) (by decide) ?_
      exact K_iret (dt_at dtX1_rests 25 rfl) rfl (by decide) (by decide) (by decide) ⟨by rw [show rsB U W k = true by unfold rsB; simp only [Bool.and_eq_true, Bool.and_eq_false_iff, decide_eq_true_eq, decide_eq_false_iff_not]; omega]; rfl, rfl⟩
def mX1_resting : MI := (yX1_resting, cX1_resting, 3, (some .int), rmK 2 0)
def tX1_resting : List (Nat × Instr × Nat) := [(0, .iconst 0, 1), (1, .istore_n 1, 1), (2, .iconst 0, 1), (3, .istore_n 2, 1), (4, .iload_n 2, 1), (5, .iconst 4, 1), (6, .if_icmp .ge 20, 3), (9, .aload_n 0, 1), (10, .iload_n 2, 1), (11, .invokevirtual 60, 3), (14, .ifCond .eq 6, 3), (17, .iinc 1 1, 3), (20, .iinc 2 1, 3), (23, .goto (-19), 3), (26, .iload_n 1, 1), (27, .ireturn, 1)]
theorem dtX1_resting : tX1_resting.all (fun q => decide (decode cX1_resting q.1 = .ok (q.2.1, q.2.2))) = true := by decide +kernel
theorem npX1_resting : (parseMethodDescriptor (mY mX1_resting).desc).map (fun d => d.parameters.length) = some 0 := by decide +kernel
theorem vX1_resting : mV mX1_resting := ⟨wI_X1_resting, wS_X1_resting, wN_X1, wC_X1_resting, by decide +kernel, by decide +kernel⟩
set_option maxHeartbeats 4000000 in
set_option maxRecDepth 100000 in
theorem lp_X1_resting {Z : CT → State → Prop} {h : HP} {U W : Nat → Int} (hU : ∀ j : Nat, j < 4 → hA h 118 (j : Int) = U j ∧ hA h 119 (j : Int) = W j) (hb : ∀ j : Nat, j < 4 → i32 (U j) ∧ i32 (W j)) (kx : K mX1_resting GK Z 0 0 26 [(2, vi (4 : Int)), (1, vi (cntN (rsB U W) 4)), (0, vr 117)] [] h) : ∀ (d k : Nat), k + d = 4 → K mX1_resting GK Z 0 0 4 [(2, vi (k : Int)), (1, vi (cntN (rsB U W) k)), (0, vr 117)] [] h := by
  intro d
  induction d with
  | zero =>
    intro k hk
    obtain rfl : 4 = k := by omega
    refine K_iload_n (dt_at dtX1_resting 4 rfl) rfl rfl ?_
    refine K_iconst (dt_at dtX1_resting 5 rfl) ?_
    refine K_icmp_ge (tgt := 26) (dt_at dtX1_resting 6 rfl) (by decide) (by first | assumption | exact ⟨by omega, by omega⟩) (by first | assumption | exact ⟨by omega, by omega⟩) (fun c1 => ?_) (fun c1 => absurd c1 (by omega))
    exact K_pk [0, 1, 2] rfl kx
  | succ d ih =>
    intro k hk
    refine K_iload_n (dt_at dtX1_resting 4 rfl) rfl rfl ?_
    refine K_iconst (dt_at dtX1_resting 5 rfl) ?_
    refine K_icmp_ge (tgt := 26) (dt_at dtX1_resting 6 rfl) (by decide) (by first | assumption | exact ⟨by omega, by omega⟩) (by first | assumption | exact ⟨by omega, by omega⟩) (fun c1 => absurd c1 (by omega)) (fun c1 => ?_)
    refine K_aload_n (dt_at dtX1_resting 7 rfl) rfl rfl ?_
    refine K_iload_n (dt_at dtX1_resting 8 rfl) rfl rfl ?_
    refine K_callV (M' := mX1_rests) (a := 117) (ci := 1) (As := [vi (k : Int)]) (st := []) (dt_at dtX1_resting 9 rfl) (sX1_rests hU hb (k := k) (by omega)) (show TT 117 = (0, 1) from rfl) rfl wL_X1_60 vX1_rests rfl npX1_rests (by decide) (by decide) (Nat.le_of_ble_eq_true rfl) (by decide) (by decide) GK_E (fun v9 h9 hq => ?_) (fun E h9 hq => by cases hq.1)
    obtain ⟨e9, e8⟩ := hq
    cases e9
    rw [e8]
    show K mX1_resting _ _ 0 0 14 [(2, vi (k : Int)), (1, vi (cntN (rsB U W) k)), (0, vr 117)] [vi (if rsB U W k = true then 1 else 0)] h
    by_cases z2 : rsB U W k = true
    · rw [if_pos z2]
      refine K_if_eq (tgt := 20) (dt_at dtX1_resting 10 rfl) (by decide) (by first | assumption | exact ⟨by omega, by omega⟩) (fun c3 => absurd c3 (by omega)) (fun c3 => ?_)
      refine K_iinc (ls' := [(1, vi ((cntN (rsB U W) k) + 1)), (2, vi (k : Int)), (0, vr 117)]) (dt_at dtX1_resting 11 rfl) rfl (by decide) rfl ?_
      refine K_iinc (ls' := [(2, vi ((k : Int) + 1)), (1, vi ((cntN (rsB U W) k) + 1)), (0, vr 117)]) (dt_at dtX1_resting 12 rfl) rfl (by decide) rfl ?_
      refine K_goto (tgt := 4) (dt_at dtX1_resting 13 rfl) (by decide) ?_
      refine K_pk [0, 1, 2] (ls' := [(2, vi ((k : Int) + 1)), (1, vi ((cntN (rsB U W) k) + 1)), (0, vr 117)]) rfl ?_
      exact K_cg (ls' := [(2, vi ((k + 1 : Nat) : Int)), (1, vi (cntN (rsB U W) (k + 1))), (0, vr 117)]) (h' := h) (by rw [cntN_t (by assumption)]; rfl) (by rfl) (ih (k + 1) (by omega))
    · rw [if_neg z2]
      refine K_if_eq (tgt := 20) (dt_at dtX1_resting 10 rfl) (by decide) (by first | assumption | exact ⟨by omega, by omega⟩) (fun c4 => ?_) (fun c4 => absurd c4 (by omega))
      refine K_iinc (ls' := [(2, vi ((k : Int) + 1)), (1, vi (cntN (rsB U W) k)), (0, vr 117)]) (dt_at dtX1_resting 12 rfl) rfl (by decide) rfl ?_
      refine K_goto (tgt := 4) (dt_at dtX1_resting 13 rfl) (by decide) ?_
      refine K_pk [0, 1, 2] (ls' := [(2, vi ((k : Int) + 1)), (1, vi (cntN (rsB U W) k)), (0, vr 117)]) rfl ?_
      exact K_cg (ls' := [(2, vi ((k + 1 : Nat) : Int)), (1, vi (cntN (rsB U W) (k + 1))), (0, vr 117)]) (h' := h) (by rw [cntN_f (by cases z9 : rsB U W k; rfl; exact absurd z9 (by assumption))]; rfl) (by rfl) (ih (k + 1) (by omega))
set_option maxHeartbeats 4000000 in
set_option maxRecDepth 100000 in
theorem sX1_resting {h : HP} {U W : Nat → Int} (hU : ∀ j : Nat, j < 4 → hA h 118 (j : Int) = U j ∧ hA h 119 (j : Int) = W j) (hb : ∀ j : Nat, j < 4 → i32 (U j) ∧ i32 (W j)) : SpecK mX1_resting [vr 117] h (fun o h' => o = .inl (some (vi (cntN (rsB U W) 4))) ∧ h' = h) := by
  refine Spec_of (by decide +kernel) (Nat.le_of_ble_eq_true rfl) ?_
  refine K_iconst (dt_at dtX1_resting 0 rfl) ?_
  refine K_istore_n (ls' := [(1, vi 0), (0, vr 117)]) (dt_at dtX1_resting 1 rfl) rfl (by decide) rfl ?_
  refine K_iconst (dt_at dtX1_resting 2 rfl) ?_
  refine K_istore_n (ls' := [(2, vi 0), (1, vi 0), (0, vr 117)]) (dt_at dtX1_resting 3 rfl) rfl (by decide) rfl ?_
  refine K_pk [0, 1, 2] rfl (lp_X1_resting hU hb ?_ 4 0 (by omega))
  refine K_iload_n (dt_at dtX1_resting 14 rfl) rfl rfl ?_
  exact K_iret (dt_at dtX1_resting 15 rfl) rfl rfl (by decide) (by decide) ⟨rfl, rfl⟩
def mX1_firstResting : MI := (yX1_firstResting, cX1_firstResting, 2, (some .int), rmK 2 0)
def tX1_firstResting : List (Nat × Instr × Nat) := [(0, .iconst 0, 1), (1, .istore_n 1, 1), (2, .iload_n 1, 1), (3, .iconst 4, 1), (4, .if_icmp .ge 28, 3), (7, .aload_n 0, 1), (8, .iload_n 1, 1), (9, .invokevirtual 60, 3), (12, .ifCond .eq 14, 3), (15, .iload_n 1, 1), (16, .iconst 2, 1), (17, .idiv, 1), (18, .bipush 10, 2), (20, .imul, 1), (21, .iload_n 1, 1), (22, .iconst 2, 1), (23, .irem, 1), (24, .iadd, 1), (25, .ireturn, 1), (26, .iinc 1 1, 3), (29, .goto (-27), 3), (32, .iconst (-1), 1), (33, .ireturn, 1)]
theorem dtX1_firstResting : tX1_firstResting.all (fun q => decide (decode cX1_firstResting q.1 = .ok (q.2.1, q.2.2))) = true := by decide +kernel
theorem npX1_firstResting : (parseMethodDescriptor (mY mX1_firstResting).desc).map (fun d => d.parameters.length) = some 0 := by decide +kernel
theorem vX1_firstResting : mV mX1_firstResting := ⟨wI_X1_firstResting, wS_X1_firstResting, wN_X1, wC_X1_firstResting, by decide +kernel, by decide +kernel⟩
set_option maxHeartbeats 4000000 in
set_option maxRecDepth 100000 in
theorem lp_X1_firstResting {Q : AO → HP → Prop} {h : HP} {U W : Nat → Int} (hU : ∀ j : Nat, j < 4 → hA h 118 (j : Int) = U j ∧ hA h 119 (j : Int) = W j) (hb : ∀ j : Nat, j < 4 → i32 (U j) ∧ i32 (W j)) : ∀ (d k : Nat), k + d = 4 → Q (.inl (some (vi (srN (fun k => if rsB U W k = true then some (((k / 2 * 10 + k % 2 : Nat) : Int)) else none) (-1) k d)))) h → K mX1_firstResting GK (ZK Q 0 0) 0 0 2 [(1, vi (k : Int)), (0, vr 117)] [] h := by
  intro d
  induction d with
  | zero =>
    intro k hk hq
    refine K_iload_n (dt_at dtX1_firstResting 2 rfl) rfl rfl ?_
    refine K_iconst (dt_at dtX1_firstResting 3 rfl) ?_
    refine K_icmp_ge (tgt := 32) (dt_at dtX1_firstResting 4 rfl) (by decide) (by first | assumption | exact ⟨by omega, by omega⟩) (by first | assumption | exact ⟨by omega, by omega⟩) (fun c1 => ?_) (fun c1 => absurd c1 (by omega))
    refine K_iconst (dt_at dtX1_firstResting 21 rfl) ?_
    exact K_iret (dt_at dtX1_firstResting 22 rfl) rfl rfl (by decide) (by decide) hq
  | succ d ih =>
    intro k hk hq
    refine K_iload_n (dt_at dtX1_firstResting 2 rfl) rfl rfl ?_
    refine K_iconst (dt_at dtX1_firstResting 3 rfl) ?_
    refine K_icmp_ge (tgt := 32) (dt_at dtX1_firstResting 4 rfl) (by decide) (by first | assumption | exact ⟨by omega, by omega⟩) (by first | assumption | exact ⟨by omega, by omega⟩) (fun c1 => absurd c1 (by omega)) (fun c1 => ?_)
    refine K_aload_n (dt_at dtX1_firstResting 5 rfl) rfl rfl ?_
    refine K_iload_n (dt_at dtX1_firstResting 6 rfl) rfl rfl ?_
    refine K_callV (M' := mX1_rests) (a := 117) (ci := 1) (As := [vi (k : Int)]) (st := []) (dt_at dtX1_firstResting 7 rfl) (sX1_rests hU hb (k := k) (by omega)) (show TT 117 = (0, 1) from rfl) rfl wL_X1_60 vX1_rests rfl npX1_rests (by decide) (by decide) (Nat.le_of_ble_eq_true rfl) (by decide) (by decide) GK_E (fun v9 h9 hq => ?_) (fun E h9 hq => by cases hq.1)
    obtain ⟨e9, e8⟩ := hq
    cases e9
    rw [e8]
    show K mX1_firstResting _ _ 0 0 12 [(1, vi (k : Int)), (0, vr 117)] [vi (if rsB U W k = true then 1 else 0)] h
    by_cases z2 : rsB U W k = true
    · rw [if_pos z2]
      refine K_if_eq (tgt := 26) (dt_at dtX1_firstResting 8 rfl) (by decide) (by first | assumption | exact ⟨by omega, by omega⟩) (fun c3 => absurd c3 (by omega)) (fun c3 => ?_)
      refine K_iload_n (dt_at dtX1_firstResting 9 rfl) rfl rfl ?_
      refine K_iconst (dt_at dtX1_firstResting 10 rfl) ?_
      refine K_idiv (dt_at dtX1_firstResting 11 rfl) (by first | assumption | exact ⟨by omega, by omega⟩) (by first | assumption | exact ⟨by omega, by omega⟩) (by omega) ?_
      rw [td2]
      refine K_bipush (dt_at dtX1_firstResting 12 rfl) (by decide) ?_
      refine K_imul (dt_at dtX1_firstResting 13 rfl) ?_
      refine K_iload_n (dt_at dtX1_firstResting 14 rfl) rfl rfl ?_
      refine K_iconst (dt_at dtX1_firstResting 15 rfl) ?_
      refine K_irem (dt_at dtX1_firstResting 16 rfl) (by first | assumption | exact ⟨by omega, by omega⟩) (by first | assumption | exact ⟨by omega, by omega⟩) (by omega) ?_
      rw [tm2]
      refine K_iadd (dt_at dtX1_firstResting 17 rfl) ?_
      exact K_iret (dt_at dtX1_firstResting 18 rfl) rfl rfl (by decide) (by decide) (by have h9 := hq; rw [srN_s (g := (fun k => if rsB U W k = true then some (((k / 2 * 10 + k % 2 : Nat) : Int)) else none)) (if_pos (by assumption))] at h9; rw [show (k / 2 : Nat) * 10 + (k % 2 : Nat) = (k / 2 * 10 + k % 2 : Nat) from rfl] at h9; exact h9)
    · rw [if_neg z2]
      refine K_if_eq (tgt := 26) (dt_at dtX1_firstResting 8 rfl) (by decide) (by first | assumption | exact ⟨by omega, by omega⟩) (fun c4 => ?_) (fun c4 => absurd c4 (by omega))
      refine K_iinc (ls' := [(1, vi ((k : Int) + 1)), (0, vr 117)]) (dt_at dtX1_firstResting 19 rfl) rfl (by decide) rfl ?_
      refine K_goto (tgt := 2) (dt_at dtX1_firstResting 20 rfl) (by decide) ?_
      exact K_pk [0, 1] rfl (ih (k + 1) (by omega) (by rw [← srN_n (g := (fun k => if rsB U W k = true then some (((k / 2 * 10 + k % 2 : Nat) : Int)) else none)) (z := -1) (d := d) (if_neg (by assumption))]; exact hq))
set_option maxHeartbeats 4000000 in
set_option maxRecDepth 100000 in
theorem sX1_firstResting {h : HP} {U W : Nat → Int} (hU : ∀ j : Nat, j < 4 → hA h 118 (j : Int) = U j ∧ hA h 119 (j : Int) = W j) (hb : ∀ j : Nat, j < 4 → i32 (U j) ∧ i32 (W j)) : SpecK mX1_firstResting [vr 117] h (fun o h' => o = .inl (some (vi (srN (fun k => if rsB U W k = true then some (((k / 2 * 10 + k % 2 : Nat) : Int)) else none) (-1) 0 4))) ∧ h' = h) := by
  refine Spec_of (by decide +kernel) (Nat.le_of_ble_eq_true rfl) ?_
  refine K_iconst (dt_at dtX1_firstResting 0 rfl) ?_
  refine K_istore_n (ls' := [(1, vi 0), (0, vr 117)]) (dt_at dtX1_firstResting 1 rfl) rfl (by decide) rfl ?_
  exact K_pk [0, 1] rfl (lp_X1_firstResting hU hb 4 0 (by omega) ⟨rfl, rfl⟩)
def mX11_game : MI := (yX11_game, cX11_game, 4, (some .int), rmK 8 4)
def tX11_game : List (Nat × Instr × Nat) := [(0, .aload_n 0, 1), (1, .iload_n 1, 1), (2, .invokevirtual 184, 3), (5, .aload_n 0, 1), (6, .iload_n 2, 1), (7, .invokevirtual 184, 3), (10, .iload_n 3, 1), (11, .iconst 1, 1), (12, .invokestatic 133, 3), (15, .iload_n 1, 1), (16, .iload_n 2, 1), (17, .if_icmp .ne 14, 3), (20, .new 368, 3), (23, .dup, 1), (24, .ldc_w 370, 3), (27, .invokespecial 372, 3), (30, .athrow, 1), (31, .aload_n 0, 1), (32, .getfield 39, 3), (35, .iload_n 1, 1), (36, .aload_n 0, 1), (37, .getfield 20, 3), (40, .getfield 140, 3), (43, .invokevirtual 208, 3), (46, .ifCond .eq 21, 3), (49, .aload_n 0, 1), (50, .getfield 39, 3), (53, .iload_n 2, 1), (54, .aload_n 0, 1), (55, .getfield 20, 3), (58, .getfield 140, 3), (61, .invokevirtual 208, 3), (64, .ifCond .ne 5, 3), (67, .iconst (-1), 1), (68, .ireturn, 1), (69, .aload_n 0, 1), (70, .getfield 92, 3), (73, .aload_n 0, 1), (74, .getfield 20, 3), (77, .aload_n 0, 1), (78, .getfield 39, 3), (81, .aload_n 0, 1), (82, .getfield 69, 3), (85, .iload_n 1, 1), (86, .iload_n 2, 1), (87, .invokevirtual 375, 3), (90, .iload_n 3, 1), (91, .ifCond .ne 13, 3), (94, .aload_n 0, 1), (95, .getfield 92, 3), (98, .invokevirtual 379, 3), (101, .goto 10, 3), (104, .aload_n 0, 1), (105, .getfield 92, 3), (108, .invokevirtual 382, 3), (111, .ireturn, 1)]
theorem dtX11_game : tX11_game.all (fun q => decide (decode cX11_game q.1 = .ok (q.2.1, q.2.2))) = true := by decide +kernel
theorem npX11_game : (parseMethodDescriptor (mY mX11_game).desc).map (fun d => d.parameters.length) = some 3 := by decide +kernel
theorem vX11_game : mV mX11_game := ⟨wI_X11_game, wS_X11_game, wN_X11, wC_X11_game, by decide +kernel, by decide +kernel⟩
set_option maxHeartbeats 4000000 in
set_option maxRecDepth 100000 in
theorem sX11_game_x1 {h : HP} {t : Nat} {S : HS} {B : Int} {f : Int → Int} {p : Int} {q : Int} {w : Int} (c : CQ h t S B f) (hp : i32 p) (hq : i32 q) (hw : i32 w) (kn : ¬ (0 ≤ p ∧ p < sNp S)) : SpecK mX11_game [vr 30, vi p, vi q, vi w] h (fun o h' => o = .inr eNS ∧ FS h h') := by
  refine Spec_of (by decide +kernel) (Nat.le_of_ble_eq_true rfl) ?_
  have ht := c.1
  have hH := TTt ht
  have hB := c.2.2.2.1
  have hNt := hB.1
  have hNp := hB.2.1
  have hT := c.2.2.2.2.2.1
  have hC := c.2.2.2.2.2.2.1
  have h99 := c.2.2.2.2.2.2.2.1
  have G := c.2.2.2.2.2.2.2.2
  have hf0 := hT.2.2.2.1
  refine K_aload_n (dt_at dtX11_game 0 rfl) rfl rfl ?_
  refine K_iload_n (dt_at dtX11_game 1 rfl) rfl rfl ?_
  exact K_callV (M' := mX11_needPerson) (a := 30) (ci := 11) (As := [vi p]) (st := []) (dt_at dtX11_game 2 rfl) (sX11_needPerson_no hH c.2.1 c.2.2.1.2.1.2 hNp (by assumption) (by omega)) (by decide) rfl wL_X11_184 vX11_needPerson rfl npX11_needPerson (by decide) (by decide) (Nat.le_of_ble_eq_true rfl) (by decide) (by decide) GK_E (fun v9 h9 hq => by cases hq.1) (fun E h9 hq => by obtain ⟨e9, e8⟩ := hq; cases e9; rw [e8]; exact KX_out (by decide) (by decide) ⟨rfl, FS_rf G⟩)
set_option maxHeartbeats 4000000 in
set_option maxRecDepth 100000 in
theorem sX11_game_x2 {h : HP} {t : Nat} {S : HS} {B : Int} {f : Int → Int} {p : Int} {q : Int} {w : Int} (c : CQ h t S B f) (hp : i32 p) (hq : i32 q) (hw : i32 w) (k0 : 0 ≤ p ∧ p < sNp S) (kn : ¬ (0 ≤ q ∧ q < sNp S)) : SpecK mX11_game [vr 30, vi p, vi q, vi w] h (fun o h' => o = .inr eNS ∧ FS h h') := by
  refine Spec_of (by decide +kernel) (Nat.le_of_ble_eq_true rfl) ?_
  have ht := c.1
  have hH := TTt ht
  have hB := c.2.2.2.1
  have hNt := hB.1
  have hNp := hB.2.1
  have hT := c.2.2.2.2.2.1
  have hC := c.2.2.2.2.2.2.1
  have h99 := c.2.2.2.2.2.2.2.1
  have G := c.2.2.2.2.2.2.2.2
  have hf0 := hT.2.2.2.1
  refine K_aload_n (dt_at dtX11_game 0 rfl) rfl rfl ?_
  refine K_iload_n (dt_at dtX11_game 1 rfl) rfl rfl ?_
  refine K_callV (M' := mX11_needPerson) (a := 30) (ci := 11) (As := [vi p]) (st := []) (dt_at dtX11_game 2 rfl) (sX11_needPerson hH c.2.1 c.2.2.1.2.1.2 hNp (by first | assumption | exact ⟨by omega, by omega⟩) (by omega)) (by decide) rfl wL_X11_184 vX11_needPerson rfl npX11_needPerson (by decide) (by decide) (Nat.le_of_ble_eq_true rfl) (by decide) (by decide) GK_E (fun v9 h9 hq => ?_) (fun E h9 hq => by cases hq.1)
  obtain ⟨e9, e8⟩ := hq
  cases e9
  rw [e8]
  show K mX11_game _ _ 1 6 5 [(0, vr 30), (1, vi p), (2, vi q), (3, vi w)] [] h
  refine K_aload_n (dt_at dtX11_game 3 rfl) rfl rfl ?_
  refine K_iload_n (dt_at dtX11_game 4 rfl) rfl rfl ?_
  exact K_callV (M' := mX11_needPerson) (a := 30) (ci := 11) (As := [vi q]) (st := []) (dt_at dtX11_game 5 rfl) (sX11_needPerson_no hH c.2.1 c.2.2.1.2.1.2 hNp (by assumption) (by omega)) (by decide) rfl wL_X11_184 vX11_needPerson rfl npX11_needPerson (by decide) (by decide) (Nat.le_of_ble_eq_true rfl) (by decide) (by decide) GK_E (fun v9 h9 hq => by cases hq.1) (fun E h9 hq => by obtain ⟨e9, e8⟩ := hq; cases e9; rw [e8]; exact KX_out (by decide) (by decide) ⟨rfl, FS_rf G⟩)
set_option maxHeartbeats 4000000 in
set_option maxRecDepth 100000 in
theorem sX11_game_x3 {h : HP} {t : Nat} {S : HS} {B : Int} {f : Int → Int} {p : Int} {q : Int} {w : Int} (c : CQ h t S B f) (hp : i32 p) (hq : i32 q) (hw : i32 w) (k0 : 0 ≤ p ∧ p < sNp S) (k1 : 0 ≤ q ∧ q < sNp S) (kn : ¬ (0 ≤ w ∧ w ≤ 1)) : SpecK mX11_game [vr 30, vi p, vi q, vi w] h (fun o h' => o = .inr eNS ∧ FS h h') := by
  refine Spec_of (by decide +kernel) (Nat.le_of_ble_eq_true rfl) ?_
  have ht := c.1
  have hH := TTt ht
  have hB := c.2.2.2.1
  have hNt := hB.1
  have hNp := hB.2.1
  have hT := c.2.2.2.2.2.1
  have hC := c.2.2.2.2.2.2.1
  have h99 := c.2.2.2.2.2.2.2.1
  have G := c.2.2.2.2.2.2.2.2
  have hf0 := hT.2.2.2.1
  refine K_aload_n (dt_at dtX11_game 0 rfl) rfl rfl ?_
  refine K_iload_n (dt_at dtX11_game 1 rfl) rfl rfl ?_
  refine K_callV (M' := mX11_needPerson) (a := 30) (ci := 11) (As := [vi p]) (st := []) (dt_at dtX11_game 2 rfl) (sX11_needPerson hH c.2.1 c.2.2.1.2.1.2 hNp (by first | assumption | exact ⟨by omega, by omega⟩) (by omega)) (by decide) rfl wL_X11_184 vX11_needPerson rfl npX11_needPerson (by decide) (by decide) (Nat.le_of_ble_eq_true rfl) (by decide) (by decide) GK_E (fun v9 h9 hq => ?_) (fun E h9 hq => by cases hq.1)
  obtain ⟨e9, e8⟩ := hq
  cases e9
  rw [e8]
  show K mX11_game _ _ 1 6 5 [(0, vr 30), (1, vi p), (2, vi q), (3, vi w)] [] h
  refine K_aload_n (dt_at dtX11_game 3 rfl) rfl rfl ?_
  refine K_iload_n (dt_at dtX11_game 4 rfl) rfl rfl ?_
  refine K_callV (M' := mX11_needPerson) (a := 30) (ci := 11) (As := [vi q]) (st := []) (dt_at dtX11_game 5 rfl) (sX11_needPerson hH c.2.1 c.2.2.1.2.1.2 hNp (by first | assumption | exact ⟨by omega, by omega⟩) (by omega)) (by decide) rfl wL_X11_184 vX11_needPerson rfl npX11_needPerson (by decide) (by decide) (Nat.le_of_ble_eq_true rfl) (by decide) (by decide) GK_E (fun v9 h9 hq => ?_) (fun E h9 hq => by cases hq.1)
  obtain ⟨e9, e8⟩ := hq
  cases e9
  rw [e8]
  show K mX11_game _ _ 2 12 10 [(0, vr 30), (1, vi p), (2, vi q), (3, vi w)] [] h
  refine K_iload_n (dt_at dtX11_game 6 rfl) rfl rfl ?_
  refine K_iconst (dt_at dtX11_game 7 rfl) ?_
  exact K_callS (M' := mX11_needWhat) (As := [vi w, vi 1]) (st := []) (dt_at dtX11_game 8 rfl) (sX11_needWhat_no (by assumption) ⟨by decide, by decide⟩ (by omega)) wL_X11_133 vX11_needWhat rfl npX11_needWhat (by decide) (by decide) (Nat.le_of_ble_eq_true rfl) (by decide) (by decide) GK_E (fun v9 h9 hq => by cases hq.1) (fun E h9 hq => by obtain ⟨e9, e8⟩ := hq; cases e9; rw [e8]; exact KX_out (by decide) (by decide) ⟨rfl, FS_rf G⟩)
set_option maxHeartbeats 4000000 in
set_option maxRecDepth 100000 in
theorem sX11_game_x4 {h : HP} {t : Nat} {S : HS} {B : Int} {f : Int → Int} {p q w : Int} (c : CQ h t S B f) (hp : 0 ≤ p ∧ p < sNp S) (hqt : 0 ≤ q ∧ q < sNp S) (hw : 0 ≤ w ∧ w ≤ 1) (pq : p = q) : SpecK mX11_game [vr 30, vi p, vi q, vi w] h (fun o h' => o = .inr eIA ∧ FS h h') := by
  refine Spec_of (by decide +kernel) (Nat.le_of_ble_eq_true rfl) ?_
  have ht := c.1
  have hH := TTt ht
  have hB := c.2.2.2.1
  have hNt := hB.1
  have hNp := hB.2.1
  have hT := c.2.2.2.2.2.1
  have hC := c.2.2.2.2.2.2.1
  have h99 := c.2.2.2.2.2.2.2.1
  have G := c.2.2.2.2.2.2.2.2
  have hf0 := hT.2.2.2.1
  refine K_aload_n (dt_at dtX11_game 0 rfl) rfl rfl ?_
  refine K_iload_n (dt_at dtX11_game 1 rfl) rfl rfl ?_
  refine K_callV (M' := mX11_needPerson) (a := 30) (ci := 11) (As := [vi p]) (st := []) (dt_at dtX11_game 2 rfl) (sX11_needPerson hH c.2.1 c.2.2.1.2.1.2 hNp (by first | assumption | exact ⟨by omega, by omega⟩) (by omega)) (by decide) rfl wL_X11_184 vX11_needPerson rfl npX11_needPerson (by decide) (by decide) (Nat.le_of_ble_eq_true rfl) (by decide) (by decide) GK_E (fun v9 h9 hq => ?_) (fun E h9 hq => by cases hq.1)
  obtain ⟨e9, e8⟩ := hq
  cases e9
  rw [e8]
  show K mX11_game _ _ 1 6 5 [(0, vr 30), (1, vi p), (2, vi q), (3, vi w)] [] h
  refine K_aload_n (dt_at dtX11_game 3 rfl) rfl rfl ?_
  refine K_iload_n (dt_at dtX11_game 4 rfl) rfl rfl ?_
  refine K_callV (M' := mX11_needPerson) (a := 30) (ci := 11) (As := [vi q]) (st := []) (dt_at dtX11_game 5 rfl) (sX11_needPerson hH c.2.1 c.2.2.1.2.1.2 hNp (by first | assumption | exact ⟨by omega, by omega⟩) (by omega)) (by decide) rfl wL_X11_184 vX11_needPerson rfl npX11_needPerson (by decide) (by decide) (Nat.le_of_ble_eq_true rfl) (by decide) (by decide) GK_E (fun v9 h9 hq => ?_) (fun E h9 hq => by cases hq.1)
  obtain ⟨e9, e8⟩ := hq
  cases e9
  rw [e8]
  show K mX11_game _ _ 2 12 10 [(0, vr 30), (1, vi p), (2, vi q), (3, vi w)] [] h
  refine K_iload_n (dt_at dtX11_game 6 rfl) rfl rfl ?_
  refine K_iconst (dt_at dtX11_game 7 rfl) ?_
  refine K_callS (M' := mX11_needWhat) (As := [vi w, vi 1]) (st := []) (dt_at dtX11_game 8 rfl) (sX11_needWhat (by first | assumption | exact ⟨by omega, by omega⟩) ⟨by decide, by decide⟩ (by omega)) wL_X11_133 vX11_needWhat rfl npX11_needWhat (by decide) (by decide) (Nat.le_of_ble_eq_true rfl) (by decide) (by decide) GK_E (fun v9 h9 hq => ?_) (fun E h9 hq => by cases hq.1)
  obtain ⟨e9, e8⟩ := hq
  cases e9
  rw [e8]
  show K mX11_game _ _ 3 18 15 [(0, vr 30), (1, vi p), (2, vi q), (3, vi w)] [] h
  refine K_iload_n (dt_at dtX11_game 9 rfl) rfl rfl ?_
  refine K_iload_n (dt_at dtX11_game 10 rfl) rfl rfl ?_
  refine K_icmp_ne (tgt := 31) (dt_at dtX11_game 11 rfl) (by decide) (by first | assumption | exact ⟨by omega, by omega⟩) (by first | assumption | exact ⟨by omega, by omega⟩) (fun c1 => absurd c1 (by omega)) (fun c1 => ?_)
  exact K_throwI (si := 20) (dt_at dtX11_game 12 rfl) (dt_at dtX11_game 13 rfl) (dt_at dtX11_game 14 rfl) (dt_at dtX11_game 15 rfl) (dt_at dtX11_game 16 rfl) wk_IA wi_IA rfl at_IA ok_IA (by decide) (Nat.le_of_ble_eq_true rfl) (by decide) (by decide) (by decide) (by decide) ⟨rfl, FS_rf G⟩
set_option maxHeartbeats 4000000 in
set_option maxRecDepth 100000 in
theorem sX11_game_no {h : HP} {t : Nat} {S : HS} {B : Int} {f : Int → Int} {p q w : Int} (c : CQ h t S B f) (hp : 0 ≤ p ∧ p < sNp S) (hqt : 0 ≤ q ∧ q < sNp S) (hw : 0 ≤ w ∧ w ≤ 1) (pq : p ≠ q) (no : (bitN (fun j => decide (f (22 + (j : Int)) = p)) (sNp S)) = 0 ∨ (bitN (fun j => decide (f (22 + (j : Int)) = q)) (sNp S)) = 0) : SpecK mX11_game [vr 30, vi p, vi q, vi w] h (fun o h' => o = .inl (some (vi (-1))) ∧ FS h h') := by
  refine Spec_of (by decide +kernel) (Nat.le_of_ble_eq_true rfl) ?_
  have ht := c.1
  have hH := TTt ht
  have hB := c.2.2.2.1
  have hNt := hB.1
  have hNp := hB.2.1
  have hT := c.2.2.2.2.2.1
  have hC := c.2.2.2.2.2.2.1
  have h99 := c.2.2.2.2.2.2.2.1
  have G := c.2.2.2.2.2.2.2.2
  have hf0 := hT.2.2.2.1
  refine K_aload_n (dt_at dtX11_game 0 rfl) rfl rfl ?_
  refine K_iload_n (dt_at dtX11_game 1 rfl) rfl rfl ?_
  refine K_callV (M' := mX11_needPerson) (a := 30) (ci := 11) (As := [vi p]) (st := []) (dt_at dtX11_game 2 rfl) (sX11_needPerson hH c.2.1 c.2.2.1.2.1.2 hNp (by first | assumption | exact ⟨by omega, by omega⟩) (by omega)) (by decide) rfl wL_X11_184 vX11_needPerson rfl npX11_needPerson (by decide) (by decide) (Nat.le_of_ble_eq_true rfl) (by decide) (by decide) GK_E (fun v9 h9 hq => ?_) (fun E h9 hq => by cases hq.1)
  obtain ⟨e9, e8⟩ := hq
  cases e9
  rw [e8]
  show K mX11_game _ _ 1 6 5 [(0, vr 30), (1, vi p), (2, vi q), (3, vi w)] [] h
  refine K_aload_n (dt_at dtX11_game 3 rfl) rfl rfl ?_
  refine K_iload_n (dt_at dtX11_game 4 rfl) rfl rfl ?_
  refine K_callV (M' := mX11_needPerson) (a := 30) (ci := 11) (As := [vi q]) (st := []) (dt_at dtX11_game 5 rfl) (sX11_needPerson hH c.2.1 c.2.2.1.2.1.2 hNp (by first | assumption | exact ⟨by omega, by omega⟩) (by omega)) (by decide) rfl wL_X11_184 vX11_needPerson rfl npX11_needPerson (by decide) (by decide) (Nat.le_of_ble_eq_true rfl) (by decide) (by decide) GK_E (fun v9 h9 hq => ?_) (fun E h9 hq => by cases hq.1)
  obtain ⟨e9, e8⟩ := hq
  cases e9
  rw [e8]
  show K mX11_game _ _ 2 12 10 [(0, vr 30), (1, vi p), (2, vi q), (3, vi w)] [] h
  refine K_iload_n (dt_at dtX11_game 6 rfl) rfl rfl ?_
  refine K_iconst (dt_at dtX11_game 7 rfl) ?_
  refine K_callS (M' := mX11_needWhat) (As := [vi w, vi 1]) (st := []) (dt_at dtX11_game 8 rfl) (sX11_needWhat (by first | assumption | exact ⟨by omega, by omega⟩) ⟨by decide, by decide⟩ (by omega)) wL_X11_133 vX11_needWhat rfl npX11_needWhat (by decide) (by decide) (Nat.le_of_ble_eq_true rfl) (by decide) (by decide) GK_E (fun v9 h9 hq => ?_) (fun E h9 hq => by cases hq.1)
  obtain ⟨e9, e8⟩ := hq
  cases e9
  rw [e8]
  show K mX11_game _ _ 3 18 15 [(0, vr 30), (1, vi p), (2, vi q), (3, vi w)] [] h
  refine K_iload_n (dt_at dtX11_game 9 rfl) rfl rfl ?_
  refine K_iload_n (dt_at dtX11_game 10 rfl) rfl rfl ?_
  refine K_icmp_ne (tgt := 31) (dt_at dtX11_game 11 rfl) (by decide) (by first | assumption | exact ⟨by omega, by omega⟩) (by first | assumption | exact ⟨by omega, by omega⟩) (fun c1 => ?_) (fun c1 => absurd c1 (by omega))
  refine K_aload_n (dt_at dtX11_game 17 rfl) rfl rfl ?_
  refine K_get (a := 30) (ci := 11) (k := 5) (v := vr 66) (dt_at dtX11_game 18 rfl) (by decide) rfl (by decide) wF_X11_39 rfl ?_
  refine K_iload_n (dt_at dtX11_game 19 rfl) rfl rfl ?_
  refine K_aload_n (dt_at dtX11_game 20 rfl) rfl rfl ?_
  refine K_get (a := 30) (ci := 11) (k := 2) (v := vr t) (dt_at dtX11_game 21 rfl) (by decide) rfl (by decide) wF_X11_20 (by show vr (hR h 30 2) = vr t; rw [c.2.1]) ?_
  refine K_get (a := t) (ci := 3) (k := 11) (v := vi (sNp S : Int)) (dt_at dtX11_game 22 rfl) hH rfl (by decide) wF_X11_140 (by show vi (hI h t 11) = vi (sNp S : Int); rw [c.2.2.1.2.1.2]) ?_
  refine K_callV (M' := mX8_packsFor) (a := 66) (ci := 8) (As := [vi p, vi (sNp S : Int)]) (st := []) (dt_at dtX11_game 23 rfl) (sX8_packsFor (n := sNp S) (a := 66) (by decide) (by rw [show hA h (66 + 1) = f from c.2.2.2.2.1]; exact hT.1) hNp (by first | assumption | exact ⟨by omega, by omega⟩)) (show TT 66 = (0, 8) from rfl) rfl wL_X11_208 vX8_packsFor rfl npX8_packsFor (by decide) (by decide) (Nat.le_of_ble_eq_true rfl) (by decide) (by decide) GK_E (fun v9 h9 hq => ?_) (fun E h9 hq => by cases hq.1)
  obtain ⟨e9, e8⟩ := hq
  cases e9
  rw [e8]
  show K mX11_game _ _ 3 18 46 [(0, vr 30), (1, vi p), (2, vi q), (3, vi w)] [vi (bitN (fun j => decide ((hA h (66 + 1) (22 + (j : Int))) = p)) (sNp S))] h
  rw [show hA h (66 + 1) = f from c.2.2.2.2.1]
  refine K_if_eq (tgt := 67) (dt_at dtX11_game 24 rfl) (by decide) (bitN32 _ _) (fun c2 => ?_) (fun c2 => ?_)
  · refine K_iconst (dt_at dtX11_game 33 rfl) ?_
    exact K_iret (dt_at dtX11_game 34 rfl) rfl rfl (by decide) (by decide) ⟨rfl, FS_rf G⟩
  · refine K_aload_n (dt_at dtX11_game 25 rfl) rfl rfl ?_
    refine K_get (a := 30) (ci := 11) (k := 5) (v := vr 66) (dt_at dtX11_game 26 rfl) (by decide) rfl (by decide) wF_X11_39 rfl ?_
    refine K_iload_n (dt_at dtX11_game 27 rfl) rfl rfl ?_
    refine K_aload_n (dt_at dtX11_game 28 rfl) rfl rfl ?_
    refine K_get (a := 30) (ci := 11) (k := 2) (v := vr t) (dt_at dtX11_game 29 rfl) (by decide) rfl (by decide) wF_X11_20 (by show vr (hR h 30 2) = vr t; rw [c.2.1]) ?_
    refine K_get (a := t) (ci := 3) (k := 11) (v := vi (sNp S : Int)) (dt_at dtX11_game 30 rfl) hH rfl (by decide) wF_X11_140 (by show vi (hI h t 11) = vi (sNp S : Int); rw [c.2.2.1.2.1.2]) ?_
    refine K_callV (M' := mX8_packsFor) (a := 66) (ci := 8) (As := [vi q, vi (sNp S : Int)]) (st := []) (dt_at dtX11_game 31 rfl) (sX8_packsFor (n := sNp S) (a := 66) (by decide) (by rw [show hA h (66 + 1) = f from c.2.2.2.2.1]; exact hT.1) hNp (by first | assumption | exact ⟨by omega, by omega⟩)) (show TT 66 = (0, 8) from rfl) rfl wL_X11_208 vX8_packsFor rfl npX8_packsFor (by decide) (by decide) (Nat.le_of_ble_eq_true rfl) (by decide) (by decide) GK_E (fun v9 h9 hq => ?_) (fun E h9 hq => by cases hq.1)
    obtain ⟨e9, e8⟩ := hq
    cases e9
    rw [e8]
    show K mX11_game _ _ 3 18 64 [(0, vr 30), (1, vi p), (2, vi q), (3, vi w)] [vi (bitN (fun j => decide ((hA h (66 + 1) (22 + (j : Int))) = q)) (sNp S))] h
    rw [show hA h (66 + 1) = f from c.2.2.2.2.1]
    refine K_if_ne (tgt := 69) (dt_at dtX11_game 32 rfl) (by decide) (bitN32 _ _) (fun c3 => ?_) (fun c3 => ?_)
    · rcases no with z | z <;> exact absurd z (by assumption)
    · refine K_iconst (dt_at dtX11_game 33 rfl) ?_
      exact K_iret (dt_at dtX11_game 34 rfl) rfl rfl (by decide) (by decide) ⟨rfl, FS_rf G⟩
set_option maxHeartbeats 4000000 in
set_option maxRecDepth 100000 in
theorem sX11_game_0 {h : HP} {t : Nat} {S : HS} {B : Int} {f : Int → Int} {p q : Int} (c : CQ h t S B f) (hp : 0 ≤ p ∧ p < sNp S) (hqt : 0 ≤ q ∧ q < sNp S) (pq : p ≠ q) (ok1 : (bitN (fun j => decide (f (22 + (j : Int)) = p)) (sNp S)) ≠ 0) (ok2 : (bitN (fun j => decide (f (22 + (j : Int)) = q)) (sNp S)) ≠ 0) : SpecK mX11_game [vr 30, vi p, vi q, vi 0] h (fun o h' => o = .inl (some (vi (cntN (rsB (gm1 S f p q) (gm2 S f p q)) 4))) ∧ FS h h') := by
  refine Spec_of (by decide +kernel) (Nat.le_of_ble_eq_true rfl) ?_
  have ht := c.1
  have hH := TTt ht
  have hB := c.2.2.2.1
  have hNt := hB.1
  have hNp := hB.2.1
  have hT := c.2.2.2.2.2.1
  have hC := c.2.2.2.2.2.2.1
  have h99 := c.2.2.2.2.2.2.2.1
  have G := c.2.2.2.2.2.2.2.2
  have hf0 := hT.2.2.2.1
  refine K_aload_n (dt_at dtX11_game 0 rfl) rfl rfl ?_
  refine K_iload_n (dt_at dtX11_game 1 rfl) rfl rfl ?_
  refine K_callV (M' := mX11_needPerson) (a := 30) (ci := 11) (As := [vi p]) (st := []) (dt_at dtX11_game 2 rfl) (sX11_needPerson hH c.2.1 c.2.2.1.2.1.2 hNp (by first | assumption | exact ⟨by omega, by omega⟩) (by omega)) (by decide) rfl wL_X11_184 vX11_needPerson rfl npX11_needPerson (by decide) (by decide) (Nat.le_of_ble_eq_true rfl) (by decide) (by decide) GK_E (fun v9 h9 hq => ?_) (fun E h9 hq => by cases hq.1)
  obtain ⟨e9, e8⟩ := hq
  cases e9
  rw [e8]
  show K mX11_game _ _ 1 6 5 [(0, vr 30), (1, vi p), (2, vi q), (3, vi 0)] [] h
  refine K_aload_n (dt_at dtX11_game 3 rfl) rfl rfl ?_
  refine K_iload_n (dt_at dtX11_game 4 rfl) rfl rfl ?_
  refine K_callV (M' := mX11_needPerson) (a := 30) (ci := 11) (As := [vi q]) (st := []) (dt_at dtX11_game 5 rfl) (sX11_needPerson hH c.2.1 c.2.2.1.2.1.2 hNp (by first | assumption | exact ⟨by omega, by omega⟩) (by omega)) (by decide) rfl wL_X11_184 vX11_needPerson rfl npX11_needPerson (by decide) (by decide) (Nat.le_of_ble_eq_true rfl) (by decide) (by decide) GK_E (fun v9 h9 hq => ?_) (fun E h9 hq => by cases hq.1)
  obtain ⟨e9, e8⟩ := hq
  cases e9
  rw [e8]
  show K mX11_game _ _ 2 12 10 [(0, vr 30), (1, vi p), (2, vi q), (3, vi 0)] [] h
  refine K_iload_n (dt_at dtX11_game 6 rfl) rfl rfl ?_
  refine K_iconst (dt_at dtX11_game 7 rfl) ?_
  refine K_callS (M' := mX11_needWhat) (As := [vi 0, vi 1]) (st := []) (dt_at dtX11_game 8 rfl) (sX11_needWhat (by first | assumption | exact ⟨by omega, by omega⟩) ⟨by decide, by decide⟩ (by omega)) wL_X11_133 vX11_needWhat rfl npX11_needWhat (by decide) (by decide) (Nat.le_of_ble_eq_true rfl) (by decide) (by decide) GK_E (fun v9 h9 hq => ?_) (fun E h9 hq => by cases hq.1)
  obtain ⟨e9, e8⟩ := hq
  cases e9
  rw [e8]
  show K mX11_game _ _ 3 18 15 [(0, vr 30), (1, vi p), (2, vi q), (3, vi 0)] [] h
  refine K_iload_n (dt_at dtX11_game 9 rfl) rfl rfl ?_
  refine K_iload_n (dt_at dtX11_game 10 rfl) rfl rfl ?_
  refine K_icmp_ne (tgt := 31) (dt_at dtX11_game 11 rfl) (by decide) (by first | assumption | exact ⟨by omega, by omega⟩) (by first | assumption | exact ⟨by omega, by omega⟩) (fun c1 => ?_) (fun c1 => absurd c1 (by omega))
  refine K_aload_n (dt_at dtX11_game 17 rfl) rfl rfl ?_
  refine K_get (a := 30) (ci := 11) (k := 5) (v := vr 66) (dt_at dtX11_game 18 rfl) (by decide) rfl (by decide) wF_X11_39 rfl ?_
  refine K_iload_n (dt_at dtX11_game 19 rfl) rfl rfl ?_
  refine K_aload_n (dt_at dtX11_game 20 rfl) rfl rfl ?_
  refine K_get (a := 30) (ci := 11) (k := 2) (v := vr t) (dt_at dtX11_game 21 rfl) (by decide) rfl (by decide) wF_X11_20 (by show vr (hR h 30 2) = vr t; rw [c.2.1]) ?_
  refine K_get (a := t) (ci := 3) (k := 11) (v := vi (sNp S : Int)) (dt_at dtX11_game 22 rfl) hH rfl (by decide) wF_X11_140 (by show vi (hI h t 11) = vi (sNp S : Int); rw [c.2.2.1.2.1.2]) ?_
  refine K_callV (M' := mX8_packsFor) (a := 66) (ci := 8) (As := [vi p, vi (sNp S : Int)]) (st := []) (dt_at dtX11_game 23 rfl) (sX8_packsFor (n := sNp S) (a := 66) (by decide) (by rw [show hA h (66 + 1) = f from c.2.2.2.2.1]; exact hT.1) hNp (by first | assumption | exact ⟨by omega, by omega⟩)) (show TT 66 = (0, 8) from rfl) rfl wL_X11_208 vX8_packsFor rfl npX8_packsFor (by decide) (by decide) (Nat.le_of_ble_eq_true rfl) (by decide) (by decide) GK_E (fun v9 h9 hq => ?_) (fun E h9 hq => by cases hq.1)
  obtain ⟨e9, e8⟩ := hq
  cases e9
  rw [e8]
  show K mX11_game _ _ 3 18 46 [(0, vr 30), (1, vi p), (2, vi q), (3, vi 0)] [vi (bitN (fun j => decide ((hA h (66 + 1) (22 + (j : Int))) = p)) (sNp S))] h
  rw [show hA h (66 + 1) = f from c.2.2.2.2.1]
  refine K_if_eq (tgt := 67) (dt_at dtX11_game 24 rfl) (by decide) (bitN32 _ _) (fun c2 => ?_) (fun c2 => ?_)
  · exact absurd (by assumption) (by assumption)
  · refine K_aload_n (dt_at dtX11_game 25 rfl) rfl rfl ?_
    refine K_get (a := 30) (ci := 11) (k := 5) (v := vr 66) (dt_at dtX11_game 26 rfl) (by decide) rfl (by decide) wF_X11_39 rfl ?_
    refine K_iload_n (dt_at dtX11_game 27 rfl) rfl rfl ?_
    refine K_aload_n (dt_at dtX11_game 28 rfl) rfl rfl ?_
    refine K_get (a := 30) (ci := 11) (k := 2) (v := vr t) (dt_at dtX11_game 29 rfl) (by decide) rfl (by decide) wF_X11_20 (by show vr (hR h 30 2) = vr t; rw [c.2.1]) ?_
    refine K_get (a := t) (ci := 3) (k := 11) (v := vi (sNp S : Int)) (dt_at dtX11_game 30 rfl) hH rfl (by decide) wF_X11_140 (by show vi (hI h t 11) = vi (sNp S : Int); rw [c.2.2.1.2.1.2]) ?_
    refine K_callV (M' := mX8_packsFor) (a := 66) (ci := 8) (As := [vi q, vi (sNp S : Int)]) (st := []) (dt_at dtX11_game 31 rfl) (sX8_packsFor (n := sNp S) (a := 66) (by decide) (by rw [show hA h (66 + 1) = f from c.2.2.2.2.1]; exact hT.1) hNp (by first | assumption | exact ⟨by omega, by omega⟩)) (show TT 66 = (0, 8) from rfl) rfl wL_X11_208 vX8_packsFor rfl npX8_packsFor (by decide) (by decide) (Nat.le_of_ble_eq_true rfl) (by decide) (by decide) GK_E (fun v9 h9 hq => ?_) (fun E h9 hq => by cases hq.1)
    obtain ⟨e9, e8⟩ := hq
    cases e9
    rw [e8]
    show K mX11_game _ _ 3 18 64 [(0, vr 30), (1, vi p), (2, vi q), (3, vi 0)] [vi (bitN (fun j => decide ((hA h (66 + 1) (22 + (j : Int))) = q)) (sNp S))] h
    rw [show hA h (66 + 1) = f from c.2.2.2.2.1]
    refine K_if_ne (tgt := 69) (dt_at dtX11_game 32 rfl) (by decide) (bitN32 _ _) (fun c3 => ?_) (fun c3 => ?_)
    · refine K_aload_n (dt_at dtX11_game 35 rfl) rfl rfl ?_
      refine K_get (a := 30) (ci := 11) (k := 14) (v := vr 117) (dt_at dtX11_game 36 rfl) (by decide) rfl (by decide) wF_X11_92 rfl ?_
      refine K_aload_n (dt_at dtX11_game 37 rfl) rfl rfl ?_
      refine K_get (a := 30) (ci := 11) (k := 2) (v := vr t) (dt_at dtX11_game 38 rfl) (by decide) rfl (by decide) wF_X11_20 (by show vr (hR h 30 2) = vr t; rw [c.2.1]) ?_
      refine K_aload_n (dt_at dtX11_game 39 rfl) rfl rfl ?_
      refine K_get (a := 30) (ci := 11) (k := 5) (v := vr 66) (dt_at dtX11_game 40 rfl) (by decide) rfl (by decide) wF_X11_39 rfl ?_
      refine K_aload_n (dt_at dtX11_game 41 rfl) rfl rfl ?_
      refine K_get (a := 30) (ci := 11) (k := 11) (v := vr 84) (dt_at dtX11_game 42 rfl) (by decide) rfl (by decide) wF_X11_69 rfl ?_
      refine K_iload_n (dt_at dtX11_game 43 rfl) rfl rfl ?_
      refine K_iload_n (dt_at dtX11_game 44 rfl) rfl rfl ?_
      refine K_callV (M' := mX1_play) (a := 117) (ci := 1) (As := [vr t, vr 66, vr 84, vi p, vi q]) (st := []) (dt_at dtX11_game 45 rfl) (sX1_play c hp hqt) (show TT 117 = (0, 1) from rfl) rfl wL_X11_375 vX1_play rfl npX1_play (by decide) (by decide) (Nat.le_of_ble_eq_true rfl) (by decide) (by decide) GK_E (fun v9 hc1 hq => ?_) (fun E h9 hq => by cases hq.1)
      have hqq2 := hq
      obtain ⟨e9q2, F9, A9⟩ := hqq2
      have B9 : ∀ j : Nat, j < 4 → i32 (gm1 S f p q j) ∧ i32 (gm2 S f p q j) := fun j hj => by obtain ⟨a1, a2, a3⟩ := crX_ok (S := S) (q := p) (n := sNp S) (x := j / 2) hT hC hNp hNp; obtain ⟨b1, b2, b3⟩ := crX_ok (S := S) (q := q) (n := sNp S) (x := j % 2) a1 a2 hNp hNp; have T4 := (dysF_ok hB b1 b2 5 (by rw [b3, a3]; omega)).1; have u1 := gnF_b (q := p) (x := j / 2) hB T4; have u2 := gnF_b (q := q) (x := j % 2) hB T4; exact ⟨⟨by have := u1.1; show _ ≤ gnF _ _ _ _; unfold gmR at *; omega, by have := u1.2; show gnF _ _ _ _ < _; unfold gmR at *; omega⟩, ⟨by have := u2.1; show _ ≤ gnF _ _ _ _; unfold gmR at *; omega, by have := u2.2; show gnF _ _ _ _ < _; unfold gmR at *; omega⟩⟩
      cases e9q2
      show K mX11_game _ _ 3 18 90 [(0, vr 30), (1, vi p), (2, vi q), (3, vi 0)] [] hc1
      refine K_iload_n (dt_at dtX11_game 46 rfl) rfl rfl ?_
      refine K_if_ne (tgt := 104) (dt_at dtX11_game 47 rfl) (by decide) (by first | assumption | exact ⟨by omega, by omega⟩) (fun c4 => absurd c4 (by omega)) (fun c4 => ?_)
      refine K_aload_n (dt_at dtX11_game 48 rfl) rfl rfl ?_
      refine K_get (a := 30) (ci := 11) (k := 14) (v := vr 117) (dt_at dtX11_game 49 rfl) (by decide) rfl (by decide) wF_X11_92 rfl ?_
      refine K_callV (M' := mX1_resting) (a := 117) (ci := 1) (As := []) (st := []) (dt_at dtX11_game 50 rfl) (sX1_resting A9 B9) (show TT 117 = (0, 1) from rfl) rfl wL_X11_379 vX1_resting rfl npX1_resting (by decide) (by decide) (Nat.le_of_ble_eq_true rfl) (by decide) (by decide) GK_E (fun v9 h9 hq => ?_) (fun E h9 hq => by cases hq.1)
      obtain ⟨e9, e8⟩ := hq
      cases e9
      rw [e8]
      show K mX11_game _ _ 3 18 101 [(0, vr 30), (1, vi p), (2, vi q), (3, vi 0)] [vi (cntN (rsB (gm1 S f p q) (gm2 S f p q)) 4)] hc1
      refine K_goto (tgt := 111) (dt_at dtX11_game 51 rfl) (by decide) ?_
      exact K_iret (dt_at dtX11_game 55 rfl) rfl rfl (by decide) (by decide) ⟨rfl, F9⟩
    · exact absurd (by assumption) (by assumption)
set_option maxHeartbeats 4000000 in
set_option maxRecDepth 100000 in
theorem sX11_game_1 {h : HP} {t : Nat} {S : HS} {B : Int} {f : Int → Int} {p q : Int} (c : CQ h t S B f) (hp : 0 ≤ p ∧ p < sNp S) (hqt : 0 ≤ q ∧ q < sNp S) (pq : p ≠ q) (ok1 : (bitN (fun j => decide (f (22 + (j : Int)) = p)) (sNp S)) ≠ 0) (ok2 : (bitN (fun j => decide (f (22 + (j : Int)) = q)) (sNp S)) ≠ 0) : SpecK mX11_game [vr 30, vi p, vi q, vi 1] h (fun o h' => o = .inl (some (vi (srN (fun k => if rsB (gm1 S f p q) (gm2 S f p q) k = true then some (((k / 2 * 10 + k % 2 : Nat) : Int)) else none) (-1) 0 4))) ∧ FS h h') := by
  refine Spec_of (by decide +kernel) (Nat.le_of_ble_eq_true rfl) ?_
  have ht := c.1
  have hH := TTt ht
  have hB := c.2.2.2.1
  have hNt := hB.1
  have hNp := hB.2.1
  have hT := c.2.2.2.2.2.1
  have hC := c.2.2.2.2.2.2.1
  have h99 := c.2.2.2.2.2.2.2.1
  have G := c.2.2.2.2.2.2.2.2
  have hf0 := hT.2.2.2.1
  refine K_aload_n (dt_at dtX11_game 0 rfl) rfl rfl ?_
  refine K_iload_n (dt_at dtX11_game 1 rfl) rfl rfl ?_
  refine K_callV (M' := mX11_needPerson) (a := 30) (ci := 11) (As := [vi p]) (st := []) (dt_at dtX11_game 2 rfl) (sX11_needPerson hH c.2.1 c.2.2.1.2.1.2 hNp (by first | assumption | exact ⟨by omega, by omega⟩) (by omega)) (by decide) rfl wL_X11_184 vX11_needPerson rfl npX11_needPerson (by decide) (by decide) (Nat.le_of_ble_eq_true rfl) (by decide) (by decide) GK_E (fun v9 h9 hq => ?_) (fun E h9 hq => by cases hq.1)
  obtain ⟨e9, e8⟩ := hq
  cases e9
  rw [e8]
  show K mX11_game _ _ 1 6 5 [(0, vr 30), (1, vi p), (2, vi q), (3, vi 1)] [] h
  refine K_aload_n (dt_at dtX11_game 3 rfl) rfl rfl ?_
  refine K_iload_n (dt_at dtX11_game 4 rfl) rfl rfl ?_
  refine K_callV (M' := mX11_needPerson) (a := 30) (ci := 11) (As := [vi q]) (st := []) (dt_at dtX11_game 5 rfl) (sX11_needPerson hH c.2.1 c.2.2.1.2.1.2 hNp (by first | assumption | exact ⟨by omega, by omega⟩) (by omega)) (by decide) rfl wL_X11_184 vX11_needPerson rfl npX11_needPerson (by decide) (by decide) (Nat.le_of_ble_eq_true rfl) (by decide) (by decide) GK_E (fun v9 h9 hq => ?_) (fun E h9 hq => by cases hq.1)
  obtain ⟨e9, e8⟩ := hq
  cases e9
  rw [e8]
  show K mX11_game _ _ 2 12 10 [(0, vr 30), (1, vi p), (2, vi q), (3, vi 1)] [] h
  refine K_iload_n (dt_at dtX11_game 6 rfl) rfl rfl ?_
  refine K_iconst (dt_at dtX11_game 7 rfl) ?_
  refine K_callS (M' := mX11_needWhat) (As := [vi 1, vi 1]) (st := []) (dt_at dtX11_game 8 rfl) (sX11_needWhat (by first | assumption | exact ⟨by omega, by omega⟩) ⟨by decide, by decide⟩ (by omega)) wL_X11_133 vX11_needWhat rfl npX11_needWhat (by decide) (by decide) (Nat.le_of_ble_eq_true rfl) (by decide) (by decide) GK_E (fun v9 h9 hq => ?_) (fun E h9 hq => by cases hq.1)
  obtain ⟨e9, e8⟩ := hq
  cases e9
  rw [e8]
  show K mX11_game _ _ 3 18 15 [(0, vr 30), (1, vi p), (2, vi q), (3, vi 1)] [] h
  refine K_iload_n (dt_at dtX11_game 9 rfl) rfl rfl ?_
  refine K_iload_n (dt_at dtX11_game 10 rfl) rfl rfl ?_
  refine K_icmp_ne (tgt := 31) (dt_at dtX11_game 11 rfl) (by decide) (by first | assumption | exact ⟨by omega, by omega⟩) (by first | assumption | exact ⟨by omega, by omega⟩) (fun c1 => ?_) (fun c1 => absurd c1 (by omega))
  refine K_aload_n (dt_at dtX11_game 17 rfl) rfl rfl ?_
  refine K_get (a := 30) (ci := 11) (k := 5) (v := vr 66) (dt_at dtX11_game 18 rfl) (by decide) rfl (by decide) wF_X11_39 rfl ?_
  refine K_iload_n (dt_at dtX11_game 19 rfl) rfl rfl ?_
  refine K_aload_n (dt_at dtX11_game 20 rfl) rfl rfl ?_
  refine K_get (a := 30) (ci := 11) (k := 2) (v := vr t) (dt_at dtX11_game 21 rfl) (by decide) rfl (by decide) wF_X11_20 (by show vr (hR h 30 2) = vr t; rw [c.2.1]) ?_
  refine K_get (a := t) (ci := 3) (k := 11) (v := vi (sNp S : Int)) (dt_at dtX11_game 22 rfl) hH rfl (by decide) wF_X11_140 (by show vi (hI h t 11) = vi (sNp S : Int); rw [c.2.2.1.2.1.2]) ?_
  refine K_callV (M' := mX8_packsFor) (a := 66) (ci := 8) (As := [vi p, vi (sNp S : Int)]) (st := []) (dt_at dtX11_game 23 rfl) (sX8_packsFor (n := sNp S) (a := 66) (by decide) (by rw [show hA h (66 + 1) = f from c.2.2.2.2.1]; exact hT.1) hNp (by first | assumption | exact ⟨by omega, by omega⟩)) (show TT 66 = (0, 8) from rfl) rfl wL_X11_208 vX8_packsFor rfl npX8_packsFor (by decide) (by decide) (Nat.le_of_ble_eq_true rfl) (by decide) (by decide) GK_E (fun v9 h9 hq => ?_) (fun E h9 hq => by cases hq.1)
  obtain ⟨e9, e8⟩ := hq
  cases e9
  rw [e8]
  show K mX11_game _ _ 3 18 46 [(0, vr 30), (1, vi p), (2, vi q), (3, vi 1)] [vi (bitN (fun j => decide ((hA h (66 + 1) (22 + (j : Int))) = p)) (sNp S))] h
  rw [show hA h (66 + 1) = f from c.2.2.2.2.1]
  refine K_if_eq (tgt := 67) (dt_at dtX11_game 24 rfl) (by decide) (bitN32 _ _) (fun c2 => ?_) (fun c2 => ?_)
  · exact absurd (by assumption) (by assumption)
  · refine K_aload_n (dt_at dtX11_game 25 rfl) rfl rfl ?_
    refine K_get (a := 30) (ci := 11) (k := 5) (v := vr 66) (dt_at dtX11_game 26 rfl) (by decide) rfl (by decide) wF_X11_39 rfl ?_
    refine K_iload_n (dt_at dtX11_game 27 rfl) rfl rfl ?_
    refine K_aload_n (dt_at dtX11_game 28 rfl) rfl rfl ?_
    refine K_get (a := 30) (ci := 11) (k := 2) (v := vr t) (dt_at dtX11_game 29 rfl) (by decide) rfl (by decide) wF_X11_20 (by show vr (hR h 30 2) = vr t; rw [c.2.1]) ?_
    refine K_get (a := t) (ci := 3) (k := 11) (v := vi (sNp S : Int)) (dt_at dtX11_game 30 rfl) hH rfl (by decide) wF_X11_140 (by show vi (hI h t 11) = vi (sNp S : Int); rw [c.2.2.1.2.1.2]) ?_
    refine K_callV (M' := mX8_packsFor) (a := 66) (ci := 8) (As := [vi q, vi (sNp S : Int)]) (st := []) (dt_at dtX11_game 31 rfl) (sX8_packsFor (n := sNp S) (a := 66) (by decide) (by rw [show hA h (66 + 1) = f from c.2.2.2.2.1]; exact hT.1) hNp (by first | assumption | exact ⟨by omega, by omega⟩)) (show TT 66 = (0, 8) from rfl) rfl wL_X11_208 vX8_packsFor rfl npX8_packsFor (by decide) (by decide) (Nat.le_of_ble_eq_true rfl) (by decide) (by decide) GK_E (fun v9 h9 hq => ?_) (fun E h9 hq => by cases hq.1)
    obtain ⟨e9, e8⟩ := hq
    cases e9
    rw [e8]
    show K mX11_game _ _ 3 18 64 [(0, vr 30), (1, vi p), (2, vi q), (3, vi 1)] [vi (bitN (fun j => decide ((hA h (66 + 1) (22 + (j : Int))) = q)) (sNp S))] h
    rw [show hA h (66 + 1) = f from c.2.2.2.2.1]
    refine K_if_ne (tgt := 69) (dt_at dtX11_game 32 rfl) (by decide) (bitN32 _ _) (fun c3 => ?_) (fun c3 => ?_)
    · refine K_aload_n (dt_at dtX11_game 35 rfl) rfl rfl ?_
      refine K_get (a := 30) (ci := 11) (k := 14) (v := vr 117) (dt_at dtX11_game 36 rfl) (by decide) rfl (by decide) wF_X11_92 rfl ?_
      refine K_aload_n (dt_at dtX11_game 37 rfl) rfl rfl ?_
      refine K_get (a := 30) (ci := 11) (k := 2) (v := vr t) (dt_at dtX11_game 38 rfl) (by decide) rfl (by decide) wF_X11_20 (by show vr (hR h 30 2) = vr t; rw [c.2.1]) ?_
      refine K_aload_n (dt_at dtX11_game 39 rfl) rfl rfl ?_
      refine K_get (a := 30) (ci := 11) (k := 5) (v := vr 66) (dt_at dtX11_game 40 rfl) (by decide) rfl (by decide) wF_X11_39 rfl ?_
      refine K_aload_n (dt_at dtX11_game 41 rfl) rfl rfl ?_
      refine K_get (a := 30) (ci := 11) (k := 11) (v := vr 84) (dt_at dtX11_game 42 rfl) (by decide) rfl (by decide) wF_X11_69 rfl ?_
      refine K_iload_n (dt_at dtX11_game 43 rfl) rfl rfl ?_
      refine K_iload_n (dt_at dtX11_game 44 rfl) rfl rfl ?_
      refine K_callV (M' := mX1_play) (a := 117) (ci := 1) (As := [vr t, vr 66, vr 84, vi p, vi q]) (st := []) (dt_at dtX11_game 45 rfl) (sX1_play c hp hqt) (show TT 117 = (0, 1) from rfl) rfl wL_X11_375 vX1_play rfl npX1_play (by decide) (by decide) (Nat.le_of_ble_eq_true rfl) (by decide) (by decide) GK_E (fun v9 hc1 hq => ?_) (fun E h9 hq => by cases hq.1)
      have hqq2 := hq
      obtain ⟨e9q2, F9, A9⟩ := hqq2
      have B9 : ∀ j : Nat, j < 4 → i32 (gm1 S f p q j) ∧ i32 (gm2 S f p q j) := fun j hj => by obtain ⟨a1, a2, a3⟩ := crX_ok (S := S) (q := p) (n := sNp S) (x := j / 2) hT hC hNp hNp; obtain ⟨b1, b2, b3⟩ := crX_ok (S := S) (q := q) (n := sNp S) (x := j % 2) a1 a2 hNp hNp; have T4 := (dysF_ok hB b1 b2 5 (by rw [b3, a3]; omega)).1; have u1 := gnF_b (q := p) (x := j / 2) hB T4; have u2 := gnF_b (q := q) (x := j % 2) hB T4; exact ⟨⟨by have := u1.1; show _ ≤ gnF _ _ _ _; unfold gmR at *; omega, by have := u1.2; show gnF _ _ _ _ < _; unfold gmR at *; omega⟩, ⟨by have := u2.1; show _ ≤ gnF _ _ _ _; unfold gmR at *; omega, by have := u2.2; show gnF _ _ _ _ < _; unfold gmR at *; omega⟩⟩
      cases e9q2
      show K mX11_game _ _ 3 18 90 [(0, vr 30), (1, vi p), (2, vi q), (3, vi 1)] [] hc1
      refine K_iload_n (dt_at dtX11_game 46 rfl) rfl rfl ?_
      refine K_if_ne (tgt := 104) (dt_at dtX11_game 47 rfl) (by decide) (by first | assumption | exact ⟨by omega, by omega⟩) (fun c4 => ?_) (fun c4 => absurd c4 (by omega))
      refine K_aload_n (dt_at dtX11_game 52 rfl) rfl rfl ?_
      refine K_get (a := 30) (ci := 11) (k := 14) (v := vr 117) (dt_at dtX11_game 53 rfl) (by decide) rfl (by decide) wF_X11_92 rfl ?_
      refine K_callV (M' := mX1_firstResting) (a := 117) (ci := 1) (As := []) (st := []) (dt_at dtX11_game 54 rfl) (sX1_firstResting A9 B9) (show TT 117 = (0, 1) from rfl) rfl wL_X11_382 vX1_firstResting rfl npX1_firstResting (by decide) (by decide) (Nat.le_of_ble_eq_true rfl) (by decide) (by decide) GK_E (fun v9 h9 hq => ?_) (fun E h9 hq => by cases hq.1)
      obtain ⟨e9, e8⟩ := hq
      cases e9
      rw [e8]
      show K mX11_game _ _ 3 18 111 [(0, vr 30), (1, vi p), (2, vi q), (3, vi 1)] [vi (srN (fun k => if rsB (gm1 S f p q) (gm2 S f p q) k = true then some (((k / 2 * 10 + k % 2 : Nat) : Int)) else none) (-1) 0 4)] hc1
      exact K_iret (dt_at dtX11_game 55 rfl) rfl rfl (by decide) (by decide) ⟨rfl, F9⟩
    · exact absurd (by assumption) (by assumption)
