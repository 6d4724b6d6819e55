/-! what was seen -/
def soB (N : SN) (g : Int → Int) (b : Int) : Nat → Bool
  | 0 => true
  | i + 1 => soB N g b i && (decide (N.2.2.2.1 i ≠ b) || decide (g (35 + g (8 + N.2.1 i) * 6 + N.2.2.1 i) = N.2.2.2.2 i))
theorem soB_f {N : SN} {g : Int → Int} {b : Int} {k : Nat} (h : soB N g b k = false) : ∀ n, k ≤ n → soB N g b n = false
  | 0, hn => by
    obtain rfl : k = 0 := by omega
    exact h
  | n + 1, hn => by
    by_cases e : k = n + 1
    · rw [← e]; exact h
    · show (soB N g b n && _) = false
      rw [soB_f h n (by omega)]
      rfl
def ldF (N : SN) (n : Nat) : Int := itN (fun i v => max v (N.2.2.2.1 i)) 0 n
theorem ldF_b' {S : HS} {N : SN} (hO : seO S N) : ∀ n : Nat, n ≤ N.1 → 0 ≤ ldF N n ∧ ldF N n ≤ 30
  | 0, _ => ⟨(by decide : (0 : Int) ≤ 0), (by decide : (0 : Int) ≤ 30)⟩
  | n + 1, hn => by
    obtain ⟨a, b⟩ := ldF_b' hO n (by omega)
    have q := (hO n (by omega)).2.2.1
    refine ⟨?_, ?_⟩
    · show 0 ≤ max (ldF N n) (N.2.2.2.1 n); omega
    · show max (ldF N n) (N.2.2.2.1 n) ≤ 30; omega
def asB (S : HS) (N : SN) (f : Int → Int) : Nat → Bool
  | 0 => soB N (dysF S f 0) 0 N.1
  | n + 1 => asB S N f n && soB N (dysF S f (n + 1)) ((n + 1 : Nat) : Int) N.1
/-- all up to below n -/
def abB (S : HS) (N : SN) (f : Int → Int) : Nat → Bool
  | 0 => true
  | n + 1 => abB S N f n && soB N (dysF S f n) (n : Int) N.1
theorem asB_ab {S : HS} {N : SN} {f : Int → Int} : ∀ n, asB S N f n = abB S N f (n + 1)
  | 0 => by show soB N (dysF S f 0) 0 N.1 = (true && soB N (dysF S f 0) ((0 : Nat) : Int) N.1); rfl
  | n + 1 => by
    show (asB S N f n && _) = (abB S N f (n + 1) && _)
    rw [asB_ab n]
theorem abB_f {S : HS} {N : SN} {f : Int → Int} {k : Nat} (h : abB S N f k = false) : ∀ n, k ≤ n → abB S N f n = false
  | 0, hn => by
    obtain rfl : k = 0 := by omega
    exact h
  | n + 1, hn => by
    by_cases e : k = n + 1
    · rw [← e]; exact h
    · show (abB S N f n && _) = false
      rw [abB_f h n (by omega)]
      rfl
def ldN (N : SN) : Nat := (ldF N N.1).toNat
/-- whether all that was seen is so, from a row on -/
def seB (S : HS) (N : SN) (f : Int → Int) : Bool := asB S N f (ldN N)
/-- by people and how fond -/
def gsR (f : Int → Int) (g : Nat) : Int → Int := upI f (15 + ((g / 10 : Nat) : Int)) ((g % 10 : Nat) : Int)
def gsB (S : HS) (N : SN) (f : Int → Int) (g : Nat) : Bool := decide (f (15 + ((g / 10 : Nat) : Int)) ≠ ((g % 10 : Nat) : Int)) && seB S N (gsR f g)
def gsL (S : HS) (N : SN) (f : Int → Int) (n : Nat) : List Nat := (List.range n).filter (gsB S N f)
theorem gsL_t {S : HS} {N : SN} {f : Int → Int} {n : Nat} (h : gsB S N f n = true) : gsL S N f (n + 1) = gsL S N f n ++ [n] := by
  unfold gsL
  rw [List.range_succ, List.filter_append]
  simp [h]
theorem gsL_f {S : HS} {N : SN} {f : Int → Int} {n : Nat} (h : gsB S N f n = false) : gsL S N f (n + 1) = gsL S N f n := by
  unfold gsL
  rw [List.range_succ, List.filter_append]
  simp [h]
theorem gsL_len {S : HS} {N : SN} {f : Int → Int} (n : Nat) : (gsL S N f n).length ≤ n := by
  unfold gsL
  exact Nat.le_trans (List.length_filter_le _ _) (by rw [List.length_range]; exact Nat.le_refl n)
theorem gsL_lt {S : HS} {N : SN} {f : Int → Int} {n j x : Nat} (h : (gsL S N f n)[j]? = some x) : x < n := by
  have := List.mem_of_getElem? h
  unfold gsL at this
  exact List.mem_range.mp (List.mem_filter.mp this).1
/-- the heap of the guesses: CQ, what was seen -/
def GU (h : HP) (t : Nat) (S : HS) (B : Int) (f : Int → Int) (N : SN) : Prop := CQ h t S B f ∧ seR h 70 N ∧ seO S N
theorem GU_FS {h h' : HP} {t : Nat} {S : HS} {B : Int} {f : Int → Int} {N : SN} (u : GU h t S B f N) (F : FS h h') : GU h' t S B f N :=
  ⟨CQ_FS u.1 F, seR_fr u.2.1 (F.2.1 _ _ rfl) (F.1 _ rfl) (F.1 _ rfl) (F.1 _ rfl) (F.1 _ rfl), u.2.2⟩

def mX7_lastDay : MI := (yX7_lastDay, cX7_lastDay, 3, (some .int), rmK 2 0)
def tX7_lastDay : List (Nat × Instr × Nat) := [(0, .iconst 0, 1), (1, .istore_n 1, 1), (2, .iconst 0, 1), (3, .istore_n 2, 1), (4, .iload_n 2, 1), (5, .aload_n 0, 1), (6, .getfield 24, 3), (9, .if_icmp .ge 20, 3), (12, .iload_n 1, 1), (13, .aload_n 0, 1), (14, .getfield 18, 3), (17, .iload_n 2, 1), (18, .iaload, 1), (19, .invokestatic 32, 3), (22, .istore_n 1, 1), (23, .iinc 2 1, 3), (26, .goto (-22), 3), (29, .iload_n 1, 1), (30, .ireturn, 1)]
theorem dtX7_lastDay : tX7_lastDay.all (fun q => decide (decode cX7_lastDay q.1 = .ok (q.2.1, q.2.2))) = true := by decide +kernel
theorem npX7_lastDay : (parseMethodDescriptor (mY mX7_lastDay).desc).map (fun d => d.parameters.length) = some 0 := by decide +kernel
theorem vX7_lastDay : mV mX7_lastDay := ⟨wI_X7_lastDay, wS_X7_lastDay, wN_X7, wC_X7_lastDay, by decide +kernel, by decide +kernel⟩
set_option maxHeartbeats 4000000 in
set_option maxRecDepth 100000 in
theorem lp_X7_lastDay {Z : CT → State → Prop} {h : HP} {S : HS} {N : SN} (kk : seR h 70 N) (hO : seO S N) (kx : K mX7_lastDay GK Z 0 0 29 [(2, vi (N.1 : Int)), (1, vi (ldF N N.1)), (0, vr 70)] [] h) : ∀ (d k : Nat), k + d = N.1 → K mX7_lastDay GK Z 0 0 4 [(2, vi (k : Int)), (1, vi (ldF N k)), (0, vr 70)] [] h := by
  intro d
  induction d with
  | zero =>
    intro k hk
    obtain ⟨k1, k2, k3⟩ := id kk
    have ek : k = N.1 := by omega
    subst ek
    refine K_iload_n (dt_at dtX7_lastDay 4 rfl) rfl rfl ?_
    refine K_aload_n (dt_at dtX7_lastDay 5 rfl) rfl rfl ?_
    refine K_get (a := 70) (ci := 7) (k := 4) (v := vi (N.1 : Int)) (dt_at dtX7_lastDay 6 rfl) (show TT 70 = (0, 7) from rfl) rfl (by decide) wF_X7_24 (by show vi (hI h 70 4) = vi (N.1 : Int); rw [k2]) ?_
    refine K_icmp_ge (tgt := 29) (dt_at dtX7_lastDay 7 rfl) (by decide) (by first | assumption | exact ⟨by omega, by omega⟩) (by first | assumption | exact ⟨by omega, by omega⟩) (fun c1 => ?_) (fun c1 => absurd c1 (by omega))
    exact K_pk [0, 1, 2] rfl kx
  | succ d ih =>
    intro k hk
    obtain ⟨k1, k2, k3⟩ := id kk
    have w1 := ldF_b' hO k (by omega)
    have w2 := (hO k (by omega)).2.2.1
    refine K_iload_n (dt_at dtX7_lastDay 4 rfl) rfl rfl ?_
    refine K_aload_n (dt_at dtX7_lastDay 5 rfl) rfl rfl ?_
    refine K_get (a := 70) (ci := 7) (k := 4) (v := vi (N.1 : Int)) (dt_at dtX7_lastDay 6 rfl) (show TT 70 = (0, 7) from rfl) rfl (by decide) wF_X7_24 (by show vi (hI h 70 4) = vi (N.1 : Int); rw [k2]) ?_
    refine K_icmp_ge (tgt := 29) (dt_at dtX7_lastDay 7 rfl) (by decide) (by first | assumption | exact ⟨by omega, by omega⟩) (by first | assumption | exact ⟨by omega, by omega⟩) (fun c1 => absurd c1 (by omega)) (fun c1 => ?_)
    refine K_iload_n (dt_at dtX7_lastDay 8 rfl) rfl rfl ?_
    refine K_aload_n (dt_at dtX7_lastDay 9 rfl) rfl rfl ?_
    refine K_get (a := 70) (ci := 7) (k := 2) (v := vr 73) (dt_at dtX7_lastDay 10 rfl) (show TT 70 = (0, 7) from rfl) rfl (by decide) wF_X7_18 rfl ?_
    refine K_iload_n (dt_at dtX7_lastDay 11 rfl) rfl rfl ?_
    refine K_iald (dt_at dtX7_lastDay 12 rfl) (show TT 73 = (1, 8) from rfl) (by omega) (by omega) ?_
    rw [show hA h 73 (k : Int) = N.2.2.2.1 k from (k3 k (by omega)).2.2.1]
    refine K_max (dt_at dtX7_lastDay 13 rfl) wL_X7_32 (by first | assumption | exact ⟨by omega, by omega⟩) (by first | assumption | exact ⟨by omega, by omega⟩) (by decide) (Nat.le_of_ble_eq_true rfl) (by decide) (by decide) ?_
    refine K_istore_n (ls' := [(1, vi (max (ldF N k) (N.2.2.2.1 k))), (2, vi (k : Int)), (0, vr 70)]) (dt_at dtX7_lastDay 14 rfl) rfl (by decide) rfl ?_
    refine K_iinc (ls' := [(2, vi ((k : Int) + 1)), (1, vi (max (ldF N k) (N.2.2.2.1 k))), (0, vr 70)]) (dt_at dtX7_lastDay 15 rfl) rfl (by decide) rfl ?_
    refine K_goto (tgt := 4) (dt_at dtX7_lastDay 16 rfl) (by decide) ?_
    refine K_pk [0, 1, 2] (ls' := [(2, vi ((k : Int) + 1)), (1, vi (max (ldF N k) (N.2.2.2.1 k))), (0, vr 70)]) rfl ?_
    exact K_cg (ls' := [(2, vi ((k + 1 : Nat) : Int)), (1, vi (ldF N (k + 1))), (0, vr 70)]) (h' := h) (by rfl) (by rfl) (ih (k + 1) (by omega))
set_option maxHeartbeats 4000000 in
set_option maxRecDepth 100000 in
theorem sX7_lastDay {h : HP} {S : HS} {N : SN} (kk : seR h 70 N) (hO : seO S N) : SpecK mX7_lastDay [vr 70] h (fun o h' => o = .inl (some (vi (ldN N : Int))) ∧ h' = h) := by
  refine Spec_of (by decide +kernel) (Nat.le_of_ble_eq_true rfl) ?_
  obtain ⟨k1, k2, k3⟩ := id kk
  have w1 := ldF_b' hO N.1 (Nat.le_refl _)
  have w2 : ldF N N.1 = (ldN N : Int) := by unfold ldN; omega
  refine K_iconst (dt_at dtX7_lastDay 0 rfl) ?_
  refine K_istore_n (ls' := [(1, vi 0), (0, vr 70)]) (dt_at dtX7_lastDay 1 rfl) rfl (by decide) rfl ?_
  refine K_iconst (dt_at dtX7_lastDay 2 rfl) ?_
  refine K_istore_n (ls' := [(2, vi 0), (1, vi 0), (0, vr 70)]) (dt_at dtX7_lastDay 3 rfl) rfl (by decide) rfl ?_
  refine K_pk [0, 1, 2] rfl (lp_X7_lastDay kk hO ?_ N.1 0 (by omega))
  refine K_iload_n (dt_at dtX7_lastDay 17 rfl) rfl rfl ?_
  exact K_iret (dt_at dtX7_lastDay 18 rfl) rfl rfl (by decide) (by decide) ⟨by rw [w2], rfl⟩
def mX7_isSoBehind : MI := (yX7_isSoBehind, cX7_isSoBehind, 4, (some .boolean), rmK 2 0)
def tX7_isSoBehind : List (Nat × Instr × Nat) := [(0, .iconst 0, 1), (1, .istore_n 3, 1), (2, .iload_n 3, 1), (3, .aload_n 0, 1), (4, .getfield 24, 3), (7, .if_icmp .ge 46, 3), (10, .aload_n 0, 1), (11, .getfield 18, 3), (14, .iload_n 3, 1), (15, .iaload, 1), (16, .iload_n 1, 1), (17, .if_icmp .ne 30, 3), (20, .aload_n 2, 1), (21, .aload_n 0, 1), (22, .getfield 9, 3), (25, .iload_n 3, 1), (26, .iaload, 1), (27, .aload_n 0, 1), (28, .getfield 15, 3), (31, .iload_n 3, 1), (32, .iaload, 1), (33, .invokevirtual 38, 3), (36, .aload_n 0, 1), (37, .getfield 21, 3), (40, .iload_n 3, 1), (41, .iaload, 1), (42, .if_icmp .eq 5, 3), (45, .iconst 0, 1), (46, .ireturn, 1), (47, .iinc 3 1, 3), (50, .goto (-48), 3), (53, .iconst 1, 1), (54, .ireturn, 1)]
theorem dtX7_isSoBehind : tX7_isSoBehind.all (fun q => decide (decode cX7_isSoBehind q.1 = .ok (q.2.1, q.2.2))) = true := by decide +kernel
theorem npX7_isSoBehind : (parseMethodDescriptor (mY mX7_isSoBehind).desc).map (fun d => d.parameters.length) = some 2 := by decide +kernel
theorem vX7_isSoBehind : mV mX7_isSoBehind := ⟨wI_X7_isSoBehind, wS_X7_isSoBehind, wN_X7, wC_X7_isSoBehind, by decide +kernel, by decide +kernel⟩
set_option maxHeartbeats 4000000 in
set_option maxRecDepth 100000 in
theorem lp_X7_isSoBehind {Q : AO → HP → Prop} {h : HP} {S : HS} {N : SN} {a : Nat} {g : Int → Int} {B b : Int} (kk : seR h 70 N) (hO : seO S N) (hT8 : TT a = (0, 8)) (hg : hA h (a + 1) = g) (hTg : rT B g) (hb : i32 b) (hS6 : sNt S ≤ 6 ∧ sNp S ≤ 7) (hq : Q (.inl (some (vi (if soB N g b N.1 = true then 1 else 0)))) h) : ∀ (d k : Nat), k + d = N.1 → soB N g b k = true → K mX7_isSoBehind GK (ZK Q 0 0) 0 0 2 [(3, vi (k : Int)), (0, vr 70), (1, vi b), (2, vr a)] [] h := by
  intro d
  induction d with
  | zero =>
    intro k hk sk
    obtain ⟨k1, k2, k3⟩ := id kk
    have ek : k = N.1 := by omega
    rw [ek] at sk
    refine K_iload_n (dt_at dtX7_isSoBehind 2 rfl) rfl rfl ?_
    refine K_aload_n (dt_at dtX7_isSoBehind 3 rfl) rfl rfl ?_
    refine K_get (a := 70) (ci := 7) (k := 4) (v := vi (N.1 : Int)) (dt_at dtX7_isSoBehind 4 rfl) (show TT 70 = (0, 7) from rfl) rfl (by decide) wF_X7_24 (by show vi (hI h 70 4) = vi (N.1 : Int); rw [k2]) ?_
    refine K_icmp_ge (tgt := 53) (dt_at dtX7_isSoBehind 5 rfl) (by decide) (by first | assumption | exact ⟨by omega, by omega⟩) (by first | assumption | exact ⟨by omega, by omega⟩) (fun c1 => ?_) (fun c1 => absurd c1 (by omega))
    refine K_iconst (dt_at dtX7_isSoBehind 31 rfl) ?_
    exact K_iret (dt_at dtX7_isSoBehind 32 rfl) rfl (by decide) (by decide) (by decide) (by have h9 := hq; rw [sk] at h9; exact h9)
  | succ d ih =>
    intro k hk sk
    obtain ⟨k1, k2, k3⟩ := id kk
    have w1 := hO k (by omega)
    have w3 := hTg.1.2 (N.2.1 k) (by omega) (by omega)
    have w4 := hTg.1.1 (35 + g (8 + N.2.1 k) * 6 + N.2.2.1 k) (by omega) (by omega)
    refine K_iload_n (dt_at dtX7_isSoBehind 2 rfl) rfl rfl ?_
    refine K_aload_n (dt_at dtX7_isSoBehind 3 rfl) rfl rfl ?_
    refine K_get (a := 70) (ci := 7) (k := 4) (v := vi (N.1 : Int)) (dt_at dtX7_isSoBehind 4 rfl) (show TT 70 = (0, 7) from rfl) rfl (by decide) wF_X7_24 (by show vi (hI h 70 4) = vi (N.1 : Int); rw [k2]) ?_
    refine K_icmp_ge (tgt := 53) (dt_at dtX7_isSoBehind 5 rfl) (by decide) (by first | assumption | exact ⟨by omega, by omega⟩) (by first | assumption | exact ⟨by omega, by omega⟩) (fun c1 => absurd c1 (by omega)) (fun c1 => ?_)
    refine K_aload_n (dt_at dtX7_isSoBehind 6 rfl) rfl rfl ?_
    refine K_get (a := 70) (ci := 7) (k := 2) (v := vr 73) (dt_at dtX7_isSoBehind 7 rfl) (show TT 70 = (0, 7) from rfl) rfl (by decide) wF_X7_18 rfl ?_
    refine K_iload_n (dt_at dtX7_isSoBehind 8 rfl) rfl rfl ?_
    refine K_iald (dt_at dtX7_isSoBehind 9 rfl) (show TT 73 = (1, 8) from rfl) (by omega) (by omega) ?_
    rw [show hA h 73 (k : Int) = N.2.2.2.1 k from (k3 k (by omega)).2.2.1]
    refine K_iload_n (dt_at dtX7_isSoBehind 10 rfl) rfl rfl ?_
    refine K_icmp_ne (tgt := 47) (dt_at dtX7_isSoBehind 11 rfl) (by decide) (by first | assumption | exact ⟨by omega, by omega⟩) (by first | assumption | exact ⟨by omega, by omega⟩) (fun c2 => ?_) (fun c2 => ?_)
    · refine K_iinc (ls' := [(3, vi ((k : Int) + 1)), (0, vr 70), (1, vi b), (2, vr a)]) (dt_at dtX7_isSoBehind 29 rfl) rfl (by decide) rfl ?_
      refine K_goto (tgt := 2) (dt_at dtX7_isSoBehind 30 rfl) (by decide) ?_
      exact K_pk [0, 1, 2, 3] rfl (ih (k + 1) (by omega) (by show (soB N g b k && _) = true; rw [sk]; simp only [Bool.true_and, Bool.or_eq_true, decide_eq_true_eq]; omega))
    · refine K_aload_n (dt_at dtX7_isSoBehind 12 rfl) rfl rfl ?_
      refine K_aload_n (dt_at dtX7_isSoBehind 13 rfl) rfl rfl ?_
      refine K_get (a := 70) (ci := 7) (k := 0) (v := vr 71) (dt_at dtX7_isSoBehind 14 rfl) (show TT 70 = (0, 7) from rfl) rfl (by decide) wF_X7_9 rfl ?_
      refine K_iload_n (dt_at dtX7_isSoBehind 15 rfl) rfl rfl ?_
      refine K_iald (dt_at dtX7_isSoBehind 16 rfl) (show TT 71 = (1, 8) from rfl) (by omega) (by omega) ?_
      rw [show hA h 71 (k : Int) = N.2.1 k from (k3 k (by omega)).1]
      refine K_aload_n (dt_at dtX7_isSoBehind 17 rfl) rfl rfl ?_
      refine K_get (a := 70) (ci := 7) (k := 1) (v := vr 72) (dt_at dtX7_isSoBehind 18 rfl) (show TT 70 = (0, 7) from rfl) rfl (by decide) wF_X7_15 rfl ?_
      refine K_iload_n (dt_at dtX7_isSoBehind 19 rfl) rfl rfl ?_
      refine K_iald (dt_at dtX7_isSoBehind 20 rfl) (show TT 72 = (1, 8) from rfl) (by omega) (by omega) ?_
      rw [show hA h 72 (k : Int) = N.2.2.1 k from (k3 k (by omega)).2.1]
      refine K_callV (M' := mX8_pieces) (a := a) (ci := 8) (As := [vi (N.2.1 k), vi (N.2.2.1 k)]) (st := []) (dt_at dtX7_isSoBehind 21 rfl) (sX8_pieces hT8 ⟨by omega, by omega⟩ ⟨by omega, by omega⟩ (by rw [hg]; exact (hTg.1.2 _ (by omega) (by omega)).2.1)) hT8 rfl wL_X7_38 vX8_pieces rfl npX8_pieces (by decide) (by decide) (Nat.le_of_ble_eq_true rfl) (by decide) (by decide) GK_E (fun v9 h9 hq => ?_) (fun E h9 hq => by cases hq.1)
      obtain ⟨e9, e8⟩ := hq
      cases e9
      rw [e8]
      show K mX7_isSoBehind _ _ 0 0 36 [(3, vi (k : Int)), (0, vr 70), (1, vi b), (2, vr a)] [vi (hA h (a + 1) (35 + (hA h (a + 1) (8 + (N.2.1 k))) * 6 + (N.2.2.1 k)))] h
      rw [hg]
      refine K_aload_n (dt_at dtX7_isSoBehind 22 rfl) rfl rfl ?_
      refine K_get (a := 70) (ci := 7) (k := 3) (v := vr 74) (dt_at dtX7_isSoBehind 23 rfl) (show TT 70 = (0, 7) from rfl) rfl (by decide) wF_X7_21 rfl ?_
      refine K_iload_n (dt_at dtX7_isSoBehind 24 rfl) rfl rfl ?_
      refine K_iald (dt_at dtX7_isSoBehind 25 rfl) (show TT 74 = (1, 8) from rfl) (by omega) (by omega) ?_
      rw [show hA h 74 (k : Int) = N.2.2.2.2 k from (k3 k (by omega)).2.2.2]
      refine K_icmp_eq (tgt := 47) (dt_at dtX7_isSoBehind 26 rfl) (by decide) (by first | assumption | exact ⟨by omega, by omega⟩) (by first | assumption | exact ⟨by omega, by omega⟩) (fun c3 => ?_) (fun c3 => ?_)
      · refine K_iinc (ls' := [(3, vi ((k : Int) + 1)), (0, vr 70), (1, vi b), (2, vr a)]) (dt_at dtX7_isSoBehind 29 rfl) rfl (by decide) rfl ?_
        refine K_goto (tgt := 2) (dt_at dtX7_isSoBehind 30 rfl) (by decide) ?_
        exact K_pk [0, 1, 2, 3] rfl (ih (k + 1) (by omega) (by show (soB N g b k && _) = true; rw [sk]; simp only [Bool.true_and, Bool.or_eq_true, decide_eq_true_eq]; omega))
      · refine K_iconst (dt_at dtX7_isSoBehind 27 rfl) ?_
        have sf : soB N g b (k + 1) = false := by show (soB N g b k && _) = false; rw [sk]; simp only [Bool.true_and, Bool.or_eq_false_iff, decide_eq_false_iff_not]; omega
        exact K_iret (dt_at dtX7_isSoBehind 28 rfl) rfl (by decide) (by decide) (by decide) (by have h9 := hq; rw [soB_f sf N.1 (by omega)] at h9; exact h9)
set_option maxHeartbeats 4000000 in
set_option maxRecDepth 100000 in
theorem sX7_isSoBehind {h : HP} {S : HS} {N : SN} {a : Nat} {g : Int → Int} {B b : Int} (kk : seR h 70 N) (hO : seO S N) (hT8 : TT a = (0, 8)) (hg : hA h (a + 1) = g) (hTg : rT B g) (hb : i32 b) (hS6 : sNt S ≤ 6 ∧ sNp S ≤ 7) : SpecK mX7_isSoBehind [vr 70, vi b, vr a] h (fun o h' => o = .inl (some (vi (if soB N g b N.1 = true then 1 else 0))) ∧ h' = h) := by
  refine Spec_of (by decide +kernel) (Nat.le_of_ble_eq_true rfl) ?_
  refine K_iconst (dt_at dtX7_isSoBehind 0 rfl) ?_
  refine K_istore_n (ls' := [(3, vi 0), (0, vr 70), (1, vi b), (2, vr a)]) (dt_at dtX7_isSoBehind 1 rfl) rfl (by decide) rfl ?_
  exact K_pk [0, 1, 2, 3] rfl (lp_X7_isSoBehind kk hO hT8 hg hTg hb hS6 ⟨rfl, rfl⟩ N.1 0 (by omega) rfl)
def mX2_isAllSeenSo : MI := (yX2_isAllSeenSo, cX2_isAllSeenSo, 4, (some .boolean), rmK 6 0)
def tX2_isAllSeenSo : List (Nat × Instr × Nat) := [(0, .aload_n 1, 1), (1, .invokevirtual 47, 3), (4, .istore_n 2, 1), (5, .iconst 0, 1), (6, .istore_n 3, 1), (7, .iload_n 3, 1), (8, .iload_n 2, 1), (9, .if_icmp .ge 33, 3), (12, .aload_n 1, 1), (13, .iload_n 3, 1), (14, .aload_n 0, 1), (15, .getfield 35, 3), (18, .getfield 53, 3), (21, .invokevirtual 57, 3), (24, .ifCond .ne 5, 3), (27, .iconst 0, 1), (28, .ireturn, 1), (29, .aload_n 0, 1), (30, .getfield 35, 3), (33, .invokevirtual 61, 3), (36, .iinc 3 1, 3), (39, .goto (-32), 3), (42, .aload_n 1, 1), (43, .iload_n 2, 1), (44, .aload_n 0, 1), (45, .getfield 35, 3), (48, .getfield 53, 3), (51, .invokevirtual 57, 3), (54, .ireturn, 1)]
theorem dtX2_isAllSeenSo : tX2_isAllSeenSo.all (fun q => decide (decode cX2_isAllSeenSo q.1 = .ok (q.2.1, q.2.2))) = true := by decide +kernel
theorem npX2_isAllSeenSo : (parseMethodDescriptor (mY mX2_isAllSeenSo).desc).map (fun d => d.parameters.length) = some 1 := by decide +kernel
theorem vX2_isAllSeenSo : mV mX2_isAllSeenSo := ⟨wI_X2_isAllSeenSo, wS_X2_isAllSeenSo, wN_X2, wC_X2_isAllSeenSo, by decide +kernel, by decide +kernel⟩
set_option maxHeartbeats 4000000 in
set_option maxRecDepth 100000 in
theorem lp_X2_isAllSeenSo {Q : AO → HP → Prop} {h h1 : HP} {t : Nat} {S : HS} {B : Int} {f : Int → Int} {N : SN} {g : Int → Int} (u : GU h t S B f N) (F1 : FS h h1) (X : WX h1 101 t S) (hTg : rT B g) (hCg : rC S g) (h0g : g 0 ≤ 9999) (hQ : ∀ h2, WK h1 h2 101 t → Q (.inl (some (vi (if seB S N g = true then 1 else 0)))) h2) : ∀ (d k : Nat) (hh : HP), k + d = ldN N → PW h1 hh 101 t (dysF S g k) (trD S g (fun _ => 0) k) (emD S g 0 k) → abB S N g k = true → K mX2_isAllSeenSo GK (ZK Q 0 0) 0 0 7 [(3, vi (k : Int)), (0, vr 100), (1, vr 70), (2, vi (ldN N : Int))] [] hh := by
  intro d
  induction d with
  | zero =>
    intro k hh hk Ph ab
    have c := u.1
    have ht := c.1
    have hH := TTt ht
    have hB := c.2.2.2.1
    have hNt := hB.1
    have hNp := hB.2.1
    have hT := c.2.2.2.2.2.1
    have hC := c.2.2.2.2.2.2.1
    have h99 := c.2.2.2.2.2.2.2.1
    have G := c.2.2.2.2.2.2.2.2
    have hf0 := hT.2.2.2.1
    have g00 := hTg.2.2.2.1
    have l1 := ldF_b' u.2.2 N.1 (Nat.le_refl _)
    have l2 : ldN N ≤ 30 := by unfold ldN; omega
    have FFh := FS_tr F1 (WK_FS X Ph.1 F1.2.2.2)
    have uh := GU_FS u FFh
    have hfh : hA hh 103 = dysF S g k := Ph.2.1
    obtain ⟨hTk, hCk, hk0⟩ := dysF_ok hB hTg hCg k (by omega)
    have ek : k = ldN N := by omega
    refine K_iload_n (dt_at dtX2_isAllSeenSo 5 rfl) rfl rfl ?_
    refine K_iload_n (dt_at dtX2_isAllSeenSo 6 rfl) rfl rfl ?_
    refine K_icmp_ge (tgt := 42) (dt_at dtX2_isAllSeenSo 7 rfl) (by decide) (by first | assumption | exact ⟨by omega, by omega⟩) (by first | assumption | exact ⟨by omega, by omega⟩) (fun c1 => ?_) (fun c1 => absurd c1 (by omega))
    refine K_aload_n (dt_at dtX2_isAllSeenSo 22 rfl) rfl rfl ?_
    refine K_iload_n (dt_at dtX2_isAllSeenSo 23 rfl) rfl rfl ?_
    refine K_aload_n (dt_at dtX2_isAllSeenSo 24 rfl) rfl rfl ?_
    refine K_get (a := 100) (ci := 2) (k := 0) (v := vr 101) (dt_at dtX2_isAllSeenSo 25 rfl) (show TT 100 = (0, 2) from rfl) rfl (by decide) wF_X2_35 rfl ?_
    refine K_get (a := 101) (ci := 10) (k := 0) (v := vr 102) (dt_at dtX2_isAllSeenSo 26 rfl) (show TT 101 = (0, 10) from rfl) rfl (by decide) wF_X2_53 rfl ?_
    refine K_callV (M' := mX7_isSoBehind) (a := 70) (ci := 7) (As := [vi (ldN N : Int), vr 102]) (st := []) (dt_at dtX2_isAllSeenSo 27 rfl) (sX7_isSoBehind (a := 102) (g := dysF S g k) uh.2.1 uh.2.2 rfl hfh hTk (by exact ⟨by omega, by omega⟩) ⟨hNt, hNp⟩) (show TT 70 = (0, 7) from rfl) rfl wL_X2_57 vX7_isSoBehind rfl npX7_isSoBehind (by decide) (by decide) (Nat.le_of_ble_eq_true rfl) (by decide) (by decide) GK_E (fun v9 h9 hq => ?_) (fun E h9 hq => by cases hq.1)
    obtain ⟨e9, e8⟩ := hq
    cases e9
    rw [e8]
    show K mX2_isAllSeenSo _ _ 0 0 54 [(3, vi (k : Int)), (0, vr 100), (1, vr 70), (2, vi (ldN N : Int))] [vi (if soB N (dysF S g k) (ldN N : Int) N.1 = true then 1 else 0)] hh
    by_cases z2 : soB N (dysF S g k) (ldN N : Int) N.1 = true
    · rw [if_pos z2]
      have zz : soB N (dysF S g k) (ldN N : Int) N.1 = true := by assumption
      have sv : seB S N g = true := (asB_ab _).trans (by show (abB S N g (ldN N) && soB N (dysF S g (ldN N)) ((ldN N : Nat) : Int) N.1) = true; rw [← ek] at zz ⊢; rw [ab, zz]; rfl)
      exact K_iret (dt_at dtX2_isAllSeenSo 28 rfl) rfl (by decide) (by decide) (by decide) (by have h9 := hQ _ Ph.1; rw [sv] at h9; exact h9)
    · rw [if_neg z2]
      have zz : soB N (dysF S g k) (ldN N : Int) N.1 = false := by cases z9 : soB N (dysF S g k) (ldN N : Int) N.1; rfl; exact absurd z9 (by assumption)
      have sv : seB S N g = false := (asB_ab _).trans (by show (abB S N g (ldN N) && soB N (dysF S g (ldN N)) ((ldN N : Nat) : Int) N.1) = false; rw [← ek] at zz ⊢; rw [ab, zz]; rfl)
      exact K_iret (dt_at dtX2_isAllSeenSo 28 rfl) rfl (by decide) (by decide) (by decide) (by have h9 := hQ _ Ph.1; rw [sv] at h9; exact h9)
  | succ d ih =>
    intro k hh hk Ph ab
    have c := u.1
    have ht := c.1
    have hH := TTt ht
    have hB := c.2.2.2.1
    have hNt := hB.1
    have hNp := hB.2.1
    have hT := c.2.2.2.2.2.1
    have hC := c.2.2.2.2.2.2.1
    have h99 := c.2.2.2.2.2.2.2.1
    have G := c.2.2.2.2.2.2.2.2
    have hf0 := hT.2.2.2.1
    have g00 := hTg.2.2.2.1
    have l1 := ldF_b' u.2.2 N.1 (Nat.le_refl _)
    have l2 : ldN N ≤ 30 := by unfold ldN; omega
    have FFh := FS_tr F1 (WK_FS X Ph.1 F1.2.2.2)
    have uh := GU_FS u FFh
    have hfh : hA hh 103 = dysF S g k := Ph.2.1
    obtain ⟨hTk, hCk, hk0⟩ := dysF_ok hB hTg hCg k (by omega)
    refine K_iload_n (dt_at dtX2_isAllSeenSo 5 rfl) rfl rfl ?_
    refine K_iload_n (dt_at dtX2_isAllSeenSo 6 rfl) rfl rfl ?_
    refine K_icmp_ge (tgt := 42) (dt_at dtX2_isAllSeenSo 7 rfl) (by decide) (by first | assumption | exact ⟨by omega, by omega⟩) (by first | assumption | exact ⟨by omega, by omega⟩) (fun c1 => absurd c1 (by omega)) (fun c1 => ?_)
    refine K_aload_n (dt_at dtX2_isAllSeenSo 8 rfl) rfl rfl ?_
    refine K_iload_n (dt_at dtX2_isAllSeenSo 9 rfl) rfl rfl ?_
    refine K_aload_n (dt_at dtX2_isAllSeenSo 10 rfl) rfl rfl ?_
    refine K_get (a := 100) (ci := 2) (k := 0) (v := vr 101) (dt_at dtX2_isAllSeenSo 11 rfl) (show TT 100 = (0, 2) from rfl) rfl (by decide) wF_X2_35 rfl ?_
    refine K_get (a := 101) (ci := 10) (k := 0) (v := vr 102) (dt_at dtX2_isAllSeenSo 12 rfl) (show TT 101 = (0, 10) from rfl) rfl (by decide) wF_X2_53 rfl ?_
    refine K_callV (M' := mX7_isSoBehind) (a := 70) (ci := 7) (As := [vi (k : Int), vr 102]) (st := []) (dt_at dtX2_isAllSeenSo 13 rfl) (sX7_isSoBehind (a := 102) (g := dysF S g k) uh.2.1 uh.2.2 rfl hfh hTk (by exact ⟨by omega, by omega⟩) ⟨hNt, hNp⟩) (show TT 70 = (0, 7) from rfl) rfl wL_X2_57 vX7_isSoBehind rfl npX7_isSoBehind (by decide) (by decide) (Nat.le_of_ble_eq_true rfl) (by decide) (by decide) GK_E (fun v9 h9 hq => ?_) (fun E h9 hq => by cases hq.1)
    obtain ⟨e9, e8⟩ := hq
    cases e9
    rw [e8]
    show K mX2_isAllSeenSo _ _ 0 0 24 [(3, vi (k : Int)), (0, vr 100), (1, vr 70), (2, vi (ldN N : Int))] [vi (if soB N (dysF S g k) (k : Int) N.1 = true then 1 else 0)] hh
    by_cases z2 : soB N (dysF S g k) (k : Int) N.1 = true
    · rw [if_pos z2]
      refine K_if_ne (tgt := 29) (dt_at dtX2_isAllSeenSo 14 rfl) (by decide) (by first | assumption | exact ⟨by omega, by omega⟩) (fun c3 => ?_) (fun c3 => absurd c3 (by omega))
      refine K_aload_n (dt_at dtX2_isAllSeenSo 17 rfl) rfl rfl ?_
      refine K_get (a := 100) (ci := 2) (k := 0) (v := vr 101) (dt_at dtX2_isAllSeenSo 18 rfl) (show TT 100 = (0, 2) from rfl) rfl (by decide) wF_X2_35 rfl ?_
      refine K_callV (M' := mX10_passDay) (a := 101) (ci := 10) (As := []) (st := []) (dt_at dtX2_isAllSeenSo 19 rfl) (sX10_passDay X Ph hTk hCk) (show TT 101 = (0, 10) from rfl) rfl wL_X2_61 vX10_passDay rfl npX10_passDay (by decide) (by decide) (Nat.le_of_ble_eq_true rfl) (by decide) (by decide) GK_E (fun v9 hc1 hq => ?_) (fun E h9 hq => by cases hq.1)
      have hqq2 := hq
      obtain ⟨e9q2, Pzq2⟩ := hqq2
      have Pq2 : PW h1 hc1 101 t (dysF S g (k + 1)) (trD S g (fun _ => 0) (k + 1)) (emD S g 0 (k + 1)) := Pzq2
      have FFq2 := FS_tr F1 (WK_FS X Pq2.1 F1.2.2.2)
      have uq2 := GU_FS u FFq2
      have hfq2 : hA hc1 103 = dysF S g (k + 1) := Pq2.2.1
      cases e9q2
      show K mX2_isAllSeenSo _ _ 0 0 36 [(3, vi (k : Int)), (0, vr 100), (1, vr 70), (2, vi (ldN N : Int))] [] hc1
      refine K_iinc (ls' := [(3, vi ((k : Int) + 1)), (0, vr 100), (1, vr 70), (2, vi (ldN N : Int))]) (dt_at dtX2_isAllSeenSo 20 rfl) rfl (by decide) rfl ?_
      refine K_goto (tgt := 7) (dt_at dtX2_isAllSeenSo 21 rfl) (by decide) ?_
      exact K_pk [0, 1, 2, 3] rfl (ih (k + 1) hc1 (by omega) Pq2 (by show (abB S N g k && _) = true; rw [ab, z2]; rfl))
    · rw [if_neg z2]
      refine K_if_ne (tgt := 29) (dt_at dtX2_isAllSeenSo 14 rfl) (by decide) (by first | assumption | exact ⟨by omega, by omega⟩) (fun c4 => absurd c4 (by omega)) (fun c4 => ?_)
      refine K_iconst (dt_at dtX2_isAllSeenSo 15 rfl) ?_
      have sf : abB S N g (k + 1) = false := by show (abB S N g k && _) = false; rw [ab]; cases z9 : soB N (dysF S g k) (k : Int) N.1; rfl; exact absurd z9 (by assumption)
      exact K_iret (dt_at dtX2_isAllSeenSo 16 rfl) rfl (by decide) (by decide) (by decide) (by have h9 := hQ _ (Ph.1); rw [show seB S N g = false from (asB_ab _).trans (abB_f sf _ (by omega))] at h9; exact h9)
set_option maxHeartbeats 4000000 in
set_option maxRecDepth 100000 in
theorem sX2_isAllSeenSo {h h1 : HP} {t : Nat} {S : HS} {B : Int} {f : Int → Int} {N : SN} {g : Int → Int} {h2 : HP} (u : GU h t S B f N) (F1 : FS h h1) (X : WX h1 101 t S) (hTg : rT B g) (hCg : rC S g) (h0g : g 0 ≤ 9999) (P0 : PW h1 h2 101 t (dysF S g 0) (trD S g (fun _ => 0) 0) (emD S g 0 0)) : SpecK mX2_isAllSeenSo [vr 100, vr 70] h2 (fun o h' => o = .inl (some (vi (if seB S N g = true then 1 else 0))) ∧ WK h1 h' 101 t) := by
  refine Spec_of (by decide +kernel) (Nat.le_of_ble_eq_true rfl) ?_
  have c := u.1
  have ht := c.1
  have hH := TTt ht
  have hB := c.2.2.2.1
  have hNt := hB.1
  have hNp := hB.2.1
  have hT := c.2.2.2.2.2.1
  have hC := c.2.2.2.2.2.2.1
  have h99 := c.2.2.2.2.2.2.2.1
  have G := c.2.2.2.2.2.2.2.2
  have hf0 := hT.2.2.2.1
  have g00 := hTg.2.2.2.1
  have FF0 := FS_tr F1 (WK_FS X P0.1 F1.2.2.2)
  have u0 := GU_FS u FF0
  have hf0 : hA h2 103 = dysF S g 0 := P0.2.1
  refine K_aload_n (dt_at dtX2_isAllSeenSo 0 rfl) rfl rfl ?_
  refine K_callV (M' := mX7_lastDay) (a := 70) (ci := 7) (As := []) (st := []) (dt_at dtX2_isAllSeenSo 1 rfl) (sX7_lastDay u0.2.1 u0.2.2) (show TT 70 = (0, 7) from rfl) rfl wL_X2_47 vX7_lastDay rfl npX7_lastDay (by decide) (by decide) (Nat.le_of_ble_eq_true rfl) (by decide) (by decide) GK_E (fun v9 h9 hq => ?_) (fun E h9 hq => by cases hq.1)
  obtain ⟨e9, e8⟩ := hq
  cases e9
  rw [e8]
  show K mX2_isAllSeenSo _ _ 0 0 4 [(0, vr 100), (1, vr 70)] [vi (ldN N : Int)] h2
  refine K_istore_n (ls' := [(2, vi (ldN N : Int)), (0, vr 100), (1, vr 70)]) (dt_at dtX2_isAllSeenSo 2 rfl) rfl (by decide) rfl ?_
  refine K_iconst (dt_at dtX2_isAllSeenSo 3 rfl) ?_
  refine K_istore_n (ls' := [(3, vi 0), (2, vi (ldN N : Int)), (0, vr 100), (1, vr 70)]) (dt_at dtX2_isAllSeenSo 4 rfl) rfl (by decide) rfl ?_
  exact K_pk [0, 2, 3, 1] rfl (lp_X2_isAllSeenSo u F1 X hTg hCg h0g (fun h3 q_ => ⟨rfl, q_⟩) (ldN N) 0 h2 (by omega) P0 rfl)
def mX2_isSo : MI := (yX2_isSo, cX2_isSo, 4, (some .boolean), rmK 7 0)
def tX2_isSo : List (Nat × Instr × Nat) := [(0, .aload_n 0, 1), (1, .getfield 35, 3), (4, .aload_n 1, 1), (5, .aload_n 2, 1), (6, .invokevirtual 39, 3), (9, .aload_n 0, 1), (10, .aload_n 3, 1), (11, .invokevirtual 43, 3), (14, .ireturn, 1)]
theorem dtX2_isSo : tX2_isSo.all (fun q => decide (decode cX2_isSo q.1 = .ok (q.2.1, q.2.2))) = true := by decide +kernel
theorem npX2_isSo : (parseMethodDescriptor (mY mX2_isSo).desc).map (fun d => d.parameters.length) = some 3 := by decide +kernel
theorem vX2_isSo : mV mX2_isSo := ⟨wI_X2_isSo, wS_X2_isSo, wN_X2, wC_X2_isSo, by decide +kernel, by decide +kernel⟩
set_option maxHeartbeats 4000000 in
set_option maxRecDepth 100000 in
theorem sX2_isSo {h : HP} {t : Nat} {S : HS} {B : Int} {f : Int → Int} {N : SN} (u : GU h t S B f N) : SpecK mX2_isSo [vr 100, vr t, vr 66, vr 70] h (fun o h' => o = .inl (some (vi (if seB S N f = true then 1 else 0))) ∧ FS h h') := by
  refine Spec_of (by decide +kernel) (Nat.le_of_ble_eq_true rfl) ?_
  have c := u.1
  have ht := c.1
  have hH := TTt ht
  have hB := c.2.2.2.1
  have hNt := hB.1
  have hNp := hB.2.1
  have hT := c.2.2.2.2.2.1
  have hC := c.2.2.2.2.2.2.1
  have h99 := c.2.2.2.2.2.2.2.1
  have G := c.2.2.2.2.2.2.2.2
  have hf0 := hT.2.2.2.1
  refine K_aload_n (dt_at dtX2_isSo 0 rfl) rfl rfl ?_
  refine K_get (a := 100) (ci := 2) (k := 0) (v := vr 101) (dt_at dtX2_isSo 1 rfl) (show TT 100 = (0, 2) from rfl) rfl (by decide) wF_X2_35 rfl ?_
  refine K_aload_n (dt_at dtX2_isSo 2 rfl) rfl rfl ?_
  refine K_aload_n (dt_at dtX2_isSo 3 rfl) rfl rfl ?_
  refine K_callV (M' := mX10_begin) (a := 101) (ci := 10) (As := [vr t, vr 66]) (st := []) (dt_at dtX2_isSo 4 rfl) (sX10_begin (w := 101) (t := t) (a := 66) (Or.inr rfl) ht (by decide) (by decide)) (show TT 101 = (0, 10) from rfl) rfl wL_X2_39 vX10_begin rfl npX10_begin (by decide) (by decide) (Nat.le_of_ble_eq_true rfl) (by decide) (by decide) GK_E (fun v9 hc1 hq => ?_) (fun E h9 hq => by cases hq.1)
  have hqq2 := hq
  obtain ⟨e9q2, b1, b2, b3, b4, b5, b6, b7⟩ := hqq2
  obtain ⟨F1, X, P1⟩ := BG_ok (w := 101) (Or.inr rfl) ht c.2.2.1 hB c.2.2.2.2.2.2.2.2 b1 b2 b3 b4 b5 b6 b7
  rw [c.2.2.2.2.1] at P1
  cases e9q2
  show K mX2_isSo _ _ 0 0 9 [(0, vr 100), (1, vr t), (2, vr 66), (3, vr 70)] [] hc1
  refine K_aload_n (dt_at dtX2_isSo 5 rfl) rfl rfl ?_
  refine K_aload_n (dt_at dtX2_isSo 6 rfl) rfl rfl ?_
  refine K_callV (M' := mX2_isAllSeenSo) (a := 100) (ci := 2) (As := [vr 70]) (st := []) (dt_at dtX2_isSo 7 rfl) (sX2_isAllSeenSo u F1 X hT hC h99 P1) (show TT 100 = (0, 2) from rfl) rfl wL_X2_43 vX2_isAllSeenSo rfl npX2_isAllSeenSo (by decide) (by decide) (Nat.le_of_ble_eq_true rfl) (by decide) (by decide) GK_E (fun v9 hc3 hq => ?_) (fun E h9 hq => by cases hq.1)
  have hqq4 := hq
  obtain ⟨e9q4, FR⟩ := hqq4
  cases e9q4
  show K mX2_isSo _ _ 0 0 14 [(0, vr 100), (1, vr t), (2, vr 66), (3, vr 70)] [vi (if seB S N f = true then 1 else 0)] hc3
  by_cases z1 : seB S N f = true
  · rw [if_pos z1]
    exact K_iret (dt_at dtX2_isSo 8 rfl) rfl (by decide) (by decide) (by decide) ⟨rfl, FS_tr F1 (WK_FS X FR F1.2.2.2)⟩
  · rw [if_neg z1]
    exact K_iret (dt_at dtX2_isSo 8 rfl) rfl (by decide) (by decide) (by decide) ⟨rfl, FS_tr F1 (WK_FS X FR F1.2.2.2)⟩
