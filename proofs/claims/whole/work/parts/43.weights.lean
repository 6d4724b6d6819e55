/-! weights along a day -/
theorem sumF_wg (us f : Int → Int) (p : Int) (n : Nat) : sumF us f p n = wgF us f (f (8 + p)) n := rfl
theorem wgF_cg {w f g : Int → Int} {c : Int} : ∀ n : Nat, (∀ t : Int, 0 ≤ t → t < n → f (35 + c * 6 + t) = g (35 + c * 6 + t)) → wgF w f c n = wgF w g c n
  | 0, _ => rfl
  | n + 1, h => by
    show wgF w f c n + w (n : Int) * f (35 + c * 6 + (n : Int)) = wgF w g c n + w (n : Int) * g (35 + c * 6 + (n : Int))
    rw [wgF_cg n (fun t a b => h t a (by omega)), h (n : Int) (by omega) (by omega)]
theorem wgF_lo {w f : Int → Int} {c i x : Int} {n : Nat} (hc : 0 ≤ c) (hi : i < 35) : wgF w (upI f i x) c n = wgF w f c n := wgF_cg n (fun t a b => upI_n (by omega))
theorem mvC_0 (f : Int → Int) (c t : Int) : mvC f c t 0 = f := by
  funext i
  unfold mvC upI
  by_cases e : i = 29 + t
  · rw [if_pos e, e]; omega
  · rw [if_neg e]
    by_cases e2 : i = 35 + c * 6 + t
    · rw [if_pos e2, e2]; omega
    · rw [if_neg e2]
theorem wgF_mvo {w f : Int → Int} {c d t n : Int} {N : Nat} (hc : 0 ≤ c ∧ c < 7) (hd : 0 ≤ d ∧ d < 7) (ht : 0 ≤ t ∧ t < 6) (hN : N ≤ 6) (hne : d ≠ c) : wgF w (mvC f c t n) d N = wgF w f d N :=
  wgF_cg N (fun u a b => by rw [mvC_at hc ht, if_neg (by omega), if_neg (by omega)])
theorem wgF_mvs {w f : Int → Int} {c t n : Int} (hc : 0 ≤ c ∧ c < 7) (ht : 0 ≤ t ∧ t < 6) : ∀ N : Nat, N ≤ 6 → wgF w (mvC f c t n) c N = if t < N then wgF w f c N + w t * n else wgF w f c N
  | 0, _ => by rw [if_neg (by omega)]; rfl
  | N + 1, hN => by
    have ih := wgF_mvs (w := w) (f := f) (n := n) hc ht N (by omega)
    show wgF w (mvC f c t n) c N + w (N : Int) * mvC f c t n (35 + c * 6 + (N : Int)) = if t < ((N + 1 : Nat) : Int) then wgF w f c N + w (N : Int) * f (35 + c * 6 + (N : Int)) + w t * n else wgF w f c N + w (N : Int) * f (35 + c * 6 + (N : Int))
    rw [ih, mvC_at hc ht, if_neg (show ¬ 35 + c * 6 + (N : Int) = 29 + t by omega)]
    by_cases e : t = (N : Int)
    · rw [if_neg (by omega), if_pos (by omega), if_pos (by omega), Int.mul_add, e]
      omega
    · rw [if_neg (show ¬ 35 + c * 6 + (N : Int) = 35 + c * 6 + t by omega)]
      by_cases e2 : t < (N : Int)
      · rw [if_pos e2, if_pos (by omega)]
        omega
      · rw [if_neg e2, if_neg (by omega)]
/-- the room while one packs -/
theorem pk_room {S : HS} {B : Int} {f : Int → Int} {p : Int} (hB : hsW S) (h : rT B f) (hp : 0 ≤ p ∧ p < sNp S) (hC : f (8 + p) < sNp S) : ∀ k : Nat, k ≤ sNt S → (pkI S p f k).2 = sH S (f (8 + p)) - wgF (sW S) (pkI S p f k).1 (f (8 + p)) (sNt S)
  | 0, _ => rfl
  | k + 1, hk => by
    have ih := pk_room hB h hp hC k (by omega)
    have hNt := hB.1
    have hNp := hB.2.1
    have hc := (h.1.2 p hp.1 (by omega)).2.1
    by_cases e : 0 < putF S (pkI S p f k).1 p k (pkI S p f k).2
    · have e2 : pkI S p f (k + 1) = (mvC (pkI S p f k).1 (f (8 + p)) k (putF S (pkI S p f k).1 p k (pkI S p f k).2), (pkI S p f k).2 - putF S (pkI S p f k).1 p k (pkI S p f k).2 * sW S k) := if_pos e
      rw [e2]
      show (pkI S p f k).2 - _ = sH S (f (8 + p)) - wgF (sW S) (mvC (pkI S p f k).1 (f (8 + p)) k _) (f (8 + p)) (sNt S)
      rw [wgF_mvs hc ⟨by omega, by omega⟩ (sNt S) hNt, if_pos (by omega)]
      have : putF S (pkI S p f k).1 p k (pkI S p f k).2 * sW S k = sW S k * putF S (pkI S p f k).1 p k (pkI S p f k).2 := Int.mul_comm _ _
      omega
    · have e2 : pkI S p f (k + 1) = pkI S p f k := if_neg e
      rw [e2]; exact ih
theorem pk_pos {S : HS} {B : Int} {f : Int → Int} {p : Int} (hB : hsW S) (h : rT B f) (hp : 0 ≤ p ∧ p < sNp S) (hC : f (8 + p) < sNp S) (hr : 0 ≤ sH S (f (8 + p)) - sumF (sW S) f p (sNt S)) : ∀ k : Nat, k ≤ sNt S → 0 ≤ (pkI S p f k).2
  | 0, _ => hr
  | k + 1, hk => by
    have ih := pk_pos hB h hp hC hr k (by omega)
    obtain ⟨h1, h2, h3, h4⟩ := pkI_ok hB h hp hC k (by omega)
    have hNt := hB.1
    have hwt := (hB.2.2.1 (k : Int) (by omega) (by omega)).1
    have hd := tdiv_b hwt.1 ⟨h3, h4⟩
    by_cases e : 0 < putF S (pkI S p f k).1 p k (pkI S p f k).2
    · have e2 : pkI S p f (k + 1) = (mvC (pkI S p f k).1 (f (8 + p)) k (putF S (pkI S p f k).1 p k (pkI S p f k).2), (pkI S p f k).2 - putF S (pkI S p f k).1 p k (pkI S p f k).2 * sW S k) := if_pos e
      rw [e2]
      have u2 : putF S (pkI S p f k).1 p k (pkI S p f k).2 ≤ (pkI S p f k).2.tdiv (sW S k) := by unfold putF; omega
      have u3 : putF S (pkI S p f k).1 p k (pkI S p f k).2 * sW S k ≤ (pkI S p f k).2.tdiv (sW S k) * sW S k := Int.mul_le_mul_of_nonneg_right u2 (by omega)
      have u4 := hd.2.2 (by omega)
      show 0 ≤ (pkI S p f k).2 - _
      omega
    · have e2 : pkI S p f (k + 1) = pkI S p f k := if_neg e
      rw [e2]; exact ih
/-- pieces stay where cases and things are -/
theorem wH_lo {S : HS} {f : Int → Int} {i x : Int} (h : wH S f) (hi : i < 35) : wH S (upI f i x) := by
  refine ⟨fun c a b => ?_, fun c t a b d e z => ?_⟩
  · rw [wgF_lo a hi]; exact h.1 c a b
  · rw [upI_n (by omega)]; exact h.2 c t a b d e z
theorem pk_wH {S : HS} {B : Int} {f : Int → Int} {p : Int} (hB : hsW S) (h : rT B f) (hp : 0 ≤ p ∧ p < sNp S) (hC : f (8 + p) < sNp S) (hw : wH S f) : ∀ k : Nat, k ≤ sNt S → wH S (pkI S p f k).1
  | 0, _ => hw
  | k + 1, hk => by
    have ih := pk_wH hB h hp hC hw k (by omega)
    have hNt := hB.1
    have hNp := hB.2.1
    have hc := (h.1.2 p hp.1 (by omega)).2.1
    have hr : 0 ≤ sH S (f (8 + p)) - sumF (sW S) f p (sNt S) := by
      have := hw.1 (f (8 + p)) hc.1 hC
      rw [sumF_wg]; omega
    have r1 := pk_pos hB h hp hC hr (k + 1) hk
    have r2 := pk_room hB h hp hC (k + 1) hk
    by_cases e : 0 < putF S (pkI S p f k).1 p k (pkI S p f k).2
    · have e2 : (pkI S p f (k + 1)).1 = mvC (pkI S p f k).1 (f (8 + p)) k (putF S (pkI S p f k).1 p k (pkI S p f k).2) := by
        show (if 0 < putF S (pkI S p f k).1 p k (pkI S p f k).2 then _ else pkI S p f k : (Int → Int) × Int).1 = _
        rw [if_pos e]
      refine ⟨fun c a b => ?_, fun c t a b d2 e3 z => ?_⟩
      · by_cases q : c = f (8 + p)
        · subst q; omega
        · rw [e2, wgF_mvo hc ⟨a, by omega⟩ ⟨by omega, by omega⟩ hNt q]
          exact ih.1 c a b
      · rw [e2, mvC_at hc ⟨by omega, by omega⟩, if_neg (by omega), if_neg (by omega)]
        exact ih.2 c t a b d2 e3 z
    · have e2 : pkI S p f (k + 1) = pkI S p f k := if_neg e
      rw [e2]; exact ih
theorem un_wH {S : HS} {B : Int} {f : Int → Int} {c : Int} (hB : hsW S) (h : rT B f) (hc : 0 ≤ c ∧ c < 7) (hw : wH S f) : ∀ k : Nat, k ≤ sNt S → wH S (unI f c k)
  | 0, _ => hw
  | k + 1, hk => by
    have ih := un_wH hB h hc hw k (by omega)
    have hNt := hB.1
    have hNp := hB.2.1
    obtain ⟨h1, -⟩ := unI_ok h hc k (by omega)
    have hin := rT_in h1 hc (t := (k : Int)) ⟨by omega, by omega⟩
    have hwt := (hB.2.2.1 (k : Int) (by omega) (by omega)).1
    show wH S (mvC (unI f c k) c k (-(unI f c k (35 + c * 6 + (k : Int)))))
    refine ⟨fun d a b => ?_, fun d t a b d2 e3 z => ?_⟩
    · by_cases q : d = c
      · subst q
        rw [wgF_mvs hc ⟨by omega, by omega⟩ (sNt S) hNt, if_pos (by omega)]
        have u := ih.1 d a b
        have v : 0 ≤ sW S (k : Int) * unI f d k (35 + d * 6 + (k : Int)) := Int.mul_nonneg (by omega) hin.1
        have w : sW S (k : Int) * -(unI f d k (35 + d * 6 + (k : Int))) = -(sW S (k : Int) * unI f d k (35 + d * 6 + (k : Int))) := Int.mul_neg _ _
        omega
      · rw [wgF_mvo hc ⟨a, by omega⟩ ⟨by omega, by omega⟩ hNt q]
        exact ih.1 d a b
    · rw [mvC_at hc ⟨by omega, by omega⟩, if_neg (by omega)]
      by_cases q : 35 + d * 6 + t = 35 + c * 6 + (k : Int)
      · rw [if_pos q, q]; omega
      · rw [if_neg q]; exact ih.2 d t a b d2 e3 z
theorem ps_wH {S : HS} {B : Int} {f : Int → Int} {p : Int} (hB : hsW S) (h : rT B f) (hp : 0 ≤ p ∧ p < sNp S) (hC : f (8 + p) < sNp S) (hw : wH S f) : wH S (psF S f p) := by
  have hNp := hB.2.1
  have w1 := h.1.2 p hp.1 (by omega)
  unfold psF
  by_cases e : f (1 + p) = 0
  · rw [if_pos e]
    by_cases e2 : (f 0).tmod (sE S p) = 0
    · rw [if_pos e2]
      refine wH_lo ?_ (by omega)
      unfold pkW
      by_cases e3 : inP f p = true
      · rw [if_pos e3]; exact pk_wH hB h hp hC hw (sNt S) (Nat.le_refl _)
      · rw [if_neg e3]; exact hw
    · rw [if_neg e2]; exact hw
  · rw [if_neg e]
    have h1 : rT B (upI f (1 + p) (f (1 + p) - 1)) := out_rT h ⟨hp.1, by omega⟩ (by omega)
    have w2 : wH S (upI f (1 + p) (f (1 + p) - 1)) := wH_lo hw (by omega)
    unfold soF
    by_cases e2 : f (1 + p) - 1 = 0
    · rw [if_pos e2]
      unfold cbF
      have h3 := h1.1.2 p hp.1 (by omega)
      exact un_wH hB (fond_rT h1 ⟨hp.1, by omega⟩ (by omega)) h3.2.1 (wH_lo w2 (by omega)) (sNt S) (Nat.le_refl _)
    · rw [if_neg e2]; exact w2
theorem row_wH {S : HS} {B : Int} {f : Int → Int} (hB : hsW S) (h : rT B f) (hC : rC S f) (hw : wH S f) : ∀ k : Nat, k ≤ sNp S → wH S (rowAt S f k)
  | 0, _ => hw
  | k + 1, hk => by
    have ih := row_wH hB h hC hw k (by omega)
    obtain ⟨hTk, -⟩ := rowAt_ok hB h hC k (by omega)
    exact ps_wH hB hTk ⟨by omega, by omega⟩ (rowAt_C hB h hC (k := k) (by omega) k (by omega) (by omega)) ih
theorem day_wH {S : HS} {B : Int} {f : Int → Int} (hB : hsW S) (h : rT B f) (hC : rC S f) (hw : wH S f) : wH S (dayF S f) := wH_lo (row_wH hB h hC hw (sNp S) (Nat.le_refl _)) (by omega)
theorem dys_wH {S : HS} {B : Int} {f : Int → Int} (hB : hsW S) (h : rT B f) (hC : rC S f) (hw : wH S f) : ∀ n : Nat, f 0 + n ≤ 20000 → wH S (dysF S f n)
  | 0, _ => hw
  | n + 1, hn => by
    obtain ⟨h1, h2, -⟩ := dysF_ok hB h hC n (by omega)
    exact day_wH hB h1 h2 (dys_wH hB h hC hw n (by omega))
theorem un_stp {g : Int → Int} {c t : Int} (hc : 0 ≤ c ∧ c < 7) (ht : 0 ≤ t ∧ t < 6) : upI (upI g (29 + t) (g (29 + t) + g (35 + c * 6 + t))) (35 + c * 6 + t) 0 = mvC g c t (-(g (35 + c * 6 + t))) := by
  funext i
  rw [mvC_at hc ht]
  unfold upI
  by_cases e : i = 35 + c * 6 + t
  · rw [if_pos e, if_neg (by omega), if_pos e, e]; omega
  · rw [if_neg e]
    by_cases e2 : i = 29 + t
    · rw [if_pos e2, if_pos e2]; omega
    · rw [if_neg e2, if_neg e2, if_neg e]
theorem bOr_0 {x : Int} (h : i32 x) : bOr x 0 = x := by
  unfold bOr
  rw [show Int32.ofInt 0 = 0 from rfl, Int32.or_zero, oI_to h]
theorem sum_lo {us f : Int → Int} {p i x : Int} {n : Nat} (h : rW f) (hp : 0 ≤ p ∧ p < 7) (hi : i < 35) (hn : i ≠ 8 + p) : sumF us (upI f i x) p n = sumF us f p n := by
  rw [sumF_wg, sumF_wg, upI_n (fun z => hn z.symm)]
  exact wgF_lo (h.2 p hp.1 hp.2).2.1.1 hi
theorem vP_mk {S : HS} {f g : Int → Int} {p t room : Int} (h4 : g 4 = f (15 + p)) (h5 : g 5 = f 0) (h0 : g 0 = sU S t) (h1 : g 1 = sW S t) (h2 : g 2 = f (29 + t)) (h3 : g 3 = room) : vP S f p t room = mkP (vT g) := by
  funext i
  unfold vP mkP vT
  by_cases e0 : i = 0
  · subst e0; rw [if_pos rfl, if_pos (by decide)]; exact h4.symm
  · rw [if_neg e0]
    by_cases e1 : i = 1
    · subst e1; rw [if_pos rfl, if_pos (by decide)]; exact h5.symm
    · rw [if_neg e1]
      by_cases e2 : i = 2
      · subst e2; rw [if_pos rfl, if_pos (by decide)]; exact h0.symm
      · rw [if_neg e2]
        by_cases e3 : i = 3
        · subst e3; rw [if_pos rfl, if_pos (by decide)]; exact h1.symm
        · rw [if_neg e3]
          by_cases e4 : i = 4
          · subst e4; rw [if_pos rfl, if_pos (by decide)]; exact h2.symm
          · rw [if_neg e4]
            by_cases e5 : i = 5
            · subst e5; rw [if_pos rfl, if_pos (by decide)]; exact h3.symm
            · rw [if_neg e5, if_neg (by omega)]
theorem vF_mk {S : HS} {f g : Int → Int} {p had : Int} (h4 : g 4 = f (15 + p)) (h5 : g 5 = f 0) (h6 : g 6 = had) (h7 : g 7 = sAw S p) : vF S f p had = mkF (vT g) := by
  funext i
  unfold vF mkF vT
  by_cases e0 : i = 0
  · subst e0; rw [if_pos rfl, if_pos (by decide)]; exact h4.symm
  · rw [if_neg e0]
    by_cases e1 : i = 1
    · subst e1; rw [if_pos rfl, if_pos (by decide)]; exact h5.symm
    · rw [if_neg e1]
      by_cases e2 : i = 6
      · subst e2; rw [if_pos rfl, if_pos (by decide)]; exact h6.symm
      · rw [if_neg e2]
        by_cases e3 : i = 7
        · subst e3; rw [if_pos rfl, if_pos (by decide)]; exact h7.symm
        · rw [if_neg e3, if_neg (by omega)]
