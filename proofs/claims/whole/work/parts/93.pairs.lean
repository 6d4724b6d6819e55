/-! both sides of a call -/
theorem ok_dys {S : HS} {f : Int → Int} {n : Nat} (hB : hsW S) (R : rowOK S f) (hn : n ≤ 1000) (h9 : f 0 + n ≤ 9999) : rowOK S (dysF S f n) := by
  obtain ⟨d1, d2, d3, d4, d5⟩ := dys_R hB R hn
  have hl := dys_lo hB R.1 R.2.1 n (by omega)
  have h7 := hB.2.1
  exact ⟨d1, d2, by rw [d5]; omega, d3, fun p q a b c d e => R.2.2.2.2.1 p q a b c d (by rw [← hl (8 + p) (by omega), ← hl (8 + q) (by omega)]; exact e), d4⟩
theorem ok_sw {S : HS} {f : Int → Int} {p q : Int} (hB : hsW S) (R : rowOK S f) (hp : 0 ≤ p ∧ p < sNp S) (hq : 0 ≤ q ∧ q < sNp S) : rowOK S (swF f p q) := by
  obtain ⟨d1, d2, d3⟩ := sw_ok R.1 R.2.1 hp hq hB.2.1
  have h7 := hB.2.1
  obtain ⟨r1, r2, r3, r4, r5, r6⟩ := R
  refine ⟨d1, d2, by rw [d3]; exact r3, wH_lo (wH_lo r4 (by omega)) (by omega), fun x y x0 x1 y0 y1 e => ?_, fun x x0 x1 => ?_⟩
  · have ev : ∀ z : Int, swF f p q (8 + z) = if z = q then f (8 + p) else if z = p then f (8 + q) else f (8 + z) := fun z => by
      unfold swF upI
      by_cases a : z = q
      · rw [if_pos a, if_pos (by omega)]
      · rw [if_neg a, if_neg (by omega)]
        by_cases b : z = p
        · rw [if_pos b, if_pos (by omega)]
        · rw [if_neg b, if_neg (by omega)]
    rw [ev x, ev y] at e
    by_cases a : x = q
    · rw [if_pos a] at e
      by_cases b : y = q
      · omega
      · rw [if_neg b] at e
        by_cases c : y = p
        · rw [if_pos c] at e
          have := r5 p q hp.1 hp.2 hq.1 hq.2 e
          omega
        · rw [if_neg c] at e
          have := r5 p y hp.1 hp.2 y0 y1 e
          omega
    · rw [if_neg a] at e
      by_cases a2 : x = p
      · rw [if_pos a2] at e
        by_cases b : y = q
        · rw [if_pos b] at e
          have := r5 q p hq.1 hq.2 hp.1 hp.2 e
          omega
        · rw [if_neg b] at e
          by_cases c : y = p
          · omega
          · rw [if_neg c] at e
            have := r5 q y hq.1 hq.2 y0 y1 e
            omega
      · rw [if_neg a2] at e
        by_cases b : y = q
        · rw [if_pos b] at e
          have := r5 x p x0 x1 hp.1 hp.2 e
          omega
        · rw [if_neg b] at e
          by_cases c : y = p
          · rw [if_pos c] at e
            have := r5 x q x0 x1 hq.1 hq.2 e
            omega
          · rw [if_neg c] at e
            exact r5 x y x0 x1 y0 y1 e
  · have e : swF f p q (22 + x) = f (22 + x) := by unfold swF; rw [upI_n (by omega), upI_n (by omega)]
    rw [e]; exact r6 x x0 x1
theorem ok_up {S : HS} {f : Int → Int} {i x : Int} (hB : hsW S) (R : rowOK S f) (hi : (15 ≤ i ∧ i < 22 ∧ 0 ≤ x ∧ x ≤ 9) ∨ (22 ≤ i ∧ i < 29 ∧ -1 ≤ x ∧ x < 7)) (hk9 : 22 ≤ i → x < sNp S ∧ x ≠ i - 22) : rowOK S (upI f i x) := by
  obtain ⟨⟨⟨w1, w2⟩, t2, t3, t4, t5, t6⟩, r2, r3, r4, r5, r6⟩ := R
  have h7 := hB.2.1
  refine ⟨⟨⟨fun j a b => ?_, fun p a b => ?_⟩, fun j a b => by rw [upI_n (by omega)]; exact t2 j a b, fun t a b => by rw [upI_n (by omega), upI_n (by omega), upI_n (by omega), upI_n (by omega), upI_n (by omega), upI_n (by omega), upI_n (by omega), upI_n (by omega)]; exact t3 t a b, by rw [upI_n (by omega)]; exact t4, by rw [upI_n (by omega)]; exact t5, t6⟩, fun p a b => by rw [upI_n (by omega)]; exact r2 p a b, by rw [upI_n (by omega)]; exact r3, wH_lo r4 (by omega), fun p q a b c d e => ?_, fun p a b => ?_⟩
  · unfold upI
    by_cases z : j = i
    · rw [if_pos z]; omega
    · rw [if_neg z]; exact w1 j a b
  · obtain ⟨v1, v2, v3, v4⟩ := w2 p a b
    refine ⟨by rw [upI_n (by omega)]; exact v1, by rw [upI_n (by omega)]; exact v2, ?_, ?_⟩
    · unfold upI
      by_cases z : 15 + p = i
      · rw [if_pos z]; omega
      · rw [if_neg z]; exact v3
    · unfold upI
      by_cases z : 22 + p = i
      · rw [if_pos z]; omega
      · rw [if_neg z]; exact v4
  · rw [upI_n (by omega), upI_n (by omega)] at e
    exact r5 p q a b c d e
  · by_cases z : 22 + p = i
    · rw [← z, upI_s]
      have := hk9 (by omega)
      omega
    · rw [upI_n z]; exact r6 p a b
theorem wg_le {w f : Int → Int} {c : Int} (hw : ∀ t : Int, 0 ≤ t → t < 6 → 0 ≤ f (35 + c * 6 + t)) : ∀ (n : Nat), n ≤ 6 → (∀ t : Int, 0 ≤ t → t < n → 1 ≤ w t) → ∀ t : Int, 0 ≤ t → t < n → f (35 + c * 6 + t) ≤ wgF w f c n
  | 0, _, _, t, t0, t1 => absurd t1 (by omega)
  | n + 1, hn, h1, t, t0, t1 => by
    have e : wgF w f c (n + 1) = wgF w f c n + w (n : Int) * f (35 + c * 6 + (n : Int)) := rfl
    have hnn := hw (n : Int) (by omega) (by omega)
    have hw1 := h1 (n : Int) (by omega) (by omega)
    have hm : f (35 + c * 6 + (n : Int)) ≤ w (n : Int) * f (35 + c * 6 + (n : Int)) := by
      have := Int.mul_le_mul_of_nonneg_right hw1 hnn
      omega
    have hge : 0 ≤ wgF w f c n := by
      clear e hm t1 t0 t
      have : ∀ m : Nat, m ≤ n → 0 ≤ wgF w f c m := by
        intro m
        induction m with
        | zero => intro _; exact Int.le_refl 0
        | succ m ih =>
          intro hm
          show 0 ≤ wgF w f c m + w (m : Int) * f (35 + c * 6 + (m : Int))
          have a1 := ih (by omega)
          have a2 := Int.mul_nonneg (by have := h1 (m : Int) (by omega) (by omega); omega : 0 ≤ w (m : Int)) (hw (m : Int) (by omega) (by omega))
          omega
      exact this n (Nat.le_refl _)
    by_cases z : t = (n : Int)
    · rw [z, e]; omega
    · have := wg_le hw n (by omega) (fun t a b => h1 t a (by omega)) t t0 (by omega)
      have : 0 ≤ w (n : Int) * f (35 + c * 6 + (n : Int)) := by omega
      rw [e]; omega
theorem ok_buy {S : HS} {f : Int → Int} {q d : Int} (hB : hsW S) (R : rowOK S f) (hq : 0 ≤ q ∧ q < sNt S) (hd : 1 ≤ d ∧ d ≤ 9 ∧ f (29 + q) + d ≤ 99) : rowOK S (upI f (29 + q) (f (29 + q) + d)) := by
  have R0 := R
  obtain ⟨⟨⟨w1, w2⟩, t2, t3, t4, t5, t6⟩, r2, r3, r4, r5, r6⟩ := R
  have h7 := hB.2.1
  have h6 := hB.1
  have hin : ∀ c : Int, 0 ≤ c → c < 7 → 0 ≤ f (35 + c * 6 + q) ∧ f (35 + c * 6 + q) ≤ 60 := fun c c0 c1 => by
    refine ⟨t2 _ (by omega) (by omega), ?_⟩
    by_cases z : c < sNp S
    · have a1 := r4.1 c c0 z
      have a2 := (hB.2.2.2.1 c c0 z).1.2
      have a3 := wg_le (w := sW S) (f := f) (c := c) (fun t a b => t2 _ (by omega) (by omega)) (sNt S) h6 (fun t a b => (hB.2.2.1 t a b).1.1) q hq.1 hq.2
      omega
    · rw [r4.2 c q c0 c1 hq.1 (by omega) (Or.inl (by omega))]; decide
  have sq := t2 (29 + q) (by omega) (by omega)
  refine ⟨⟨⟨fun j a b => ?_, fun p a b => ?_⟩, fun j a b => ?_, fun t a b => ?_, by rw [upI_n (by omega)]; exact t4, by rw [upI_n (by omega)]; exact t5, t6⟩, fun p a b => by rw [upI_n (by omega)]; exact r2 p a b, by rw [upI_n (by omega)]; exact r3, wH_lo r4 (by omega), fun p x a b c d e => ?_, fun p a b => by rw [upI_n (by omega)]; exact r6 p a b⟩
  · unfold upI
    by_cases z : j = 29 + q
    · rw [if_pos z]; omega
    · rw [if_neg z]; exact w1 j a b
  · obtain ⟨v1, v2, v3, v4⟩ := w2 p a b
    exact ⟨by rw [upI_n (by omega)]; exact v1, by rw [upI_n (by omega)]; exact v2, by rw [upI_n (by omega)]; exact v3, by rw [upI_n (by omega)]; exact v4⟩
  · unfold upI
    by_cases z : j = 29 + q
    · rw [if_pos z]; omega
    · rw [if_neg z]; exact t2 j a b
  · rw [upI_n (i := 29 + q) (j := 35 + t) (by omega), upI_n (i := 29 + q) (j := 41 + t) (by omega), upI_n (i := 29 + q) (j := 47 + t) (by omega), upI_n (i := 29 + q) (j := 53 + t) (by omega), upI_n (i := 29 + q) (j := 59 + t) (by omega), upI_n (i := 29 + q) (j := 65 + t) (by omega), upI_n (i := 29 + q) (j := 71 + t) (by omega)]
    by_cases z : t = q
    · have g0 := hin 0 (by omega) (by omega)
      have g1 := hin 1 (by omega) (by omega)
      have g2 := hin 2 (by omega) (by omega)
      have g3 := hin 3 (by omega) (by omega)
      have g4 := hin 4 (by omega) (by omega)
      have g5 := hin 5 (by omega) (by omega)
      have g6 := hin 6 (by omega) (by omega)
      rw [show (35 : Int) + 0 * 6 + q = 35 + q by omega] at g0
      rw [show (35 : Int) + 1 * 6 + q = 41 + q by omega] at g1
      rw [show (35 : Int) + 2 * 6 + q = 47 + q by omega] at g2
      rw [show (35 : Int) + 3 * 6 + q = 53 + q by omega] at g3
      rw [show (35 : Int) + 4 * 6 + q = 59 + q by omega] at g4
      rw [show (35 : Int) + 5 * 6 + q = 65 + q by omega] at g5
      rw [show (35 : Int) + 6 * 6 + q = 71 + q by omega] at g6
      rw [z, upI_s]; omega
    · rw [upI_n (by omega)]; exact t3 t a b
  · rw [upI_n (by omega), upI_n (by omega)] at e
    exact r5 p x a b c d e
def MtP (cd : String → Int) (o2 : Option AV) (tau : Int) : AO → Prop
  | .inl v => (∃ x, v = some (vi x)) ∧ o2 = v ∧ tau = 0
  | .inr E => (tau = cd E ∧ tau ≠ 0 ∧ (E = eNS ∨ E = eIA)) ∧ ∃ y, o2 = some (vi y)
def Pair (M1 M2 : MI) (as : List AV) (cd : String → Int) (h : HP) (A : AS) : Prop := ∃ Q1 : AO → HP → Prop, SpecK M1 (vr 30 :: as) h Q1 ∧ ∀ o h1, Q1 o h1 → FM h h1 ∧ ∃ (A' : AS) (o2 : Option AV) (tau : Int), CI h1 A' ∧ MtP cd o2 tau o ∧ ∀ h2, MV h2 A → SpecK M2 (vr 0 :: as) h2 (fun o' h3 => o' = .inl o2 ∧ MV h3 A' ∧ FC h2 h3 ∧ hI h3 0 0 = tau)
def cNS (E : String) : Int := if E = eNS then 1 else 2
def cIA (E : String) : Int := if E = eIA then 1 else 0
def cN1 (E : String) : Int := if E = eNS then 1 else 0
def c00 (_ : String) : Int := 0
theorem cIA_i : cIA eIA = 1 := if_pos rfl
theorem cN1_n : cN1 eNS = 1 := if_pos rfl
theorem cNS_n : cNS eNS = 1 := if_pos rfl
theorem cNS_i : cNS eIA = 2 := if_neg (by decide)
section PRS
variable {M1 M2 : MI} {as : List AV} {cd : String → Int} {h : HP} {A A' : AS}
theorem pq {x : Int} (I : CI h A) (s1 : SpecK M1 (vr 30 :: as) h (fun o h' => o = .inl (some (vi x)) ∧ FS h h')) (s2 : ∀ h2, MV h2 A → SpecK M2 (vr 0 :: as) h2 (fun o h' => o = .inl (some (vi x)) ∧ FQ h2 h' ∧ hI h' 0 0 = 0)) : Pair M1 M2 as cd h A :=
  ⟨_, s1, fun o h1 q => ⟨FM_FS q.2, A, some (vi x), 0, CI_FS I q.2, by rw [q.1]; exact And.intro ⟨_, rfl⟩ ⟨rfl, rfl⟩, fun h2 V => Spec_mono (fun o h' r => ⟨r.1, MV_FQ V r.2.1, FC_FQ r.2.1, r.2.2⟩) (s2 h2 V)⟩⟩
theorem px {E : String} {tau : Int} (I : CI h A) (hE : E = eNS ∨ E = eIA) (hc : cd E = tau) (ht : tau ≠ 0) (s1 : SpecK M1 (vr 30 :: as) h (fun o h' => o = .inr E ∧ FS h h')) (s2 : ∀ h2, MV h2 A → SpecK M2 (vr 0 :: as) h2 (fun o h' => o = .inl (some (vi 0)) ∧ FQ h2 h' ∧ hI h' 0 0 = tau)) : Pair M1 M2 as cd h A :=
  ⟨_, s1, fun o h1 q => ⟨FM_FS q.2, A, some (vi 0), tau, CI_FS I q.2, by rw [q.1]; exact And.intro ⟨hc.symm, ht, hE⟩ ⟨_, rfl⟩, fun h2 V => Spec_mono (fun o h' r => ⟨r.1, MV_FQ V r.2.1, FC_FQ r.2.1, r.2.2⟩) (s2 h2 V)⟩⟩
theorem pa {x : Int} (s1 : SpecK M1 (vr 30 :: as) h (fun o h' => o = .inl (some (vi x)) ∧ CI h' A' ∧ FM h h')) (s2 : ∀ h2, MV h2 A → SpecK M2 (vr 0 :: as) h2 (fun o h' => o = .inl (some (vi x)) ∧ MV h' A' ∧ FC h2 h' ∧ hI h' 0 0 = 0)) : Pair M1 M2 as cd h A :=
  ⟨_, s1, fun o h1 q => ⟨q.2.2, A', some (vi x), 0, q.2.1, by rw [q.1]; exact And.intro ⟨_, rfl⟩ ⟨rfl, rfl⟩, fun h2 V => s2 h2 V⟩⟩
/-- a method that gives nothing -/
def PairV (M1 M2 : MI) (h : HP) (A : AS) : Prop := ∃ A' : AS, SpecK M1 [vr 30] h (fun o h1 => o = .inl none ∧ CI h1 A' ∧ FM h h1) ∧ ∀ h2, MV h2 A → SpecK M2 [vr 0] h2 (fun o' h3 => o' = .inl none ∧ MV h3 A' ∧ FC h2 h3 ∧ hI h3 0 0 = 0)
theorem pav (s1 : SpecK M1 [vr 30] h (fun o h' => o = .inl none ∧ CI h' A' ∧ FM h h')) (s2 : ∀ h2, MV h2 A → SpecK M2 [vr 0] h2 (fun o h' => o = .inl none ∧ MV h' A' ∧ FC h2 h' ∧ hI h' 0 0 = 0)) : PairV M1 M2 h A := ⟨A', s1, s2⟩
end PRS
theorem qv {M : MI} {as : List AV} {h : HP} {x y : Int} {Q : HP → Prop} (e : x = y) (s : SpecK M as h (fun o h' => o = .inl (some (vi x)) ∧ Q h')) : SpecK M as h (fun o h' => o = .inl (some (vi y)) ∧ Q h') := by rw [← e]; exact s
theorem toN {d : Int} (h : 0 ≤ d) : ∃ n : Nat, d = (n : Int) := ⟨d.toNat, by omega⟩
set_option maxHeartbeats 4000000 in
theorem pair_count {h : HP} {A : AS} {w : Int} (I : CI h A) (h_w : i32 w) : Pair mX11_count mX12_count [vi w] cN1 h A := by
  obtain ⟨S, ⟨f, C, N⟩, im, tp, nt, rf, fl⟩ := A
  obtain ⟨t, ht, i2, i3, i4, i5, i6, i7, i8, i9, i10⟩ := id I
  have c : CQ h t S 600 f := CI_CQ ht i2 i4 i5 i6 i7 i8
  have R : rowOK S f := i8.1
  have h67 : sNt S ≤ 6 ∧ sNp S ≤ 7 := ⟨i5.1, i5.2.1⟩
  have hf9 : 0 ≤ f 0 ∧ f 0 ≤ 9999 := ⟨R.1.2.2.2.1, R.2.2.1⟩
  by_cases k70 : 0 ≤ w ∧ w ≤ 14
  · skip
    have hw9 : w = 0 ∨ w = 1 ∨ w = 2 ∨ w = 3 ∨ w = 4 ∨ w = 5 ∨ w = 6 ∨ w = 7 ∨ w = 8 ∨ w = 9 ∨ w = 10 ∨ w = 11 ∨ w = 12 ∨ w = 13 ∨ w = 14 := by omega
    rcases hw9 with rfl | rfl | rfl | rfl | rfl | rfl | rfl | rfl | rfl | rfl | rfl | rfl | rfl | rfl | rfl
    · exact pq I (sX11_count_0 c) (fun h2 V => (sX12_count_0 (MV_ask V R)))
    · exact pq I (sX11_count_1 c) (fun h2 V => (sX12_count_1 (MV_ask V R)))
    · exact pq I (sX11_count_2 c) (fun h2 V => (sX12_count_2 (MV_ask V R)))
    · exact pq I (sX11_count_3 c) (fun h2 V => (sX12_count_3 (MV_ask V R)))
    · exact pq I (sX11_count_4 c) (fun h2 V => (sX12_count_4 (MV_ask V R)))
    · exact pq I (sX11_count_5 c) (fun h2 V => (sX12_count_5 (MV_ask V R)))
    · exact pq I (sX11_count_6 c) (fun h2 V => (sX12_count_6 (MV_ask V R)))
    · exact pq I (sX11_count_7 c) (fun h2 V => (sX12_count_7 (MV_ask V R)))
    · exact pq I (sX11_count_8 c) (fun h2 V => (sX12_count_8 (MV_ask V R)))
    · exact pq I (qv (show hI h 68 2 = (C.1 : Int) from i7.2.1.choose_spec.2.2.1) (sX11_count_9 c)) (fun h2 V => (qv (show hI h2 0 44 = (C.1 : Int) from V.2.2.2.1.2.1.1) (sX12_count_9 (MV_ask V R))))
    · exact pq I (qv (show hI h 70 4 = (N.1 : Int) from i7.2.2.2.1) (sX11_count_10 c)) (fun h2 V => (qv (show hI h2 0 51 = (N.1 : Int) from V.2.2.2.1.2.2.1) (sX12_count_10 (MV_ask V R))))
    · exact pq I (qv (show hI h 30 15 = (nt : Int) from i10.1) (sX11_count_11 c)) (fun h2 V => (qv (show hI h2 0 12 = (nt : Int) from V.2.2.2.2.2.1) (sX12_count_11 (MV_ask V R))))
    · exact pq I (qv (show hA h 32 0 = rf.1 from i10.2.2.2.1.1) (sX11_count_12 c)) (fun h2 V => (qv (show hA h2 8 0 = rf.1 from V.2.2.2.2.2.2.2.1.1) (sX12_count_12 (MV_ask V R))))
    · exact pq I (qv (show hA h 32 1 = rf.2.1 from i10.2.2.2.1.2.1) (sX11_count_13 c)) (fun h2 V => (qv (show hA h2 8 1 = rf.2.1 from V.2.2.2.2.2.2.2.1.2.1) (sX12_count_13 (MV_ask V R))))
    · exact pq I (qv (show hA h 32 2 = rf.2.2 from i10.2.2.2.1.2.2) (sX11_count_14 c)) (fun h2 V => (qv (show hA h2 8 2 = rf.2.2 from V.2.2.2.2.2.2.2.1.2.2) (sX12_count_14 (MV_ask V R))))
  · exact px I (Or.inl rfl) cN1_n (by decide) (sX11_count_x1 c (by first | assumption | exact ⟨by omega, by omega⟩) (by first | assumption | omega)) (fun h2 V => (sX12_count_x1 (MV_ask V R) (by first | assumption | exact ⟨by omega, by omega⟩) (by first | assumption | omega)))
set_option maxHeartbeats 4000000 in
theorem pair_thing {h : HP} {A : AS} {q w : Int} (I : CI h A) (h_q : i32 q) (h_w : i32 w) : Pair mX11_thing mX12_thing [vi q, vi w] cN1 h A := by
  obtain ⟨S, ⟨f, C, N⟩, im, tp, nt, rf, fl⟩ := A
  obtain ⟨t, ht, i2, i3, i4, i5, i6, i7, i8, i9, i10⟩ := id I
  have c : CQ h t S 600 f := CI_CQ ht i2 i4 i5 i6 i7 i8
  have R : rowOK S f := i8.1
  have h67 : sNt S ≤ 6 ∧ sNp S ≤ 7 := ⟨i5.1, i5.2.1⟩
  have hf9 : 0 ≤ f 0 ∧ f 0 ≤ 9999 := ⟨R.1.2.2.2.1, R.2.2.1⟩
  by_cases k70 : 0 ≤ q ∧ q < sNt S
  · skip
    by_cases k71 : 0 ≤ w ∧ w ≤ 2
    · skip
      have hw9 : w = 0 ∨ w = 1 ∨ w = 2 := by omega
      rcases hw9 with rfl | rfl | rfl
      · exact pq I (sX11_thing_0 c (by first | assumption | omega)) (fun h2 V => (sX12_thing_0 (MV_ask V R) (by first | assumption | omega)))
      · exact pq I (sX11_thing_1 c (by first | assumption | omega)) (fun h2 V => (sX12_thing_1 (MV_ask V R) (by first | assumption | omega)))
      · exact pq I (sX11_thing_2 c (by first | assumption | omega)) (fun h2 V => (sX12_thing_2 (MV_ask V R) (by first | assumption | omega)))
    · exact px I (Or.inl rfl) cN1_n (by decide) (sX11_thing_x2 c (by first | assumption | exact ⟨by omega, by omega⟩) (by first | assumption | exact ⟨by omega, by omega⟩) (by first | assumption | omega) (by first | assumption | omega)) (fun h2 V => (sX12_thing_x2 (MV_ask V R) (by first | assumption | exact ⟨by omega, by omega⟩) (by first | assumption | exact ⟨by omega, by omega⟩) (by first | assumption | omega) (by first | assumption | omega)))
  · exact px I (Or.inl rfl) cN1_n (by decide) (sX11_thing_x1 c (by first | assumption | exact ⟨by omega, by omega⟩) (by first | assumption | exact ⟨by omega, by omega⟩) (by first | assumption | omega)) (fun h2 V => (sX12_thing_x1 (MV_ask V R) (by first | assumption | exact ⟨by omega, by omega⟩) (by first | assumption | exact ⟨by omega, by omega⟩) (by first | assumption | omega)))
set_option maxHeartbeats 4000000 in
theorem pair_person {h : HP} {A : AS} {p w : Int} (I : CI h A) (h_p : i32 p) (h_w : i32 w) : Pair mX11_person mX12_person [vi p, vi w] cN1 h A := by
  obtain ⟨S, ⟨f, C, N⟩, im, tp, nt, rf, fl⟩ := A
  obtain ⟨t, ht, i2, i3, i4, i5, i6, i7, i8, i9, i10⟩ := id I
  have c : CQ h t S 600 f := CI_CQ ht i2 i4 i5 i6 i7 i8
  have R : rowOK S f := i8.1
  have h67 : sNt S ≤ 6 ∧ sNp S ≤ 7 := ⟨i5.1, i5.2.1⟩
  have hf9 : 0 ≤ f 0 ∧ f 0 ≤ 9999 := ⟨R.1.2.2.2.1, R.2.2.1⟩
  by_cases k70 : 0 ≤ p ∧ p < sNp S
  · skip
    by_cases k71 : 0 ≤ w ∧ w ≤ 9
    · skip
      have hw9 : w = 0 ∨ w = 1 ∨ w = 2 ∨ w = 3 ∨ w = 4 ∨ w = 5 ∨ w = 6 ∨ w = 7 ∨ w = 8 ∨ w = 9 := by omega
      rcases hw9 with rfl | rfl | rfl | rfl | rfl | rfl | rfl | rfl | rfl | rfl
      · exact pq I (sX11_person_0 c (by first | assumption | omega)) (fun h2 V => (sX12_person_0 (MV_ask V R) (by first | assumption | omega)))
      · exact pq I (sX11_person_1 c (by first | assumption | omega)) (fun h2 V => (sX12_person_1 (MV_ask V R) (by first | assumption | omega)))
      · exact pq I (sX11_person_2 c (by first | assumption | omega)) (fun h2 V => (sX12_person_2 (MV_ask V R) (by first | assumption | omega)))
      · exact pq I (sX11_person_3 c (by first | assumption | omega)) (fun h2 V => (sX12_person_3 (MV_ask V R) (by first | assumption | omega)))
      · exact pq I (sX11_person_4 c (by first | assumption | omega)) (fun h2 V => (sX12_person_4 (MV_ask V R) (by first | assumption | omega)))
      · exact pq I (sX11_person_5 c (by first | assumption | omega)) (fun h2 V => (sX12_person_5 (MV_ask V R) (by first | assumption | omega)))
      · exact pq I (sX11_person_6 c (by first | assumption | omega)) (fun h2 V => (sX12_person_6 (MV_ask V R) (by first | assumption | omega)))
      · exact pq I (sX11_person_7 c (by first | assumption | omega)) (fun h2 V => (sX12_person_7 (MV_ask V R) (by first | assumption | omega)))
      · exact pq I (sX11_person_8 c (by first | assumption | omega)) (fun h2 V => (sX12_person_8 (MV_ask V R) (by first | assumption | omega)))
      · exact pq I (sX11_person_9 c (by first | assumption | omega)) (fun h2 V => (sX12_person_9 (MV_ask V R) (by first | assumption | omega)))
    · exact px I (Or.inl rfl) cN1_n (by decide) (sX11_person_x2 c (by first | assumption | exact ⟨by omega, by omega⟩) (by first | assumption | exact ⟨by omega, by omega⟩) (by first | assumption | omega) (by first | assumption | omega)) (fun h2 V => (sX12_person_x2 (MV_ask V R) (by first | assumption | exact ⟨by omega, by omega⟩) (by first | assumption | exact ⟨by omega, by omega⟩) (by first | assumption | omega) (by first | assumption | omega)))
  · exact px I (Or.inl rfl) cN1_n (by decide) (sX11_person_x1 c (by first | assumption | exact ⟨by omega, by omega⟩) (by first | assumption | exact ⟨by omega, by omega⟩) (by first | assumption | omega)) (fun h2 V => (sX12_person_x1 (MV_ask V R) (by first | assumption | exact ⟨by omega, by omega⟩) (by first | assumption | exact ⟨by omega, by omega⟩) (by first | assumption | omega)))
set_option maxHeartbeats 4000000 in
theorem pair_in {h : HP} {A : AS} {p q : Int} (I : CI h A) (h_p : i32 p) (h_q : i32 q) : Pair mX11_in mX12_in [vi p, vi q] cN1 h A := by
  obtain ⟨S, ⟨f, C, N⟩, im, tp, nt, rf, fl⟩ := A
  obtain ⟨t, ht, i2, i3, i4, i5, i6, i7, i8, i9, i10⟩ := id I
  have c : CQ h t S 600 f := CI_CQ ht i2 i4 i5 i6 i7 i8
  have R : rowOK S f := i8.1
  have h67 : sNt S ≤ 6 ∧ sNp S ≤ 7 := ⟨i5.1, i5.2.1⟩
  have hf9 : 0 ≤ f 0 ∧ f 0 ≤ 9999 := ⟨R.1.2.2.2.1, R.2.2.1⟩
  by_cases k70 : 0 ≤ p ∧ p < sNp S
  · skip
    by_cases k71 : 0 ≤ q ∧ q < sNt S
    · skip
      exact pq I (sX11_in c (by first | assumption | omega) (by first | assumption | omega)) (fun h2 V => (sX12_in (MV_ask V R) (by first | assumption | omega) (by first | assumption | omega)))
    · exact px I (Or.inl rfl) cN1_n (by decide) (sX11_in_x2 c (by first | assumption | exact ⟨by omega, by omega⟩) (by first | assumption | exact ⟨by omega, by omega⟩) (by first | assumption | omega) (by first | assumption | omega)) (fun h2 V => (sX12_in_x2 (MV_ask V R) (by first | assumption | exact ⟨by omega, by omega⟩) (by first | assumption | exact ⟨by omega, by omega⟩) (by first | assumption | omega) (by first | assumption | omega)))
  · exact px I (Or.inl rfl) cN1_n (by decide) (sX11_in_x1 c (by first | assumption | exact ⟨by omega, by omega⟩) (by first | assumption | exact ⟨by omega, by omega⟩) (by first | assumption | omega)) (fun h2 V => (sX12_in_x1 (MV_ask V R) (by first | assumption | exact ⟨by omega, by omega⟩) (by first | assumption | exact ⟨by omega, by omega⟩) (by first | assumption | omega)))
set_option maxHeartbeats 4000000 in
theorem pair_then {h : HP} {A : AS} {p d w : Int} (I : CI h A) (h_p : i32 p) (h_d : i32 d) (h_w : i32 w) : Pair mX11_then mX12_then [vi p, vi d, vi w] cNS h A := by
  obtain ⟨S, ⟨f, C, N⟩, im, tp, nt, rf, fl⟩ := A
  obtain ⟨t, ht, i2, i3, i4, i5, i6, i7, i8, i9, i10⟩ := id I
  have c : CQ h t S 600 f := CI_CQ ht i2 i4 i5 i6 i7 i8
  have R : rowOK S f := i8.1
  have h67 : sNt S ≤ 6 ∧ sNp S ≤ 7 := ⟨i5.1, i5.2.1⟩
  have hf9 : 0 ≤ f 0 ∧ f 0 ≤ 9999 := ⟨R.1.2.2.2.1, R.2.2.1⟩
  by_cases k70 : 0 ≤ p ∧ p < sNp S
  · skip
    by_cases k71 : 0 ≤ w ∧ w ≤ 3
    · skip
      by_cases k72 : 0 ≤ d ∧ d ≤ 100
      · skip
        obtain ⟨n, rfl⟩ := toN (d := d) (by omega)
        have hw9 : w = 0 ∨ w = 1 ∨ w = 2 ∨ w = 3 := by omega
        rcases hw9 with rfl | rfl | rfl | rfl
        · exact pq I (sX11_then_0 c (by first | assumption | omega) (by first | assumption | omega)) (fun h2 V => (sX12_then_0 (MV_ask V R) (by first | assumption | omega) (by first | assumption | omega)))
        · exact pq I (sX11_then_1 c (by first | assumption | omega) (by first | assumption | omega)) (fun h2 V => (sX12_then_1 (MV_ask V R) (by first | assumption | omega) (by first | assumption | omega)))
        · exact pq I (sX11_then_2 c (by first | assumption | omega) (by first | assumption | omega)) (fun h2 V => (sX12_then_2 (MV_ask V R) (by first | assumption | omega) (by first | assumption | omega)))
        · exact pq I (sX11_then_3 c (by first | assumption | omega) (by first | assumption | omega)) (fun h2 V => (sX12_then_3 (MV_ask V R) (by first | assumption | omega) (by first | assumption | omega)))
      · exact px I (Or.inr rfl) cNS_i (by decide) (sX11_then_x3 c (by first | assumption | exact ⟨by omega, by omega⟩) (by first | assumption | exact ⟨by omega, by omega⟩) (by first | assumption | exact ⟨by omega, by omega⟩) (by first | assumption | omega) (by first | assumption | omega) (by first | assumption | omega)) (fun h2 V => (sX12_then_x3 (MV_ask V R) (by first | assumption | exact ⟨by omega, by omega⟩) (by first | assumption | exact ⟨by omega, by omega⟩) (by first | assumption | exact ⟨by omega, by omega⟩) (by first | assumption | omega) (by first | assumption | omega) (by first | assumption | omega)))
    · exact px I (Or.inl rfl) cNS_n (by decide) (sX11_then_x2 c (by first | assumption | exact ⟨by omega, by omega⟩) (by first | assumption | exact ⟨by omega, by omega⟩) (by first | assumption | exact ⟨by omega, by omega⟩) (by first | assumption | omega) (by first | assumption | omega)) (fun h2 V => (sX12_then_x2 (MV_ask V R) (by first | assumption | exact ⟨by omega, by omega⟩) (by first | assumption | exact ⟨by omega, by omega⟩) (by first | assumption | exact ⟨by omega, by omega⟩) (by first | assumption | omega) (by first | assumption | omega)))
  · exact px I (Or.inl rfl) cNS_n (by decide) (sX11_then_x1 c (by first | assumption | exact ⟨by omega, by omega⟩) (by first | assumption | exact ⟨by omega, by omega⟩) (by first | assumption | exact ⟨by omega, by omega⟩) (by first | assumption | omega)) (fun h2 V => (sX12_then_x1 (MV_ask V R) (by first | assumption | exact ⟨by omega, by omega⟩) (by first | assumption | exact ⟨by omega, by omega⟩) (by first | assumption | exact ⟨by omega, by omega⟩) (by first | assumption | omega)))
set_option maxHeartbeats 4000000 in
theorem pair_packed {h : HP} {A : AS} {p q d : Int} (I : CI h A) (h_p : i32 p) (h_q : i32 q) (h_d : i32 d) : Pair mX11_packed mX12_packed [vi p, vi q, vi d] cNS h A := by
  obtain ⟨S, ⟨f, C, N⟩, im, tp, nt, rf, fl⟩ := A
  obtain ⟨t, ht, i2, i3, i4, i5, i6, i7, i8, i9, i10⟩ := id I
  have c : CQ h t S 600 f := CI_CQ ht i2 i4 i5 i6 i7 i8
  have R : rowOK S f := i8.1
  have h67 : sNt S ≤ 6 ∧ sNp S ≤ 7 := ⟨i5.1, i5.2.1⟩
  have hf9 : 0 ≤ f 0 ∧ f 0 ≤ 9999 := ⟨R.1.2.2.2.1, R.2.2.1⟩
  by_cases k70 : 0 ≤ p ∧ p < sNp S
  · skip
    by_cases k71 : 0 ≤ q ∧ q < sNt S
    · skip
      by_cases k72 : 0 ≤ d ∧ d ≤ 100
      · skip
        obtain ⟨n, rfl⟩ := toN (d := d) (by omega)
        exact pq I (sX11_packed c (by first | assumption | omega) (by first | assumption | omega) (by first | assumption | omega)) (fun h2 V => (sX12_packed (MV_ask V R) (by first | assumption | omega) (by first | assumption | omega) (by first | assumption | omega)))
      · exact px I (Or.inr rfl) cNS_i (by decide) (sX11_packed_x3 c (by first | assumption | exact ⟨by omega, by omega⟩) (by first | assumption | exact ⟨by omega, by omega⟩) (by first | assumption | exact ⟨by omega, by omega⟩) (by first | assumption | omega) (by first | assumption | omega) (by first | assumption | omega)) (fun h2 V => (sX12_packed_x3 (MV_ask V R) (by first | assumption | exact ⟨by omega, by omega⟩) (by first | assumption | exact ⟨by omega, by omega⟩) (by first | assumption | exact ⟨by omega, by omega⟩) (by first | assumption | omega) (by first | assumption | omega) (by first | assumption | omega)))
    · exact px I (Or.inl rfl) cNS_n (by decide) (sX11_packed_x2 c (by first | assumption | exact ⟨by omega, by omega⟩) (by first | assumption | exact ⟨by omega, by omega⟩) (by first | assumption | exact ⟨by omega, by omega⟩) (by first | assumption | omega) (by first | assumption | omega)) (fun h2 V => (sX12_packed_x2 (MV_ask V R) (by first | assumption | exact ⟨by omega, by omega⟩) (by first | assumption | exact ⟨by omega, by omega⟩) (by first | assumption | exact ⟨by omega, by omega⟩) (by first | assumption | omega) (by first | assumption | omega)))
  · exact px I (Or.inl rfl) cNS_n (by decide) (sX11_packed_x1 c (by first | assumption | exact ⟨by omega, by omega⟩) (by first | assumption | exact ⟨by omega, by omega⟩) (by first | assumption | exact ⟨by omega, by omega⟩) (by first | assumption | omega)) (fun h2 V => (sX12_packed_x1 (MV_ask V R) (by first | assumption | exact ⟨by omega, by omega⟩) (by first | assumption | exact ⟨by omega, by omega⟩) (by first | assumption | exact ⟨by omega, by omega⟩) (by first | assumption | omega)))
set_option maxHeartbeats 4000000 in
theorem pair_cupboard {h : HP} {A : AS} {q d : Int} (I : CI h A) (h_q : i32 q) (h_d : i32 d) : Pair mX11_cupboard mX12_cupboard [vi q, vi d] cNS h A := by
  obtain ⟨S, ⟨f, C, N⟩, im, tp, nt, rf, fl⟩ := A
  obtain ⟨t, ht, i2, i3, i4, i5, i6, i7, i8, i9, i10⟩ := id I
  have c : CQ h t S 600 f := CI_CQ ht i2 i4 i5 i6 i7 i8
  have R : rowOK S f := i8.1
  have h67 : sNt S ≤ 6 ∧ sNp S ≤ 7 := ⟨i5.1, i5.2.1⟩
  have hf9 : 0 ≤ f 0 ∧ f 0 ≤ 9999 := ⟨R.1.2.2.2.1, R.2.2.1⟩
  by_cases k70 : 0 ≤ q ∧ q < sNt S
  · skip
    by_cases k71 : 0 ≤ d ∧ d ≤ 100
    · skip
      obtain ⟨n, rfl⟩ := toN (d := d) (by omega)
      exact pq I (sX11_cupboard c (by first | assumption | omega) (by first | assumption | omega)) (fun h2 V => (sX12_cupboard (MV_ask V R) (by first | assumption | omega) (by first | assumption | omega)))
    · exact px I (Or.inr rfl) cNS_i (by decide) (sX11_cupboard_x2 c (by first | assumption | exact ⟨by omega, by omega⟩) (by first | assumption | exact ⟨by omega, by omega⟩) (by first | assumption | omega) (by first | assumption | omega)) (fun h2 V => (sX12_cupboard_x2 (MV_ask V R) (by first | assumption | exact ⟨by omega, by omega⟩) (by first | assumption | exact ⟨by omega, by omega⟩) (by first | assumption | omega) (by first | assumption | omega)))
  · exact px I (Or.inl rfl) cNS_n (by decide) (sX11_cupboard_x1 c (by first | assumption | exact ⟨by omega, by omega⟩) (by first | assumption | exact ⟨by omega, by omega⟩) (by first | assumption | omega)) (fun h2 V => (sX12_cupboard_x1 (MV_ask V R) (by first | assumption | exact ⟨by omega, by omega⟩) (by first | assumption | exact ⟨by omega, by omega⟩) (by first | assumption | omega)))
set_option maxHeartbeats 4000000 in
theorem pair_later {h : HP} {A : AS} {d w : Int} (I : CI h A) (h_d : i32 d) (h_w : i32 w) : Pair mX11_later mX12_later [vi d, vi w] cNS h A := by
  obtain ⟨S, ⟨f, C, N⟩, im, tp, nt, rf, fl⟩ := A
  obtain ⟨t, ht, i2, i3, i4, i5, i6, i7, i8, i9, i10⟩ := id I
  have c : CQ h t S 600 f := CI_CQ ht i2 i4 i5 i6 i7 i8
  have R : rowOK S f := i8.1
  have h67 : sNt S ≤ 6 ∧ sNp S ≤ 7 := ⟨i5.1, i5.2.1⟩
  have hf9 : 0 ≤ f 0 ∧ f 0 ≤ 9999 := ⟨R.1.2.2.2.1, R.2.2.1⟩
  by_cases k70 : 0 ≤ w ∧ w ≤ 3
  · skip
    by_cases k71 : 0 ≤ d ∧ d ≤ 100
    · skip
      obtain ⟨n, rfl⟩ := toN (d := d) (by omega)
      have hw9 : w = 0 ∨ w = 1 ∨ w = 2 ∨ w = 3 := by omega
      rcases hw9 with rfl | rfl | rfl | rfl
      · exact pq I (sX11_later_0 c (by first | assumption | omega)) (fun h2 V => (sX12_later_0 (MV_ask V R) (by first | assumption | omega)))
      · exact pq I (sX11_later_1 c (by first | assumption | omega)) (fun h2 V => (sX12_later_1 (MV_ask V R) (by first | assumption | omega)))
      · exact pq I (sX11_later_2 c (by first | assumption | omega)) (fun h2 V => (sX12_later_2 (MV_ask V R) (by first | assumption | omega)))
      · exact pq I (sX11_later_3 c (by first | assumption | omega)) (fun h2 V => (sX12_later_3 (MV_ask V R) (by first | assumption | omega)))
    · exact px I (Or.inr rfl) cNS_i (by decide) (sX11_later_x2 c (by first | assumption | exact ⟨by omega, by omega⟩) (by first | assumption | exact ⟨by omega, by omega⟩) (by first | assumption | omega) (by first | assumption | omega)) (fun h2 V => (sX12_later_x2 (MV_ask V R) (by first | assumption | exact ⟨by omega, by omega⟩) (by first | assumption | exact ⟨by omega, by omega⟩) (by first | assumption | omega) (by first | assumption | omega)))
  · exact px I (Or.inl rfl) cNS_n (by decide) (sX11_later_x1 c (by first | assumption | exact ⟨by omega, by omega⟩) (by first | assumption | exact ⟨by omega, by omega⟩) (by first | assumption | omega)) (fun h2 V => (sX12_later_x1 (MV_ask V R) (by first | assumption | exact ⟨by omega, by omega⟩) (by first | assumption | exact ⟨by omega, by omega⟩) (by first | assumption | omega)))
set_option maxHeartbeats 4000000 in
theorem pair_next {h : HP} {A : AS} {p : Int} (I : CI h A) (h_p : i32 p) : Pair mX11_next mX12_next [vi p] cN1 h A := by
  obtain ⟨S, ⟨f, C, N⟩, im, tp, nt, rf, fl⟩ := A
  obtain ⟨t, ht, i2, i3, i4, i5, i6, i7, i8, i9, i10⟩ := id I
  have c : CQ h t S 600 f := CI_CQ ht i2 i4 i5 i6 i7 i8
  have R : rowOK S f := i8.1
  have h67 : sNt S ≤ 6 ∧ sNp S ≤ 7 := ⟨i5.1, i5.2.1⟩
  have hf9 : 0 ≤ f 0 ∧ f 0 ≤ 9999 := ⟨R.1.2.2.2.1, R.2.2.1⟩
  by_cases k70 : 0 ≤ p ∧ p < sNp S
  · skip
    exact pq I (sX11_next c (by first | assumption | omega)) (fun h2 V => (sX12_next (MV_ask V R) (by first | assumption | omega)))
  · exact px I (Or.inl rfl) cN1_n (by decide) (sX11_next_x1 c (by first | assumption | exact ⟨by omega, by omega⟩) (by first | assumption | omega)) (fun h2 V => (sX12_next_x1 (MV_ask V R) (by first | assumption | exact ⟨by omega, by omega⟩) (by first | assumption | omega)))
set_option maxHeartbeats 4000000 in
theorem pair_lacking {h : HP} {A : AS} {q : Int} (I : CI h A) (h_q : i32 q) : Pair mX11_lacking mX12_lacking [vi q] cN1 h A := by
  obtain ⟨S, ⟨f, C, N⟩, im, tp, nt, rf, fl⟩ := A
  obtain ⟨t, ht, i2, i3, i4, i5, i6, i7, i8, i9, i10⟩ := id I
  have c : CQ h t S 600 f := CI_CQ ht i2 i4 i5 i6 i7 i8
  have R : rowOK S f := i8.1
  have h67 : sNt S ≤ 6 ∧ sNp S ≤ 7 := ⟨i5.1, i5.2.1⟩
  have hf9 : 0 ≤ f 0 ∧ f 0 ≤ 9999 := ⟨R.1.2.2.2.1, R.2.2.1⟩
  by_cases k70 : 0 ≤ q ∧ q < sNt S
  · skip
    exact pq I (sX11_lacking c (by first | assumption | omega)) (fun h2 V => (sX12_lacking (MV_ask V R) (by first | assumption | omega)))
  · exact px I (Or.inl rfl) cN1_n (by decide) (sX11_lacking_x1 c (by first | assumption | exact ⟨by omega, by omega⟩) (by first | assumption | omega)) (fun h2 V => (sX12_lacking_x1 (MV_ask V R) (by first | assumption | exact ⟨by omega, by omega⟩) (by first | assumption | omega)))
set_option maxHeartbeats 4000000 in
theorem pair_emptiest {h : HP} {A : AS} {d : Int} (I : CI h A) (h_d : i32 d) : Pair mX11_emptiest mX12_emptiest [vi d] cIA h A := by
  obtain ⟨S, ⟨f, C, N⟩, im, tp, nt, rf, fl⟩ := A
  obtain ⟨t, ht, i2, i3, i4, i5, i6, i7, i8, i9, i10⟩ := id I
  have c : CQ h t S 600 f := CI_CQ ht i2 i4 i5 i6 i7 i8
  have R : rowOK S f := i8.1
  have h67 : sNt S ≤ 6 ∧ sNp S ≤ 7 := ⟨i5.1, i5.2.1⟩
  have hf9 : 0 ≤ f 0 ∧ f 0 ≤ 9999 := ⟨R.1.2.2.2.1, R.2.2.1⟩
  by_cases k70 : 1 ≤ d ∧ d ≤ 100
  · skip
    obtain ⟨n, rfl⟩ := toN (d := d) (by omega)
    exact pq I (sX11_emptiest c (by first | assumption | omega)) (fun h2 V => (sX12_emptiest (MV_ask V R) (by first | assumption | omega)))
  · exact px I (Or.inr rfl) cIA_i (by decide) (sX11_emptiest_x1 c (by first | assumption | exact ⟨by omega, by omega⟩) (by first | assumption | omega)) (fun h2 V => (sX12_emptiest_x1 (MV_ask V R) (by first | assumption | exact ⟨by omega, by omega⟩) (by first | assumption | omega)))
set_option maxHeartbeats 4000000 in
theorem pair_alone {h : HP} {A : AS} {d : Int} (I : CI h A) (h_d : i32 d) : Pair mX11_alone mX12_alone [vi d] cIA h A := by
  obtain ⟨S, ⟨f, C, N⟩, im, tp, nt, rf, fl⟩ := A
  obtain ⟨t, ht, i2, i3, i4, i5, i6, i7, i8, i9, i10⟩ := id I
  have c : CQ h t S 600 f := CI_CQ ht i2 i4 i5 i6 i7 i8
  have R : rowOK S f := i8.1
  have h67 : sNt S ≤ 6 ∧ sNp S ≤ 7 := ⟨i5.1, i5.2.1⟩
  have hf9 : 0 ≤ f 0 ∧ f 0 ≤ 9999 := ⟨R.1.2.2.2.1, R.2.2.1⟩
  by_cases k70 : 1 ≤ d ∧ d ≤ 100
  · skip
    obtain ⟨n, rfl⟩ := toN (d := d) (by omega)
    exact pq I (sX11_alone c (by first | assumption | omega)) (fun h2 V => (sX12_alone (MV_ask V R) (by first | assumption | omega)))
  · exact px I (Or.inr rfl) cIA_i (by decide) (sX11_alone_x1 c (by first | assumption | exact ⟨by omega, by omega⟩) (by first | assumption | omega)) (fun h2 V => (sX12_alone_x1 (MV_ask V R) (by first | assumption | exact ⟨by omega, by omega⟩) (by first | assumption | omega)))
set_option maxHeartbeats 4000000 in
theorem pair_balance {h : HP} {A : AS} {x : Int} (I : CI h A) (h_x : i32 x) : Pair mX11_balance mX12_balance [vi x] cIA h A := by
  obtain ⟨S, ⟨f, C, N⟩, im, tp, nt, rf, fl⟩ := A
  obtain ⟨t, ht, i2, i3, i4, i5, i6, i7, i8, i9, i10⟩ := id I
  have c : CQ h t S 600 f := CI_CQ ht i2 i4 i5 i6 i7 i8
  have R : rowOK S f := i8.1
  have h67 : sNt S ≤ 6 ∧ sNp S ≤ 7 := ⟨i5.1, i5.2.1⟩
  have hf9 : 0 ≤ f 0 ∧ f 0 ≤ 9999 := ⟨R.1.2.2.2.1, R.2.2.1⟩
  by_cases k70 : 1 ≤ x ∧ x ≤ 99
  · skip
    exact pq I (sX11_balance c (by first | assumption | omega)) (fun h2 V => (sX12_balance (MV_ask V R) (by first | assumption | omega)))
  · exact px I (Or.inr rfl) cIA_i (by decide) (sX11_balance_x1 c (by first | assumption | exact ⟨by omega, by omega⟩) (by first | assumption | omega)) (fun h2 V => (sX12_balance_x1 (MV_ask V R) (by first | assumption | exact ⟨by omega, by omega⟩) (by first | assumption | omega)))
set_option maxHeartbeats 4000000 in
theorem pair_best {h : HP} {A : AS} {p q : Int} (I : CI h A) (h_p : i32 p) (h_q : i32 q) : Pair mX11_best mX12_best [vi p, vi q] cN1 h A := by
  obtain ⟨S, ⟨f, C, N⟩, im, tp, nt, rf, fl⟩ := A
  obtain ⟨t, ht, i2, i3, i4, i5, i6, i7, i8, i9, i10⟩ := id I
  have c : CQ h t S 600 f := CI_CQ ht i2 i4 i5 i6 i7 i8
  have R : rowOK S f := i8.1
  have h67 : sNt S ≤ 6 ∧ sNp S ≤ 7 := ⟨i5.1, i5.2.1⟩
  have hf9 : 0 ≤ f 0 ∧ f 0 ≤ 9999 := ⟨R.1.2.2.2.1, R.2.2.1⟩
  by_cases k70 : 0 ≤ p ∧ p < sNp S
  · skip
    by_cases k71 : -1 ≤ q ∧ q < sNt S
    · skip
      by_cases z1 : q = -1
      · rw [z1]
        exact pq I (sX11_best_n c (by first | assumption | omega)) (fun h2 V => (sX12_best_n (MV_ask V R) (by first | assumption | omega)))
      · obtain ⟨n, rfl⟩ := toN (d := q) (by omega)
        exact pq I (sX11_best c (by first | assumption | omega) (by first | assumption | omega)) (fun h2 V => (sX12_best (MV_ask V R) (by first | assumption | omega) (by first | assumption | omega)))
    · exact px I (Or.inl rfl) cN1_n (by decide) (sX11_best_x2 c (by first | assumption | exact ⟨by omega, by omega⟩) (by first | assumption | exact ⟨by omega, by omega⟩) (by first | assumption | omega) (by first | assumption | omega) (by first | assumption | omega)) (fun h2 V => (sX12_best_x2 (MV_ask V R) (by first | assumption | exact ⟨by omega, by omega⟩) (by first | assumption | exact ⟨by omega, by omega⟩) (by first | assumption | omega) (by first | assumption | omega)))
  · exact px I (Or.inl rfl) cN1_n (by decide) (sX11_best_x1 c (by first | assumption | exact ⟨by omega, by omega⟩) (by first | assumption | exact ⟨by omega, by omega⟩) (by first | assumption | omega)) (fun h2 V => (sX12_best_x1 (MV_ask V R) (by first | assumption | exact ⟨by omega, by omega⟩) (by first | assumption | exact ⟨by omega, by omega⟩) (by first | assumption | omega)))
set_option maxHeartbeats 4000000 in
theorem pair_toHold {h : HP} {A : AS} (I : CI h A) : Pair mX11_toHold mX12_toHold [] c00 h A := by
  obtain ⟨S, ⟨f, C, N⟩, im, tp, nt, rf, fl⟩ := A
  obtain ⟨t, ht, i2, i3, i4, i5, i6, i7, i8, i9, i10⟩ := id I
  have c : CQ h t S 600 f := CI_CQ ht i2 i4 i5 i6 i7 i8
  have R : rowOK S f := i8.1
  have h67 : sNt S ≤ 6 ∧ sNp S ≤ 7 := ⟨i5.1, i5.2.1⟩
  have hf9 : 0 ≤ f 0 ∧ f 0 ≤ 9999 := ⟨R.1.2.2.2.1, R.2.2.1⟩
  exact pq I (sX11_toHold c) (fun h2 V => (sX12_toHold (MV_ask V R)))
set_option maxHeartbeats 4000000 in
theorem pair_fonder {h : HP} {A : AS} {w : Int} (I : CI h A) (h_w : i32 w) : Pair mX11_fonder mX12_fonder [vi w] cN1 h A := by
  obtain ⟨S, ⟨f, C, N⟩, im, tp, nt, rf, fl⟩ := A
  obtain ⟨t, ht, i2, i3, i4, i5, i6, i7, i8, i9, i10⟩ := id I
  have c : CQ h t S 600 f := CI_CQ ht i2 i4 i5 i6 i7 i8
  have R : rowOK S f := i8.1
  have h67 : sNt S ≤ 6 ∧ sNp S ≤ 7 := ⟨i5.1, i5.2.1⟩
  have hf9 : 0 ≤ f 0 ∧ f 0 ≤ 9999 := ⟨R.1.2.2.2.1, R.2.2.1⟩
  by_cases k70 : 0 ≤ w ∧ w ≤ 2
  · skip
    have hw9 : w = 0 ∨ w = 1 ∨ w = 2 := by omega
    rcases hw9 with rfl | rfl | rfl
    · exact pq I (sX11_fonder_0 ⟨c, i7.2.2, i8.2.2⟩) (fun h2 V => (sX12_fonder_0 (MV_ask V R) V.2.2.2.1.2.2 i8.2.2))
    · exact pq I (sX11_fonder_1 ⟨c, i7.2.2, i8.2.2⟩) (fun h2 V => (sX12_fonder_1 (MV_ask V R) V.2.2.2.1.2.2 i8.2.2))
    · exact pq I (sX11_fonder_2 ⟨c, i7.2.2, i8.2.2⟩) (fun h2 V => (sX12_fonder_2 (MV_ask V R) V.2.2.2.1.2.2 i8.2.2))
  · exact px I (Or.inl rfl) cN1_n (by decide) (sX11_fonder_x1 c (by first | assumption | exact ⟨by omega, by omega⟩) (by first | assumption | omega)) (fun h2 V => (sX12_fonder_x1 (MV_ask V R) (by first | assumption | exact ⟨by omega, by omega⟩) (by first | assumption | omega)))
set_option maxHeartbeats 4000000 in
theorem pair_look {h : HP} {A : AS} {w : Int} (I : CI h A) (h_w : i32 w) : Pair mX11_look mX12_look [vi w] cN1 h A := by
  obtain ⟨S, ⟨f, C, N⟩, im, tp, nt, rf, fl⟩ := A
  obtain ⟨t, ht, i2, i3, i4, i5, i6, i7, i8, i9, i10⟩ := id I
  have c : CQ h t S 600 f := CI_CQ ht i2 i4 i5 i6 i7 i8
  have R : rowOK S f := i8.1
  have h67 : sNt S ≤ 6 ∧ sNp S ≤ 7 := ⟨i5.1, i5.2.1⟩
  have hf9 : 0 ≤ f 0 ∧ f 0 ≤ 9999 := ⟨R.1.2.2.2.1, R.2.2.1⟩
  by_cases k70 : 0 ≤ w ∧ w ≤ 1
  · skip
    have hw9 : w = 0 ∨ w = 1 := by omega
    rcases hw9 with rfl | rfl
    · exact pq I (sX11_look_0 ⟨c, i7.2.2, i8.2.2⟩) (fun h2 V => (sX12_look_0 (MV_ask V R) V.2.2.2.1.2.2 i8.2.2))
    · exact pq I (sX11_look_1 ⟨c, i7.2.2, i8.2.2⟩) (fun h2 V => (sX12_look_1 (MV_ask V R) V.2.2.2.1.2.2 i8.2.2))
  · exact px I (Or.inl rfl) cN1_n (by decide) (sX11_look_x1 c (by first | assumption | exact ⟨by omega, by omega⟩) (by first | assumption | omega)) (fun h2 V => (sX12_look_x1 (MV_ask V R) (by first | assumption | exact ⟨by omega, by omega⟩) (by first | assumption | omega)))
set_option maxHeartbeats 4000000 in
theorem pair_trains {h : HP} {A : AS} {p d x : Int} (I : CI h A) (h_p : i32 p) (h_d : i32 d) (h_x : i32 x) : Pair mX11_trains mX12_trains [vi p, vi d, vi x] cNS h A := by
  obtain ⟨S, ⟨f, C, N⟩, im, tp, nt, rf, fl⟩ := A
  obtain ⟨t, ht, i2, i3, i4, i5, i6, i7, i8, i9, i10⟩ := id I
  have c : CQ h t S 600 f := CI_CQ ht i2 i4 i5 i6 i7 i8
  have R : rowOK S f := i8.1
  have h67 : sNt S ≤ 6 ∧ sNp S ≤ 7 := ⟨i5.1, i5.2.1⟩
  have hf9 : 0 ≤ f 0 ∧ f 0 ≤ 9999 := ⟨R.1.2.2.2.1, R.2.2.1⟩
  by_cases k70 : 0 ≤ p ∧ p < sNp S
  · skip
    by_cases k71 : 1 ≤ d ∧ d ≤ 5
    · skip
      by_cases k72 : 0 ≤ x ∧ x ≤ 10
      · skip
        obtain ⟨n, rfl⟩ := toN (d := d) (by omega)
        obtain ⟨pn, rfl⟩ := toN (d := p) (by omega)
        exact pq I (sX11_trains c (by first | assumption | omega) (by first | assumption | omega) (by first | assumption | omega)) (fun h2 V => (sX12_trains (MV_ask V R) (by first | assumption | omega) (by first | assumption | omega) (by first | assumption | omega)))
      · exact px I (Or.inr rfl) cNS_i (by decide) (sX11_trains_x3 c (by first | assumption | exact ⟨by omega, by omega⟩) (by first | assumption | exact ⟨by omega, by omega⟩) (by first | assumption | exact ⟨by omega, by omega⟩) (by first | assumption | omega) (by first | assumption | omega) (by first | assumption | omega)) (fun h2 V => (sX12_trains_x2 (MV_ask V R) (by first | assumption | exact ⟨by omega, by omega⟩) (by first | assumption | exact ⟨by omega, by omega⟩) (by first | assumption | exact ⟨by omega, by omega⟩) (by first | assumption | omega) (by first | assumption | omega)))
    · exact px I (Or.inr rfl) cNS_i (by decide) (sX11_trains_x2 c (by first | assumption | exact ⟨by omega, by omega⟩) (by first | assumption | exact ⟨by omega, by omega⟩) (by first | assumption | exact ⟨by omega, by omega⟩) (by first | assumption | omega) (by first | assumption | omega)) (fun h2 V => (sX12_trains_x2 (MV_ask V R) (by first | assumption | exact ⟨by omega, by omega⟩) (by first | assumption | exact ⟨by omega, by omega⟩) (by first | assumption | exact ⟨by omega, by omega⟩) (by first | assumption | omega) (by first | assumption | omega)))
  · exact px I (Or.inl rfl) cNS_n (by decide) (sX11_trains_x1 c (by first | assumption | exact ⟨by omega, by omega⟩) (by first | assumption | exact ⟨by omega, by omega⟩) (by first | assumption | exact ⟨by omega, by omega⟩) (by first | assumption | omega)) (fun h2 V => (sX12_trains_x1 (MV_ask V R) (by first | assumption | exact ⟨by omega, by omega⟩) (by first | assumption | exact ⟨by omega, by omega⟩) (by first | assumption | exact ⟨by omega, by omega⟩) (by first | assumption | omega)))
set_option maxHeartbeats 4000000 in
theorem pair_game {h : HP} {A : AS} {p q w : Int} (I : CI h A) (h_p : i32 p) (h_q : i32 q) (h_w : i32 w) : Pair mX11_game mX12_game [vi p, vi q, vi w] cNS h A := by
  obtain ⟨S, ⟨f, C, N⟩, im, tp, nt, rf, fl⟩ := A
  obtain ⟨t, ht, i2, i3, i4, i5, i6, i7, i8, i9, i10⟩ := id I
  have c : CQ h t S 600 f := CI_CQ ht i2 i4 i5 i6 i7 i8
  have R : rowOK S f := i8.1
  have h67 : sNt S ≤ 6 ∧ sNp S ≤ 7 := ⟨i5.1, i5.2.1⟩
  have hf9 : 0 ≤ f 0 ∧ f 0 ≤ 9999 := ⟨R.1.2.2.2.1, R.2.2.1⟩
  by_cases k70 : 0 ≤ p ∧ p < sNp S
  · skip
    by_cases k71 : 0 ≤ q ∧ q < sNp S
    · skip
      by_cases k72 : 0 ≤ w ∧ w ≤ 1
      · skip
        by_cases k73 : p ≠ q
        · skip
          by_cases z1 : (bitN (fun j => decide (f (22 + (j : Int)) = p)) (sNp S)) = 0 ∨ (bitN (fun j => decide (f (22 + (j : Int)) = q)) (sNp S)) = 0
          · have hw9 : w = 0 ∨ w = 1 := by omega
            rcases hw9 with rfl | rfl
            · exact pq I (sX11_game_no c (by first | assumption | omega) (by first | assumption | omega) (by first | assumption | omega) (by first | assumption | omega) (by first | assumption | omega)) (fun h2 V => (sX12_game_no0 (MV_ask V R) (by first | assumption | omega) (by first | assumption | omega) (by first | assumption | omega) (by first | assumption | omega)))
            · exact pq I (sX11_game_no c (by first | assumption | omega) (by first | assumption | omega) (by first | assumption | omega) (by first | assumption | omega) (by first | assumption | omega)) (fun h2 V => (sX12_game_no1 (MV_ask V R) (by first | assumption | omega) (by first | assumption | omega) (by first | assumption | omega) (by first | assumption | omega)))
          · have z2 : (bitN (fun j => decide (f (22 + (j : Int)) = p)) (sNp S)) ≠ 0 := fun z => z1 (Or.inl z)
            have z3 : (bitN (fun j => decide (f (22 + (j : Int)) = q)) (sNp S)) ≠ 0 := fun z => z1 (Or.inr z)
            have hw9 : w = 0 ∨ w = 1 := by omega
            rcases hw9 with rfl | rfl
            · exact pq I (sX11_game_0 c (by first | assumption | omega) (by first | assumption | omega) (by first | assumption | omega) (by first | assumption | omega) (by first | assumption | omega)) (fun h2 V => (sX12_game_0 (MV_ask V R) (by first | assumption | omega) (by first | assumption | omega) (by first | assumption | omega) (by first | assumption | omega) (by first | assumption | omega)))
            · exact pq I (sX11_game_1 c (by first | assumption | omega) (by first | assumption | omega) (by first | assumption | omega) (by first | assumption | omega) (by first | assumption | omega)) (fun h2 V => (sX12_game_1 (MV_ask V R) (by first | assumption | omega) (by first | assumption | omega) (by first | assumption | omega) (by first | assumption | omega) (by first | assumption | omega)))
        · exact px I (Or.inr rfl) cNS_i (by decide) (sX11_game_x4 c (by first | assumption | omega) (by first | assumption | omega) (by first | assumption | omega) (by first | assumption | omega)) (fun h2 V => (sX12_game_x4 (MV_ask V R) (by first | assumption | exact ⟨by omega, by omega⟩) (by first | assumption | exact ⟨by omega, by omega⟩) (by first | assumption | exact ⟨by omega, by omega⟩) (by first | assumption | omega) (by first | assumption | omega) (by first | assumption | omega) (by first | assumption | omega)))
      · exact px I (Or.inl rfl) cNS_n (by decide) (sX11_game_x3 c (by first | assumption | exact ⟨by omega, by omega⟩) (by first | assumption | exact ⟨by omega, by omega⟩) (by first | assumption | exact ⟨by omega, by omega⟩) (by first | assumption | omega) (by first | assumption | omega) (by first | assumption | omega)) (fun h2 V => (sX12_game_x3 (MV_ask V R) (by first | assumption | exact ⟨by omega, by omega⟩) (by first | assumption | exact ⟨by omega, by omega⟩) (by first | assumption | exact ⟨by omega, by omega⟩) (by first | assumption | omega) (by first | assumption | omega) (by first | assumption | omega)))
    · exact px I (Or.inl rfl) cNS_n (by decide) (sX11_game_x2 c (by first | assumption | exact ⟨by omega, by omega⟩) (by first | assumption | exact ⟨by omega, by omega⟩) (by first | assumption | exact ⟨by omega, by omega⟩) (by first | assumption | omega) (by first | assumption | omega)) (fun h2 V => (sX12_game_x2 (MV_ask V R) (by first | assumption | exact ⟨by omega, by omega⟩) (by first | assumption | exact ⟨by omega, by omega⟩) (by first | assumption | exact ⟨by omega, by omega⟩) (by first | assumption | omega) (by first | assumption | omega)))
  · exact px I (Or.inl rfl) cNS_n (by decide) (sX11_game_x1 c (by first | assumption | exact ⟨by omega, by omega⟩) (by first | assumption | exact ⟨by omega, by omega⟩) (by first | assumption | exact ⟨by omega, by omega⟩) (by first | assumption | omega)) (fun h2 V => (sX12_game_x1 (MV_ask V R) (by first | assumption | exact ⟨by omega, by omega⟩) (by first | assumption | exact ⟨by omega, by omega⟩) (by first | assumption | exact ⟨by omega, by omega⟩) (by first | assumption | omega)))
set_option maxHeartbeats 4000000 in
theorem pair_years {h : HP} {A : AS} {s d w : Int} (I : CI h A) (h_s : i32 s) (h_d : i32 d) (h_w : i32 w) : Pair mX11_years mX12_years [vi s, vi d, vi w] cNS h A := by
  obtain ⟨S, ⟨f, C, N⟩, im, tp, nt, rf, fl⟩ := A
  obtain ⟨t, ht, i2, i3, i4, i5, i6, i7, i8, i9, i10⟩ := id I
  have c : CQ h t S 600 f := CI_CQ ht i2 i4 i5 i6 i7 i8
  have R : rowOK S f := i8.1
  have h67 : sNt S ≤ 6 ∧ sNp S ≤ 7 := ⟨i5.1, i5.2.1⟩
  have hf9 : 0 ≤ f 0 ∧ f 0 ≤ 9999 := ⟨R.1.2.2.2.1, R.2.2.1⟩
  by_cases k70 : 0 ≤ w ∧ w ≤ 2
  · skip
    by_cases k71 : 0 ≤ d ∧ d ≤ 100
    · skip
      obtain ⟨n, rfl⟩ := toN (d := d) (by omega)
      have hw9 : w = 0 ∨ w = 1 ∨ w = 2 := by omega
      rcases hw9 with rfl | rfl | rfl
      · exact pq I (sX11_years_0 c (by first | assumption | omega) (by first | assumption | omega)) (fun h2 V => (sX12_years_0 (MV_ask V R) (by first | assumption | omega)))
      · exact pq I (sX11_years_1 c (by first | assumption | omega) (by first | assumption | omega)) (fun h2 V => (sX12_years_1 (MV_ask V R) (by first | assumption | omega)))
      · exact pq I (sX11_years_2 c (by first | assumption | omega) (by first | assumption | omega)) (fun h2 V => (sX12_years_2 (MV_ask V R) (by first | assumption | omega)))
    · exact px I (Or.inr rfl) cNS_i (by decide) (sX11_years_x2 c (by first | assumption | exact ⟨by omega, by omega⟩) (by first | assumption | exact ⟨by omega, by omega⟩) (by first | assumption | exact ⟨by omega, by omega⟩) (by first | assumption | omega) (by first | assumption | omega)) (fun h2 V => (sX12_years_x2 (MV_ask V R) (by first | assumption | exact ⟨by omega, by omega⟩) (by first | assumption | exact ⟨by omega, by omega⟩) (by first | assumption | exact ⟨by omega, by omega⟩) (by first | assumption | omega) (by first | assumption | omega)))
  · exact px I (Or.inl rfl) cNS_n (by decide) (sX11_years_x1 c (by first | assumption | exact ⟨by omega, by omega⟩) (by first | assumption | exact ⟨by omega, by omega⟩) (by first | assumption | exact ⟨by omega, by omega⟩) (by first | assumption | omega)) (fun h2 V => (sX12_years_x1 (MV_ask V R) (by first | assumption | exact ⟨by omega, by omega⟩) (by first | assumption | exact ⟨by omega, by omega⟩) (by first | assumption | exact ⟨by omega, by omega⟩) (by first | assumption | omega)))
set_option maxHeartbeats 4000000 in
theorem pair_trips {h : HP} {A : AS} {p d w : Int} (I : CI h A) (h_p : i32 p) (h_d : i32 d) (h_w : i32 w) : Pair mX11_trips mX12_trips [vi p, vi d, vi w] cNS h A := by
  obtain ⟨S, ⟨f, C, N⟩, im, tp, nt, rf, fl⟩ := A
  obtain ⟨t, ht, i2, i3, i4, i5, i6, i7, i8, i9, i10⟩ := id I
  have c : CQ h t S 600 f := CI_CQ ht i2 i4 i5 i6 i7 i8
  have R : rowOK S f := i8.1
  have h67 : sNt S ≤ 6 ∧ sNp S ≤ 7 := ⟨i5.1, i5.2.1⟩
  have hf9 : 0 ≤ f 0 ∧ f 0 ≤ 9999 := ⟨R.1.2.2.2.1, R.2.2.1⟩
  by_cases k70 : 0 ≤ p ∧ p < sNp S
  · skip
    by_cases k71 : 0 ≤ w ∧ w ≤ 1
    · skip
      by_cases k72 : 0 ≤ d ∧ d ≤ 100
      · skip
        obtain ⟨n, rfl⟩ := toN (d := d) (by omega)
        have hw9 : w = 0 ∨ w = 1 := by omega
        rcases hw9 with rfl | rfl
        · exact pq I (sX11_trips_0 c (by first | assumption | omega) (by first | assumption | omega)) (fun h2 V => (sX12_trips_0 (MV_ask V R) (by first | assumption | omega) (by first | assumption | omega)))
        · exact pq I (sX11_trips_1 c (by first | assumption | omega) (by first | assumption | omega)) (fun h2 V => (sX12_trips_1 (MV_ask V R) (by first | assumption | omega) (by first | assumption | omega)))
      · exact px I (Or.inr rfl) cNS_i (by decide) (sX11_trips_x3 c (by first | assumption | exact ⟨by omega, by omega⟩) (by first | assumption | exact ⟨by omega, by omega⟩) (by first | assumption | exact ⟨by omega, by omega⟩) (by first | assumption | omega) (by first | assumption | omega) (by first | assumption | omega)) (fun h2 V => (sX12_trips_x3 (MV_ask V R) (by first | assumption | exact ⟨by omega, by omega⟩) (by first | assumption | exact ⟨by omega, by omega⟩) (by first | assumption | exact ⟨by omega, by omega⟩) (by first | assumption | omega) (by first | assumption | omega) (by first | assumption | omega)))
    · exact px I (Or.inl rfl) cNS_n (by decide) (sX11_trips_x2 c (by first | assumption | exact ⟨by omega, by omega⟩) (by first | assumption | exact ⟨by omega, by omega⟩) (by first | assumption | exact ⟨by omega, by omega⟩) (by first | assumption | omega) (by first | assumption | omega)) (fun h2 V => (sX12_trips_x2 (MV_ask V R) (by first | assumption | exact ⟨by omega, by omega⟩) (by first | assumption | exact ⟨by omega, by omega⟩) (by first | assumption | exact ⟨by omega, by omega⟩) (by first | assumption | omega) (by first | assumption | omega)))
  · exact px I (Or.inl rfl) cNS_n (by decide) (sX11_trips_x1 c (by first | assumption | exact ⟨by omega, by omega⟩) (by first | assumption | exact ⟨by omega, by omega⟩) (by first | assumption | exact ⟨by omega, by omega⟩) (by first | assumption | omega)) (fun h2 V => (sX12_trips_x1 (MV_ask V R) (by first | assumption | exact ⟨by omega, by omega⟩) (by first | assumption | exact ⟨by omega, by omega⟩) (by first | assumption | exact ⟨by omega, by omega⟩) (by first | assumption | omega)))
set_option maxHeartbeats 4000000 in
theorem pair_together {h : HP} {A : AS} {p q d : Int} (I : CI h A) (h_p : i32 p) (h_q : i32 q) (h_d : i32 d) : Pair mX11_together mX12_together [vi p, vi q, vi d] cNS h A := by
  obtain ⟨S, ⟨f, C, N⟩, im, tp, nt, rf, fl⟩ := A
  obtain ⟨t, ht, i2, i3, i4, i5, i6, i7, i8, i9, i10⟩ := id I
  have c : CQ h t S 600 f := CI_CQ ht i2 i4 i5 i6 i7 i8
  have R : rowOK S f := i8.1
  have h67 : sNt S ≤ 6 ∧ sNp S ≤ 7 := ⟨i5.1, i5.2.1⟩
  have hf9 : 0 ≤ f 0 ∧ f 0 ≤ 9999 := ⟨R.1.2.2.2.1, R.2.2.1⟩
  by_cases k70 : 0 ≤ p ∧ p < sNp S
  · skip
    by_cases k71 : 0 ≤ q ∧ q < sNp S
    · skip
      by_cases k72 : 1 ≤ d ∧ d ≤ 100
      · skip
        obtain ⟨n, rfl⟩ := toN (d := d) (by omega)
        exact pq I (sX11_together c (by first | assumption | omega) (by first | assumption | omega) (by first | assumption | omega)) (fun h2 V => (sX12_together (MV_ask V R) (by first | assumption | omega) (by first | assumption | omega) (by first | assumption | omega)))
      · exact px I (Or.inr rfl) cNS_i (by decide) (sX11_together_x3 c (by first | assumption | exact ⟨by omega, by omega⟩) (by first | assumption | exact ⟨by omega, by omega⟩) (by first | assumption | exact ⟨by omega, by omega⟩) (by first | assumption | omega) (by first | assumption | omega) (by first | assumption | omega)) (fun h2 V => (sX12_together_x3 (MV_ask V R) (by first | assumption | exact ⟨by omega, by omega⟩) (by first | assumption | exact ⟨by omega, by omega⟩) (by first | assumption | exact ⟨by omega, by omega⟩) (by first | assumption | omega) (by first | assumption | omega) (by first | assumption | omega)))
    · exact px I (Or.inl rfl) cNS_n (by decide) (sX11_together_x2 c (by first | assumption | exact ⟨by omega, by omega⟩) (by first | assumption | exact ⟨by omega, by omega⟩) (by first | assumption | exact ⟨by omega, by omega⟩) (by first | assumption | omega) (by first | assumption | omega)) (fun h2 V => (sX12_together_x2 (MV_ask V R) (by first | assumption | exact ⟨by omega, by omega⟩) (by first | assumption | exact ⟨by omega, by omega⟩) (by first | assumption | exact ⟨by omega, by omega⟩) (by first | assumption | omega) (by first | assumption | omega)))
  · exact px I (Or.inl rfl) cNS_n (by decide) (sX11_together_x1 c (by first | assumption | exact ⟨by omega, by omega⟩) (by first | assumption | exact ⟨by omega, by omega⟩) (by first | assumption | exact ⟨by omega, by omega⟩) (by first | assumption | omega)) (fun h2 V => (sX12_together_x1 (MV_ask V R) (by first | assumption | exact ⟨by omega, by omega⟩) (by first | assumption | exact ⟨by omega, by omega⟩) (by first | assumption | exact ⟨by omega, by omega⟩) (by first | assumption | omega)))
set_option maxHeartbeats 4000000 in
theorem pair_awayBoth {h : HP} {A : AS} {p q d : Int} (I : CI h A) (h_p : i32 p) (h_q : i32 q) (h_d : i32 d) : Pair mX11_awayBoth mX12_awayBoth [vi p, vi q, vi d] cNS h A := by
  obtain ⟨S, ⟨f, C, N⟩, im, tp, nt, rf, fl⟩ := A
  obtain ⟨t, ht, i2, i3, i4, i5, i6, i7, i8, i9, i10⟩ := id I
  have c : CQ h t S 600 f := CI_CQ ht i2 i4 i5 i6 i7 i8
  have R : rowOK S f := i8.1
  have h67 : sNt S ≤ 6 ∧ sNp S ≤ 7 := ⟨i5.1, i5.2.1⟩
  have hf9 : 0 ≤ f 0 ∧ f 0 ≤ 9999 := ⟨R.1.2.2.2.1, R.2.2.1⟩
  by_cases k70 : 0 ≤ p ∧ p < sNp S
  · skip
    by_cases k71 : 0 ≤ q ∧ q < sNp S
    · skip
      by_cases k72 : 1 ≤ d ∧ d ≤ 100
      · skip
        obtain ⟨n, rfl⟩ := toN (d := d) (by omega)
        exact pq I (sX11_awayBoth c (by first | assumption | omega) (by first | assumption | omega) (by first | assumption | omega)) (fun h2 V => (sX12_awayBoth (MV_ask V R) (by first | assumption | omega) (by first | assumption | omega) (by first | assumption | omega)))
      · exact px I (Or.inr rfl) cNS_i (by decide) (sX11_awayBoth_x3 c (by first | assumption | exact ⟨by omega, by omega⟩) (by first | assumption | exact ⟨by omega, by omega⟩) (by first | assumption | exact ⟨by omega, by omega⟩) (by first | assumption | omega) (by first | assumption | omega) (by first | assumption | omega)) (fun h2 V => (sX12_awayBoth_x3 (MV_ask V R) (by first | assumption | exact ⟨by omega, by omega⟩) (by first | assumption | exact ⟨by omega, by omega⟩) (by first | assumption | exact ⟨by omega, by omega⟩) (by first | assumption | omega) (by first | assumption | omega) (by first | assumption | omega)))
    · exact px I (Or.inl rfl) cNS_n (by decide) (sX11_awayBoth_x2 c (by first | assumption | exact ⟨by omega, by omega⟩) (by first | assumption | exact ⟨by omega, by omega⟩) (by first | assumption | exact ⟨by omega, by omega⟩) (by first | assumption | omega) (by first | assumption | omega)) (fun h2 V => (sX12_awayBoth_x2 (MV_ask V R) (by first | assumption | exact ⟨by omega, by omega⟩) (by first | assumption | exact ⟨by omega, by omega⟩) (by first | assumption | exact ⟨by omega, by omega⟩) (by first | assumption | omega) (by first | assumption | omega)))
  · exact px I (Or.inl rfl) cNS_n (by decide) (sX11_awayBoth_x1 c (by first | assumption | exact ⟨by omega, by omega⟩) (by first | assumption | exact ⟨by omega, by omega⟩) (by first | assumption | exact ⟨by omega, by omega⟩) (by first | assumption | omega)) (fun h2 V => (sX12_awayBoth_x1 (MV_ask V R) (by first | assumption | exact ⟨by omega, by omega⟩) (by first | assumption | exact ⟨by omega, by omega⟩) (by first | assumption | exact ⟨by omega, by omega⟩) (by first | assumption | omega)))
set_option maxHeartbeats 4000000 in
theorem pair_least {h : HP} {A : AS} {q d : Int} (I : CI h A) (h_q : i32 q) (h_d : i32 d) : Pair mX11_least mX12_least [vi q, vi d] cNS h A := by
  obtain ⟨S, ⟨f, C, N⟩, im, tp, nt, rf, fl⟩ := A
  obtain ⟨t, ht, i2, i3, i4, i5, i6, i7, i8, i9, i10⟩ := id I
  have c : CQ h t S 600 f := CI_CQ ht i2 i4 i5 i6 i7 i8
  have R : rowOK S f := i8.1
  have h67 : sNt S ≤ 6 ∧ sNp S ≤ 7 := ⟨i5.1, i5.2.1⟩
  have hf9 : 0 ≤ f 0 ∧ f 0 ≤ 9999 := ⟨R.1.2.2.2.1, R.2.2.1⟩
  by_cases k70 : 0 ≤ q ∧ q < sNt S
  · skip
    by_cases k71 : 0 ≤ d ∧ d ≤ 100
    · skip
      obtain ⟨n, rfl⟩ := toN (d := d) (by omega)
      exact pq I (sX11_least c (by first | assumption | omega) (by first | assumption | omega)) (fun h2 V => (sX12_least (MV_ask V R) (by first | assumption | omega) (by first | assumption | omega)))
    · exact px I (Or.inr rfl) cNS_i (by decide) (sX11_least_x2 c (by first | assumption | exact ⟨by omega, by omega⟩) (by first | assumption | exact ⟨by omega, by omega⟩) (by first | assumption | omega) (by first | assumption | omega)) (fun h2 V => (sX12_least_x2 (MV_ask V R) (by first | assumption | exact ⟨by omega, by omega⟩) (by first | assumption | exact ⟨by omega, by omega⟩) (by first | assumption | omega) (by first | assumption | omega)))
  · exact px I (Or.inl rfl) cNS_n (by decide) (sX11_least_x1 c (by first | assumption | exact ⟨by omega, by omega⟩) (by first | assumption | exact ⟨by omega, by omega⟩) (by first | assumption | omega)) (fun h2 V => (sX12_least_x1 (MV_ask V R) (by first | assumption | exact ⟨by omega, by omega⟩) (by first | assumption | exact ⟨by omega, by omega⟩) (by first | assumption | omega)))
set_option maxHeartbeats 4000000 in
theorem pair_near {h : HP} {A : AS} {p w : Int} (I : CI h A) (h_p : i32 p) (h_w : i32 w) : Pair mX11_near mX12_near [vi p, vi w] cN1 h A := by
  obtain ⟨S, ⟨f, C, N⟩, im, tp, nt, rf, fl⟩ := A
  obtain ⟨t, ht, i2, i3, i4, i5, i6, i7, i8, i9, i10⟩ := id I
  have c : CQ h t S 600 f := CI_CQ ht i2 i4 i5 i6 i7 i8
  have R : rowOK S f := i8.1
  have h67 : sNt S ≤ 6 ∧ sNp S ≤ 7 := ⟨i5.1, i5.2.1⟩
  have hf9 : 0 ≤ f 0 ∧ f 0 ≤ 9999 := ⟨R.1.2.2.2.1, R.2.2.1⟩
  by_cases k70 : 0 ≤ p ∧ p < sNp S
  · skip
    by_cases k71 : 0 ≤ w ∧ w ≤ 1
    · skip
      have hw9 : w = 0 ∨ w = 1 := by omega
      rcases hw9 with rfl | rfl
      · exact pq I (sX11_near_0 c (by first | assumption | omega)) (fun h2 V => (sX12_near_0 (MV_ask V R) (by first | assumption | omega)))
      · exact pq I (sX11_near_1 c (by first | assumption | omega)) (fun h2 V => (sX12_near_1 (MV_ask V R) (by first | assumption | omega)))
    · exact px I (Or.inl rfl) cN1_n (by decide) (sX11_near_x2 c (by first | assumption | exact ⟨by omega, by omega⟩) (by first | assumption | exact ⟨by omega, by omega⟩) (by first | assumption | omega) (by first | assumption | omega)) (fun h2 V => (sX12_near_x2 (MV_ask V R) (by first | assumption | exact ⟨by omega, by omega⟩) (by first | assumption | exact ⟨by omega, by omega⟩) (by first | assumption | omega) (by first | assumption | omega)))
  · exact px I (Or.inl rfl) cN1_n (by decide) (sX11_near_x1 c (by first | assumption | exact ⟨by omega, by omega⟩) (by first | assumption | exact ⟨by omega, by omega⟩) (by first | assumption | omega)) (fun h2 V => (sX12_near_x1 (MV_ask V R) (by first | assumption | exact ⟨by omega, by omega⟩) (by first | assumption | exact ⟨by omega, by omega⟩) (by first | assumption | omega)))
set_option maxHeartbeats 4000000 in
theorem pair_load {h : HP} {A : AS} {p d : Int} (I : CI h A) (h_p : i32 p) (h_d : i32 d) : Pair mX11_load mX12_load [vi p, vi d] cNS h A := by
  obtain ⟨S, ⟨f, C, N⟩, im, tp, nt, rf, fl⟩ := A
  obtain ⟨t, ht, i2, i3, i4, i5, i6, i7, i8, i9, i10⟩ := id I
  have c : CQ h t S 600 f := CI_CQ ht i2 i4 i5 i6 i7 i8
  have R : rowOK S f := i8.1
  have h67 : sNt S ≤ 6 ∧ sNp S ≤ 7 := ⟨i5.1, i5.2.1⟩
  have hf9 : 0 ≤ f 0 ∧ f 0 ≤ 9999 := ⟨R.1.2.2.2.1, R.2.2.1⟩
  by_cases k70 : 0 ≤ p ∧ p < sNp S
  · skip
    by_cases k71 : 0 ≤ d ∧ d ≤ 100
    · skip
      obtain ⟨n, rfl⟩ := toN (d := d) (by omega)
      exact pq I (sX11_load c (by first | assumption | omega) (by first | assumption | omega)) (fun h2 V => (sX12_load (MV_ask V R) (by first | assumption | omega) (by first | assumption | omega)))
    · exact px I (Or.inr rfl) cNS_i (by decide) (sX11_load_x2 c (by first | assumption | exact ⟨by omega, by omega⟩) (by first | assumption | exact ⟨by omega, by omega⟩) (by first | assumption | omega) (by first | assumption | omega)) (fun h2 V => (sX12_load_x2 (MV_ask V R) (by first | assumption | exact ⟨by omega, by omega⟩) (by first | assumption | exact ⟨by omega, by omega⟩) (by first | assumption | omega) (by first | assumption | omega)))
  · exact px I (Or.inl rfl) cNS_n (by decide) (sX11_load_x1 c (by first | assumption | exact ⟨by omega, by omega⟩) (by first | assumption | exact ⟨by omega, by omega⟩) (by first | assumption | omega)) (fun h2 V => (sX12_load_x1 (MV_ask V R) (by first | assumption | exact ⟨by omega, by omega⟩) (by first | assumption | exact ⟨by omega, by omega⟩) (by first | assumption | omega)))
set_option maxHeartbeats 4000000 in
theorem pair_without {h : HP} {A : AS} {p q d : Int} (I : CI h A) (h_p : i32 p) (h_q : i32 q) (h_d : i32 d) : Pair mX11_without mX12_without [vi p, vi q, vi d] cNS h A := by
  obtain ⟨S, ⟨f, C, N⟩, im, tp, nt, rf, fl⟩ := A
  obtain ⟨t, ht, i2, i3, i4, i5, i6, i7, i8, i9, i10⟩ := id I
  have c : CQ h t S 600 f := CI_CQ ht i2 i4 i5 i6 i7 i8
  have R : rowOK S f := i8.1
  have h67 : sNt S ≤ 6 ∧ sNp S ≤ 7 := ⟨i5.1, i5.2.1⟩
  have hf9 : 0 ≤ f 0 ∧ f 0 ≤ 9999 := ⟨R.1.2.2.2.1, R.2.2.1⟩
  by_cases k70 : 0 ≤ p ∧ p < sNp S
  · skip
    by_cases k71 : 0 ≤ q ∧ q < sNt S
    · skip
      by_cases k72 : 0 ≤ d ∧ d ≤ 100
      · skip
        obtain ⟨n, rfl⟩ := toN (d := d) (by omega)
        exact pq I (sX11_without c (by first | assumption | omega) (by first | assumption | omega) (by first | assumption | omega)) (fun h2 V => (sX12_without (MV_ask V R) (by first | assumption | omega) (by first | assumption | omega) (by first | assumption | omega)))
      · exact px I (Or.inr rfl) cNS_i (by decide) (sX11_without_x3 c (by first | assumption | exact ⟨by omega, by omega⟩) (by first | assumption | exact ⟨by omega, by omega⟩) (by first | assumption | exact ⟨by omega, by omega⟩) (by first | assumption | omega) (by first | assumption | omega) (by first | assumption | omega)) (fun h2 V => (sX12_without_x3 (MV_ask V R) (by first | assumption | exact ⟨by omega, by omega⟩) (by first | assumption | exact ⟨by omega, by omega⟩) (by first | assumption | exact ⟨by omega, by omega⟩) (by first | assumption | omega) (by first | assumption | omega) (by first | assumption | omega)))
    · exact px I (Or.inl rfl) cNS_n (by decide) (sX11_without_x2 c (by first | assumption | exact ⟨by omega, by omega⟩) (by first | assumption | exact ⟨by omega, by omega⟩) (by first | assumption | exact ⟨by omega, by omega⟩) (by first | assumption | omega) (by first | assumption | omega)) (fun h2 V => (sX12_without_x2 (MV_ask V R) (by first | assumption | exact ⟨by omega, by omega⟩) (by first | assumption | exact ⟨by omega, by omega⟩) (by first | assumption | exact ⟨by omega, by omega⟩) (by first | assumption | omega) (by first | assumption | omega)))
  · exact px I (Or.inl rfl) cNS_n (by decide) (sX11_without_x1 c (by first | assumption | exact ⟨by omega, by omega⟩) (by first | assumption | exact ⟨by omega, by omega⟩) (by first | assumption | exact ⟨by omega, by omega⟩) (by first | assumption | omega)) (fun h2 V => (sX12_without_x1 (MV_ask V R) (by first | assumption | exact ⟨by omega, by omega⟩) (by first | assumption | exact ⟨by omega, by omega⟩) (by first | assumption | exact ⟨by omega, by omega⟩) (by first | assumption | omega)))
set_option maxHeartbeats 4000000 in
theorem pair_days {h : HP} {A : AS} {d : Int} (I : CI h A) (h_d : i32 d) : Pair mX11_days mX12_days [vi d] c00 h A := by
  obtain ⟨S, ⟨f, C, N⟩, im, tp, nt, rf, fl⟩ := A
  obtain ⟨t, ht, i2, i3, i4, i5, i6, i7, i8, i9, i10⟩ := id I
  have c : CQ h t S 600 f := CI_CQ ht i2 i4 i5 i6 i7 i8
  have R : rowOK S f := i8.1
  have h67 : sNt S ≤ 6 ∧ sNp S ≤ 7 := ⟨i5.1, i5.2.1⟩
  have hf9 : 0 ≤ f 0 ∧ f 0 ≤ 9999 := ⟨R.1.2.2.2.1, R.2.2.1⟩
  by_cases z1 : 1 ≤ d ∧ d ≤ 20 ∧ f 0 + d ≤ 9999
  · obtain ⟨n, rfl⟩ := toN (d := d) (by omega)
    exact pa (sX11_days I (by first | assumption | omega) (by first | assumption | omega) (ok_dys i5 R (by omega) (by omega))) (fun h2 V => (sX12_days V R (by first | assumption | omega)))
  · exact pa (sX11_days_no I (by first | assumption | exact ⟨by omega, by omega⟩) (by first | assumption | omega)) (fun h2 V => (sX12_days_no V R (by first | assumption | exact ⟨by omega, by omega⟩) (by first | assumption | omega)))
set_option maxHeartbeats 4000000 in
theorem pair_swap {h : HP} {A : AS} {p q : Int} (I : CI h A) (h_p : i32 p) (h_q : i32 q) : Pair mX11_swap mX12_swap [vi p, vi q] cN1 h A := by
  obtain ⟨S, ⟨f, C, N⟩, im, tp, nt, rf, fl⟩ := A
  obtain ⟨t, ht, i2, i3, i4, i5, i6, i7, i8, i9, i10⟩ := id I
  have c : CQ h t S 600 f := CI_CQ ht i2 i4 i5 i6 i7 i8
  have R : rowOK S f := i8.1
  have h67 : sNt S ≤ 6 ∧ sNp S ≤ 7 := ⟨i5.1, i5.2.1⟩
  have hf9 : 0 ≤ f 0 ∧ f 0 ≤ 9999 := ⟨R.1.2.2.2.1, R.2.2.1⟩
  by_cases k70 : 0 ≤ p ∧ p < sNp S
  · skip
    by_cases k71 : 0 ≤ q ∧ q < sNp S
    · skip
      by_cases z1 : p = q
      · exact pa (sX11_swap_no I (by first | assumption | omega) (by first | assumption | omega) (by first | assumption | omega)) (fun h2 V => (sX12_swap_no V R (by first | assumption | omega) (by first | assumption | omega) (by first | assumption | omega)))
      · exact pa (sX11_swap I (by first | assumption | omega) (by first | assumption | omega) (by first | assumption | omega) (ok_sw i5 R (by omega) (by omega))) (fun h2 V => (sX12_swap V R (by first | assumption | omega) (by first | assumption | omega) (by first | assumption | omega)))
    · exact px I (Or.inl rfl) cN1_n (by decide) (sX11_swap_x2 c (by first | assumption | exact ⟨by omega, by omega⟩) (by first | assumption | exact ⟨by omega, by omega⟩) (by first | assumption | omega) (by first | assumption | omega)) (fun h2 V => (sX12_swap_x2 (MV_ask V R) (by first | assumption | exact ⟨by omega, by omega⟩) (by first | assumption | exact ⟨by omega, by omega⟩) (by first | assumption | omega) (by first | assumption | omega)))
  · exact px I (Or.inl rfl) cN1_n (by decide) (sX11_swap_x1 c (by first | assumption | exact ⟨by omega, by omega⟩) (by first | assumption | exact ⟨by omega, by omega⟩) (by first | assumption | omega)) (fun h2 V => (sX12_swap_x1 (MV_ask V R) (by first | assumption | exact ⟨by omega, by omega⟩) (by first | assumption | exact ⟨by omega, by omega⟩) (by first | assumption | omega)))
set_option maxHeartbeats 4000000 in
theorem pair_buy {h : HP} {A : AS} {q d : Int} (I : CI h A) (h_q : i32 q) (h_d : i32 d) : Pair mX11_buy mX12_buy [vi q, vi d] cN1 h A := by
  obtain ⟨S, ⟨f, C, N⟩, im, tp, nt, rf, fl⟩ := A
  obtain ⟨t, ht, i2, i3, i4, i5, i6, i7, i8, i9, i10⟩ := id I
  have c : CQ h t S 600 f := CI_CQ ht i2 i4 i5 i6 i7 i8
  have R : rowOK S f := i8.1
  have h67 : sNt S ≤ 6 ∧ sNp S ≤ 7 := ⟨i5.1, i5.2.1⟩
  have hf9 : 0 ≤ f 0 ∧ f 0 ≤ 9999 := ⟨R.1.2.2.2.1, R.2.2.1⟩
  by_cases k70 : 0 ≤ q ∧ q < sNt S
  · skip
    by_cases z1 : 1 ≤ d ∧ d ≤ 9 ∧ f (29 + q) + d ≤ 99
    · exact pa (sX11_buy I (by first | assumption | omega) (by first | assumption | exact ⟨by omega, by omega⟩) (by first | assumption | omega) (ok_buy i5 R (by omega) (by omega))) (fun h2 V => (sX12_buy V R (by first | assumption | omega) (by first | assumption | exact ⟨by omega, by omega⟩) (by first | assumption | omega)))
    · exact pa (sX11_buy_no I (by first | assumption | omega) (by first | assumption | exact ⟨by omega, by omega⟩) (by first | assumption | omega)) (fun h2 V => (sX12_buy_no V R (by first | assumption | omega) (by first | assumption | exact ⟨by omega, by omega⟩) (by first | assumption | omega)))
  · exact px I (Or.inl rfl) cN1_n (by decide) (sX11_buy_x1 c (by first | assumption | exact ⟨by omega, by omega⟩) (by first | assumption | exact ⟨by omega, by omega⟩) (by first | assumption | omega)) (fun h2 V => (sX12_buy_x1 (MV_ask V R) (by first | assumption | exact ⟨by omega, by omega⟩) (by first | assumption | exact ⟨by omega, by omega⟩) (by first | assumption | omega)))
set_option maxHeartbeats 4000000 in
theorem pair_packer {h : HP} {A : AS} {p q : Int} (I : CI h A) (h_p : i32 p) (h_q : i32 q) : Pair mX11_packer mX12_packer [vi p, vi q] cN1 h A := by
  obtain ⟨S, ⟨f, C, N⟩, im, tp, nt, rf, fl⟩ := A
  obtain ⟨t, ht, i2, i3, i4, i5, i6, i7, i8, i9, i10⟩ := id I
  have c : CQ h t S 600 f := CI_CQ ht i2 i4 i5 i6 i7 i8
  have R : rowOK S f := i8.1
  have h67 : sNt S ≤ 6 ∧ sNp S ≤ 7 := ⟨i5.1, i5.2.1⟩
  have hf9 : 0 ≤ f 0 ∧ f 0 ≤ 9999 := ⟨R.1.2.2.2.1, R.2.2.1⟩
  by_cases k70 : 0 ≤ p ∧ p < sNp S
  · skip
    by_cases k71 : -1 ≤ q ∧ q < sNp S
    · skip
      by_cases z1 : q = f (22 + p) ∨ q = p
      · exact pa (sX11_packer_no I (by first | assumption | omega) (by first | assumption | omega) (by first | assumption | omega)) (fun h2 V => (sX12_packer_no V R (by first | assumption | omega) (by first | assumption | omega) (by first | assumption | omega)))
      · exact pa (sX11_packer I (by first | assumption | omega) (by first | assumption | omega) (by first | assumption | omega) (ok_up i5 R (by omega) (by omega))) (fun h2 V => (sX12_packer V R (by first | assumption | omega) (by first | assumption | omega) (by first | assumption | omega)))
    · exact px I (Or.inl rfl) cN1_n (by decide) (sX11_packer_x2 c (by first | assumption | exact ⟨by omega, by omega⟩) (by first | assumption | exact ⟨by omega, by omega⟩) (by first | assumption | omega) (by first | assumption | omega) (by first | assumption | omega)) (fun h2 V => (sX12_packer_x2 (MV_ask V R) (by first | assumption | exact ⟨by omega, by omega⟩) (by first | assumption | exact ⟨by omega, by omega⟩) (by first | assumption | omega) (by first | assumption | omega)))
  · exact px I (Or.inl rfl) cN1_n (by decide) (sX11_packer_x1 c (by first | assumption | exact ⟨by omega, by omega⟩) (by first | assumption | exact ⟨by omega, by omega⟩) (by first | assumption | omega)) (fun h2 V => (sX12_packer_x1 (MV_ask V R) (by first | assumption | exact ⟨by omega, by omega⟩) (by first | assumption | exact ⟨by omega, by omega⟩) (by first | assumption | omega)))
set_option maxHeartbeats 4000000 in
theorem pair_mend {h : HP} {A : AS} {p d : Int} (I : CI h A) (h_p : i32 p) (h_d : i32 d) : Pair mX11_mend mX12_mend [vi p, vi d] cN1 h A := by
  obtain ⟨S, ⟨f, C, N⟩, im, tp, nt, rf, fl⟩ := A
  obtain ⟨t, ht, i2, i3, i4, i5, i6, i7, i8, i9, i10⟩ := id I
  have c : CQ h t S 600 f := CI_CQ ht i2 i4 i5 i6 i7 i8
  have R : rowOK S f := i8.1
  have h67 : sNt S ≤ 6 ∧ sNp S ≤ 7 := ⟨i5.1, i5.2.1⟩
  have hf9 : 0 ≤ f 0 ∧ f 0 ≤ 9999 := ⟨R.1.2.2.2.1, R.2.2.1⟩
  by_cases k70 : 0 ≤ p ∧ p < sNp S
  · skip
    by_cases z1 : 0 ≤ d ∧ d ≤ 9
    · exact pa (sX11_mend I (by first | assumption | omega) (by first | assumption | exact ⟨by omega, by omega⟩) (by first | assumption | omega) (ok_up i5 R (by omega) (by omega))) (fun h2 V => (sX12_mend V R (by first | assumption | omega) (by first | assumption | exact ⟨by omega, by omega⟩) (by first | assumption | omega)))
    · exact pa (sX11_mend_no I (by first | assumption | omega) (by first | assumption | exact ⟨by omega, by omega⟩) (by first | assumption | omega)) (fun h2 V => (sX12_mend_no V R (by first | assumption | omega) (by first | assumption | exact ⟨by omega, by omega⟩) (by first | assumption | omega)))
  · exact px I (Or.inl rfl) cN1_n (by decide) (sX11_mend_x1 c (by first | assumption | exact ⟨by omega, by omega⟩) (by first | assumption | exact ⟨by omega, by omega⟩) (by first | assumption | omega)) (fun h2 V => (sX12_mend_x1 (MV_ask V R) (by first | assumption | exact ⟨by omega, by omega⟩) (by first | assumption | exact ⟨by omega, by omega⟩) (by first | assumption | omega)))
set_option maxHeartbeats 4000000 in
theorem pair_undo {h : HP} {A : AS} (I : CI h A) : Pair mX11_undo mX12_undo [] c00 h A := by
  obtain ⟨S, ⟨f, C, N⟩, im, tp, nt, rf, fl⟩ := A
  obtain ⟨t, ht, i2, i3, i4, i5, i6, i7, i8, i9, i10⟩ := id I
  have c : CQ h t S 600 f := CI_CQ ht i2 i4 i5 i6 i7 i8
  have R : rowOK S f := i8.1
  have h67 : sNt S ≤ 6 ∧ sNp S ≤ 7 := ⟨i5.1, i5.2.1⟩
  have hf9 : 0 ≤ f 0 ∧ f 0 ≤ 9999 := ⟨R.1.2.2.2.1, R.2.2.1⟩
  by_cases z1 : C.1 = 0
  · exact pa (sX11_undo_no I (by first | assumption | omega)) (fun h2 V => (sX12_undo_no V R (by first | assumption | omega)))
  · exact pa (sX11_undo I (by first | assumption | omega)) (fun h2 V => (sX12_undo V R (by first | assumption | omega)))
set_option maxHeartbeats 4000000 in
theorem pair_see {h : HP} {A : AS} {p q d n : Int} (I : CI h A) (h_p : i32 p) (h_q : i32 q) (h_d : i32 d) (h_n : i32 n) : Pair mX11_see mX12_see [vi p, vi q, vi d, vi n] cN1 h A := by
  obtain ⟨S, ⟨f, C, N⟩, im, tp, nt, rf, fl⟩ := A
  obtain ⟨t, ht, i2, i3, i4, i5, i6, i7, i8, i9, i10⟩ := id I
  have c : CQ h t S 600 f := CI_CQ ht i2 i4 i5 i6 i7 i8
  have R : rowOK S f := i8.1
  have h67 : sNt S ≤ 6 ∧ sNp S ≤ 7 := ⟨i5.1, i5.2.1⟩
  have hf9 : 0 ≤ f 0 ∧ f 0 ≤ 9999 := ⟨R.1.2.2.2.1, R.2.2.1⟩
  by_cases k70 : 0 ≤ p ∧ p < sNp S
  · skip
    by_cases k71 : 0 ≤ q ∧ q < sNt S
    · skip
      by_cases z1 : (0 ≤ d ∧ d ≤ 30 ∧ 0 ≤ n ∧ n ≤ 9) ∧ N.1 < 8
      · exact pa (sX11_see I (by first | assumption | omega) (by first | assumption | omega) (by first | assumption | exact ⟨by omega, by omega⟩) (by first | assumption | exact ⟨by omega, by omega⟩) (by first | assumption | omega)) (fun h2 V => (sX12_see V R (by first | assumption | omega) (by first | assumption | omega) (by first | assumption | exact ⟨by omega, by omega⟩) (by first | assumption | exact ⟨by omega, by omega⟩) (by first | assumption | omega)))
      · exact pa (sX11_see_no I (by first | assumption | omega) (by first | assumption | omega) (by first | assumption | exact ⟨by omega, by omega⟩) (by first | assumption | exact ⟨by omega, by omega⟩) (by first | assumption | omega)) (fun h2 V => (sX12_see_no V R (by first | assumption | omega) (by first | assumption | omega) (by first | assumption | exact ⟨by omega, by omega⟩) (by first | assumption | exact ⟨by omega, by omega⟩) (by first | assumption | omega)))
    · exact px I (Or.inl rfl) cN1_n (by decide) (sX11_see_x2 c (by first | assumption | exact ⟨by omega, by omega⟩) (by first | assumption | exact ⟨by omega, by omega⟩) (by first | assumption | exact ⟨by omega, by omega⟩) (by first | assumption | exact ⟨by omega, by omega⟩) (by first | assumption | omega) (by first | assumption | omega)) (fun h2 V => (sX12_see_x2 (MV_ask V R) (by first | assumption | exact ⟨by omega, by omega⟩) (by first | assumption | exact ⟨by omega, by omega⟩) (by first | assumption | exact ⟨by omega, by omega⟩) (by first | assumption | exact ⟨by omega, by omega⟩) (by first | assumption | omega) (by first | assumption | omega)))
  · exact px I (Or.inl rfl) cN1_n (by decide) (sX11_see_x1 c (by first | assumption | exact ⟨by omega, by omega⟩) (by first | assumption | exact ⟨by omega, by omega⟩) (by first | assumption | exact ⟨by omega, by omega⟩) (by first | assumption | exact ⟨by omega, by omega⟩) (by first | assumption | omega)) (fun h2 V => (sX12_see_x1 (MV_ask V R) (by first | assumption | exact ⟨by omega, by omega⟩) (by first | assumption | exact ⟨by omega, by omega⟩) (by first | assumption | exact ⟨by omega, by omega⟩) (by first | assumption | exact ⟨by omega, by omega⟩) (by first | assumption | omega)))
set_option maxHeartbeats 4000000 in
theorem pair_forget {h : HP} {A : AS} (I : CI h A) : PairV mX11_forget mX12_forget h A := by
  obtain ⟨S, ⟨f, C, N⟩, im, tp, nt, rf, fl⟩ := A
  obtain ⟨t, ht, i2, i3, i4, i5, i6, i7, i8, i9, i10⟩ := id I
  have c : CQ h t S 600 f := CI_CQ ht i2 i4 i5 i6 i7 i8
  have R : rowOK S f := i8.1
  have h67 : sNt S ≤ 6 ∧ sNp S ≤ 7 := ⟨i5.1, i5.2.1⟩
  have hf9 : 0 ≤ f 0 ∧ f 0 ≤ 9999 := ⟨R.1.2.2.2.1, R.2.2.1⟩
  exact pav (sX11_forget I) (fun h2 V => (sX12_forget V R))
set_option maxHeartbeats 4000000 in
theorem pair_image {h : HP} {A : AS} (I : CI h A) : PairV mX11_image mX12_image h A := by
  obtain ⟨S, ⟨f, C, N⟩, im, tp, nt, rf, fl⟩ := A
  obtain ⟨t, ht, i2, i3, i4, i5, i6, i7, i8, i9, i10⟩ := id I
  have c : CQ h t S 600 f := CI_CQ ht i2 i4 i5 i6 i7 i8
  have R : rowOK S f := i8.1
  have h67 : sNt S ≤ 6 ∧ sNp S ≤ 7 := ⟨i5.1, i5.2.1⟩
  have hf9 : 0 ≤ f 0 ∧ f 0 ≤ 9999 := ⟨R.1.2.2.2.1, R.2.2.1⟩
  exact pav (sX11_image I) (fun h2 V => (sX12_image V R))
set_option maxHeartbeats 4000000 in
theorem pair_restore {h : HP} {A : AS} (I : CI h A) : Pair mX11_restore mX12_restore [] c00 h A := by
  obtain ⟨S, ⟨f, C, N⟩, im, tp, nt, rf, fl⟩ := A
  obtain ⟨t, ht, i2, i3, i4, i5, i6, i7, i8, i9, i10⟩ := id I
  have c : CQ h t S 600 f := CI_CQ ht i2 i4 i5 i6 i7 i8
  have R : rowOK S f := i8.1
  have h67 : sNt S ≤ 6 ∧ sNp S ≤ 7 := ⟨i5.1, i5.2.1⟩
  have hf9 : 0 ≤ f 0 ∧ f 0 ≤ 9999 := ⟨R.1.2.2.2.1, R.2.2.1⟩
  cases im with
  | none => exact pa (sX11_restore_no (im := none) I) (fun h2 V => (sX12_restore_no (im := none) V R))
  | some w => exact pa (sX11_restore (im := none) I) (fun h2 V => (sX12_restore (im := none) V R))
set_option maxHeartbeats 4000000 in
theorem pair_feed {h : HP} {A : AS} {a b e d w : Int} (I : CI h A) (h_a : i32 a) (h_b : i32 b) (h_e : i32 e) (h_d : i32 d) (h_w : i32 w) : Pair mX11_feed mX12_feed [vi a, vi b, vi e, vi d, vi w] c00 h A := by
  obtain ⟨S, ⟨f, C, N⟩, im, tp, nt, rf, fl⟩ := A
  obtain ⟨t, ht, i2, i3, i4, i5, i6, i7, i8, i9, i10⟩ := id I
  have c : CQ h t S 600 f := CI_CQ ht i2 i4 i5 i6 i7 i8
  have R : rowOK S f := i8.1
  have h67 : sNt S ≤ 6 ∧ sNp S ≤ 7 := ⟨i5.1, i5.2.1⟩
  have hf9 : 0 ≤ f 0 ∧ f 0 ≤ 9999 := ⟨R.1.2.2.2.1, R.2.2.1⟩
  have n7 : nt ≤ 700 := i10.2.1
  by_cases z1 : nt ≤ 680
  · exact pa (sX11_feed I (by first | assumption | omega)) (fun h2 V => (sX12_feed V R (by first | assumption | omega)))
  · exact pa (sX11_feed_no I (by first | assumption | omega)) (fun h2 V => (sX12_feed_no V R (by first | assumption | omega) (by first | assumption | omega)))
set_option maxHeartbeats 4000000 in
theorem pair_fault {h : HP} {A : AS} (I : CI h A) : Pair mX11_fault mX12_fault [] c00 h A := by
  obtain ⟨S, ⟨f, C, N⟩, im, tp, nt, rf, fl⟩ := A
  obtain ⟨t, ht, i2, i3, i4, i5, i6, i7, i8, i9, i10⟩ := id I
  have c : CQ h t S 600 f := CI_CQ ht i2 i4 i5 i6 i7 i8
  have R : rowOK S f := i8.1
  have h67 : sNt S ≤ 6 ∧ sNp S ≤ 7 := ⟨i5.1, i5.2.1⟩
  have hf9 : 0 ≤ f 0 ∧ f 0 ≤ 9999 := ⟨R.1.2.2.2.1, R.2.2.1⟩
  exact pq I (qv (show hI h 30 16 = fl from i10.2.2.2.2) (Spec_mono (fun o h9 q => ⟨q.1, by rw [q.2]; exact FS_rf i6⟩) sX11_fault)) (fun h2 V => qv (show hI h2 0 14 = fl from V.2.2.2.2.2.2.2.2) (sX12_fault (MV_ask V R)))
theorem pair_house {h : HP} {A : AS} {x : Int} (I : CI h A) (h_x : i32 x) : Pair mX11_house mX12_house [vi x] cIA h A := by
  obtain ⟨S, v, im, tp, nt, rf, fl⟩ := A
  obtain ⟨t, ht, i2, i3, i4, i5, i6, i7, i8, i9, i10⟩ := id I
  have h7 : nt ≤ 700 := i10.2.1
  by_cases k : 0 ≤ x ∧ x ≤ nt
  · obtain ⟨n, rfl⟩ := toN (d := x) (by omega)
    obtain ⟨w0, u0, s0, a0, b0, c0, f0, y0, s1⟩ := houseC (n := n) I (by omega)
    refine ⟨_, s1, fun o h1 q => ⟨q.2, ?_⟩⟩
    have q1 := q.1
    have key : ∀ X, hsP tp n 701 (D0 w0 u0 s0 a0 b0 c0 f0 y0) 0 = X → HOc h1 o S v im tp rf X → ∃ (A' : AS) (o2 : Option AV) (tau : Int), CI h1 A' ∧ MtP cIA o2 tau o ∧ ∀ h2, MV h2 (S, v, im, tp, nt, rf, fl) → SpecK mX12_house [vr 0, vi (n : Int)] h2 (fun o' h3 => o' = .inl o2 ∧ MV h3 A' ∧ FC h2 h3 ∧ hI h3 0 0 = tau) := by
      intro X hX q
      cases X with
      | inl e =>
        obtain ⟨q1, q2⟩ := q
        refine ⟨_, some (vi e.1), 0, q2, by rw [q1]; exact And.intro ⟨_, rfl⟩ ⟨rfl, rfl⟩, fun h2 V => Spec_mono (fun o' h3 r => ?_) (house_K V (by omega) h7 (fun i i0 i1 => (i10.2.2.1 i i0 i1).1) hX)⟩
        exact ⟨r.1.1, r.1.2, r.2.1, r.2.2⟩
      | inr Dq =>
        obtain ⟨D, q0⟩ := Dq
        obtain ⟨q1, f, hf, q2⟩ := q
        refine ⟨_, some (vi 0), 0, q2, by rw [q1]; exact And.intro ⟨_, rfl⟩ ⟨rfl, rfl⟩, fun h2 V => Spec_mono (fun o' h3 r => ?_) (house_K V (by omega) h7 (fun i i0 i1 => (i10.2.2.1 i i0 i1).1) hX)⟩
        exact ⟨r.1.1, r.1.2 f hf, r.2.1, r.2.2⟩
    exact key _ rfl q1
  · exact ⟨_, houseC_x I h_x k, fun o h1 q => ⟨by rw [q.2]; exact FM_rf, _, some (vi 0), 1, by rw [q.2]; exact I, by rw [q.1]; exact And.intro ⟨cIA_i.symm, by decide, Or.inr rfl⟩ ⟨_, rfl⟩, fun h2 V => Spec_mono (fun o' h3 r => ⟨r.1, r.2.1, r.2.2.1, r.2.2.2⟩) (house_x V h7 h_x k)⟩⟩
