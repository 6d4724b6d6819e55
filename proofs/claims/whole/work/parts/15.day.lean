/-! a day: what it does to a row -/
def mkP (v : Int → Int) : Int → Int := fun i => if 0 ≤ i ∧ i < 6 then v i else 0
def mkF (v : Int → Int) : Int → Int := fun i => if i = 0 ∨ i = 1 ∨ i = 6 ∨ i = 7 then v i else 0
def vP (S : HS) (f : Int → Int) (p t room : Int) : Int → Int := fun i => if i = 0 then f (15 + p) else if i = 1 then f 0 else if i = 2 then sU S t else if i = 3 then sW S t else if i = 4 then f (29 + t) else if i = 5 then room else 0
def vF (S : HS) (f : Int → Int) (p had : Int) : Int → Int := fun i => if i = 0 then f (15 + p) else if i = 1 then f 0 else if i = 6 then had else if i = 7 then sAw S p else 0
def wantF (S : HS) (f : Int → Int) (p t room : Int) : Int := match sPu S with
  | none => if f (15 + p) < sU S t then 0 else 1
  | some F => min (F (vP S f p t room)) 9
def fondB (S : HS) (f : Int → Int) (p : Int) : Int := match sFe S with
  | none => if sumF (sU S) f p (sNt S) < 10 then f (15 + p) - 1 else f (15 + p) + 1
  | some F => F (vF S f p (sumF (sU S) f p (sNt S)))
/-- how many of t are put in -/
def putF (S : HS) (f : Int → Int) (p t room : Int) : Int := min (wantF S f p t room) (min (f (29 + t)) (room.tdiv (sW S t)))
/-- t by t: the row, and the room -/
def pkI (S : HS) (p : Int) (f : Int → Int) : Nat → (Int → Int) × Int
  | 0 => (f, sH S (f (8 + p)) - sumF (sW S) f p (sNt S))
  | k + 1 => if 0 < putF S (pkI S p f k).1 p k (pkI S p f k).2 then (mvC (pkI S p f k).1 (f (8 + p)) k (putF S (pkI S p f k).1 p k (pkI S p f k).2), (pkI S p f k).2 - putF S (pkI S p f k).1 p k (pkI S p f k).2 * sW S k) else pkI S p f k
def packF (S : HS) (f : Int → Int) (p : Int) : Int → Int := (pkI S p f (sNt S)).1
def unI (f : Int → Int) (c : Int) : Nat → Int → Int
  | 0 => f
  | k + 1 => mvC (unI f c k) c k (-(unI f c k (35 + c * 6 + (k : Int))))
def cbF (S : HS) (f : Int → Int) (p : Int) : Int → Int := unI (upI f (15 + p) (max 0 (min 9 (fondB S f p)))) (f (8 + p)) (sNt S)
def inP (f : Int → Int) (p : Int) : Bool := decide (f (22 + p) ≠ -1) && decide (f (1 + f (22 + p)) = 0)
def pkW (S : HS) (f : Int → Int) (p : Int) : Int → Int := if inP f p then packF S f p else f
def soF (S : HS) (f : Int → Int) (p : Int) : Int → Int := if f (1 + p) - 1 = 0 then cbF S (upI f (1 + p) (f (1 + p) - 1)) p else upI f (1 + p) (f (1 + p) - 1)
def lvQ (S : HS) (f : Int → Int) (p : Int) : Bool := decide (f (1 + p) = 0) && decide ((f 0).tmod (sE S p) = 0)
def psF (S : HS) (f : Int → Int) (p : Int) : Int → Int := if f (1 + p) = 0 then (if (f 0).tmod (sE S p) = 0 then upI (pkW S f p) (1 + p) (sAw S p) else f) else soF S f p
def rowAt (S : HS) (f : Int → Int) : Nat → Int → Int
  | 0 => f
  | k + 1 => psF S (rowAt S f k) k
def dayF (S : HS) (f : Int → Int) : Int → Int := upI (rowAt S f (sNp S)) 0 (rowAt S f (sNp S) 0 + 1)
/-- who leaves; whose case is empty then -/
def lvA (S : HS) (f : Int → Int) (k : Nat) : Bool := lvQ S (rowAt S f k) k
def emA (S : HS) (f : Int → Int) (k : Nat) : Bool := lvA S f k && decide (sumF (sW S) (pkW S (rowAt S f k) k) k (sNt S) = 0)
/-! the heap of a walk -/
def rlR (h : HP) (r : Nat) (mk : (Int → Int) → Int → Int) (o : Option ((Int → Int) → Int)) : Prop := match o with
  | none => hI h r 3 = 0
  | some F => hI h r 3 = 1 ∧ ∃ n : Nat, n ≤ 700 ∧ hI h r 2 = (n : Int) ∧ (∀ i : Int, 0 ≤ i → i < n → -17 ≤ hA h (r + 1) i ∧ hA h (r + 1) i ≤ 9999) ∧ ∀ v g, (∀ i, i32 (v i)) → evR (hA h (r + 1)) v g n = F (mk v)
def cHS (h : HP) (t : Nat) (S : HS) : Prop := (hA h (t + 1) = sW S ∧ hA h (t + 2) = sU S ∧ hA h (t + 4) = sH S ∧ hA h (t + 5) = sE S ∧ hA h (t + 6) = sAw S) ∧ (hI h t 10 = (sNt S : Int) ∧ hI h t 11 = (sNp S : Int)) ∧ rlR h (t + 9) mkP (sPu S) ∧ rlR h (t + 12) mkF (sFe S)
/-- h is h0 but for a walk's own cells -/
def WK (h0 h : HP) (w t : Nat) : Prop := (∀ a, a ≠ w + 1 + 1 → a ≠ w + 3 → a ≠ w + 4 → a ≠ t + 9 + 2 → a ≠ t + 12 + 2 → hA h a = hA h0 a) ∧ ((∀ i, i32 (hA h (t + 9 + 2) i)) ∧ (∀ i, i32 (hA h (t + 12 + 2) i)) ∧ ∀ i, i32 (hA h (w + 3) i)) ∧ (∀ b k, (b ≠ w ∨ k ≠ 6) → hI h b k = hI h0 b k) ∧ hR h = hR h0
def WX (h0 : HP) (w t : Nat) (S : HS) : Prop := (w = 84 ∨ w = 101) ∧ (t = 33 ∨ t = 48) ∧ hR h0 w 5 = t ∧ cHS h0 t S ∧ hsW S
theorem TTw {w : Nat} (h : w = 84 ∨ w = 101) : TT w = (0, 10) := by rcases h with rfl | rfl <;> decide
theorem TTt {t : Nat} (h : t = 33 ∨ t = 48) : TT t = (0, 3) := by rcases h with rfl | rfl <;> decide
theorem WK_A {h0 h g : HP} {w t c : Nat} {S : HS} (X : WX h0 w t S) (k : WK h0 h w t) (hc : c = w + 1 + 1 ∨ c = w + 4) (fr : ∀ b, b ≠ c → hA g b = hA h b) (hi : hI g = hI h) (hr : hR g = hR h) : WK h0 g w t := by
  obtain ⟨hw, ht, -⟩ := X
  obtain ⟨k1, ⟨k2, k3, k4⟩, k5, k6⟩ := k
  exact ⟨fun a a1 a2 a3 a4 a5 => by rw [fr a (by omega)]; exact k1 a a1 a2 a3 a4 a5, ⟨fun i => by rw [fr _ (by omega)]; exact k2 i, fun i => by rw [fr _ (by omega)]; exact k3 i, fun i => by rw [fr _ (by omega)]; exact k4 i⟩, fun b j hb => by rw [hi]; exact k5 b j hb, by rw [hr]; exact k6⟩
theorem WK_V {h0 h g : HP} {w t : Nat} {S : HS} {i x : Int} (X : WX h0 w t S) (k : WK h0 h w t) (e : g = sA h (w + 3) i x) (hx : i32 x) : WK h0 g w t := by
  obtain ⟨hw, ht, -⟩ := X
  obtain ⟨a1, fr, hi, hr⟩ := sA_fx e
  obtain ⟨k1, ⟨k2, k3, k4⟩, k5, k6⟩ := k
  exact ⟨fun a a1 a2 a3 a4 a5 => by rw [fr a (by omega)]; exact k1 a a1 a2 a3 a4 a5, ⟨fun i => by rw [fr _ (by omega)]; exact k2 i, fun i => by rw [fr _ (by omega)]; exact k3 i, fun j => by rw [a1]; unfold upI; exact i32_if hx (k4 j)⟩, fun b j hb => by rw [hi]; exact k5 b j hb, by rw [hr]; exact k6⟩
theorem WK_P {h0 h g : HP} {w t c : Nat} {S : HS} (X : WX h0 w t S) (k : WK h0 h w t) (hc : c = t + 9 + 2 ∨ c = t + 12 + 2) (hp : ∀ i, i32 (hA g c i)) (fr : ∀ b, b ≠ c → hA g b = hA h b) (hi : hI g = hI h) (hr : hR g = hR h) : WK h0 g w t := by
  obtain ⟨hw, ht, -⟩ := X
  obtain ⟨k1, ⟨k2, k3, k4⟩, k5, k6⟩ := k
  refine ⟨fun a a1 a2 a3 a4 a5 => by rw [fr a (by omega)]; exact k1 a a1 a2 a3 a4 a5, ⟨fun i => ?_, fun i => ?_, fun i => by rw [fr _ (by omega)]; exact k4 i⟩, fun b j hb => by rw [hi]; exact k5 b j hb, by rw [hr]; exact k6⟩
  · by_cases e : t + 9 + 2 = c
    · rw [e]; exact hp i
    · rw [fr _ e]; exact k2 i
  · by_cases e : t + 12 + 2 = c
    · rw [e]; exact hp i
    · rw [fr _ e]; exact k3 i
theorem WK_6 {h0 h g : HP} {w t : Nat} {x : Int} (k : WK h0 h w t) (e : g = sI h w 6 x) : WK h0 g w t := by
  obtain ⟨i1, fi, ha, hr⟩ := sI_fx e
  obtain ⟨k1, ⟨k2, k3, k4⟩, k5, k6⟩ := k
  exact ⟨fun a a1 a2 a3 a4 a5 => by rw [ha]; exact k1 a a1 a2 a3 a4 a5, ⟨fun i => by rw [ha]; exact k2 i, fun i => by rw [ha]; exact k3 i, fun i => by rw [ha]; exact k4 i⟩, fun b j hb => by rw [fi b j hb]; exact k5 b j hb, by rw [hr]; exact k6⟩
theorem mv_fx {g h : HP} {c : Nat} {p t n : Int} (e : g = sA (sA h c (35 + hA h c (8 + p) * 6 + t) (hA h c (35 + hA h c (8 + p) * 6 + t) + n)) c (29 + t) (hA (sA h c (35 + hA h c (8 + p) * 6 + t) (hA h c (35 + hA h c (8 + p) * 6 + t) + n)) c (29 + t) - n)) (hc : 0 ≤ hA h c (8 + p) ∧ hA h c (8 + p) < 7) (ht : 0 ≤ t ∧ t < 6) : hA g c = mvC (hA h c) (hA h c (8 + p)) t n ∧ (∀ b, b ≠ c → hA g b = hA h b) ∧ hI g = hI h ∧ hR g = hR h := by
  subst e
  rw [sA_F, sA_F, hA_F, sF_F]
  refine ⟨?_, fun b hb => hA_Fn hb, rfl, rfl⟩
  rw [hA_F]
  unfold mvC
  rw [upI_n (show (29 + t : Int) ≠ 35 + hA h c (8 + p) * 6 + t by omega)]
