/-! the world at the start of the law's loop -/
def odL : List Nat := [90, 91, 92, 93, 94, 95, 96, 97, 98, 99, 100, 101, 102, 103, 104, 105, 106, 107, 108, 109, 110, 111, 112, 113, 114, 115, 116, 117, 118, 119, 0, 1, 2, 3, 4, 5, 6, 7, 8, 9, 10, 11, 12, 13, 14, 15, 16, 17, 18, 19, 20, 21, 22, 23, 24, 25, 26, 27, 28, 29, 30, 31, 32, 33, 34, 35, 36, 37, 38, 39, 40, 41, 42, 43, 44, 45, 46, 47, 48, 49, 50, 51, 52, 53, 54, 55, 56, 57, 58, 59, 60, 61, 62, 63, 64, 65, 66, 67, 68, 69, 70, 80, 81, 82, 83, 84, 85, 86, 71, 72, 73, 74, 75, 76, 77, 78, 79, 87, 88, 89]
def od (a : Nat) : Nat := odL.getD a 0
def hI0 (a k : Nat) : Int := if (a = 0 ∧ k = 3) ∨ (a = 0 ∧ k = 4) ∨ (a = 0 ∧ k = 14) ∨ (a = 30 ∧ k = 16) ∨ (a = 63 ∧ k = 5) then -1 else 0
def hRL : List ((Nat × Nat) × Nat) := [((30, 2), 33), ((30, 3), 48), ((63, 1), 48), ((63, 2), 57), ((64, 0), 65), ((84, 3), 89), ((84, 4), 90), ((84, 5), 33), ((91, 1), 33), ((91, 2), 66), ((101, 3), 106), ((101, 4), 107), ((101, 5), 33)]
def hR0 (a k : Nat) : Nat := ((hRL.find? (fun q => q.1 == (a, k))).map (fun q => q.2)).getD 0
def hInit : HP := (hI0, fun _ _ => 0, hR0)
def LAll : List CE := (([] ++ .inl (11, fsX11 0) :: LX11 0) ++ .inl (12, fsX12 90) :: LX12 90) ++ [.inr (4, 1)]
def rhoA : AV → AV
  | .inr (.inr (.inl a)) => vr (od a)
  | v => v
def ceOf (a : Nat) : CE := if (TT a).1 = 0 then .inl ((TT a).2, (List.range (nF (TT a).2)).map (fun k => rhoA (fv hInit a (TT a).2 k))) else .inr (TT a)
def avB : AV → AV → Bool
  | .inl x, .inl y => decide (x = y)
  | .inr (.inl x), .inr (.inl y) => decide (x = y)
  | .inr (.inr (.inl x)), .inr (.inr (.inl y)) => decide (x = y)
  | .inr (.inr (.inr x)), .inr (.inr (.inr y)) => decide (x = y)
  | _, _ => false
theorem avB_eq {a b : AV} (h : avB a b = true) : a = b := by
  rcases a with x | x | x | x <;> rcases b with y | y | y | y <;> first | (rw [of_decide_eq_true h]) | (cases h)
def lvB : List AV → List AV → Bool
  | [], [] => true
  | a :: l, b :: r => avB a b && lvB l r
  | _, _ => false
theorem lvB_eq : ∀ {l r : List AV}, lvB l r = true → l = r
  | [], [], _ => rfl
  | a :: l, b :: r, h => by
    have h9 : (avB a b && lvB l r) = true := h
    rw [Bool.and_eq_true] at h9
    rw [avB_eq h9.1, lvB_eq h9.2]
  | [], _ :: _, h => by cases h
  | _ :: _, [], h => by cases h
def ceB : CE → CE → Bool
  | .inl x, .inl y => decide (x.1 = y.1) && lvB x.2 y.2
  | .inr x, .inr y => decide (x.1 = y.1) && decide (x.2 = y.2)
  | _, _ => false
theorem ceB_eq {a b : CE} (h : ceB a b = true) : a = b := by
  rcases a with ⟨x1, x2⟩ | ⟨x1, x2⟩ <;> rcases b with ⟨y1, y2⟩ | ⟨y1, y2⟩
  · have h9 : (decide (x1 = y1) && lvB x2 y2) = true := h
    rw [Bool.and_eq_true] at h9
    rw [of_decide_eq_true h9.1, lvB_eq h9.2]
  · cases h
  · cases h
  · have h9 : (decide (x1 = y1) && decide (x2 = y2)) = true := h
    rw [Bool.and_eq_true] at h9
    rw [of_decide_eq_true h9.1, of_decide_eq_true h9.2]
def ceO (o : Option CE) (c : CE) : Bool := match o with
  | some d => ceB d c
  | none => false
theorem LAll_b : ∀ a, a < 120 → ceO (LAll[od a]?) (ceOf a) = true := by decide +kernel
theorem LAll_ok (a : Nat) (ha : a < 120) : LAll[od a]? = some (ceOf a) := by
  have h := LAll_b a ha
  cases e : LAll[od a]? with
  | none => rw [e] at h; cases h
  | some d =>
    rw [e] at h
    rw [ceB_eq h]
theorem od_lt : ∀ a, a < 120 → od a < 120 := by decide +kernel
theorem od_inj : ∀ a, a < 120 → ∀ b, b < 120 → od a = od b → a = b := by decide +kernel
theorem od_grid : ∀ a, a < 120 → (TT a).1 = 5 → ∀ i, i < (TT a).2 → od (a + 1 + i) = od a + 1 + i := by decide +kernel
theorem TT_k : ∀ a, a < 120 → (TT a).1 ≤ 5 := by decide +kernel
theorem cv_rho (z : Nat) (ad : Nat → Nat) (v : AV) : cv (fun a => z + a) (fun _ => 0) (rhoA v) = cv (fun a => z + od a) (fun _ => 0) v := by
  rcases v with x | x | a | _ | k <;> rfl
theorem wsK_init {D : va_G} {C : Nat → ClassId} {z : Nat} {s : State} {H : Heap} {locs : List Loc} (hS : StC D C z 0 0 none LAll s H locs) : va_P D vwCl (wsK (fun a => z + od a) C hInit) H := by
  intro k q hk
  have h120 : k < 120 := by
    have := (List.getElem?_eq_some_iff.mp hk).1
    simp [wsK] at this
    exact this
  rw [wsK_get _ C hInit h120] at hk
  cases hk
  obtain ⟨s1, s2, s3, s4, s5, s6⟩ := hS
  have h1 := s3 (od k) _ (LAll_ok k h120)
  rw [Nat.zero_add] at h1
  have h5 := TT_k k h120
  have hg := od_grid k h120
  unfold ceOf at h1
  unfold en
  rcases hT : TT k with ⟨t, n⟩
  rw [hT] at h1 h5 hg
  have h5 : t ≤ 5 := h5
  rcases (show t = 0 ∨ t = 1 ∨ t = 2 ∨ t = 3 ∨ t = 4 ∨ t = 5 by omega) with rfl | rfl | rfl | rfl | rfl | rfl
  · rw [if_pos rfl] at h1
    have e9 : enC z C (od k) (.inl (n, (List.range (nF n)).map (fun i => rhoA (fv hInit k n i)))) = .inr (n, (List.range (nF n)).map (fun i => cv (fun a => z + od a) (fun _ => 0) (fv hInit k n i))) := by
      show Sum.inr (n, List.map (cv (fun a => z + a) (fun _ => 0)) ((List.range (nF n)).map (fun i => rhoA (fv hInit k n i)))) = _
      rw [List.map_map]
      congr 2
      apply List.map_congr_left
      intro i _
      exact cv_rho z (fun _ => 0) _
    rw [e9] at h1
    exact h1
  · rw [if_neg (by simp)] at h1
    exact h1
  · rw [if_neg (by simp)] at h1
    exact h1
  · rw [if_neg (by simp)] at h1
    exact h1
  · rw [if_neg (by simp)] at h1
    exact h1
  · rw [if_neg (by simp)] at h1
    have h2 : H[z + od k]? = some (vp_cell (C 4) (n, .inr (.inr (.inr (.inr (fun i => some (z + (od k + 1 + i)))))))) := h1
    show H[z + od k]? = some (vp_cell (C 4) (n, .inr (.inr (.inr (.inr (fun i => some (z + od (k + 1 + i))))))))
    rw [h2, vp_cell_q, vp_cell_q]
    unfold arrV
    congr 2
    apply congrArg Array.ofFn
    funext i
    show va_rf (some (z + (od k + 1 + i.val))) = va_rf (some (z + od (k + 1 + i.val)))
    rw [hg rfl i.val i.isLt]
/-! the empty house, on both sides -/
def S0 : HS := (fun _ => 0, fun _ => 0, fun _ => 0, fun _ => 0, fun _ => 0, 0, 0, none, none)
def A0 : AS := (S0, (fun _ => 0, (0, fun _ _ => 0), (0, fun _ => 0, fun _ => 0, fun _ => 0, fun _ => 0)), none, fun _ => 0, 0, (0, 0, 0), -1)
theorem i32_0 : i32 0 := ⟨by decide, by decide⟩
theorem rowOK_0 : rowOK S0 (fun _ => 0) := by
  have z1 : (-1 : Int) ≤ 0 := by decide
  have z0 : (0 : Int) ≤ 0 := by decide
  have z2 : (0 : Int) ≤ 100000000 := by decide
  have z8 : (0 : Int) ≤ 8 := by decide
  have z9 : (0 : Int) ≤ 9 := by decide
  have z7 : (0 : Int) < 7 := by decide
  have z6 : (0 : Int) + 0 + 0 + 0 + 0 + 0 + 0 + 0 ≤ 600 := by decide
  have z5 : (0 : Int) ≤ 20000 := by decide
  have z4 : (600 : Int) ≤ 1000000 := by decide
  have z3 : (0 : Int) ≤ 9999 := by decide
  refine ⟨⟨⟨fun i _ _ => ⟨z1, z2⟩, fun p _ _ => ⟨⟨z0, z8⟩, ⟨z0, z7⟩, ⟨z0, z9⟩, ⟨z1, z7⟩⟩⟩, fun i _ _ => z0, fun t _ _ => z6, z0, z5, z4⟩, ?_, z3, ⟨?_, fun c t _ _ _ _ _ => rfl⟩, ?_, ?_⟩
  · intro p h0 h1
    have h1 : p < ((0 : Nat) : Int) := h1
    omega
  · intro p h0 h1
    have h1 : p < ((0 : Nat) : Int) := h1
    omega
  · intro p q h0 h1
    have h1 : p < ((0 : Nat) : Int) := h1
    omega
  · intro p h0 h1
    have h1 : p < ((0 : Nat) : Int) := h1
    omega
theorem hsW_0 : hsW S0 := by
  refine ⟨by decide, by decide, ?_, ?_, fun F h => (by cases h), fun F h => (by cases h)⟩
  · intro p h0 h1
    have h1 : p < ((0 : Nat) : Int) := h1
    omega
  · intro p h0 h1
    have h1 : p < ((0 : Nat) : Int) := h1
    omega
theorem CI_0 : CI hInit A0 := by
  refine ⟨33, Or.inl rfl, by decide, by decide, ⟨⟨rfl, rfl, rfl, rfl, rfl⟩, ⟨by decide, by decide⟩, (show hI hInit 42 3 = 0 by decide), (show hI hInit 45 3 = 0 by decide)⟩, hsW_0, ⟨fun _ => i32_0, fun _ => i32_0, fun _ => i32_0, fun _ => i32_0, fun _ => i32_0, fun _ => i32_0, Or.inl ⟨by decide, by decide⟩⟩, ⟨rfl, ⟨0, by decide, by decide, by decide, by decide, fun i h => absurd h (Nat.not_lt_zero i)⟩, ⟨by decide, by decide, fun i h => absurd h (Nat.not_lt_zero i)⟩⟩, ⟨rowOK_0, fun i h => absurd h (Nat.not_lt_zero i), fun i h => absurd h (Nat.not_lt_zero i)⟩, (show hI hInit 30 17 = 0 by decide), ⟨by decide, by decide, fun i h0 h1 => ?_, ⟨rfl, rfl, rfl⟩, by decide⟩⟩
  have h1 : i < ((0 : Nat) : Int) := h1
  omega
theorem MV_0 : MV hInit A0 := by
  refine ⟨⟨hsW_0, ⟨by decide, by decide⟩, fun t h0 h1 => ?_, fun t h0 h1 => ?_, (show hI hInit 0 3 = -1 by decide), (show hI hInit 0 4 = -1 by decide)⟩, fun _ => i32_0, by decide, ⟨fun j _ _ => rfl, ⟨by decide, by decide, fun i h => absurd h (Nat.not_lt_zero i)⟩, ⟨by decide, by decide, fun i h => absurd h (Nat.not_lt_zero i)⟩⟩, (show hI hInit 0 56 = 0 by decide), ⟨by decide, fun i h0 h1 => ?_, ⟨rfl, rfl, rfl⟩, by decide⟩⟩
  · have h1 : t < ((0 : Nat) : Int) := h1
    omega
  · have h1 : t < ((0 : Nat) : Int) := h1
    omega
  · have h1 : i < ((0 : Nat) : Int) := h1
    omega
