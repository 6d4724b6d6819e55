/-! THE K LAYER. A world of fixed cells (part 04) whose contents are three functions: int fields, arrays (by Int places), changing references. A judgement K at a place of a method; one rule an instruction. -/
abbrev AV : Type := Int ⊕ (Int ⊕ (Nat ⊕ Nat))
abbrev vi (x : Int) : AV := .inl x
abbrev vl (x : Int) : AV := .inr (.inl x)
abbrev vr (a : Nat) : AV := .inr (.inr (.inl a))
abbrev vs (k : Nat) : AV := .inr (.inr (.inr k))
def cv (as ad : Nat → Nat) : AV → Value
  | .inl x => .int (Int32.ofInt x)
  | .inr (.inl x) => .long (Int64.ofInt x)
  | .inr (.inr (.inl a)) => .ref (as a)
  | .inr (.inr (.inr 0)) => .null
  | .inr (.inr (.inr (k + 1))) => .ref (ad (k + 1))
def isL : AV → Bool
  | .inr (.inl _) => true
  | _ => false
theorem cv_cat (as ad : Nat → Nat) (v : AV) : ((cv as ad v).category == 2) = isL v := by
  rcases v with x | x | a | _ | k <;> rfl
theorem cv_cat1 {as ad : Nat → Nat} {v : AV} (h : isL v = false) : (cv as ad v).category = 1 := by
  rcases v with x | x | a | _ | k
  · rfl
  · cases h
  · rfl
  · rfl
  · rfl
/-- the heap: int fields, arrays, changing references -/
abbrev HP : Type := (Nat → Nat → Int) × (Nat → Int → Int) × (Nat → Nat → Nat)
def hI (h : HP) (a k : Nat) : Int := h.1 a k
def hA (h : HP) (a : Nat) (i : Int) : Int := h.2.1 a i
def hR (h : HP) (a k : Nat) : Nat := h.2.2 a k
def sI (h : HP) (a k : Nat) (x : Int) : HP := (fun a' k' => if a' = a ∧ k' = k then x else h.1 a' k', h.2.1, h.2.2)
def sA (h : HP) (a : Nat) (i x : Int) : HP := (h.1, fun a' i' => if a' = a ∧ i' = i then x else h.2.1 a' i', h.2.2)
def sR (h : HP) (a k b : Nat) : HP := (h.1, h.2.1, fun a' k' => if a' = a ∧ k' = k then b else h.2.2 a' k')
/-- an array all at once -/
def sF (h : HP) (a : Nat) (f : Int → Int) : HP := (h.1, fun a' i' => if a' = a then f i' else h.2.1 a' i', h.2.2)
def fv (h : HP) (a ci k : Nat) : AV := match (fk ci k).1 with
  | 0 => vi (hI h a k)
  | 1 => vl (hI h a k)
  | 2 => vr (a + (fk ci k).2)
  | 3 => vr (hR h a k)
  | _ => vi (hI h a k)
def en (as : Nat → Nat) (C : Nat → ClassId) (h : HP) (a : Nat) : va_E := match (TT a).1 with
  | 0 => .inr ((TT a).2, (List.range (nF (TT a).2)).map (fun k => cv as (fun _ => 0) (fv h a (TT a).2 k)))
  | 1 => .inl (C 0, (TT a).2, .inl (fun i => Int32.ofInt (hA h a i)))
  | 2 => .inl (C 1, (TT a).2, .inl (fun i => Int32.ofInt (hA h a i)))
  | 3 => .inl (C 2, (TT a).2, .inl (fun i => Int32.ofInt (hA h a i)))
  | 4 => .inl (C 3, (TT a).2, .inr (.inl (fun i => Int64.ofInt (hA h a i))))
  | _ => .inl (C 4, (TT a).2, .inr (.inr (.inr (.inr (fun i => some (as (a + 1 + i)))))))
def wsK (as : Nat → Nat) (C : Nat → ClassId) (h : HP) : va_W := (List.range 120).map (fun a => (as a, en as C h a))
def tyK (C : Nat → ClassId) : List (ClassId × FieldType) := [(C 0, .int), (C 1, .byte), (C 2, .boolean), (C 3, .long), (C 4, .array .int)]
theorem wsK_get (as : Nat → Nat) (C : Nat → ClassId) (h : HP) {a : Nat} (ha : a < 120) : (wsK as C h)[a]? = some (as a, en as C h a) := by
  unfold wsK
  rw [List.getElem?_map, List.getElem?_range ha]
  rfl
theorem wsK_set {as : Nat → Nat} {C : Nat → ClassId} {h h' : HP} {a : Nat} {e : va_E} (ha : a < 120) (he : en as C h' a = e) (ho : ∀ b, b ≠ a → en as C h' b = en as C h b) : (wsK as C h).set a (as a, e) = wsK as C h' := by
  apply List.ext_getElem?
  intro b
  rcases Nat.lt_or_ge b 120 with q | q
  · rw [wsK_get as C h' q, List.getElem?_set]
    by_cases e1 : a = b
    · subst e1
      rw [if_pos rfl, if_pos (by simp [wsK]; exact ha), he]
    · rw [if_neg e1, wsK_get as C h q, ho b (fun z => e1 z.symm)]
  · rw [List.getElem?_eq_none (by simp [wsK]; exact q), List.getElem?_eq_none (by simp [wsK]; exact q)]
/-- the cells that a method may change -/
def AA (as : Nat → Nat) (sz : Nat) : Nat → Prop := fun q => (∃ a, a < 120 ∧ q = as a) ∨ sz ≤ q
def Ij (as : Nat → Nat) : Prop := ∀ a b, a < 120 → b < 120 → as a = as b → a = b
theorem wsK_D {as : Nat → Nat} {C : Nat → ClassId} {h : HP} {sz : Nat} (hj : Ij as) : va_D (AA as sz) (wsK as C h) := by
  have key : ∀ (k : Nat) (q : Nat × va_E), (wsK as C h)[k]? = some q → k < 120 ∧ q.1 = as k := by
    intro k q hk
    rcases Nat.lt_or_ge k 120 with z | z
    · rw [wsK_get as C h z] at hk
      exact ⟨z, by rw [← Option.some.inj hk]⟩
    · rw [List.getElem?_eq_none (by simp [wsK]; exact z)] at hk
      cases hk
  refine ⟨fun i j x y hi hj2 hxy => ?_, fun k q hk => ?_⟩
  · obtain ⟨a1, a2⟩ := key i x hi
    obtain ⟨b1, b2⟩ := key j y hj2
    exact hj i j a1 b1 (by rw [← a2, ← b2, hxy])
  · obtain ⟨a1, a2⟩ := key k q hk
    exact Or.inl ⟨k, a1, a2⟩
theorem AA_mono {as : Nat → Nat} {sz sz' : Nat} (h : sz ≤ sz') : ∀ q, AA as sz' q → AA as sz q := by
  intro q hq
  rcases hq with z | z
  · exact Or.inl z
  · exact Or.inr (Nat.le_trans h z)
/-- a method: its name, bytes, how many locals, its return type, its room -/
abbrev MI : Type := MethodName × ByteArray × Nat × Option FieldType × Room
def mY (M : MI) : MethodName := M.1
def mB (M : MI) : ByteArray := M.2.1
def mL (M : MI) : Nat := M.2.2.1
def mT (M : MI) : Option FieldType := M.2.2.2.1
def mR (M : MI) : Room := M.2.2.2.2
def rmK (d n : Nat) : Room := { frames := d, cells := n, slots := 6 * n, locals := 64 * d }
abbrev CT : Type := Program × Launch × Env × State × MethodId × Array Value × List Frame × Method × Code × va_G × (Nat → ClassId) × (Nat → Nat) × (Nat → Nat) × (Nat → Nat)
def Cx (M : MI) (p : Program) (l : Launch) (e : Env) (s : State) (m : MethodId) (args : Array Value) (below : List Frame) (meth : Method) (c : Code) (D : va_G) (C : Nat → ClassId) (as ad av : Nat → Nat) : Prop :=
  p.tables.exec = Jvm.exec ∧ c.code = mB M ∧ c.maxLocals = mL M ∧ meth.sig.returnType = mT M ∧ meth.locks = false ∧ s.vm.findClass (mY M).cls = some m.cls ∧ (∀ w ∈ gw, w.before args s = true) ∧ va_K D vwCl (tyK C) s ∧ Ij as
def cl (as ad : Nat → Nat) (ls : List (Nat × AV)) : List (Nat × Value) := ls.map (fun q => (q.1, cv as ad q.2))
/-- at pc of M, with locals ls, stack st, heap h, nc cells of ns slots made: it comes to its end -/
def K (M : MI) (G : CT → Prop) (Z : CT → State → Prop) (nc ns pc : Nat) (ls : List (Nat × AV)) (st : List AV) (h : HP) : Prop :=
  ∀ (p : Program) (l : Launch) (e : Env) (s : State) (m : MethodId) (args : Array Value) (below : List Frame) (meth : Method) (c : Code) (D : va_G) (C : Nat → ClassId) (as ad av : Nat → Nat) (H : Heap) (locs : List Loc) (lsA : Array Slot),
    Cx M p l e s m args below meth c D C as ad av → G (p, l, e, s, m, args, below, meth, c, D, C, as, ad, av) → va_P D vwCl (wsK as C h) H → va_S (AA as s.heap.size) s.heap H locs → lv_has lsA (mL M) (cl as ad ls) →
    W p l e (mR M) s m args below meth c H locs nc ns (Z (p, l, e, s, m, args, below, meth, c, D, C, as, ad, av)) (F0 m pc lsA (st.map (cv as ad)))
theorem oI_add (x y : Int) : Int32.ofInt x + Int32.ofInt y = Int32.ofInt (x + y) := (Int32.ofInt_add x y).symm
theorem oI_mul (x y : Int) : Int32.ofInt x * Int32.ofInt y = Int32.ofInt (x * y) := (Int32.ofInt_mul x y).symm
theorem oI_neg (x : Int) : -Int32.ofInt x = Int32.ofInt (-x) := (Int32.ofInt_neg x).symm
theorem oI_sub (x y : Int) : Int32.ofInt x - Int32.ofInt y = Int32.ofInt (x - y) := (Int32.ofInt_sub x y).symm
/-- a number of 32 bits -/
def i32 (x : Int) : Prop := -2147483648 ≤ x ∧ x < 2147483648
theorem oI_to {x : Int} (h : i32 x) : (Int32.ofInt x).toInt = x := by
  rw [Int32.toInt_ofInt]
  show x.bmod (2 ^ 32) = x
  have h1 := h.1
  have h2 := h.2
  exact Int.bmod_eq_of_le (by omega) (by omega)
theorem oI_lt {x y : Int} (hx : i32 x) (hy : i32 y) : Int32.ofInt x < Int32.ofInt y ↔ x < y := by
  rw [Int32.lt_iff_toInt_lt, oI_to hx, oI_to hy]
theorem oI_le {x y : Int} (hx : i32 x) (hy : i32 y) : Int32.ofInt x ≤ Int32.ofInt y ↔ x ≤ y := by
  rw [Int32.le_iff_toInt_le, oI_to hx, oI_to hy]
theorem oI_eq {x y : Int} (hx : i32 x) (hy : i32 y) : Int32.ofInt x = Int32.ofInt y ↔ x = y := by
  rw [← Int32.toInt_inj, oI_to hx, oI_to hy]
theorem oI_in {x : Int} {n : Nat} (h0 : 0 ≤ x) (h1 : x < n) (hn : n < 2147483648) : vp_in (Int32.ofInt x) n := by
  rw [vp_in_iff, oI_to ⟨by omega, by omega⟩]
  exact ⟨h0, h1⟩
theorem oI_nat {x : Int} {n : Nat} (h0 : 0 ≤ x) (h1 : x < n) (hn : n < 2147483648) : (Int32.ofInt x).toNatClampNeg = x.toNat := by
  show (Int32.ofInt x).toInt.toNat = _
  rw [oI_to ⟨by omega, by omega⟩]
theorem oI_to0 : Int32.ofInt 0 = 0 := by decide
