/-! the law's loop -/
def R_law : String := "PackedCasesLaw"
def lw_P (b : Addr) (xs : List Int32) (args : Array Value) (s : State) : Prop := args = #[.ref b] ∧ s.IntsAt b xs ∧ xs.length ≤ 3072 ∧ (Jvm.Cond.and given_1 narrow_1).before args s = true
def lw_Q (_ : Array Value) (s : State) (o : Outcome) (t : State) : Prop := o = .returned (some (.int 1)) ∧ Framed s o t [] 601024 7293034
def lw_Z (below : List Frame) (a : Array Value) (s : State) : State → Prop := fun t => ∃ o, t.status = .running ∧ Ended t below o ∧ lw_Q a s o t
/-- the law's own end, with 1 on the stack, nothing written that was there before, its room as the claim has it -/
theorem lw_ret {p : Program} {l : Launch} {e : Env} {s : State} {m : MethodId} {below : List Frame} {meth : Method} {c : Code} {b : Nat} (hx : p.tables.exec = Jvm.exec) (hb : c.code = code) (hr : meth.sig.returnType = ret) (hlocks : meth.locks = false) {pc : Nat} {H : Heap} {ls : Array Slot} (hdg : decode code pc = .ok (.ireturn, 1)) : W p l e room_1 s m #[Value.ref b] below meth c H [] 601024 7293034 (lw_Z below #[Value.ref b] s) (F0 m pc ls [.int 1]) := by
  intro T hT X
  obtain ⟨fs, hret, hrun, hended, hW, hframe⟩ := X.leave (v := some (.int 1)) (hlocks := hlocks) (fun h => by rw [hr] at h; cases h)
  have hmeth' : T.vm.method? m = some meth := X.method'
  refine ⟨T.setFrames fs, ?_, .returned (some (.int 1)), hrun, hended, rfl, ⟨_, rfl⟩, hW, hframe⟩
  jvm_step X.here [X.here.top, hx, hb, hdg, hmeth', hr, ret, narrow_b1]
  (try refine ⟨rfl, ?_⟩); (try refine ⟨rfl, ?_⟩)
  first | (intro acts; rw [hret _ acts rfl rfl rfl]) | rw [hret _ _ rfl rfl rfl]
  exact Steps.refl _
def mL_law : MI := (yL_law, cL_law, 7, ret, room_1)
def ZL : CT → State → Prop := fun (_, _, _, s, _, args, below, _, _, _, _, _, _, _) => lw_Z below args s
def GL (L : Nat) (xs : Nat → Int32) : CT → Prop := fun (p, l, e, s, m, args, below, meth, c, D, C, as, ad, av) => GE (p, l, e, s, m, args, below, meth, c, D, C, as, ad, av) ∧ va_X (ad 51) L xs s s.heap ∧ ad 51 < s.heap.size ∧ (∀ a, a < 120 → s.heap.size ≤ as a) ∧ args = #[Value.ref (ad 51)]
theorem GL_E {L : Nat} {xs : Nat → Int32} : ∀ t : CT, GL L xs t → GE t := fun _ h => h.1
theorem GL_no {as : Nat → Nat} {b sz : Nat} (h1 : b < sz) (h2 : ∀ a, a < 120 → sz ≤ as a) : ¬ AA as sz b := by
  rintro (⟨a, ha, e⟩ | q)
  · have := h2 a ha
    omega
  · omega
def xv (xs : Nat → Int32) (i : Int) : Int := (xs i.toNat).toInt
theorem xv_i (xs : Nat → Int32) (i : Int) : i32 (xv xs i) := by
  have h1 := Int32.minValue_le_toInt (xs i.toNat)
  have h2 := Int32.toInt_lt (xs i.toNat)
  have h3 : Int32.minValue.toInt = -2147483648 := by decide
  exact ⟨by unfold xv; omega, by unfold xv; omega⟩
section LL
variable {L : Nat} {xs : Nat → Int32} {Z : CT → State → Prop} {nc ns pc : Nat} {ls : List (Nat × AV)} {st : List AV} {h : HP} {M : MI}
theorem K_slen (hd : decode (mB M) pc = .ok (.arraylength, 1)) (k : K M (GL L xs) Z nc ns (pc + 1) ls (vi (L : Int) :: st) h) : K M (GL L xs) Z nc ns pc ls (vs 51 :: st) h := by
  intro p l e s m args below meth c D C as ad av H locs lsA cx hG hP hS hl
  obtain ⟨hx, hb, hml, hr, hlk, hown, hts, hK, hj⟩ := id cx
  obtain ⟨-, g2, g3, g4, -⟩ := id hG
  exact va_slen hx hb g2 g3 (GL_no g3 g4) hS hd (k p l e s m args below meth c D C as ad av H locs lsA cx hG hP hS hl)
theorem K_sld {i : Int} (hd : decode (mB M) pc = .ok (.iaload, 1)) (h0 : 0 ≤ i) (h1 : i < L) (hL : L < 2147483648) (k : K M (GL L xs) Z nc ns (pc + 1) ls (vi (xv xs i) :: st) h) : K M (GL L xs) Z nc ns pc ls (vi i :: vs 51 :: st) h := by
  intro p l e s m args below meth c D C as ad av H locs lsA cx hG hP hS hl
  obtain ⟨hx, hb, hml, hr, hlk, hown, hts, hK, hj⟩ := id cx
  obtain ⟨-, g2, g3, g4, -⟩ := id hG
  refine va_sld (i := Int32.ofInt i) hx hb g2 g3 (GL_no g3 g4) hS (oI_in h0 h1 hL) hd ?_
  rw [oI_nat h0 h1 hL]
  have k9 := k p l e s m args below meth c D C as ad av H locs lsA cx hG hP hS hl
  rw [List.map_cons, show cv as ad (vi (xv xs i)) = Value.int (xs i.toNat) from congrArg Value.int (Int32.ofInt_toInt _)] at k9
  exact k9
theorem K_lend (hd : decode code pc = .ok (.ireturn, 1)) (hc : nc ≤ 601024) (hs : ns ≤ 7293034) : K mL_law (GL L xs) ZL nc ns pc ls [vi 1] h := by
  intro p l e s m args below meth c D C as ad av H locs lsA cx hG hP hS hl
  obtain ⟨hx, hb, hml, hr, hlk, hown, hts, hK, hj⟩ := id cx
  obtain ⟨-, g2, g3, g4, g5⟩ := id hG
  refine va_forget (fun q hq => ?_) (W.widen hc hs ?_)
  · rcases hS.2.2 q hq with ⟨a, ha, e⟩ | z
    · have := g4 a ha
      omega
    · exact z
  · subst g5
    exact lw_ret hx hb hr hlk hd
theorem K_lcmpS {G : CT → Prop} {x : Int} (hd : decode (mB M) pc = .ok (.lcmp, 1)) (hx0 : i64 x) (k : K M G Z nc ns (pc + 1) ls (vi 0 :: st) h) : K M G Z nc ns pc ls (vl x :: vl x :: st) h :=
  K_lcmp hd hx0 hx0 (by rw [show cmpL x x = 0 by simp [cmpL]]; exact k)
theorem wr_64 (x : Int) : i64 (wr x) := by
  have h := wr_i x
  exact ⟨by have := h.1; omega, by have := h.2; omega⟩
end LL
theorem CI_29 {h : HP} {A : AS} {y : Int} (I : CI h A) : CI (sA h 29 0 y) A := by
  obtain ⟨-, f0, f9, f8⟩ := sA_fx (h := h) (a := 29) (i := 0) (x := y) rfl
  obtain ⟨t, ht, i2, i3, i4, i5, i6, i7, i8, i9, i10⟩ := I
  generalize sA h 29 0 y = h' at f0 f9 f8 ⊢
  have f1 : ∀ a, 30 ≤ a → hA h' a = hA h a := fun a ha => f0 a (by omega)
  have f2 : ∀ a k, a ≠ 0 → hI h' a k = hI h a k := fun a k _ => by rw [f9]
  have f3 : hR h' = hR h := f8
  have ht2 : 33 ≤ t := by omega
  have hS : cHS h' t A.1 := by
    obtain ⟨⟨k1, k2, k3, k4, k5⟩, ⟨k6, k7⟩, k8, k9⟩ := i4
    exact ⟨⟨by rw [f1 _ (by omega)]; exact k1, by rw [f1 _ (by omega)]; exact k2, by rw [f1 _ (by omega)]; exact k3, by rw [f1 _ (by omega)]; exact k4, by rw [f1 _ (by omega)]; exact k5⟩, ⟨by rw [f2 _ _ (by omega)]; exact k6, by rw [f2 _ _ (by omega)]; exact k7⟩, rlR_FS k8 (f2 _ _ (by omega)) (f2 _ _ (by omega)) (f1 _ (by omega)), rlR_FS k9 (f2 _ _ (by omega)) (f2 _ _ (by omega)) (f1 _ (by omega))⟩
  have G : G32 h' := by
    obtain ⟨g1, g2, g3, g4, g5, g6, g7⟩ := i6
    exact ⟨by rw [f1 44 (by omega)]; exact g1, by rw [f1 47 (by omega)]; exact g2, by rw [f1 59 (by omega)]; exact g3, by rw [f1 62 (by omega)]; exact g4, by rw [f1 87 (by omega)]; exact g5, by rw [f1 104 (by omega)]; exact g6, by rw [f3]; exact g7⟩
  exact ⟨t, ht, by rw [f3]; exact i2, by rw [f3]; exact i3, hS, i5, G,
    svR_fr i7 (f1 _ (by omega)) (f2 _ _ (by omega)) (f2 _ _ (by omega)) (f1 _ (by omega)) (f2 _ _ (by omega)) (f1 _ (by omega)) (f1 _ (by omega)) (f1 _ (by omega)) (f1 _ (by omega)), i8,
    imR_fr i9 (f2 _ _ (by omega)) (f1 _ (by omega)) (f2 _ _ (by omega)) (f2 _ _ (by omega)) (f1 _ (by omega)) (f2 _ _ (by omega)) (f1 _ (by omega)) (f1 _ (by omega)) (f1 _ (by omega)) (f1 _ (by omega)),
    tpR_fr i10 (f2 _ _ (by omega)) (f2 _ _ (by omega)) (f1 _ (by omega)) (f1 _ (by omega))⟩
theorem MV_29 {h : HP} {A : AS} {y : Int} (m : MV h A) : MV (sA h 29 0 y) A := by
  obtain ⟨-, f0, f9, f8⟩ := sA_fx (h := h) (a := 29) (i := 0) (x := y) rfl
  generalize sA h 29 0 y = h' at f0 f9 f8 ⊢
  obtain ⟨m1, m2, m3, ⟨m4, m5, m6⟩, m7, m8⟩ := m
  have fa : ∀ a, a < 29 → hA h' a = hA h a := fun a ha => f0 a (by omega)
  have fi : ∀ k, hI h' 0 k = hI h 0 k := fun k => by rw [f9]
  exact ⟨MS_fr m1 (fi 1) (fi 2) (fi 3) (fi 4) (fa 1 (by omega)) (fa 2 (by omega)) (fa 3 (by omega)) (fa 4 (by omega)) (fa 5 (by omega)) (fa 6 (by omega)), by rw [fa 20 (by omega)]; exact m2, by rw [fi 49]; exact m3, ⟨RV0_fr m4 (fun i _ => by rw [fa 18 (by omega)]), mAc_fr m5 (fi 44) (fa 19 (by omega)), mSe_fr m6 (fi 51) (fa 23 (by omega))⟩, mIm_fr m7 (fi 56) (fi 57) (fi 58) (fa 26 (by omega)) (fa 27 (by omega)) (fa 28 (by omega)), mTp_fr m8 (fi 12) (fi 14) (fa 7 (by omega)) (fa 8 (by omega))⟩
/-- what a pair says of the two calls of the law -/
def PQ (M2 : MI) (as : List AV) (cd : String → Int) (h : HP) (A : AS) (Q1 : AO → HP → Prop) : Prop := ∀ o h1, Q1 o h1 → FM h h1 ∧ ∃ (A' : AS) (o2 : Option AV) (tau : Int), CI h1 A' ∧ MtP cd o2 tau o ∧ ∀ h2, MV h2 A → SpecK M2 (vr 0 :: as) h2 (fun o' h3 => o' = .inl o2 ∧ MV h3 A' ∧ FC h2 h3 ∧ hI h3 0 0 = tau)
theorem PQ_ok {M2 : MI} {as : List AV} {cd : String → Int} {h : HP} {A : AS} {Q1 : AO → HP → Prop} (q : PQ M2 as cd h A Q1) : Q1ok cd Q1 := by
  intro o h1 hq
  obtain ⟨-, A', o2, tau, -, mt, -⟩ := q o h1 hq
  cases o with
  | inl v =>
    obtain ⟨⟨x, rfl⟩, -⟩ := mt
    exact Or.inl ⟨x, rfl⟩
  | inr E =>
    obtain ⟨⟨e1, e2, e3⟩, -⟩ := mt
    exact Or.inr ⟨E, rfl, by rw [← e1]; exact e2, e3⟩
theorem lawP {M2 : MI} {as : List AV} {cd : String → Int} {fx : Int → Int} {h h9 : HP} {A : AS} {Q1 : AO → HP → Prop} {v : Option AV} (hcd : ∀ E, 0 ≤ cd E ∧ cd E ≤ 2) (V : MV h A) (q : PQ M2 as cd h A Q1) (hq : WQ cd fx Q1 (.inl v) h9) :
    ∃ (A' : AS) (kq y : Int), v = some (vi kq) ∧ i32 kq ∧ CI h9 A' ∧ SpecK M2 (vr 0 :: as) h9 (fun o' h3 => o' = .inl (some (vi y)) ∧ MV h3 A' ∧ FC h9 h3 ∧ hI h3 0 0 = kq) ∧ (kq = 0 → hA h9 29 0 = fx y) := by
  rcases hq with ⟨x, h1, hq, e, rfl⟩ | ⟨E, hq, e⟩
  · obtain ⟨F, A', o2, tau, I', ⟨-, rfl, rfl⟩, s2⟩ := q _ _ hq
    cases e
    refine ⟨A', 0, x, rfl, ⟨by decide, by decide⟩, CI_29 I', s2 _ (MV_29 (MV_FM V F)), fun _ => ?_⟩
    obtain ⟨f0, -⟩ := sA_fx (h := h1) (a := 29) (i := 0) (x := fx x) rfl
    rw [f0]
    simp [upI]
  · obtain ⟨F, A', o2, tau, I', ⟨⟨e1, e2, -⟩, y, rfl⟩, s2⟩ := q _ _ hq
    cases e
    subst e1
    have := hcd E
    exact ⟨A', cd E, y, rfl, ⟨by omega, by omega⟩, I', s2 _ (MV_FM V F), fun z => (e2 z).elim⟩
theorem lawPx {cd : String → Int} {fx : Int → Int} {Q1 : AO → HP → Prop} {h9 : HP} {E : String} (hq : WQ cd fx Q1 (.inr E) h9) : False := by
  rcases hq with ⟨x, h1, hq, e, -⟩ | ⟨E, hq, e⟩ <;> cases e
theorem lawD {M2 : MI} {as : List AV} {h h9 : HP} {A : AS} {Q1 : AO → HP → Prop} {v : Option AV} (V : MV h A) (q : PQ M2 as c00 h A Q1) (hq : Q1 (.inl v) h9) :
    ∃ (A' : AS) (y : Int), v = some (vi y) ∧ CI h9 A' ∧ SpecK M2 (vr 0 :: as) h9 (fun o' h3 => o' = .inl (some (vi y)) ∧ MV h3 A' ∧ FC h9 h3 ∧ hI h3 0 0 = 0) := by
  obtain ⟨F, A', o2, tau, I', ⟨⟨x, rfl⟩, rfl, rfl⟩, s2⟩ := q _ _ hq
  exact ⟨A', x, rfl, I', s2 _ (MV_FM V F)⟩
theorem lawDx {M2 : MI} {as : List AV} {h h9 : HP} {A : AS} {Q1 : AO → HP → Prop} {E : String} (q : PQ M2 as c00 h A Q1) (hq : Q1 (.inr E) h9) : False := by
  obtain ⟨F, A', o2, tau, I', ⟨⟨e1, e2, -⟩, -⟩, s2⟩ := q _ _ hq
  exact e2 e1
theorem cNS_b : ∀ E, 0 ≤ cNS E ∧ cNS E ≤ 2 := fun E => by unfold cNS; split <;> omega
theorem cN1_b : ∀ E, 0 ≤ cN1 E ∧ cN1 E ≤ 2 := fun E => by unfold cN1; split <;> omega
theorem cIA_b : ∀ E, 0 ≤ cIA E ∧ cIA E ≤ 2 := fun E => by unfold cIA; split <;> omega
abbrev LwS (i : Int) : List (Nat × AV) := [(0, vs 51), (1, vr 30), (2, vr 0), (3, vr 29), (4, vi i)]
theorem b01_c (x : Int) : b01 x = 0 ∨ b01 x = 1 := by unfold b01; split <;> simp
theorem bAnd_i (x y : Int) : i32 (bAnd x y) := by
  have h1 := Int32.minValue_le_toInt (Int32.ofInt x &&& Int32.ofInt y)
  have h2 := Int32.toInt_lt (Int32.ofInt x &&& Int32.ofInt y)
  have h3 : Int32.minValue.toInt = -2147483648 := by decide
  exact ⟨by unfold bAnd; omega, by unfold bAnd; omega⟩
