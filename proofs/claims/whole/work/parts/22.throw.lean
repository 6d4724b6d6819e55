def nyAt (own : String) (ic : Nat) : List Cond := (nyAtoms own ic).filter vx_no
section NYT
variable {p : Program} {l : Launch} {e : Env} {R : Room} {s : State} {m : MethodId} {args : Array Value} {below : List Frame} {meth : Method} {c : Code} {H : Heap} {locs : List Loc} {cells slots : Nat}
variable {free : Addr → Prop} {ls : Array Slot} {rest : List Value} {Qc : Array Value → State → Outcome → State → Prop} {XC : String → State → State → Prop}
set_option maxHeartbeats 2000000 in
theorem ny_throw {cc : ByteArray} {pc : Nat} (hexec : p.tables.exec = Jvm.exec) (hb : c.code = cc) (hl : l.stackTraces = false) {own text : String} {ik is ic mc ms sa : Nat} {A : Nat → Prop}
    (hown : s.vm.findClass own = some m.cls)
    (hk : (Cond.classLink own ik eNS).before args s = true) (hini : (Cond.initialized eNS).before args s = true) (hstr : vk_R own is text sa s) (hat : ∀ w ∈ nyAt own ic, w.before args s = true)
    (hgood : ∀ w ∈ Cond.classLink own ik eNS :: Cond.initialized eNS :: nyAt own ic, vx_ot w = true)
    (hU : vx_Zq Bundle.tN "UNASSIGNED_STACK" Bundle.steD A s s.heap) (hN : vx_Zq Bundle.tN "SUPPRESSED_SENTINEL" Bundle.listD A s s.heap) (hS : va_S A s.heap H locs) (hsize : ls.size = c.maxLocals)
    (d0 : decode cc pc = .ok (.new ik, 3)) (d3 : decode cc (pc + 3) = .ok (.dup, 1)) (d4 : decode cc (pc + 4) = .ok (.ldc_w is, 3)) (d7 : decode cc (pc + 7) = .ok (.invokespecial ic, 3)) (d10 : decode cc (pc + 10) = .ok (.athrow, 1))
    (hout : ∀ x ∈ c.exceptionTable.toList, covers x (pc + 10) = false)
    (hRframes : 5 < R.frames) (hRlocals : (rest.map fun v => v.category).sum + 82 ≤ R.locals) (hRcells : cells + 1 ≤ R.cells) (hRslots : slots + 6 ≤ R.slots) (hlocks : meth.locks = false)
    (hx : ∀ t : State, s.vm.Alike t.vm → H.size ≤ t.heap.size → (∀ q : Nat, q < H.size → t.heap[q]? = H[q]?) → XC eNS s t)
    (hf : ∀ z ∈ locs, free z.base) (hc : cells + 1 ≤ mc) (hs : slots + 6 ≤ ms) :
    W p l e R s m args below meth c H locs cells slots (vx_MQ below Qc XC args s mc ms free) (F0 m pc ls rest) := by
  intro T hT X
  have htr : e.platform.stackTraces = false := (show e.platform.stackTraces = l.stackTraces by rw [X.admits.platform]).trans hl
  have Y := vx_rebase X (R' := { frames := R.frames, locals := R.locals, cells := 1, slots := 6 }) (Nat.le_refl _) (Nat.le_refl _) hRcells hRslots
  obtain ⟨s', hA⟩ : ∃ z, z = (T.setVm s.vm).setFrames (.invoking m args :: below) := ⟨_, rfl⟩
  rw [← hA] at Y
  have hvm : s'.vm = s.vm := by rw [hA]; rfl
  have hhp : s'.heap = H := by rw [hA]; exact hT
  have hW0 : s.WarmedH s'.vm := by rw [hvm]; exact State.WarmedH.refl s
  have up : ∀ w, (w ∈ Cond.classLink own ik eNS :: Cond.initialized eNS :: nyAt own ic) → w.before args s = true → w.before args s' = true := fun w hw h1 => vx_ot_at hW0 hvm.symm (hgood w hw) h1
  have hk' := up _ List.mem_cons_self hk
  have hini' := up _ (List.mem_cons_of_mem _ List.mem_cons_self) hini
  have hU' : vx_Zq Bundle.tN "UNASSIGNED_STACK" Bundle.steD A s' s'.heap := by rw [hhp]; exact vx_Zq.moved hW0.alike (hU.kept hS.2.1)
  have hN' : vx_Zq Bundle.tN "SUPPRESSED_SENTINEL" Bundle.listD A s' s'.heap := by rw [hhp]; exact vx_Zq.moved hW0.alike (hN.kept hS.2.1)
  have h : ∀ w ∈ nyAtoms own ic, w.before args s' = true := vx_own (fun w hw => up w (List.mem_cons_of_mem _ (List.mem_cons_of_mem _ hw)) (hat w hw)) (vx_isRefq hU'.1) (vx_isRefq hN'.1) hU'.2.word hN'.2.word
  have hown' : s'.vm.findClass own = some m.cls := by rw [hvm]; exact hown
  have hins : (Cond.instantiable eNS 6).before args s' = true := h _ (by simp [nyAtoms, nyOwn])
  obtain ⟨vm₁, cX, kX, hfX, hkX, -, -, X₁, st1⟩ := Y.newCold hexec (own := own) (C := eNS) (index := ik) (n := 6) hown' hk' hins hini'
    (g := F0 m pc ls rest) rfl (by rw [hb]; exact d0) (Nat.le_refl _) (Nat.le_refl _)
  generalize hT1 : (T.setVm vm₁).pushCell { cls := cX, slots := kX.instanceTypes.map defaultValue, vm := .none } = T1 at X₁ st1
  have hcat : (Value.ref T.heap.size).category = 1 := rfl
  have hcellA : T1.heap[T.heap.size]? = some (freshCell cX kX) := by rw [← hT1]; exact State.heap_pushCell_size _ _
  have d3' : decode c.code (pc + 3) = .ok (.dup, 1) := by rw [hb]; exact d3
  have d4' : decode c.code (pc + 4) = .ok (.ldc_w is, 3) := by rw [hb]; exact d4
  have hstr' : vk_R own is text sa s' := vk_R.warm hW0 hstr
  obtain ⟨U, hsteps, hrun, hend, hW, hsame, ce, hce, hcv, hcc⟩ := ny_ctor X₁ hexec htr (own := own) (ic := ic) hown' h (fun x hx => nomatch hx) hfX hkX hcellA (by rw [hhp, hT]; exact Nat.le_refl _) (msg := .ref sa) rfl
    (g := { method := m, pc := pc + 7, locals := ls, stack := .ref sa :: .ref T.heap.size :: .ref T.heap.size :: rest, locked := none }) rfl hsize rfl rfl (rest := rest) rfl
    (by rw [hb]; exact d7) (by rw [hb]; exact d10) hout hRframes (by
      show 2 * 0 + _ + 81 ≤ R.locals
      simp only [List.map_cons, List.sum_cons, hcat]; omega) hlocks
  obtain ⟨f1, f2⟩ := vx_frame hsame
  rw [hhp] at f1 f2
  have hWs : s.WarmedH U.vm := State.WarmedH.trans hW0 hW
  have hcl : s.vm.findClass eNS = some ce.cls := by
    rw [hvm] at hcc
    exact hcc
  have hall : s.sameButNew ({ U with vm := s.vm } : State) locs mc ms := by
    subst hA
    obtain ⟨e1, e2⟩ := hsame
    rw [State.setFrames_setFrames] at e1
    have h2 : (T.setVm s.vm).sameButNew ({ U with vm := s.vm } : State) [] (0 + 1) (0 + 6) := ⟨e1, e2⟩
    have h3 := X.same.trans h2
    rw [List.append_nil] at h3
    exact h3.mono hc hs
  refine ⟨U, ?_, .threw T.heap.size, hrun, hend, Or.inr ⟨T.heap.size, rfl, eNS, ce, locs, hx U hWs.alike f1 (fun q hq => f2 q hq (fun z hz => nomatch hz)), hce, hcv, hcl, hWs, hall, hf⟩⟩
  refine st1 _ ?_
  show Steps p.tables e below (T1.setTop { method := m, pc := pc + 3, locals := ls, stack := .ref T.heap.size :: rest, locked := none }) _
  jvm_step X₁.here [X₁.here.top, hexec, d3', Value.category]
  exact X₁.ldcStringW hexec (own := own) (text := text) (index := is) (a := sa) hown' hstr'.1 hstr'.2
    (g := { method := m, pc := pc + 4, locals := ls, stack := .ref T.heap.size :: .ref T.heap.size :: rest, locked := none }) rfl d4' _ hsteps
end NYT
/-! the K rules of a throw -/
theorem va_P.keptH {D : va_G} {ws : va_W} {H H1 : Heap} (h : va_P D vwCl ws H) (hq : ∀ q : Nat, q < H.size → H1[q]? = H[q]?) : va_P D vwCl ws H1 := fun k q hk => (h k q hk).kept (hq q.1 (h k q hk).lt)
theorem at_gx {s : State} {args : Array Value} {ws : List Cond} (hts : ∀ w ∈ gw, w.before args s = true) (hx : ∀ w ∈ xW, va_Nw w s) (h : ∀ w ∈ ws, w ∈ gw ∨ w ∈ xW) : ∀ w ∈ ws, w.before args s = true := by
  intro w hw
  rcases h w hw with q | q
  · exact hts w q
  · have h1 := hx w q
    simp only [xW, List.mem_cons, List.not_mem_nil, or_false] at q
    rcases q with rfl | rfl | rfl | rfl | rfl <;> exact va_Nw.use rfl h1
section KT
variable {M : MI} {Q : AO → HP → Prop} {nc ns pc mc ms : Nat} {ls : List (Nat × AV)} {st : List AV} {h : HP}
theorem K_throwI {ik is ic si : Nat} {text : String} (d0 : decode (mB M) pc = .ok (.new ik, 3)) (d3 : decode (mB M) (pc + 3) = .ok (.dup, 1)) (d4 : decode (mB M) (pc + 4) = .ok (.ldc_w is, 3)) (d7 : decode (mB M) (pc + 7) = .ok (.invokespecial ic, 3)) (d10 : decode (mB M) (pc + 10) = .ok (.athrow, 1))
    (hk : Cond.classLink (mY M).cls ik eIA ∈ gw) (hini : Cond.initialized eIA ∈ gw) (hs : sTab[si]? = some ((mY M).cls, is, text)) (hat : ∀ w ∈ vx_atS (mY M).cls ic eIA ["java/lang/RuntimeException", "java/lang/Exception"], w ∈ gw ∨ w ∈ xW)
    (hgood : ∀ w ∈ Cond.classLink (mY M).cls ik eIA :: Cond.initialized eIA :: vx_atS (mY M).cls ic eIA ["java/lang/RuntimeException", "java/lang/Exception"], vx_ot w = true)
    (hRf : 5 < (mR M).frames) (hRl : wA st + 82 ≤ (mR M).locals) (hRc : nc + 1 ≤ (mR M).cells) (hRs : ns + 6 ≤ (mR M).slots) (hc : nc + 1 ≤ mc) (hsl : ns + 6 ≤ ms) (hq : Q (.inr eIA) h) : K M GK (ZK Q mc ms) nc ns pc ls st h := by
  intro p l e s m args below meth c D C as ad av H locs lsA cx hG hP hS hl
  obtain ⟨hx, hb, hml, hr, hlk, hown, hts, hK, hj⟩ := id cx
  obtain ⟨⟨g1, g2, g3, g4, g5, g6, g7⟩, g8⟩ := hG
  exact vx_throwSW (A := AA as s.heap.size) (names := ["java/lang/RuntimeException", "java/lang/Exception"]) hx hb g1 hown (by decide) (by decide) (hts _ hk) (hts _ hini) (g3 si _ hs) (at_gx hts g6 hat) hgood g4 g5 hS (hl.1.trans hml.symm) d0 d3 d4 d7 d10 (fun x hx => (g8 x hx).elim) (by simp; exact hRf) (by rw [wA_cat]; simp; exact hRl) hRc hRs hlk
    (fun t ht hz hq9 => ⟨⟨h, hq, hP.keptH hq9⟩, Nat.le_trans hS.1 hz, fun q h1 h2 => by rw [hq9 q (Nat.lt_of_lt_of_le h1 hS.1)]; exact hS.2.1 q h1 h2⟩) hS.2.2 hc hsl
theorem K_throwN {ik is ic si : Nat} {text : String} (d0 : decode (mB M) pc = .ok (.new ik, 3)) (d3 : decode (mB M) (pc + 3) = .ok (.dup, 1)) (d4 : decode (mB M) (pc + 4) = .ok (.ldc_w is, 3)) (d7 : decode (mB M) (pc + 7) = .ok (.invokespecial ic, 3)) (d10 : decode (mB M) (pc + 10) = .ok (.athrow, 1))
    (hk : Cond.classLink (mY M).cls ik eNS ∈ gw) (hini : Cond.initialized eNS ∈ gw) (hs : sTab[si]? = some ((mY M).cls, is, text)) (hat : ∀ w ∈ nyAt (mY M).cls ic, w ∈ gw ∨ w ∈ xW)
    (hgood : ∀ w ∈ Cond.classLink (mY M).cls ik eNS :: Cond.initialized eNS :: nyAt (mY M).cls ic, vx_ot w = true)
    (hRf : 5 < (mR M).frames) (hRl : wA st + 82 ≤ (mR M).locals) (hRc : nc + 1 ≤ (mR M).cells) (hRs : ns + 6 ≤ (mR M).slots) (hc : nc + 1 ≤ mc) (hsl : ns + 6 ≤ ms) (hq : Q (.inr eNS) h) : K M GK (ZK Q mc ms) nc ns pc ls st h := by
  intro p l e s m args below meth c D C as ad av H locs lsA cx hG hP hS hl
  obtain ⟨hx, hb, hml, hr, hlk, hown, hts, hK, hj⟩ := id cx
  obtain ⟨⟨g1, g2, g3, g4, g5, g6, g7⟩, g8⟩ := hG
  exact ny_throw (A := AA as s.heap.size) hx hb g1 hown (hts _ hk) (hts _ hini) (g3 si _ hs) (at_gx hts g6 hat) hgood g4 g5 hS (hl.1.trans hml.symm) d0 d3 d4 d7 d10 (fun x hx => (g8 x hx).elim) hRf (by rw [wA_cat]; exact hRl) hRc hRs hlk
    (fun t ht hz hq9 => ⟨⟨h, hq, hP.keptH hq9⟩, Nat.le_trans hS.1 hz, fun q h1 h2 => by rw [hq9 q (Nat.lt_of_lt_of_le h1 hS.1)]; exact hS.2.1 q h1 h2⟩) hS.2.2 hc hsl
end KT
theorem at_IA : ∀ w ∈ vx_atS RX11 372 eIA ["java/lang/RuntimeException", "java/lang/Exception"], w ∈ gw ∨ w ∈ xW := by decide +kernel
theorem ok_IA : ∀ w ∈ Cond.classLink RX11 368 eIA :: Cond.initialized eIA :: vx_atS RX11 372 eIA ["java/lang/RuntimeException", "java/lang/Exception"], vx_ot w = true := by decide +kernel
theorem wk_IA : Cond.classLink RX11 368 eIA ∈ gw := by decide +kernel
theorem wi_IA : Cond.initialized eIA ∈ gw := by decide +kernel
theorem at_NS : ∀ w ∈ nyAt RX11 398, w ∈ gw ∨ w ∈ xW := by decide +kernel
theorem ok_NS : ∀ w ∈ Cond.classLink RX11 394 eNS :: Cond.initialized eNS :: nyAt RX11 398, vx_ot w = true := by decide +kernel
theorem wk_NS : Cond.classLink RX11 394 eNS ∈ gw := by decide +kernel
theorem wi_NS : Cond.initialized eNS ∈ gw := by decide +kernel
