def tL_law_st : List (Nat × Instr × Nat) := [(0, .new 8, 3), (3, .dup, 1), (4, .invokespecial 114, 3), (7, .astore_n 1, 1), (8, .new 115, 3), (11, .dup, 1), (12, .invokespecial 117, 3), (15, .astore_n 2, 1), (16, .iconst 1, 1), (17, .newarray .long, 2), (19, .astore_n 3, 1), (20, .iconst 0, 1), (21, .istore 4, 2)]
theorem dtL_law_st : tL_law_st.all (fun q => decide (decode cL_law q.1 = .ok (q.2.1, q.2.2))) = true := by decide +kernel
theorem wK_L_8 : Cond.classLink RL 8 RX11 ∈ gw := gw_at 144 (by decide +kernel) (by decide +kernel)
theorem wK_L_115 : Cond.classLink RL 115 RX12 ∈ gw := gw_at 1558 (by decide +kernel) (by decide +kernel)
theorem wIn_X11 : Cond.instantiable RX11 18 ∈ gw := gw_at 145 (by decide +kernel) (by decide +kernel)
theorem wIn_X12 : Cond.instantiable RX12 62 ∈ gw := gw_at 1559 (by decide +kernel) (by decide +kernel)
theorem C_istore {M : MI} {G : CT → Prop} {Z : CT → State → Prop} {n0 j nc ns pc : Nat} {ls : List (Nat × AV)} {st : List AV} {ow : Option (Nat × List AV)} {L : List CE} {i : Nat} {x : Int} {ls' : List (Nat × AV)} (hd : decode (mB M) pc = .ok (.istore i, 2)) (hn : i < mL M) (hs : lt ls i (vi x) = ls') (kk : KC M G Z n0 j nc ns (pc + 2) ls' st ow L) : KC M G Z n0 j nc ns pc ls (vi x :: st) ow L := by
  intro p l e s m args below meth c D C z ad av H locs lsA cx hG hS hl
  obtain ⟨hx, hb, hml, hr9, hlk, hown, hts, hK, hj⟩ := id cx
  subst hs
  exact lv_istore hx hb hd hl hn (lt_cl (fun a => z + a) ad ls i (vi x)) (fun ls' h' => kk p l e s m args below meth c D C z ad av H locs ls' cx hG hS h')
def GB (L : Nat) (xs : Nat → Int32) : CT → Prop := fun (_, l, _, s, _, args, _, _, _, _, _, as, ad, av) => l.stackTraces = false ∧ ExK as ad av s.heap.size s s.heap ∧ va_X (ad 51) L xs s s.heap ∧ ad 51 < s.heap.size ∧ args = #[Value.ref (ad 51)] ∧ va_AOA .int s
theorem GB_a {L : Nat} {xs : Nat → Int32} : ∀ t : CT, GB L xs t → va_AOA .int t.2.2.2.1 := fun _ h => h.2.2.2.2.2
theorem ExK_as {as as' ad av : Nat → Nat} {sz : Nat} {U : State} {H : Heap} (e : AA as' sz = AA as sz) (h : ExK as ad av sz U H) : ExK as' ad av sz U H := by
  obtain ⟨⟨h1, h2, k, h3, h4⟩, h5, h6, h7, h8, h9⟩ := h
  have ev : cv as' ad (vs k) = cv as ad (vs k) := by
    rcases h3 with rfl | rfl <;> rfl
  refine ⟨⟨by rw [e]; exact h1, by rw [e]; exact h2, k, h3, by rw [e, ev]; exact h4⟩, h5, by rw [e]; exact h6, by rw [e]; exact h7, h8, h9⟩
theorem AA_hi {as : Nat → Nat} {sz : Nat} (h : ∀ a, a < 120 → sz ≤ as a) : AA as sz = fun q => sz ≤ q := by
  funext q
  apply propext
  refine ⟨fun h9 => ?_, fun h9 => Or.inr h9⟩
  rcases h9 with ⟨a, ha, e⟩ | h9
  · rw [e]; exact h a ha
  · exact h9
theorem KC_K {L : Nat} {xs : Nat → Int32} (hL : L ≤ 3072) {nc ns : Nat} (h1 : nc ≤ 1000) (h2 : ns ≤ 7000000) : KC mL_law (GB L xs) ZL 0 0 nc ns 23 [(4, vi 0), (3, vr 119), (2, vr 90), (1, vr 0), (0, vs 51)] [] none LAll := by
  intro p l e s m args below meth c D C z ad av H locs lsA cx hG hS hl
  obtain ⟨hx, hb, hml, hr9, hlk, hown, hts, hK, hj⟩ := id cx
  obtain ⟨g1, g2, g3, g4, g5, g6⟩ := hG
  obtain ⟨s1, s2, s3, s4, s5, s6⟩ := id hS
  have hz : s.heap.size = z := s1
  have hge : ∀ a, a < 120 → s.heap.size ≤ z + od a := fun a _ => by omega
  have e9 : AA (fun a => z + od a) s.heap.size = AA (fun a => z + a) s.heap.size := by
    rw [AA_hi hge, AA_hi (fun a _ => by omega)]
  have k := lw_loop (xs := xs) hL 513 0 rfl hInit A0 CI_0 MV_0
  have o30 : od 30 = 0 := by decide +kernel
  have o0 : od 0 = 90 := by decide +kernel
  have o29 : od 29 = 119 := by decide +kernel
  have hl8 : lv_has lsA 7 (cl (fun a => z + a) ad [(0, vs 51), (1, vr 0), (2, vr 90), (3, vr 119), (4, vi 0)]) := cl_sub hl (fun q hq => by
    simp only [List.mem_cons, List.not_mem_nil, or_false] at hq ⊢
    rcases hq with rfl | rfl | rfl | rfl | rfl <;> simp)
  have hl9 : lv_has lsA 7 (cl (fun a => z + od a) ad (LwS ((6 * 0 : Nat) : Int))) := by
    have e8 : cl (fun a => z + od a) ad (LwS ((6 * 0 : Nat) : Int)) = [(0, Value.ref (ad 51)), (1, Value.ref (z + od 30)), (2, Value.ref (z + od 0)), (3, Value.ref (z + od 29)), (4, Value.int (Int32.ofInt 0))] := rfl
    rw [e8, o30, o0, o29]
    exact hl8
  have hsl : va_S (AA (fun a => z + od a) s.heap.size) s.heap H locs := by
    refine ⟨by omega, fun q q1 q2 => s5 q (by omega) (by omega), fun x hx9 => Or.inr ?_⟩
    rcases s6 x hx9 with h | h
    · rw [h]; omega
    · omega
  have hij : Ij (fun a => z + od a) := fun a b ha hb9 h9 => od_inj a ha b hb9 (by have h8 : z + od a = z + od b := h9; omega)
  have hex : ExK (fun a => z + od a) ad av s.heap.size s s.heap := ExK_as e9 g2
  have hk : W p l e (mR mL_law) s m args below meth c H locs (1000 + 8 * 0) (7000000 + 48 * 0) (lw_Z below args s) (F0 m 23 lsA []) := k p l e s m args below meth c D C (fun a => z + od a) ad av H locs lsA ⟨hx, hb, hml, hr9, hlk, hown, hts, hK, hij⟩ ⟨⟨g1, hex⟩, g3, g4, hge, g5⟩ (wsK_init hS) hsl hl9
  have hw1 : nc ≤ 1000 + 8 * 0 := by omega
  have hw2 : ns ≤ 7000000 + 48 * 0 := by omega
  show W p l e (mR mL_law) s m args below meth c H locs nc ns (lw_Z below args s) (F0 m 23 lsA [])
  exact W.widen hw1 hw2 hk
set_option maxHeartbeats 4000000 in
set_option maxRecDepth 100000 in
theorem lw_begin {L : Nat} {xs : Nat → Int32} (hL : L ≤ 3072) : KC mL_law (GB L xs) ZL 0 0 0 0 0 [(0, vs 51)] [] none [] := by
  refine C_new (ci := 11) (k := 0) (fs := dX11) (dt_at dtL_law_st 0 rfl) rfl wK_L_8 wIn_X11 wN_X11 dfX11 rfl (by decide) (by decide) ?_
  refine C_dup (dt_at dtL_law_st 1 rfl) rfl ?_
  refine C_call (M' := mX11_init) (pars := []) (st := [vr 0]) (dt_at dtL_law_st 2 rfl) (cX11 0) rfl rfl rfl wL_L_114 wI_X11_init wN_X11 wC_X11_init ⟨by decide, by decide⟩ rfl rfl npX11_init (by decide) (by decide) (Nat.le_of_ble_eq_true rfl) (by decide) (by decide) GB_a (fun _ _ _ _ _ _ _ q hq => nomatch hq) ?_
  refine C_astore (ls' := [(1, vr 0), (0, vs 51)]) (dt_at dtL_law_st 3 rfl) rfl (by decide) rfl ?_
  refine C_new (ci := 12) (k := 90) (fs := dX12) (dt_at dtL_law_st 4 rfl) rfl wK_L_115 wIn_X12 wN_X12 dfX12 rfl (by decide) (by decide) ?_
  refine C_dup (dt_at dtL_law_st 5 rfl) rfl ?_
  refine C_call (M' := mX12_init) (pars := []) (st := [vr 90]) (dt_at dtL_law_st 6 rfl) (cX12 90) rfl rfl rfl wL_L_117 wI_X12_init wN_X12 wC_X12_init ⟨by decide, by decide⟩ rfl rfl npX12_init (by decide) (by decide) (Nat.le_of_ble_eq_true rfl) (by decide) (by decide) GB_a (fun _ _ _ _ _ _ _ q hq => nomatch hq) ?_
  refine C_astore (ls' := [(2, vr 90), (1, vr 0), (0, vs 51)]) (dt_at dtL_law_st 7 rfl) rfl (by decide) rfl ?_
  refine C_iconst (dt_at dtL_law_st 8 rfl) ?_
  refine C_newJ (k := 119) (N := 1) (dt_at dtL_law_st 9 rfl) (by decide) (by decide) (by decide) rfl (by decide) (by decide) ?_
  refine C_astore (ls' := [(3, vr 119), (2, vr 90), (1, vr 0), (0, vs 51)]) (dt_at dtL_law_st 10 rfl) rfl (by decide) rfl ?_
  refine C_iconst (dt_at dtL_law_st 11 rfl) ?_
  refine C_istore (ls' := [(4, vi 0), (3, vr 119), (2, vr 90), (1, vr 0), (0, vs 51)]) (dt_at dtL_law_st 12 rfl) (by decide) rfl ?_
  exact KC_K hL (by decide) (by decide)
/-! what the claim gives of the start -/
def nFl : List Cond := flatC (Jvm.Cond.and given_1 narrow_1)
theorem nf_at {args : Array Value} {s : State} {w : Cond} (h : (Jvm.Cond.and given_1 narrow_1).before args s = true) (i : Nat) (hi : nFl[i]? = some w) : w.before args s = true := flat_of_before _ h w (List.mem_of_getElem? hi)
def tmS (i : Nat) : Term := match sTab[i]? with
  | some q => .string q.1 q.2.1
  | none => .arg 0
def pEx : List Nat := [69, 79, 91, 100, 112, 124, 138, 152, 167, 186, 205, 224, 243, 264, 285, 306, 39, 331, 364, 399, 436]
def pCo : List Nat := [70, 80, 92, 101, 113, 125, 139, 153, 168, 187, 206, 225, 244, 265, 286, 307, 40, 332, 365, 400, 437]
def pAr : List Nat := [71, 81, 93, 102, 114, 126, 140, 154, 169, 188, 207, 226, 245, 266, 287, 308, 41, 333, 366, 401, 438]
def pLe : List Nat := [72, 82, 94, 103, 115, 127, 141, 155, 170, 189, 208, 227, 246, 267, 288, 309, 42, 334, 367, 402, 439]
def pSt : List Nat := [826, 908, 913, 918, 952, 981, 982, 987, 988, 989, 990, 995, 996, 1013, 1014, 1015, 764, 1052, 1110, 1122, 1413]
def pEl : List (List Nat) := [[73, 74, 75, 76, 77], [83, 84, 85, 86, 87, 88], [95, 96], [104, 105, 106, 107], [116, 117, 118], [128, 129, 130, 131], [142, 143, 144], [156, 157, 158], [171, 172, 173, 174, 175, 176], [190, 191, 192, 193, 194], [209, 210, 211, 212], [228, 229, 230], [247, 248, 249, 250], [268, 269, 270], [289, 290], [310, 311, 312, 313, 314], [43, 44, 45, 46, 47, 48, 49, 50, 51, 52, 53, 54, 55, 56, 57, 58, 59, 60, 61, 62, 63, 64, 65, 66, 67, 68], [335, 336, 337, 338, 339, 340, 341, 342, 343, 344, 345, 346], [368, 369, 370, 371, 372, 373, 374, 375, 376, 377, 378, 379, 380], [403, 404, 405, 406, 407, 408, 409, 410, 411, 412, 413, 414, 415, 416], [440, 441, 442, 443, 444, 445, 446, 447, 448, 449, 450, 451, 452, 453, 454, 455]]
def pNe : List (List Nat) := [[0, 90, 98, 109, 120, 133, 146, 160, 178, 196, 214, 232, 252, 272, 292, 316, 78, 348, 382, 418, 457], [90, 0, 99, 110, 121, 134, 147, 161, 179, 197, 215, 233, 253, 273, 293, 317, 89, 349, 383, 419, 458], [98, 99, 0, 111, 122, 135, 148, 162, 180, 198, 216, 234, 254, 274, 294, 318, 97, 350, 384, 420, 459], [109, 110, 111, 0, 123, 136, 149, 163, 181, 199, 217, 235, 255, 275, 295, 319, 108, 351, 385, 421, 460], [120, 121, 122, 123, 0, 137, 150, 164, 182, 200, 218, 236, 256, 276, 296, 320, 119, 352, 386, 422, 461], [133, 134, 135, 136, 137, 0, 151, 165, 183, 201, 219, 237, 257, 277, 297, 321, 132, 353, 387, 423, 462], [146, 147, 148, 149, 150, 151, 0, 166, 184, 202, 220, 238, 258, 278, 298, 322, 145, 354, 388, 424, 463], [160, 161, 162, 163, 164, 165, 166, 0, 185, 203, 221, 239, 259, 279, 299, 323, 159, 355, 389, 425, 464], [178, 179, 180, 181, 182, 183, 184, 185, 0, 204, 222, 240, 260, 280, 300, 324, 177, 356, 390, 426, 465], [196, 197, 198, 199, 200, 201, 202, 203, 204, 0, 223, 241, 261, 281, 301, 325, 195, 357, 391, 427, 466], [214, 215, 216, 217, 218, 219, 220, 221, 222, 223, 0, 242, 262, 282, 302, 326, 213, 358, 392, 428, 467], [232, 233, 234, 235, 236, 237, 238, 239, 240, 241, 242, 0, 263, 283, 303, 327, 231, 359, 393, 429, 468], [252, 253, 254, 255, 256, 257, 258, 259, 260, 261, 262, 263, 0, 284, 304, 328, 251, 360, 394, 430, 469], [272, 273, 274, 275, 276, 277, 278, 279, 280, 281, 282, 283, 284, 0, 305, 329, 271, 361, 395, 431, 470], [292, 293, 294, 295, 296, 297, 298, 299, 300, 301, 302, 303, 304, 305, 0, 330, 291, 362, 396, 432, 471], [316, 317, 318, 319, 320, 321, 322, 323, 324, 325, 326, 327, 328, 329, 330, 0, 315, 363, 397, 433, 472], [78, 89, 97, 108, 119, 132, 145, 159, 177, 195, 213, 231, 251, 271, 291, 315, 0, 347, 381, 417, 456], [348, 349, 350, 351, 352, 353, 354, 355, 356, 357, 358, 359, 360, 361, 362, 363, 347, 0, 398, 434, 473], [382, 383, 384, 385, 386, 387, 388, 389, 390, 391, 392, 393, 394, 395, 396, 397, 381, 398, 0, 435, 474], [418, 419, 420, 421, 422, 423, 424, 425, 426, 427, 428, 429, 430, 431, 432, 433, 417, 434, 435, 0, 475], [457, 458, 459, 460, 461, 462, 463, 464, 465, 466, 467, 468, 469, 470, 471, 472, 456, 473, 474, 475, 0]]
theorem nf_ex : ∀ i, i < 21 → nFl[pEx.getD i 0]? = some (Cond.exactly (tmS i) "java/lang/String") := by decide +kernel
theorem nf_co : ∀ i, i < 21 → nFl[pCo.getD i 0]? = some (Cond.eq (.field (tmS i) "java/lang/String" "coder" "B") (.int 0)) := by decide +kernel
theorem nf_ar : ∀ i, i < 21 → nFl[pAr.getD i 0]? = some (Cond.arrayOf (.field (tmS i) "java/lang/String" "value" "[B") .byte) := by decide +kernel
theorem nf_le : ∀ i, i < 21 → nFl[pLe.getD i 0]? = some (Cond.eq (.length (.field (tmS i) "java/lang/String" "value" "[B")) (.int (Int32.ofNat (sLen.getD i 0)))) := by decide +kernel
theorem nf_el : ∀ i, i < 21 → ∀ j, j < sLen.getD i 0 → nFl[(pEl.getD i []).getD j 0]? = some (Cond.eq (.elem (.field (tmS i) "java/lang/String" "value" "[B") (.int (Int32.ofNat j))) (.int ((sByt.getD i []).getD j 0))) := by decide +kernel
theorem nf_ne : ∀ i, i < 21 → ∀ j, j < 21 → i ≠ j → nFl[(pNe.getD i []).getD j 0]? = some (Cond.not (Cond.eq (tmS i) (tmS j))) ∨ nFl[(pNe.getD i []).getD j 0]? = some (Cond.not (Cond.eq (tmS j) (tmS i))) := by decide +kernel
def stW (i : Nat) : Cond := match sTab[i]? with
  | some q => .stringRef q.1 q.2.1 q.2.2
  | none => .tt
theorem lw_st : ∀ i, i < 21 → lw_tbl[pSt.getD i 0]? = some (stW i) := by decide +kernel
theorem sLen_b : ∀ i, i < 21 → sLen.getD i 0 < 2 ^ 31 := by decide +kernel
theorem arr_K {args : Array Value} {s : State} {ty : FieldType} (h : (Cond.arrayClass ty).before args s = true) : ∃ cA, ArrOfT s cA ty ∧ s.vm.findClass ("[" ++ ty.toString) = some cA := by
  obtain ⟨cA, kA, comp, hf, hk, hkind⟩ := Cond.arrayClass_spec h
  exact ⟨cA, fun n z => ⟨fun k h => (by cases h), kA, hk, comp, hkind⟩, hf⟩
theorem arr_A {args : Array Value} {s : State} (h : (Cond.arrayOver (.array .int)).before args s = true) : ∃ cA, ArrOfT s cA (.array .int) ∧ s.vm.findClass ("[" ++ (FieldType.array FieldType.int).toString) = some cA := by
  obtain ⟨comp, cA, kA, hc, hk, hkind, hf⟩ := Cond.arrayOver_specA h
  exact ⟨cA, fun n z => ⟨fun k h => (by cases h), kA, hk, comp, hkind⟩, hf⟩
def lw_At (p : Program) (s : State) (m : MethodId) (meth : Method) (c : Code) (b L : Nat) (xs : Nat → Int32) : Prop :=
  p.tables.exec = Jvm.exec ∧ c.code = code ∧ meth.sig.returnType = ret ∧ c.maxLocals = 7 ∧ s.vm.findClass R_law = some m.cls ∧ (∀ w ∈ lw_tbl, w.before #[Value.ref b] s = true) ∧ va_X b L xs s s.heap ∧ b < s.heap.size ∧ meth.locks = false ∧ (Jvm.Cond.and given_1 narrow_1).before #[Value.ref b] s = true
set_option maxHeartbeats 4000000 in
set_option maxRecDepth 100000 in
theorem va_K_0 {b : Nat} {s : State} (hts : ∀ w ∈ lw_tbl, w.before #[Value.ref b] s = true) : ∃ (D : va_G) (C : Nat → ClassId), va_K D vwCl (tyK C) s := by
  have hgw : ∀ w ∈ gw, w.before #[Value.ref b] s = true := fun w hw => hts w (gw_in w hw)
  obtain ⟨d0, e0, u0⟩ := u_known (C := RX0) (T := TX0) (N := 3) hgw wU_X0 (hgw _ wIn_X0)
  obtain ⟨d1, e1, u1⟩ := u_known (C := RX1) (T := TX1) (N := 2) hgw wU_X1 (hgw _ wIn_X1)
  obtain ⟨d2, e2, u2⟩ := u_known (C := RX2) (T := TX2) (N := 6) hgw wU_X2 (hgw _ wIn_X2)
  obtain ⟨d3, e3, u3⟩ := u_known (C := RX3) (T := TX3) (N := 12) hgw wU_X3 (hgw _ wIn_X3)
  obtain ⟨d4, e4, u4⟩ := u_known (C := RX4) (T := TX4) (N := 3) hgw wU_X4 (hgw _ wIn_X4)
  obtain ⟨d5, e5, u5⟩ := u_known (C := RX5) (T := TX5) (N := 6) hgw wU_X5 (hgw _ wIn_X5)
  obtain ⟨d6, e6, u6⟩ := u_known (C := RX6) (T := TX6) (N := 4) hgw wU_X6 (hgw _ wIn_X6)
  obtain ⟨d7, e7, u7⟩ := u_known (C := RX7) (T := TX7) (N := 5) hgw wU_X7 (hgw _ wIn_X7)
  obtain ⟨d8, e8, u8⟩ := u_known (C := RX8) (T := TX8) (N := 1) hgw wU_X8 (hgw _ wIn_X8)
  obtain ⟨d9, e9, u9⟩ := u_known (C := RX9) (T := TX9) (N := 5) hgw wU_X9 (hgw _ wIn_X9)
  obtain ⟨d10, e10, u10⟩ := u_known (C := RX10) (T := TX10) (N := 8) hgw wU_X10 (hgw _ wIn_X10)
  obtain ⟨d11, e11, u11⟩ := u_known (C := RX11) (T := TX11) (N := 18) hgw wU_X11 (hgw _ wIn_X11)
  obtain ⟨d12, e12, u12⟩ := u_known (C := RX12) (T := TX12) (N := 62) hgw wU_X12 (hgw _ wIn_X12)
  obtain ⟨cI, aI, fI⟩ := arr_K (hgw _ wAr_int)
  obtain ⟨cB, aB, fB⟩ := arr_K (hgw _ wAr_byte)
  obtain ⟨cZ, aZ, fZ⟩ := arr_K (hgw _ wAr_boolean)
  obtain ⟨cJ, aJ, fJ⟩ := arr_K (hgw _ wAr_long)
  obtain ⟨cA, aA, fA⟩ := arr_A (hts _ (List.mem_of_getElem? (i := 393) (by decide +kernel)))
  refine ⟨(fun c => [d0, d1, d2, d3, d4, d5, d6, d7, d8, d9, d10, d11, d12].getD c 0, fun c => [e0, e1, e2, e3, e4, e5, e6, e7, e8, e9, e10, e11, e12].getD c (fun _ => 0)), fun t => [cI, cB, cZ, cJ, cA].getD t 0, fun c q hq => ?_, fun k q hq => ?_⟩
  · have h13 : c < 13 := (List.getElem?_eq_some_iff.mp hq).1
    rcases (show c = 0 ∨ c = 1 ∨ c = 2 ∨ c = 3 ∨ c = 4 ∨ c = 5 ∨ c = 6 ∨ c = 7 ∨ c = 8 ∨ c = 9 ∨ c = 10 ∨ c = 11 ∨ c = 12 by omega) with rfl | rfl | rfl | rfl | rfl | rfl | rfl | rfl | rfl | rfl | rfl | rfl | rfl
    · cases hq; exact u0
    · cases hq; exact u1
    · cases hq; exact u2
    · cases hq; exact u3
    · cases hq; exact u4
    · cases hq; exact u5
    · cases hq; exact u6
    · cases hq; exact u7
    · cases hq; exact u8
    · cases hq; exact u9
    · cases hq; exact u10
    · cases hq; exact u11
    · cases hq; exact u12
  · have h5 : k < 5 := (List.getElem?_eq_some_iff.mp hq).1
    rcases (show k = 0 ∨ k = 1 ∨ k = 2 ∨ k = 3 ∨ k = 4 by omega) with rfl | rfl | rfl | rfl | rfl
    · cases hq; exact ⟨aI, fI⟩
    · cases hq; exact ⟨aB, fB⟩
    · cases hq; exact ⟨aZ, fZ⟩
    · cases hq; exact ⟨aJ, fJ⟩
    · cases hq; exact ⟨aA, fA⟩
set_option maxHeartbeats 4000000 in
set_option maxRecDepth 100000 in
theorem ExK_0 {b : Nat} {s : State} (hts : ∀ w ∈ lw_tbl, w.before #[Value.ref b] s = true) (hgv : (Jvm.Cond.and given_1 narrow_1).before #[Value.ref b] s = true) : ∃ ad : Nat → Nat, ad 51 = b ∧ ExK (fun a => s.heap.size + a) ad ad s.heap.size s s.heap := by
  have hA : ∀ a : Nat, a < s.heap.size → ¬ AA (fun a => s.heap.size + a) s.heap.size a := fun a ha => GL_no ha (fun _ _ => Nat.le_add_right _ _)
  obtain ⟨adK, adV, hSX, hev⟩ := vk_Sof (args := #[Value.ref b]) (s := s) (N := 21) (tm := tmS) (len := sLen) (byt := sByt) sLen_b (fun i hi => nf_at hgv _ (nf_ex i hi)) (fun i hi => nf_at hgv _ (nf_co i hi)) (fun i hi => nf_at hgv _ (nf_ar i hi)) (fun i hi => nf_at hgv _ (nf_le i hi)) (fun i hi j hj => nf_at hgv _ (nf_el i hi j hj)) (fun i j hi hj hne => (nf_ne i hi j hj hne).elim (fun h => Or.inl (nf_at hgv _ h)) (fun h => Or.inr (nf_at hgv _ h))) hA
  have hC : va_Z "java/lang/String" "COMPACT_STRINGS" "Z" (.int 1) (AA (fun a => s.heap.size + a) s.heap.size) s s.heap := va_Zof (hts _ (List.mem_of_getElem? (i := 840) (by decide +kernel))) (hts _ (List.mem_of_getElem? (i := 137) (by decide +kernel))) (va_eqt (nf_at hgv 6 (by decide +kernel))) hA
  have hF := va_Zqof (args := #[Value.ref b]) (s := s) (C := "jdk/internal/util/Preconditions") (n := "SIOOBE_FORMATTER") (d := "Ljava/util/function/BiFunction;") (hts _ (List.mem_of_getElem? (i := 856) (by decide +kernel))) (hts _ (List.mem_of_getElem? (i := 139) (by decide +kernel))) (nf_at hgv 7 (by decide +kernel)) hA
  obtain ⟨fm, kf, hkf, hF9⟩ : ∃ (fm kf : Nat), (kf = 0 ∨ kf = 50) ∧ va_Z "jdk/internal/util/Preconditions" "SIOOBE_FORMATTER" "Ljava/util/function/BiFunction;" (if kf = 0 then .null else .ref fm) (AA (fun a => s.heap.size + a) s.heap.size) s s.heap := by
    rcases hF with h | ⟨t, h⟩
    · exact ⟨0, 0, Or.inl rfl, h⟩
    · exact ⟨t, 50, Or.inr rfl, h⟩
  obtain ⟨ad, had⟩ : ∃ ad : Nat → Nat, ad = fun k => if k = 51 then b else if k = 50 then fm else if k ≤ 22 then adK (k - 1) else adV (k - 23) := ⟨_, rfl⟩
  have eK : ∀ i, i < 21 → ad (i + 1) = adK i := fun i hi => by
    rw [had]
    show (if i + 1 = 51 then b else if i + 1 = 50 then fm else if i + 1 ≤ 22 then adK (i + 1 - 1) else adV (i + 1 - 23)) = adK i
    rw [if_neg (by omega), if_neg (by omega), if_pos (by omega), Nat.add_sub_cancel]
  have eV : ∀ i, i < 21 → ad (i + 23) = adV i := fun i hi => by
    rw [had]
    show (if i + 23 = 51 then b else if i + 23 = 50 then fm else if i + 23 ≤ 22 then adK (i + 23 - 1) else adV (i + 23 - 23)) = adV i
    rw [if_neg (by omega), if_neg (by omega), if_neg (by omega), Nat.add_sub_cancel]
  have e51 : ad 51 = b := by rw [had]; rfl
  have e50 : ad 50 = fm := by rw [had]; rfl
  refine ⟨ad, e51, ⟨⟨fun i hi => ?_, fun i j hi hj h9 => ?_⟩, hC, kf, hkf, ?_⟩, fun i q hq => ?_, ?_, ?_, fun w hw => ?_, ?_⟩
  · show va_O _ (ad (i + 1)) _ _ _ ∧ va_OF _ _ _ _ (ad (i + 1)) _ _ _ ∧ va_OF _ _ _ (.ref (ad (i + 23))) (ad (i + 1)) _ _ _ ∧ va_T _ (ad (i + 23)) _ _ _ _ _
    rw [eK i hi, eV i hi]
    exact hSX.1 i hi
  · have h8 : ad (i + 1) = ad (j + 1) := h9
    rw [eK i hi, eK j hj] at h8
    exact hSX.2 i j hi hj h8
  · rcases hkf with rfl | rfl
    · exact hF9
    · have h9 : va_Z "jdk/internal/util/Preconditions" "SIOOBE_FORMATTER" "Ljava/util/function/BiFunction;" (.ref (ad 50)) (AA (fun a => s.heap.size + a) s.heap.size) s s.heap := by rw [e50]; exact hF9
      exact h9
  · have hi : i < 21 := (List.getElem?_eq_some_iff.mp hq).1
    have h1 := hts _ (List.mem_of_getElem? (lw_st i hi))
    have h2 := hev i hi
    unfold stW at h1
    unfold tmS at h2
    rw [hq] at h1 h2
    rw [eK i hi]
    exact vk_R.of h1 h2
  · exact vx_Zqof (hts _ (List.mem_of_getElem? (i := 751) (by decide +kernel))) (hts _ (List.mem_of_getElem? (i := 132) (by decide +kernel))) (nf_at hgv 4 (by decide +kernel)) hA
  · exact vx_Zqof (hts _ (List.mem_of_getElem? (i := 753) (by decide +kernel))) (hts _ (List.mem_of_getElem? (i := 132) (by decide +kernel))) (nf_at hgv 5 (by decide +kernel)) hA
  · simp only [xW, List.mem_cons, List.not_mem_nil, or_false] at hw
    rcases hw with rfl | rfl | rfl | rfl | rfl
    · exact va_Nw.of rfl (hts _ (List.mem_of_getElem? (i := 728) (by decide +kernel)))
    · exact va_Nw.of rfl (hts _ (List.mem_of_getElem? (i := 730) (by decide +kernel)))
    · exact va_Nw.of rfl (hts _ (List.mem_of_getElem? (i := 732) (by decide +kernel)))
    · exact va_Nw.of rfl (hts _ (List.mem_of_getElem? (i := 726) (by decide +kernel)))
    · exact va_Nw.of rfl (hts _ (List.mem_of_getElem? (i := 1045) (by decide +kernel)))
  · exact va_Nc.of (nf_at hgv 38 (by decide +kernel))
set_option maxHeartbeats 4000000 in
set_option maxRecDepth 100000 in
theorem whole_start {p : Program} {e : Env} {s : State} {m : MethodId} {below : List Frame} {meth : Method} {c : Code} (l : Launch) (hst : l.stackTraces = false) {b L : Nat} {xs : Nat → Int32} (hL : L ≤ 3072) (C0 : lw_At p s m meth c b L xs) : W p l e room_1 s m #[Value.ref b] below meth c s.heap [] 0 0 (lw_Z below #[Value.ref b] s) (entryFrame m ([Value.ref b] : List Value).toArray 7) := by
  obtain ⟨hx, hb, hr, hml, hown, hts, hX, hbl, hlk, hgv⟩ := C0
  obtain ⟨D, C, hK⟩ := va_K_0 hts
  obtain ⟨ad, rfl, hE⟩ := ExK_0 hts hgv
  have hl := lv_entry ([Value.ref (ad 51)]) (n := 7) (Nat.le_of_ble_eq_true rfl)
  rw [lg_entry_eq]
  generalize (lg_sl ([Value.ref (ad 51)]) ++ List.replicate (7 - (lg_sl ([Value.ref (ad 51)])).length) Slot.unset).toArray = lsA at hl ⊢
  have hl9 : lv_has lsA 7 (cl (fun a => s.heap.size + a) ad [(0, vs 51)]) := hl
  exact lw_begin (xs := xs) hL p l e s m #[Value.ref (ad 51)] below meth c D C s.heap.size ad ad s.heap [] lsA ⟨hx, hb, hml, hr, hlk, hown, fun w hw => hts w (gw_in w hw), hK, Ij_z _⟩ ⟨hst, hE, hX, hbl, rfl, (show (Cond.arrayOver (.array .int)).before #[Value.ref (ad 51)] s = true from (hts _ (List.mem_of_getElem? (i := 393) (by decide +kernel))))⟩ ⟨rfl, rfl, (fun k ce hk => (by cases hk)), (fun ci fs ho => (by cases ho)), fun _ _ _ => rfl, fun _ hx => nomatch hx⟩ hl9
set_option maxHeartbeats 4000000 in
theorem lw_walk (l : Launch) (hst : l.stackTraces = false) (b : Addr) (xs : List Int32) : MetFree l x (headSpec (Jvm.Cond.code x code maxLocals ret :: tables_1) room_1) (lw_P b xs) (fun _ _ _ _ _ => True) lw_Q := by
  refine MetFree.of_bodyS (code := code) (maxLocals := maxLocals) (ret := ret) (by decide) ?_ ?_
  · intro args s m h hn
    obtain ⟨meth, c, h1, h2, h3, h4, h5, h6, -, -⟩ := Cond.code_spec hn (atoms_spec (ws := Jvm.Cond.code x code maxLocals ret :: tables_1) h _ List.mem_cons_self)
    exact ⟨meth, c, h1, h2, h3, h4, h5, h6⟩
  · intro p e s m args below meth c s₁ B hml0 hP _
    obtain ⟨rfl, hx, hbd, hgv⟩ := hP
    obtain ⟨scr, harrAt, hlist, hof, hsmall⟩ := hx
    obtain ⟨hcb, hkn, -, -⟩ := State.arrayAt?_spec harrAt
    have hown : s.vm.findClass R_law = some m.cls := findClass_of_methodNamed B.named
    have hts0 : ∀ c ∈ (Jvm.Cond.code x code maxLocals ret :: tables_1), c.before #[Value.ref b] s = true := atoms_spec (ws := Jvm.Cond.code x code maxLocals ret :: tables_1) B.pre
    have hts : ∀ w ∈ lw_tbl, w.before #[Value.ref b] s = true := k2_hts_sels lw_privs (fun w hw => hts0 w (List.mem_cons_of_mem _ hw)) lw_privs_ok
    have hml : c.maxLocals = 7 := B.maxLocals_eq (hts0 _ List.mem_cons_self)
    have X₀ : Stand p l e room_1 s m #[Value.ref b] below meth c s₁ [] 0 0 := Stand.of_body B
    have hh0 : s₁.heap = s.heap := by rw [B.state]; rfl
    have hsz : scr.slots.size = xs.length := by rw [← Array.length_toList, hlist, List.length_map]
    have hval : ∀ j : Nat, j < xs.length → scr.slots[j]? = some (.int (xs.getD j 0)) := fun j hj => by
      rw [← Array.getElem?_toList, hlist]
      simp [hj]
    have hbl : b < s.heap.size := (Array.getElem?_eq_some_iff.mp hcb).1
    have hX : va_X b xs.length (fun j => xs.getD j 0) s s.heap := ⟨scr, hcb, hof, hkn, hsz, hval⟩
    have K : W p l e room_1 s m #[Value.ref b] below meth c s₁.heap [] 0 0 (lw_Z below #[Value.ref b] s) (entryFrame m ([Value.ref b] : List Value).toArray 7) := by
      rw [hh0]
      exact whole_start l hst hbd ⟨B.exec, B.bytes, B.returns, hml, hown, hts, hX, hbl, B.notSynchronized, hgv⟩
    obtain ⟨t, a1, o, b1, b2, b3⟩ := K s₁ rfl X₀
    exact ⟨t, o, a1, b1, b2, b3⟩
theorem lw_pre_spec {args : Array Value} {s : State} (h : (Jvm.Cond.and given_1 narrow_1).before args s = true) (hr : rest_1_c.before args s = true) : ∃ (b : Addr) (xs : List Int32), lw_P b xs args s := by
  have hs := flat_of_before _ h
  have hq := flat_of_before _ hr
  have hc : (Cond.count 1).before args s = true := hs _ (by decide +kernel)
  have harr : (Cond.arrayOf (.arg 0) .int).before args s = true := hs _ (by decide +kernel)
  have hle : (Cond.le (.length (.arg 0)) (.int 3072)).before args s = true := hs _ (by decide +kernel)
  have hlen : (Cond.isInt (.length (.arg 0))).before args s = true := hq _ (by decide +kernel)
  have hall : (Cond.all (.arg 0) (.isInt (.elem (.arg 0) (.index 0)))).before args s = true := hq _ (by decide +kernel)
  obtain ⟨b, xs, hb, hx⟩ := State.ints_of_pre rfl harr hlen hall
  have hsm : xs.length < 2 ^ 31 := hx.choose_spec.2.2.2
  have hev : (Term.length (.arg 0)).eval args s none [] s = some (.int xs.length.toInt32) := hx.length_eval hb
  have hv := Cond.le_ints hev (show (Term.int 3072).eval args s none [] s = some (.int 3072) from rfl)
  have hd : xs.length.toInt32 ≤ 3072 := by
    simpa [Cond.before, Cond.holds, hv] using hle
  have hN : xs.length ≤ 3072 := (Int32.ofNat_le_ofNat hsm (by decide)).mp (show Int32.ofNat xs.length ≤ Int32.ofNat 3072 from hd)
  exact ⟨b, xs, Cond.one_arg hc (show args[0]? = some (.ref b) from hb), hx, hN, h⟩
theorem lw_comes (l : Launch) (hst : l.stackTraces = false) : Comes l x (Jvm.Cond.code x code maxLocals ret :: tables_1) room_1 (fun tb e args s => Calls_1 tb e args s ∧ rest_1 tb e args s ∧ Pre_1 tb e args s)
    (fun _ _ args s o t => lw_Q args s o t) := by
  intro p e ha hc hk s m args below hf hfit hheap happ hpre
  obtain ⟨b, xs, hP⟩ := lw_pre_spec hpre.2.2 hpre.2.1
  obtain ⟨k, o, h1, h2, h3, hQ⟩ := lw_walk l hst b xs p e ha hc hk s m args below hf ((Spec.applies_iff_loose hf).mp happ).1 hP trivial
  exact ⟨k, o, h1, h2, h3, hQ⟩
theorem lw_frame {s t : State} {o : Outcome} {args : Array Value} (h : Framed s o t [] 601024 7293034) :
    Framed s o t (fieldLocs frame_1_writes args s ++ arrayLocs frame_1_arrays args s ++ staticLocs frame_1_statics s) 601024 7293034 := h
theorem lw_limb (L : Cond) (hL : ∀ (args : Array Value) (s t : State), L.after args s (.returned (some (.int 1))) t = true) :
    ArmFor flags0 classFile x code maxLocals ret World_1 tables_1 room_1 Calls_1 rest_1 Pre_1
      (fun tb e a s o t => postC L tb e a s o t ∧ Framed s o t (fieldLocs frame_1_writes a s ++ arrayLocs frame_1_arrays a s ++ staticLocs frame_1_statics s) 601024 7293034) := by
  intro l hfl _ _ p e ha hc hk s m args below hf hfit hheap happ hpre
  have hst : l.stackTraces = false := by unfold Launch.stackTraces; rw [hfl]; decide
  obtain ⟨k, o, h1, h2, h3, rfl, hF⟩ := lw_comes l hst p e ha hc hk s m args below hf hfit hheap happ hpre
  exact ⟨k, _, h1, h2, h3, hL args s _, lw_frame hF⟩
theorem i_vc : Claimed_1_1 ∧ Claimed_1_2 := ⟨lw_limb limb_1_1 (fun args s t => by simp [limb_1_1, Cond.after, Cond.holds, Cond.value]), lw_limb limb_1_2 (fun args s t => Cond.after_iff.mpr (by
  first | (rw [show limb_1_2 = Cond.eq .result (.int 1) from rfl, Cond.eq_ints (x := 1) (y := 1) rfl rfl]; simp; done) | (simp [limb_1_2, Cond.value, Term.eval]; done)))⟩
