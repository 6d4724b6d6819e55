theorem wO_i : Cond.instanceMethod objectInit ∈ gw := gw_at 150 (by decide +kernel) (by decide +kernel)
theorem wO_c : Cond.code objectInit ⟨#[0xb1]⟩ 1 none ∈ gw := gw_at 151 (by decide +kernel) (by decide +kernel)
theorem wAr_int : Cond.arrayClass .int ∈ gw := gw_at 178 (by decide +kernel) (by decide +kernel)
theorem wAr_byte : Cond.arrayClass .byte ∈ gw := gw_at 177 (by decide +kernel) (by decide +kernel)
theorem wAr_boolean : Cond.arrayClass .boolean ∈ gw := gw_at 1751 (by decide +kernel) (by decide +kernel)
theorem wAr_long : Cond.arrayClass .long ∈ gw := gw_at 2219 (by decide +kernel) (by decide +kernel)
section CN
variable {M : MI} {G : CT → Prop} {Z : CT → State → Prop} {n0 j nc ns pc : Nat} {ls : List (Nat × AV)} {st : List AV} {ow : Option (Nat × List AV)} {L : List CE}
theorem C_newI {k : Nat} {x : Int} {N : Nat} (hd : decode (mB M) pc = .ok (.newarray .int, 2)) (hx0 : 0 ≤ x) (hx1 : x.toNat = N) (hx2 : N < 4000) (hk : n0 + L.length = k) (hnc : nc + 1 ≤ (mR M).cells) (hns : ns + N ≤ (mR M).slots) (kk : KC M G Z n0 j (nc + 1) (ns + N) (pc + 2) ls (vr k :: st) ow (L ++ [.inr (1, N)])) : KC M G Z n0 j nc ns pc ls (vi x :: st) ow L :=
  C_newa (t := 0) (t2 := 1) (ty := .int) hd rfl wAr_int (fun _ => rfl) (fun _ _ h => h) (fun _ _ => ⟨rfl, _, rfl, rfl⟩) hx0 hx1 hx2 (by decide) hk hnc hns kk
theorem C_newB {k : Nat} {x : Int} {N : Nat} (hd : decode (mB M) pc = .ok (.newarray .byte, 2)) (hx0 : 0 ≤ x) (hx1 : x.toNat = N) (hx2 : N < 4000) (hk : n0 + L.length = k) (hnc : nc + 1 ≤ (mR M).cells) (hns : ns + N ≤ (mR M).slots) (kk : KC M G Z n0 j (nc + 1) (ns + N) (pc + 2) ls (vr k :: st) ow (L ++ [.inr (2, N)])) : KC M G Z n0 j nc ns pc ls (vi x :: st) ow L :=
  C_newa (t := 1) (t2 := 2) (ty := .byte) hd rfl wAr_byte (fun _ => rfl) (fun _ _ h => h) (fun _ _ => ⟨rfl, _, rfl, rfl⟩) hx0 hx1 hx2 (by decide) hk hnc hns kk
theorem C_newZ {k : Nat} {x : Int} {N : Nat} (hd : decode (mB M) pc = .ok (.newarray .boolean, 2)) (hx0 : 0 ≤ x) (hx1 : x.toNat = N) (hx2 : N < 4000) (hk : n0 + L.length = k) (hnc : nc + 1 ≤ (mR M).cells) (hns : ns + N ≤ (mR M).slots) (kk : KC M G Z n0 j (nc + 1) (ns + N) (pc + 2) ls (vr k :: st) ow (L ++ [.inr (3, N)])) : KC M G Z n0 j nc ns pc ls (vi x :: st) ow L :=
  C_newa (t := 2) (t2 := 3) (ty := .boolean) hd rfl wAr_boolean (fun _ => rfl) (fun _ _ h => h) (fun _ _ => ⟨rfl, _, rfl, rfl⟩) hx0 hx1 hx2 (by decide) hk hnc hns kk
theorem C_newJ {k : Nat} {x : Int} {N : Nat} (hd : decode (mB M) pc = .ok (.newarray .long, 2)) (hx0 : 0 ≤ x) (hx1 : x.toNat = N) (hx2 : N < 4000) (hk : n0 + L.length = k) (hnc : nc + 1 ≤ (mR M).cells) (hns : ns + N ≤ (mR M).slots) (kk : KC M G Z n0 j (nc + 1) (ns + N) (pc + 2) ls (vr k :: st) ow (L ++ [.inr (4, N)])) : KC M G Z n0 j nc ns pc ls (vi x :: st) ow L :=
  C_newa (t := 3) (t2 := 4) (ty := .long) hd rfl wAr_long (fun _ => rfl) (fun _ _ h => h) (fun _ _ => ⟨rfl, _, rfl, rfl⟩) hx0 hx1 hx2 (by decide) hk hnc hns kk
theorem C_puts {ci n i ix : Nat} {R : String} {T : u_T} {fs fs' : List AV} {v : AV} (hd : decode (mB M) pc = .ok (.putfield ix, 3)) (hc : vwCl[ci]? = some (R, T, n)) (hi : i < n) (hw : Cond.fieldLink (mY M).cls ix (T i).1 (T i).2.1 (T i).2.2.1 ∈ gw) (hf : (T i).2.2.2 = true → (T i).1 = (mY M).cls) (hG9 : ∀ t : CT, G t → t.2.2.2.2.2.2.2.1.name = "<init>")
    (hn : ∀ as, narrow (tyT ci i) (cv as (fun _ => 0) v) = cv as (fun _ => 0) v) (hfit : ∀ as, fits (tyT ci i) (cv as (fun _ => 0) v) = true) (hv : ∀ b, v ≠ vs (b + 1)) (hl9 : i < fs.length) (hs : fs.set i v = fs')
    (kk : KC M G Z n0 j nc ns (pc + 3) ls st (some (ci, fs')) L) : KC M G Z n0 j nc ns pc ls (v :: vr j :: st) (some (ci, fs)) L := by
  subst hs
  exact C_put hd hc hi hw hf hG9 hn hfit hv hl9 kk
end CN
theorem wIn_X0 : Cond.instantiable RX0 3 ∈ gw := gw_at 313 (by decide +kernel) (by decide +kernel)
theorem wIn_X1 : Cond.instantiable RX1 2 ∈ gw := gw_at 433 (by decide +kernel) (by decide +kernel)
theorem wIn_X10 : Cond.instantiable RX10 8 ∈ gw := gw_at 351 (by decide +kernel) (by decide +kernel)
theorem wIn_X2 : Cond.instantiable RX2 6 ∈ gw := gw_at 405 (by decide +kernel) (by decide +kernel)
theorem wIn_X3 : Cond.instantiable RX3 12 ∈ gw := gw_at 153 (by decide +kernel) (by decide +kernel)
theorem wIn_X4 : Cond.instantiable RX4 3 ∈ gw := gw_at 387 (by decide +kernel) (by decide +kernel)
theorem wIn_X5 : Cond.instantiable RX5 6 ∈ gw := gw_at 256 (by decide +kernel) (by decide +kernel)
theorem wIn_X6 : Cond.instantiable RX6 4 ∈ gw := gw_at 159 (by decide +kernel) (by decide +kernel)
theorem wIn_X7 : Cond.instantiable RX7 5 ∈ gw := gw_at 329 (by decide +kernel) (by decide +kernel)
theorem wIn_X8 : Cond.instantiable RX8 1 ∈ gw := gw_at 303 (by decide +kernel) (by decide +kernel)
theorem wIn_X9 : Cond.instantiable RX9 5 ∈ gw := gw_at 262 (by decide +kernel) (by decide +kernel)
theorem wK_X10_9 : Cond.classLink RX10 9 RX8 ∈ gw := gw_at 356 (by decide +kernel) (by decide +kernel)
theorem wK_X11_17 : Cond.classLink RX11 17 RX3 ∈ gw := gw_at 152 (by decide +kernel) (by decide +kernel)
theorem wK_X11_27 : Cond.classLink RX11 27 RX5 ∈ gw := gw_at 255 (by decide +kernel) (by decide +kernel)
theorem wK_X11_36 : Cond.classLink RX11 36 RX8 ∈ gw := gw_at 302 (by decide +kernel) (by decide +kernel)
theorem wK_X11_43 : Cond.classLink RX11 43 RX0 ∈ gw := gw_at 312 (by decide +kernel) (by decide +kernel)
theorem wK_X11_50 : Cond.classLink RX11 50 RX7 ∈ gw := gw_at 328 (by decide +kernel) (by decide +kernel)
theorem wK_X11_66 : Cond.classLink RX11 66 RX10 ∈ gw := gw_at 350 (by decide +kernel) (by decide +kernel)
theorem wK_X11_73 : Cond.classLink RX11 73 RX4 ∈ gw := gw_at 386 (by decide +kernel) (by decide +kernel)
theorem wK_X11_82 : Cond.classLink RX11 82 RX2 ∈ gw := gw_at 404 (by decide +kernel) (by decide +kernel)
theorem wK_X11_89 : Cond.classLink RX11 89 RX1 ∈ gw := gw_at 432 (by decide +kernel) (by decide +kernel)
theorem wK_X2_15 : Cond.classLink RX2 15 "[[I" ∈ gw := gw_at 410 (by decide +kernel) (by decide +kernel)
theorem wK_X2_30 : Cond.classLink RX2 30 RX10 ∈ gw := gw_at 411 (by decide +kernel) (by decide +kernel)
theorem wK_X3_36 : Cond.classLink RX3 36 RX6 ∈ gw := gw_at 158 (by decide +kernel) (by decide +kernel)
theorem wK_X4_9 : Cond.classLink RX4 9 "[[I" ∈ gw := gw_at 392 (by decide +kernel) (by decide +kernel)
theorem wK_X5_9 : Cond.classLink RX5 9 RX9 ∈ gw := gw_at 261 (by decide +kernel) (by decide +kernel)
theorem wO_X0 : Cond.methodLink RX0 3 objectInit ∈ gw := gw_at 317 (by decide +kernel) (by decide +kernel)
theorem wO_X1 : Cond.methodLink RX1 3 objectInit ∈ gw := gw_at 437 (by decide +kernel) (by decide +kernel)
theorem wO_X10 : Cond.methodLink RX10 3 objectInit ∈ gw := gw_at 355 (by decide +kernel) (by decide +kernel)
theorem wO_X11 : Cond.methodLink RX11 1 objectInit ∈ gw := gw_at 149 (by decide +kernel) (by decide +kernel)
theorem wO_X12 : Cond.methodLink RX12 1 objectInit ∈ gw := gw_at 1563 (by decide +kernel) (by decide +kernel)
theorem wO_X2 : Cond.methodLink RX2 3 objectInit ∈ gw := gw_at 409 (by decide +kernel) (by decide +kernel)
theorem wO_X3 : Cond.methodLink RX3 3 objectInit ∈ gw := gw_at 157 (by decide +kernel) (by decide +kernel)
theorem wO_X4 : Cond.methodLink RX4 3 objectInit ∈ gw := gw_at 391 (by decide +kernel) (by decide +kernel)
theorem wO_X5 : Cond.methodLink RX5 3 objectInit ∈ gw := gw_at 260 (by decide +kernel) (by decide +kernel)
theorem wO_X6 : Cond.methodLink RX6 3 objectInit ∈ gw := gw_at 163 (by decide +kernel) (by decide +kernel)
theorem wO_X7 : Cond.methodLink RX7 3 objectInit ∈ gw := gw_at 333 (by decide +kernel) (by decide +kernel)
theorem wO_X8 : Cond.methodLink RX8 5 objectInit ∈ gw := gw_at 307 (by decide +kernel) (by decide +kernel)
theorem wO_X9 : Cond.methodLink RX9 1 objectInit ∈ gw := gw_at 266 (by decide +kernel) (by decide +kernel)
def dX6 : List AV := [vs 0, vs 0, vi 0, vi 0]
theorem dfX6 : ∀ i, i < 4 → ∀ as, defaultValue (tyT 6 i) = vp_V (dX6.map (cv as (fun _ => 0))) i := by
  intro i hi as
  rcases (show i = 0 ∨ i = 1 ∨ i = 2 ∨ i = 3 by omega) with rfl | rfl | rfl | rfl <;> rfl
def fsX6 (j : Nat) : List AV := [vr (j + 1), vr (j + 2), vi 0, vi 0]
def LX6 (_j : Nat) : List CE := (([] ++ [.inr (1, 700)]) ++ [.inr (1, 64)])
def mX6_init : MI := (yX6_init, cX6_init, 1, none, { frames := 2, cells := 2, slots := 764, locals := 128 })
def tX6_init : List (Nat × Instr × Nat) := [(0, .aload_n 0, 1), (1, .invokespecial 3, 3), (4, .aload_n 0, 1), (5, .sipush 700, 3), (8, .newarray .int, 2), (10, .putfield 9, 3), (13, .aload_n 0, 1), (14, .bipush 64, 2), (16, .newarray .int, 2), (18, .putfield 15, 3), (21, .aload_n 0, 1), (22, .iconst 0, 1), (23, .putfield 18, 3), (26, .aload_n 0, 1), (27, .iconst 0, 1), (28, .putfield 22, 3), (31, .return_, 1)]
theorem dtX6_init : tX6_init.all (fun q => decide (decode cX6_init q.1 = .ok (q.2.1, q.2.2))) = true := by decide +kernel
theorem npX6_init : (parseMethodDescriptor (mY mX6_init).desc).map (fun d => d.parameters.length) = some 0 := by decide +kernel
set_option maxHeartbeats 4000000 in
set_option maxRecDepth 100000 in
theorem cX6 (j : Nat) : SpecC mX6_init (j + 1) j 6 dX6 [] [] (fsX6 j) (LX6 j) := by
  refine SpecC_of (by decide +kernel) rfl (Nat.le_of_ble_eq_true rfl) ?_
  refine C_aload (dt_at dtX6_init 0 rfl) rfl rfl ⟨_, rfl⟩ ?_
  refine C_obj (dt_at dtX6_init 1 rfl) wO_X6 wO_i wO_c (by decide) (by decide) ?_
  refine C_aload (dt_at dtX6_init 2 rfl) rfl rfl ⟨_, rfl⟩ ?_
  refine C_sipush (dt_at dtX6_init 3 rfl) (by decide) ?_
  refine C_newI (k := (j + 1)) (N := 700) (dt_at dtX6_init 4 rfl) (by decide) (by decide) (by decide) rfl (by decide) (by decide) ?_
  refine C_puts (fs' := [vr (j + 1), vs 0, vi 0, vi 0]) (ci := 6) (i := 0) (v := vr (j + 1)) (dt_at dtX6_init 5 rfl) rfl (by decide) wF_X6_9 (fun _ => rfl) GC_n (fun _ => by first | rfl | decide) (fun _ => rfl) (fun _ h9 => by cases h9) (Nat.le_of_ble_eq_true rfl) rfl ?_
  refine C_aload (dt_at dtX6_init 6 rfl) rfl rfl ⟨_, rfl⟩ ?_
  refine C_bipush (dt_at dtX6_init 7 rfl) (by decide) ?_
  refine C_newI (k := (j + 2)) (N := 64) (dt_at dtX6_init 8 rfl) (by decide) (by decide) (by decide) rfl (by decide) (by decide) ?_
  refine C_puts (fs' := [vr (j + 1), vr (j + 2), vi 0, vi 0]) (ci := 6) (i := 1) (v := vr (j + 2)) (dt_at dtX6_init 9 rfl) rfl (by decide) wF_X6_15 (fun _ => rfl) GC_n (fun _ => by first | rfl | decide) (fun _ => rfl) (fun _ h9 => by cases h9) (Nat.le_of_ble_eq_true rfl) rfl ?_
  refine C_aload (dt_at dtX6_init 10 rfl) rfl rfl ⟨_, rfl⟩ ?_
  refine C_iconst (dt_at dtX6_init 11 rfl) ?_
  refine C_puts (fs' := [vr (j + 1), vr (j + 2), vi 0, vi 0]) (ci := 6) (i := 2) (v := vi 0) (dt_at dtX6_init 12 rfl) rfl (by decide) wF_X6_18 (fun _ => rfl) GC_n (fun _ => by first | rfl | decide) (fun _ => rfl) (fun _ h9 => by cases h9) (Nat.le_of_ble_eq_true rfl) rfl ?_
  refine C_aload (dt_at dtX6_init 13 rfl) rfl rfl ⟨_, rfl⟩ ?_
  refine C_iconst (dt_at dtX6_init 14 rfl) ?_
  refine C_puts (fs' := [vr (j + 1), vr (j + 2), vi 0, vi 0]) (ci := 6) (i := 3) (v := vi 0) (dt_at dtX6_init 15 rfl) rfl (by decide) wF_X6_22 (fun _ => rfl) GC_n (fun _ => by first | rfl | decide) (fun _ => rfl) (fun _ h9 => by cases h9) (Nat.le_of_ble_eq_true rfl) rfl ?_
  exact C_ret (dt_at dtX6_init 16 rfl) rfl (by decide) (by decide)
def dX3 : List AV := [vs 0, vs 0, vs 0, vs 0, vs 0, vs 0, vs 0, vs 0, vs 0, vs 0, vi 0, vi 0]
theorem dfX3 : ∀ i, i < 12 → ∀ as, defaultValue (tyT 3 i) = vp_V (dX3.map (cv as (fun _ => 0))) i := by
  intro i hi as
  rcases (show i = 0 ∨ i = 1 ∨ i = 2 ∨ i = 3 ∨ i = 4 ∨ i = 5 ∨ i = 6 ∨ i = 7 ∨ i = 8 ∨ i = 9 ∨ i = 10 ∨ i = 11 by omega) with rfl | rfl | rfl | rfl | rfl | rfl | rfl | rfl | rfl | rfl | rfl | rfl <;> rfl
def fsX3 (j : Nat) : List AV := [vr (j + 1), vr (j + 2), vr (j + 3), vr (j + 4), vr (j + 5), vr (j + 6), vr (j + 7), vr (j + 8), vr (j + 9), vr (j + 12), vi 0, vi 0]
def LX3 (j : Nat) : List CE := (((((((((([] ++ [.inr (1, 6)]) ++ [.inr (1, 6)]) ++ [.inr (1, 6)]) ++ [.inr (1, 7)]) ++ [.inr (1, 7)]) ++ [.inr (1, 7)]) ++ [.inr (1, 7)]) ++ [.inr (1, 7)]) ++ .inl (6, fsX6 (j + 9)) :: LX6 (j + 9)) ++ .inl (6, fsX6 (j + 12)) :: LX6 (j + 12))
def mX3_init : MI := (yX3_init, cX3_init, 1, none, { frames := 3, cells := 14, slots := 1589, locals := 192 })
def tX3_init : List (Nat × Instr × Nat) := [(0, .aload_n 0, 1), (1, .invokespecial 3, 3), (4, .aload_n 0, 1), (5, .bipush 6, 2), (7, .newarray .int, 2), (9, .putfield 9, 3), (12, .aload_n 0, 1), (13, .bipush 6, 2), (15, .newarray .int, 2), (17, .putfield 15, 3), (20, .aload_n 0, 1), (21, .bipush 6, 2), (23, .newarray .int, 2), (25, .putfield 18, 3), (28, .aload_n 0, 1), (29, .bipush 7, 2), (31, .newarray .int, 2), (33, .putfield 21, 3), (36, .aload_n 0, 1), (37, .bipush 7, 2), (39, .newarray .int, 2), (41, .putfield 24, 3), (44, .aload_n 0, 1), (45, .bipush 7, 2), (47, .newarray .int, 2), (49, .putfield 27, 3), (52, .aload_n 0, 1), (53, .bipush 7, 2), (55, .newarray .int, 2), (57, .putfield 30, 3), (60, .aload_n 0, 1), (61, .bipush 7, 2), (63, .newarray .int, 2), (65, .putfield 33, 3), (68, .aload_n 0, 1), (69, .new 36, 3), (72, .dup, 1), (73, .invokespecial 38, 3), (76, .putfield 39, 3), (79, .aload_n 0, 1), (80, .new 36, 3), (83, .dup, 1), (84, .invokespecial 38, 3), (87, .putfield 43, 3), (90, .aload_n 0, 1), (91, .iconst 0, 1), (92, .putfield 46, 3), (95, .aload_n 0, 1), (96, .iconst 0, 1), (97, .putfield 50, 3), (100, .return_, 1)]
theorem dtX3_init : tX3_init.all (fun q => decide (decode cX3_init q.1 = .ok (q.2.1, q.2.2))) = true := by decide +kernel
theorem npX3_init : (parseMethodDescriptor (mY mX3_init).desc).map (fun d => d.parameters.length) = some 0 := by decide +kernel
set_option maxHeartbeats 4000000 in
set_option maxRecDepth 100000 in
theorem cX3 (j : Nat) : SpecC mX3_init (j + 1) j 3 dX3 [] [] (fsX3 j) (LX3 j) := by
  refine SpecC_of (by decide +kernel) rfl (Nat.le_of_ble_eq_true rfl) ?_
  refine C_aload (dt_at dtX3_init 0 rfl) rfl rfl ⟨_, rfl⟩ ?_
  refine C_obj (dt_at dtX3_init 1 rfl) wO_X3 wO_i wO_c (by decide) (by decide) ?_
  refine C_aload (dt_at dtX3_init 2 rfl) rfl rfl ⟨_, rfl⟩ ?_
  refine C_bipush (dt_at dtX3_init 3 rfl) (by decide) ?_
  refine C_newI (k := (j + 1)) (N := 6) (dt_at dtX3_init 4 rfl) (by decide) (by decide) (by decide) rfl (by decide) (by decide) ?_
  refine C_puts (fs' := [vr (j + 1), vs 0, vs 0, vs 0, vs 0, vs 0, vs 0, vs 0, vs 0, vs 0, vi 0, vi 0]) (ci := 3) (i := 0) (v := vr (j + 1)) (dt_at dtX3_init 5 rfl) rfl (by decide) wF_X3_9 (fun _ => rfl) GC_n (fun _ => by first | rfl | decide) (fun _ => rfl) (fun _ h9 => by cases h9) (Nat.le_of_ble_eq_true rfl) rfl ?_
  refine C_aload (dt_at dtX3_init 6 rfl) rfl rfl ⟨_, rfl⟩ ?_
  refine C_bipush (dt_at dtX3_init 7 rfl) (by decide) ?_
  refine C_newI (k := (j + 2)) (N := 6) (dt_at dtX3_init 8 rfl) (by decide) (by decide) (by decide) rfl (by decide) (by decide) ?_
  refine C_puts (fs' := [vr (j + 1), vr (j + 2), vs 0, vs 0, vs 0, vs 0, vs 0, vs 0, vs 0, vs 0, vi 0, vi 0]) (ci := 3) (i := 1) (v := vr (j + 2)) (dt_at dtX3_init 9 rfl) rfl (by decide) wF_X3_15 (fun _ => rfl) GC_n (fun _ => by first | rfl | decide) (fun _ => rfl) (fun _ h9 => by cases h9) (Nat.le_of_ble_eq_true rfl) rfl ?_
  refine C_aload (dt_at dtX3_init 10 rfl) rfl rfl ⟨_, rfl⟩ ?_
  refine C_bipush (dt_at dtX3_init 11 rfl) (by decide) ?_
  refine C_newI (k := (j + 3)) (N := 6) (dt_at dtX3_init 12 rfl) (by decide) (by decide) (by decide) rfl (by decide) (by decide) ?_
  refine C_puts (fs' := [vr (j + 1), vr (j + 2), vr (j + 3), vs 0, vs 0, vs 0, vs 0, vs 0, vs 0, vs 0, vi 0, vi 0]) (ci := 3) (i := 2) (v := vr (j + 3)) (dt_at dtX3_init 13 rfl) rfl (by decide) wF_X3_18 (fun _ => rfl) GC_n (fun _ => by first | rfl | decide) (fun _ => rfl) (fun _ h9 => by cases h9) (Nat.le_of_ble_eq_true rfl) rfl ?_
  refine C_aload (dt_at dtX3_init 14 rfl) rfl rfl ⟨_, rfl⟩ ?_
  refine C_bipush (dt_at dtX3_init 15 rfl) (by decide) ?_
  refine C_newI (k := (j + 4)) (N := 7) (dt_at dtX3_init 16 rfl) (by decide) (by decide) (by decide) rfl (by decide) (by decide) ?_
  refine C_puts (fs' := [vr (j + 1), vr (j + 2), vr (j + 3), vr (j + 4), vs 0, vs 0, vs 0, vs 0, vs 0, vs 0, vi 0, vi 0]) (ci := 3) (i := 3) (v := vr (j + 4)) (dt_at dtX3_init 17 rfl) rfl (by decide) wF_X3_21 (fun _ => rfl) GC_n (fun _ => by first | rfl | decide) (fun _ => rfl) (fun _ h9 => by cases h9) (Nat.le_of_ble_eq_true rfl) rfl ?_
  refine C_aload (dt_at dtX3_init 18 rfl) rfl rfl ⟨_, rfl⟩ ?_
  refine C_bipush (dt_at dtX3_init 19 rfl) (by decide) ?_
  refine C_newI (k := (j + 5)) (N := 7) (dt_at dtX3_init 20 rfl) (by decide) (by decide) (by decide) rfl (by decide) (by decide) ?_
  refine C_puts (fs' := [vr (j + 1), vr (j + 2), vr (j + 3), vr (j + 4), vr (j + 5), vs 0, vs 0, vs 0, vs 0, vs 0, vi 0, vi 0]) (ci := 3) (i := 4) (v := vr (j + 5)) (dt_at dtX3_init 21 rfl) rfl (by decide) wF_X3_24 (fun _ => rfl) GC_n (fun _ => by first | rfl | decide) (fun _ => rfl) (fun _ h9 => by cases h9) (Nat.le_of_ble_eq_true rfl) rfl ?_
  refine C_aload (dt_at dtX3_init 22 rfl) rfl rfl ⟨_, rfl⟩ ?_
  refine C_bipush (dt_at dtX3_init 23 rfl) (by decide) ?_
  refine C_newI (k := (j + 6)) (N := 7) (dt_at dtX3_init 24 rfl) (by decide) (by decide) (by decide) rfl (by decide) (by decide) ?_
  refine C_puts (fs' := [vr (j + 1), vr (j + 2), vr (j + 3), vr (j + 4), vr (j + 5), vr (j + 6), vs 0, vs 0, vs 0, vs 0, vi 0, vi 0]) (ci := 3) (i := 5) (v := vr (j + 6)) (dt_at dtX3_init 25 rfl) rfl (by decide) wF_X3_27 (fun _ => rfl) GC_n (fun _ => by first | rfl | decide) (fun _ => rfl) (fun _ h9 => by cases h9) (Nat.le_of_ble_eq_true rfl) rfl ?_
  refine C_aload (dt_at dtX3_init 26 rfl) rfl rfl ⟨_, rfl⟩ ?_
  refine C_bipush (dt_at dtX3_init 27 rfl) (by decide) ?_
  refine C_newI (k := (j + 7)) (N := 7) (dt_at dtX3_init 28 rfl) (by decide) (by decide) (by decide) rfl (by decide) (by decide) ?_
  refine C_puts (fs' := [vr (j + 1), vr (j + 2), vr (j + 3), vr (j + 4), vr (j + 5), vr (j + 6), vr (j + 7), vs 0, vs 0, vs 0, vi 0, vi 0]) (ci := 3) (i := 6) (v := vr (j + 7)) (dt_at dtX3_init 29 rfl) rfl (by decide) wF_X3_30 (fun _ => rfl) GC_n (fun _ => by first | rfl | decide) (fun _ => rfl) (fun _ h9 => by cases h9) (Nat.le_of_ble_eq_true rfl) rfl ?_
  refine C_aload (dt_at dtX3_init 30 rfl) rfl rfl ⟨_, rfl⟩ ?_
  refine C_bipush (dt_at dtX3_init 31 rfl) (by decide) ?_
  refine C_newI (k := (j + 8)) (N := 7) (dt_at dtX3_init 32 rfl) (by decide) (by decide) (by decide) rfl (by decide) (by decide) ?_
  refine C_puts (fs' := [vr (j + 1), vr (j + 2), vr (j + 3), vr (j + 4), vr (j + 5), vr (j + 6), vr (j + 7), vr (j + 8), vs 0, vs 0, vi 0, vi 0]) (ci := 3) (i := 7) (v := vr (j + 8)) (dt_at dtX3_init 33 rfl) rfl (by decide) wF_X3_33 (fun _ => rfl) GC_n (fun _ => by first | rfl | decide) (fun _ => rfl) (fun _ h9 => by cases h9) (Nat.le_of_ble_eq_true rfl) rfl ?_
  refine C_aload (dt_at dtX3_init 34 rfl) rfl rfl ⟨_, rfl⟩ ?_
  refine C_new (ci := 6) (k := (j + 9)) (fs := dX6) (dt_at dtX3_init 35 rfl) rfl wK_X3_36 wIn_X6 wN_X6 dfX6 rfl (by decide) (by decide) ?_
  refine C_dup (dt_at dtX3_init 36 rfl) rfl ?_
  refine C_call (M' := mX6_init) (pars := []) (st := [vr (j + 9), vr j]) (dt_at dtX3_init 37 rfl) (cX6 (j + 9)) rfl rfl rfl wL_X3_38 wI_X6_init wN_X6 wC_X6_init ⟨by decide, by decide⟩ rfl rfl npX6_init (by decide) (by decide) (Nat.le_of_ble_eq_true rfl) (by decide) (by decide) GC_a (fun _ _ _ _ _ _ _ q hq => nomatch hq) ?_
  refine C_puts (fs' := [vr (j + 1), vr (j + 2), vr (j + 3), vr (j + 4), vr (j + 5), vr (j + 6), vr (j + 7), vr (j + 8), vr (j + 9), vs 0, vi 0, vi 0]) (ci := 3) (i := 8) (v := vr (j + 9)) (dt_at dtX3_init 38 rfl) rfl (by decide) wF_X3_39 (fun _ => rfl) GC_n (fun _ => by first | rfl | decide) (fun _ => rfl) (fun _ h9 => by cases h9) (Nat.le_of_ble_eq_true rfl) rfl ?_
  refine C_aload (dt_at dtX3_init 39 rfl) rfl rfl ⟨_, rfl⟩ ?_
  refine C_new (ci := 6) (k := (j + 12)) (fs := dX6) (dt_at dtX3_init 40 rfl) rfl wK_X3_36 wIn_X6 wN_X6 dfX6 rfl (by decide) (by decide) ?_
  refine C_dup (dt_at dtX3_init 41 rfl) rfl ?_
  refine C_call (M' := mX6_init) (pars := []) (st := [vr (j + 12), vr j]) (dt_at dtX3_init 42 rfl) (cX6 (j + 12)) rfl rfl rfl wL_X3_38 wI_X6_init wN_X6 wC_X6_init ⟨by decide, by decide⟩ rfl rfl npX6_init (by decide) (by decide) (Nat.le_of_ble_eq_true rfl) (by decide) (by decide) GC_a (fun _ _ _ _ _ _ _ q hq => nomatch hq) ?_
  refine C_puts (fs' := [vr (j + 1), vr (j + 2), vr (j + 3), vr (j + 4), vr (j + 5), vr (j + 6), vr (j + 7), vr (j + 8), vr (j + 9), vr (j + 12), vi 0, vi 0]) (ci := 3) (i := 9) (v := vr (j + 12)) (dt_at dtX3_init 43 rfl) rfl (by decide) wF_X3_43 (fun _ => rfl) GC_n (fun _ => by first | rfl | decide) (fun _ => rfl) (fun _ h9 => by cases h9) (Nat.le_of_ble_eq_true rfl) rfl ?_
  refine C_aload (dt_at dtX3_init 44 rfl) rfl rfl ⟨_, rfl⟩ ?_
  refine C_iconst (dt_at dtX3_init 45 rfl) ?_
  refine C_puts (fs' := [vr (j + 1), vr (j + 2), vr (j + 3), vr (j + 4), vr (j + 5), vr (j + 6), vr (j + 7), vr (j + 8), vr (j + 9), vr (j + 12), vi 0, vi 0]) (ci := 3) (i := 10) (v := vi 0) (dt_at dtX3_init 46 rfl) rfl (by decide) wF_X3_46 (fun _ => rfl) GC_n (fun _ => by first | rfl | decide) (fun _ => rfl) (fun _ h9 => by cases h9) (Nat.le_of_ble_eq_true rfl) rfl ?_
  refine C_aload (dt_at dtX3_init 47 rfl) rfl rfl ⟨_, rfl⟩ ?_
  refine C_iconst (dt_at dtX3_init 48 rfl) ?_
  refine C_puts (fs' := [vr (j + 1), vr (j + 2), vr (j + 3), vr (j + 4), vr (j + 5), vr (j + 6), vr (j + 7), vr (j + 8), vr (j + 9), vr (j + 12), vi 0, vi 0]) (ci := 3) (i := 11) (v := vi 0) (dt_at dtX3_init 49 rfl) rfl (by decide) wF_X3_50 (fun _ => rfl) GC_n (fun _ => by first | rfl | decide) (fun _ => rfl) (fun _ h9 => by cases h9) (Nat.le_of_ble_eq_true rfl) rfl ?_
  exact C_ret (dt_at dtX3_init 50 rfl) rfl (by decide) (by decide)
def dX8 : List AV := [vs 0]
theorem dfX8 : ∀ i, i < 1 → ∀ as, defaultValue (tyT 8 i) = vp_V (dX8.map (cv as (fun _ => 0))) i := by
  intro i hi as
  rcases (show i = 0 by omega) with rfl <;> rfl
def fsX8 (j : Nat) : List AV := [vr (j + 1)]
def LX8 (_j : Nat) : List CE := ([] ++ [.inr (1, 77)])
def mX8_init : MI := (yX8_init, cX8_init, 1, none, { frames := 2, cells := 1, slots := 77, locals := 128 })
def tX8_init : List (Nat × Instr × Nat) := [(0, .aload_n 0, 1), (1, .invokespecial 5, 3), (4, .aload_n 0, 1), (5, .bipush 77, 2), (7, .newarray .int, 2), (9, .putfield 11, 3), (12, .return_, 1)]
theorem dtX8_init : tX8_init.all (fun q => decide (decode cX8_init q.1 = .ok (q.2.1, q.2.2))) = true := by decide +kernel
theorem npX8_init : (parseMethodDescriptor (mY mX8_init).desc).map (fun d => d.parameters.length) = some 0 := by decide +kernel
set_option maxHeartbeats 4000000 in
set_option maxRecDepth 100000 in
theorem cX8 (j : Nat) : SpecC mX8_init (j + 1) j 8 dX8 [] [] (fsX8 j) (LX8 j) := by
  refine SpecC_of (by decide +kernel) rfl (Nat.le_of_ble_eq_true rfl) ?_
  refine C_aload (dt_at dtX8_init 0 rfl) rfl rfl ⟨_, rfl⟩ ?_
  refine C_obj (dt_at dtX8_init 1 rfl) wO_X8 wO_i wO_c (by decide) (by decide) ?_
  refine C_aload (dt_at dtX8_init 2 rfl) rfl rfl ⟨_, rfl⟩ ?_
  refine C_bipush (dt_at dtX8_init 3 rfl) (by decide) ?_
  refine C_newI (k := (j + 1)) (N := 77) (dt_at dtX8_init 4 rfl) (by decide) (by decide) (by decide) rfl (by decide) (by decide) ?_
  refine C_puts (fs' := [vr (j + 1)]) (ci := 8) (i := 0) (v := vr (j + 1)) (dt_at dtX8_init 5 rfl) rfl (by decide) wF_X8_11 (fun _ => rfl) GC_n (fun _ => by first | rfl | decide) (fun _ => rfl) (fun _ h9 => by cases h9) (Nat.le_of_ble_eq_true rfl) rfl ?_
  exact C_ret (dt_at dtX8_init 6 rfl) rfl (by decide) (by decide)
def dX9 : List AV := [vs 0, vi 0, vi 0, vi 0, vi 0]
theorem dfX9 : ∀ i, i < 5 → ∀ as, defaultValue (tyT 9 i) = vp_V (dX9.map (cv as (fun _ => 0))) i := by
  intro i hi as
  rcases (show i = 0 ∨ i = 1 ∨ i = 2 ∨ i = 3 ∨ i = 4 by omega) with rfl | rfl | rfl | rfl | rfl <;> rfl
def fsX9 (j : Nat) : List AV := [vr (j + 1), vi 0, vi 0, vi 0, vi 0]
def LX9 (_j : Nat) : List CE := ([] ++ [.inr (2, 0)])
def mX9_init : MI := (yX9_init, cX9_init, 1, none, { frames := 2, cells := 1, slots := 0, locals := 128 })
def tX9_init : List (Nat × Instr × Nat) := [(0, .aload_n 0, 1), (1, .invokespecial 1, 3), (4, .aload_n 0, 1), (5, .iconst 0, 1), (6, .newarray .byte, 2), (8, .putfield 7, 3), (11, .aload_n 0, 1), (12, .iconst 0, 1), (13, .putfield 13, 3), (16, .aload_n 0, 1), (17, .iconst 0, 1), (18, .putfield 17, 3), (21, .aload_n 0, 1), (22, .iconst 0, 1), (23, .putfield 20, 3), (26, .aload_n 0, 1), (27, .iconst 0, 1), (28, .putfield 23, 3), (31, .return_, 1)]
theorem dtX9_init : tX9_init.all (fun q => decide (decode cX9_init q.1 = .ok (q.2.1, q.2.2))) = true := by decide +kernel
theorem npX9_init : (parseMethodDescriptor (mY mX9_init).desc).map (fun d => d.parameters.length) = some 0 := by decide +kernel
set_option maxHeartbeats 4000000 in
set_option maxRecDepth 100000 in
theorem cX9 (j : Nat) : SpecC mX9_init (j + 1) j 9 dX9 [] [] (fsX9 j) (LX9 j) := by
  refine SpecC_of (by decide +kernel) rfl (Nat.le_of_ble_eq_true rfl) ?_
  refine C_aload (dt_at dtX9_init 0 rfl) rfl rfl ⟨_, rfl⟩ ?_
  refine C_obj (dt_at dtX9_init 1 rfl) wO_X9 wO_i wO_c (by decide) (by decide) ?_
  refine C_aload (dt_at dtX9_init 2 rfl) rfl rfl ⟨_, rfl⟩ ?_
  refine C_iconst (dt_at dtX9_init 3 rfl) ?_
  refine C_newB (k := (j + 1)) (N := 0) (dt_at dtX9_init 4 rfl) (by decide) (by decide) (by decide) rfl (by decide) (by decide) ?_
  refine C_puts (fs' := [vr (j + 1), vi 0, vi 0, vi 0, vi 0]) (ci := 9) (i := 0) (v := vr (j + 1)) (dt_at dtX9_init 5 rfl) rfl (by decide) wF_X9_7 (fun _ => rfl) GC_n (fun _ => by first | rfl | decide) (fun _ => rfl) (fun _ h9 => by cases h9) (Nat.le_of_ble_eq_true rfl) rfl ?_
  refine C_aload (dt_at dtX9_init 6 rfl) rfl rfl ⟨_, rfl⟩ ?_
  refine C_iconst (dt_at dtX9_init 7 rfl) ?_
  refine C_puts (fs' := [vr (j + 1), vi 0, vi 0, vi 0, vi 0]) (ci := 9) (i := 1) (v := vi 0) (dt_at dtX9_init 8 rfl) rfl (by decide) wF_X9_13 (fun _ => rfl) GC_n (fun _ => by first | rfl | decide) (fun _ => rfl) (fun _ h9 => by cases h9) (Nat.le_of_ble_eq_true rfl) rfl ?_
  refine C_aload (dt_at dtX9_init 9 rfl) rfl rfl ⟨_, rfl⟩ ?_
  refine C_iconst (dt_at dtX9_init 10 rfl) ?_
  refine C_puts (fs' := [vr (j + 1), vi 0, vi 0, vi 0, vi 0]) (ci := 9) (i := 2) (v := vi 0) (dt_at dtX9_init 11 rfl) rfl (by decide) wF_X9_17 (fun _ => rfl) GC_n (fun _ => by first | rfl | decide) (fun _ => rfl) (fun _ h9 => by cases h9) (Nat.le_of_ble_eq_true rfl) rfl ?_
  refine C_aload (dt_at dtX9_init 12 rfl) rfl rfl ⟨_, rfl⟩ ?_
  refine C_iconst (dt_at dtX9_init 13 rfl) ?_
  refine C_puts (fs' := [vr (j + 1), vi 0, vi 0, vi 0, vi 0]) (ci := 9) (i := 3) (v := vi 0) (dt_at dtX9_init 14 rfl) rfl (by decide) wF_X9_20 (fun _ => rfl) GC_n (fun _ => by first | rfl | decide) (fun _ => rfl) (fun _ h9 => by cases h9) (Nat.le_of_ble_eq_true rfl) rfl ?_
  refine C_aload (dt_at dtX9_init 15 rfl) rfl rfl ⟨_, rfl⟩ ?_
  refine C_iconst (dt_at dtX9_init 16 rfl) ?_
  refine C_puts (fs' := [vr (j + 1), vi 0, vi 0, vi 0, vi 0]) (ci := 9) (i := 4) (v := vi 0) (dt_at dtX9_init 17 rfl) rfl (by decide) wF_X9_23 (fun _ => rfl) GC_n (fun _ => by first | rfl | decide) (fun _ => rfl) (fun _ h9 => by cases h9) (Nat.le_of_ble_eq_true rfl) rfl ?_
  exact C_ret (dt_at dtX9_init 18 rfl) rfl (by decide) (by decide)
def dX0 : List AV := [vs 0, vi 0, vi 0]
theorem dfX0 : ∀ i, i < 3 → ∀ as, defaultValue (tyT 0 i) = vp_V (dX0.map (cv as (fun _ => 0))) i := by
  intro i hi as
  rcases (show i = 0 ∨ i = 1 ∨ i = 2 by omega) with rfl | rfl | rfl <;> rfl
def fsX0 (j : Nat) : List AV := [vr (j + 1), vi 0, vi 0]
def LX0 (_j : Nat) : List CE := ([] ++ [.inr (1, 3080)])
def mX0_init : MI := (yX0_init, cX0_init, 1, none, { frames := 2, cells := 1, slots := 3080, locals := 128 })
def tX0_init : List (Nat × Instr × Nat) := [(0, .aload_n 0, 1), (1, .invokespecial 3, 3), (4, .aload_n 0, 1), (5, .sipush 3080, 3), (8, .newarray .int, 2), (10, .putfield 11, 3), (13, .aload_n 0, 1), (14, .iconst 0, 1), (15, .putfield 17, 3), (18, .aload_n 0, 1), (19, .iconst 0, 1), (20, .putfield 21, 3), (23, .return_, 1)]
theorem dtX0_init : tX0_init.all (fun q => decide (decode cX0_init q.1 = .ok (q.2.1, q.2.2))) = true := by decide +kernel
theorem npX0_init : (parseMethodDescriptor (mY mX0_init).desc).map (fun d => d.parameters.length) = some 0 := by decide +kernel
set_option maxHeartbeats 4000000 in
set_option maxRecDepth 100000 in
theorem cX0 (j : Nat) : SpecC mX0_init (j + 1) j 0 dX0 [] [] (fsX0 j) (LX0 j) := by
  refine SpecC_of (by decide +kernel) rfl (Nat.le_of_ble_eq_true rfl) ?_
  refine C_aload (dt_at dtX0_init 0 rfl) rfl rfl ⟨_, rfl⟩ ?_
  refine C_obj (dt_at dtX0_init 1 rfl) wO_X0 wO_i wO_c (by decide) (by decide) ?_
  refine C_aload (dt_at dtX0_init 2 rfl) rfl rfl ⟨_, rfl⟩ ?_
  refine C_sipush (dt_at dtX0_init 3 rfl) (by decide) ?_
  refine C_newI (k := (j + 1)) (N := 3080) (dt_at dtX0_init 4 rfl) (by decide) (by decide) (by decide) rfl (by decide) (by decide) ?_
  refine C_puts (fs' := [vr (j + 1), vi 0, vi 0]) (ci := 0) (i := 0) (v := vr (j + 1)) (dt_at dtX0_init 5 rfl) rfl (by decide) wF_X0_11 (fun _ => rfl) GC_n (fun _ => by first | rfl | decide) (fun _ => rfl) (fun _ h9 => by cases h9) (Nat.le_of_ble_eq_true rfl) rfl ?_
  refine C_aload (dt_at dtX0_init 6 rfl) rfl rfl ⟨_, rfl⟩ ?_
  refine C_iconst (dt_at dtX0_init 7 rfl) ?_
  refine C_puts (fs' := [vr (j + 1), vi 0, vi 0]) (ci := 0) (i := 1) (v := vi 0) (dt_at dtX0_init 8 rfl) rfl (by decide) wF_X0_17 (fun _ => rfl) GC_n (fun _ => by first | rfl | decide) (fun _ => rfl) (fun _ h9 => by cases h9) (Nat.le_of_ble_eq_true rfl) rfl ?_
  refine C_aload (dt_at dtX0_init 9 rfl) rfl rfl ⟨_, rfl⟩ ?_
  refine C_iconst (dt_at dtX0_init 10 rfl) ?_
  refine C_puts (fs' := [vr (j + 1), vi 0, vi 0]) (ci := 0) (i := 2) (v := vi 0) (dt_at dtX0_init 11 rfl) rfl (by decide) wF_X0_21 (fun _ => rfl) GC_n (fun _ => by first | rfl | decide) (fun _ => rfl) (fun _ h9 => by cases h9) (Nat.le_of_ble_eq_true rfl) rfl ?_
  exact C_ret (dt_at dtX0_init 12 rfl) rfl (by decide) (by decide)
def dX7 : List AV := [vs 0, vs 0, vs 0, vs 0, vi 0]
theorem dfX7 : ∀ i, i < 5 → ∀ as, defaultValue (tyT 7 i) = vp_V (dX7.map (cv as (fun _ => 0))) i := by
  intro i hi as
  rcases (show i = 0 ∨ i = 1 ∨ i = 2 ∨ i = 3 ∨ i = 4 by omega) with rfl | rfl | rfl | rfl | rfl <;> rfl
def fsX7 (j : Nat) : List AV := [vr (j + 1), vr (j + 2), vr (j + 3), vr (j + 4), vi 0]
def LX7 (_j : Nat) : List CE := (((([] ++ [.inr (1, 8)]) ++ [.inr (1, 8)]) ++ [.inr (1, 8)]) ++ [.inr (1, 8)])
def mX7_init : MI := (yX7_init, cX7_init, 1, none, { frames := 2, cells := 4, slots := 32, locals := 128 })
def tX7_init : List (Nat × Instr × Nat) := [(0, .aload_n 0, 1), (1, .invokespecial 3, 3), (4, .aload_n 0, 1), (5, .bipush 8, 2), (7, .newarray .int, 2), (9, .putfield 9, 3), (12, .aload_n 0, 1), (13, .bipush 8, 2), (15, .newarray .int, 2), (17, .putfield 15, 3), (20, .aload_n 0, 1), (21, .bipush 8, 2), (23, .newarray .int, 2), (25, .putfield 18, 3), (28, .aload_n 0, 1), (29, .bipush 8, 2), (31, .newarray .int, 2), (33, .putfield 21, 3), (36, .aload_n 0, 1), (37, .iconst 0, 1), (38, .putfield 24, 3), (41, .return_, 1)]
theorem dtX7_init : tX7_init.all (fun q => decide (decode cX7_init q.1 = .ok (q.2.1, q.2.2))) = true := by decide +kernel
theorem npX7_init : (parseMethodDescriptor (mY mX7_init).desc).map (fun d => d.parameters.length) = some 0 := by decide +kernel
set_option maxHeartbeats 4000000 in
set_option maxRecDepth 100000 in
theorem cX7 (j : Nat) : SpecC mX7_init (j + 1) j 7 dX7 [] [] (fsX7 j) (LX7 j) := by
  refine SpecC_of (by decide +kernel) rfl (Nat.le_of_ble_eq_true rfl) ?_
  refine C_aload (dt_at dtX7_init 0 rfl) rfl rfl ⟨_, rfl⟩ ?_
  refine C_obj (dt_at dtX7_init 1 rfl) wO_X7 wO_i wO_c (by decide) (by decide) ?_
  refine C_aload (dt_at dtX7_init 2 rfl) rfl rfl ⟨_, rfl⟩ ?_
  refine C_bipush (dt_at dtX7_init 3 rfl) (by decide) ?_
  refine C_newI (k := (j + 1)) (N := 8) (dt_at dtX7_init 4 rfl) (by decide) (by decide) (by decide) rfl (by decide) (by decide) ?_
  refine C_puts (fs' := [vr (j + 1), vs 0, vs 0, vs 0, vi 0]) (ci := 7) (i := 0) (v := vr (j + 1)) (dt_at dtX7_init 5 rfl) rfl (by decide) wF_X7_9 (fun _ => rfl) GC_n (fun _ => by first | rfl | decide) (fun _ => rfl) (fun _ h9 => by cases h9) (Nat.le_of_ble_eq_true rfl) rfl ?_
  refine C_aload (dt_at dtX7_init 6 rfl) rfl rfl ⟨_, rfl⟩ ?_
  refine C_bipush (dt_at dtX7_init 7 rfl) (by decide) ?_
  refine C_newI (k := (j + 2)) (N := 8) (dt_at dtX7_init 8 rfl) (by decide) (by decide) (by decide) rfl (by decide) (by decide) ?_
  refine C_puts (fs' := [vr (j + 1), vr (j + 2), vs 0, vs 0, vi 0]) (ci := 7) (i := 1) (v := vr (j + 2)) (dt_at dtX7_init 9 rfl) rfl (by decide) wF_X7_15 (fun _ => rfl) GC_n (fun _ => by first | rfl | decide) (fun _ => rfl) (fun _ h9 => by cases h9) (Nat.le_of_ble_eq_true rfl) rfl ?_
  refine C_aload (dt_at dtX7_init 10 rfl) rfl rfl ⟨_, rfl⟩ ?_
  refine C_bipush (dt_at dtX7_init 11 rfl) (by decide) ?_
  refine C_newI (k := (j + 3)) (N := 8) (dt_at dtX7_init 12 rfl) (by decide) (by decide) (by decide) rfl (by decide) (by decide) ?_
  refine C_puts (fs' := [vr (j + 1), vr (j + 2), vr (j + 3), vs 0, vi 0]) (ci := 7) (i := 2) (v := vr (j + 3)) (dt_at dtX7_init 13 rfl) rfl (by decide) wF_X7_18 (fun _ => rfl) GC_n (fun _ => by first | rfl | decide) (fun _ => rfl) (fun _ h9 => by cases h9) (Nat.le_of_ble_eq_true rfl) rfl ?_
  refine C_aload (dt_at dtX7_init 14 rfl) rfl rfl ⟨_, rfl⟩ ?_
  refine C_bipush (dt_at dtX7_init 15 rfl) (by decide) ?_
  refine C_newI (k := (j + 4)) (N := 8) (dt_at dtX7_init 16 rfl) (by decide) (by decide) (by decide) rfl (by decide) (by decide) ?_
  refine C_puts (fs' := [vr (j + 1), vr (j + 2), vr (j + 3), vr (j + 4), vi 0]) (ci := 7) (i := 3) (v := vr (j + 4)) (dt_at dtX7_init 17 rfl) rfl (by decide) wF_X7_21 (fun _ => rfl) GC_n (fun _ => by first | rfl | decide) (fun _ => rfl) (fun _ h9 => by cases h9) (Nat.le_of_ble_eq_true rfl) rfl ?_
  refine C_aload (dt_at dtX7_init 18 rfl) rfl rfl ⟨_, rfl⟩ ?_
  refine C_iconst (dt_at dtX7_init 19 rfl) ?_
  refine C_puts (fs' := [vr (j + 1), vr (j + 2), vr (j + 3), vr (j + 4), vi 0]) (ci := 7) (i := 4) (v := vi 0) (dt_at dtX7_init 20 rfl) rfl (by decide) wF_X7_24 (fun _ => rfl) GC_n (fun _ => by first | rfl | decide) (fun _ => rfl) (fun _ h9 => by cases h9) (Nat.le_of_ble_eq_true rfl) rfl ?_
  exact C_ret (dt_at dtX7_init 21 rfl) rfl (by decide) (by decide)
def dX1 : List AV := [vs 0, vs 0]
theorem dfX1 : ∀ i, i < 2 → ∀ as, defaultValue (tyT 1 i) = vp_V (dX1.map (cv as (fun _ => 0))) i := by
  intro i hi as
  rcases (show i = 0 ∨ i = 1 by omega) with rfl | rfl <;> rfl
def fsX1 (j : Nat) : List AV := [vr (j + 1), vr (j + 2)]
def LX1 (_j : Nat) : List CE := (([] ++ [.inr (1, 4)]) ++ [.inr (1, 4)])
def mX1_init : MI := (yX1_init, cX1_init, 1, none, { frames := 2, cells := 2, slots := 8, locals := 128 })
def tX1_init : List (Nat × Instr × Nat) := [(0, .aload_n 0, 1), (1, .invokespecial 3, 3), (4, .aload_n 0, 1), (5, .iconst 4, 1), (6, .newarray .int, 2), (8, .putfield 9, 3), (11, .aload_n 0, 1), (12, .iconst 4, 1), (13, .newarray .int, 2), (15, .putfield 15, 3), (18, .return_, 1)]
theorem dtX1_init : tX1_init.all (fun q => decide (decode cX1_init q.1 = .ok (q.2.1, q.2.2))) = true := by decide +kernel
theorem npX1_init : (parseMethodDescriptor (mY mX1_init).desc).map (fun d => d.parameters.length) = some 0 := by decide +kernel
set_option maxHeartbeats 4000000 in
set_option maxRecDepth 100000 in
theorem cX1 (j : Nat) : SpecC mX1_init (j + 1) j 1 dX1 [] [] (fsX1 j) (LX1 j) := by
  refine SpecC_of (by decide +kernel) rfl (Nat.le_of_ble_eq_true rfl) ?_
  refine C_aload (dt_at dtX1_init 0 rfl) rfl rfl ⟨_, rfl⟩ ?_
  refine C_obj (dt_at dtX1_init 1 rfl) wO_X1 wO_i wO_c (by decide) (by decide) ?_
  refine C_aload (dt_at dtX1_init 2 rfl) rfl rfl ⟨_, rfl⟩ ?_
  refine C_iconst (dt_at dtX1_init 3 rfl) ?_
  refine C_newI (k := (j + 1)) (N := 4) (dt_at dtX1_init 4 rfl) (by decide) (by decide) (by decide) rfl (by decide) (by decide) ?_
  refine C_puts (fs' := [vr (j + 1), vs 0]) (ci := 1) (i := 0) (v := vr (j + 1)) (dt_at dtX1_init 5 rfl) rfl (by decide) wF_X1_9 (fun _ => rfl) GC_n (fun _ => by first | rfl | decide) (fun _ => rfl) (fun _ h9 => by cases h9) (Nat.le_of_ble_eq_true rfl) rfl ?_
  refine C_aload (dt_at dtX1_init 6 rfl) rfl rfl ⟨_, rfl⟩ ?_
  refine C_iconst (dt_at dtX1_init 7 rfl) ?_
  refine C_newI (k := (j + 2)) (N := 4) (dt_at dtX1_init 8 rfl) (by decide) (by decide) (by decide) rfl (by decide) (by decide) ?_
  refine C_puts (fs' := [vr (j + 1), vr (j + 2)]) (ci := 1) (i := 1) (v := vr (j + 2)) (dt_at dtX1_init 9 rfl) rfl (by decide) wF_X1_15 (fun _ => rfl) GC_n (fun _ => by first | rfl | decide) (fun _ => rfl) (fun _ h9 => by cases h9) (Nat.le_of_ble_eq_true rfl) rfl ?_
  exact C_ret (dt_at dtX1_init 10 rfl) rfl (by decide) (by decide)
def dX5 : List AV := [vs 0, vs 0, vs 0, vi 0, vi 0, vi 0]
theorem dfX5 : ∀ i, i < 6 → ∀ as, defaultValue (tyT 5 i) = vp_V (dX5.map (cv as (fun _ => 0))) i := by
  intro i hi as
  rcases (show i = 0 ∨ i = 1 ∨ i = 2 ∨ i = 3 ∨ i = 4 ∨ i = 5 by omega) with rfl | rfl | rfl | rfl | rfl | rfl <;> rfl
def fsX5 (j a : Nat) : List AV := [vr (j + 1), vr a, vr (a + 9), vi 0, vi 0, vi (-1)]
def LX5 (j _a : Nat) : List CE := ([] ++ .inl (9, fsX9 (j + 1)) :: LX9 (j + 1))
def mX5_init : MI := (yX5_init, cX5_init, 2, none, { frames := 3, cells := 2, slots := 5, locals := 192 })
def tX5_init : List (Nat × Instr × Nat) := [(0, .aload_n 0, 1), (1, .invokespecial 3, 3), (4, .aload_n 0, 1), (5, .new 9, 3), (8, .dup, 1), (9, .invokespecial 11, 3), (12, .putfield 12, 3), (15, .aload_n 0, 1), (16, .iconst 0, 1), (17, .putfield 18, 3), (20, .aload_n 0, 1), (21, .iconst 0, 1), (22, .putfield 22, 3), (25, .aload_n 0, 1), (26, .iconst (-1), 1), (27, .putfield 26, 3), (30, .aload_n 0, 1), (31, .aload_n 1, 1), (32, .putfield 29, 3), (35, .aload_n 0, 1), (36, .aload_n 1, 1), (37, .getfield 33, 3), (40, .putfield 39, 3), (43, .return_, 1)]
theorem dtX5_init : tX5_init.all (fun q => decide (decode cX5_init q.1 = .ok (q.2.1, q.2.2))) = true := by decide +kernel
theorem npX5_init : (parseMethodDescriptor (mY mX5_init).desc).map (fun d => d.parameters.length) = some 1 := by decide +kernel
set_option maxHeartbeats 4000000 in
set_option maxRecDepth 100000 in
theorem cX5 (j a : Nat) (ha : a < j) : SpecC mX5_init (j + 1) j 5 dX5 [(a, .inl (3, fsX3 a))] [vr a] (fsX5 j a) (LX5 j a) := by
  refine SpecC_of (by decide +kernel) rfl (Nat.le_of_ble_eq_true rfl) ?_
  refine C_aload (dt_at dtX5_init 0 rfl) rfl rfl ⟨_, rfl⟩ ?_
  refine C_obj (dt_at dtX5_init 1 rfl) wO_X5 wO_i wO_c (by decide) (by decide) ?_
  refine C_aload (dt_at dtX5_init 2 rfl) rfl rfl ⟨_, rfl⟩ ?_
  refine C_new (ci := 9) (k := (j + 1)) (fs := dX9) (dt_at dtX5_init 3 rfl) rfl wK_X5_9 wIn_X9 wN_X9 dfX9 rfl (by decide) (by decide) ?_
  refine C_dup (dt_at dtX5_init 4 rfl) rfl ?_
  refine C_call (M' := mX9_init) (pars := []) (st := [vr (j + 1), vr j]) (dt_at dtX5_init 5 rfl) (cX9 (j + 1)) rfl rfl rfl wL_X5_11 wI_X9_init wN_X9 wC_X9_init ⟨by decide, by decide⟩ rfl rfl npX9_init (by decide) (by decide) (Nat.le_of_ble_eq_true rfl) (by decide) (by decide) GC_a (fun _ _ _ _ _ _ _ q hq => nomatch hq) ?_
  refine C_puts (fs' := [vr (j + 1), vs 0, vs 0, vi 0, vi 0, vi 0]) (ci := 5) (i := 0) (v := vr (j + 1)) (dt_at dtX5_init 6 rfl) rfl (by decide) wF_X5_12 (fun _ => rfl) GC_n (fun _ => by first | rfl | decide) (fun _ => rfl) (fun _ h9 => by cases h9) (Nat.le_of_ble_eq_true rfl) rfl ?_
  refine C_aload (dt_at dtX5_init 7 rfl) rfl rfl ⟨_, rfl⟩ ?_
  refine C_iconst (dt_at dtX5_init 8 rfl) ?_
  refine C_puts (fs' := [vr (j + 1), vs 0, vs 0, vi 0, vi 0, vi 0]) (ci := 5) (i := 3) (v := vi 0) (dt_at dtX5_init 9 rfl) rfl (by decide) wF_X5_18 (fun _ => rfl) GC_n (fun _ => by first | rfl | decide) (fun _ => rfl) (fun _ h9 => by cases h9) (Nat.le_of_ble_eq_true rfl) rfl ?_
  refine C_aload (dt_at dtX5_init 10 rfl) rfl rfl ⟨_, rfl⟩ ?_
  refine C_iconst (dt_at dtX5_init 11 rfl) ?_
  refine C_puts (fs' := [vr (j + 1), vs 0, vs 0, vi 0, vi 0, vi 0]) (ci := 5) (i := 4) (v := vi 0) (dt_at dtX5_init 12 rfl) rfl (by decide) wF_X5_22 (fun _ => rfl) GC_n (fun _ => by first | rfl | decide) (fun _ => rfl) (fun _ h9 => by cases h9) (Nat.le_of_ble_eq_true rfl) rfl ?_
  refine C_aload (dt_at dtX5_init 13 rfl) rfl rfl ⟨_, rfl⟩ ?_
  refine C_iconst (dt_at dtX5_init 14 rfl) ?_
  refine C_puts (fs' := [vr (j + 1), vs 0, vs 0, vi 0, vi 0, vi (-1)]) (ci := 5) (i := 5) (v := vi (-1)) (dt_at dtX5_init 15 rfl) rfl (by decide) wF_X5_26 (fun _ => rfl) GC_n (fun _ => by first | rfl | decide) (fun _ => rfl) (fun _ h9 => by cases h9) (Nat.le_of_ble_eq_true rfl) rfl ?_
  refine C_aload (dt_at dtX5_init 16 rfl) rfl rfl ⟨_, rfl⟩ ?_
  refine C_aload (dt_at dtX5_init 17 rfl) rfl rfl ⟨_, rfl⟩ ?_
  refine C_puts (fs' := [vr (j + 1), vr a, vs 0, vi 0, vi 0, vi (-1)]) (ci := 5) (i := 1) (v := vr a) (dt_at dtX5_init 18 rfl) rfl (by decide) wF_X5_29 (fun _ => rfl) GC_n (fun _ => by first | rfl | decide) (fun _ => rfl) (fun _ h9 => by cases h9) (Nat.le_of_ble_eq_true rfl) rfl ?_
  refine C_aload (dt_at dtX5_init 19 rfl) rfl rfl ⟨_, rfl⟩ ?_
  refine C_aload (dt_at dtX5_init 20 rfl) rfl rfl ⟨_, rfl⟩ ?_
  refine C_getK (ci := 3) (i := 8) (v := vr (a + 9)) (fs := fsX3 a) (dt_at dtX5_init 21 rfl) rfl (by decide) wF_X5_33 rfl ⟨_, rfl⟩ ⟨by omega, by omega⟩ (fun t h9 => h9.2.2 _ List.mem_cons_self) ?_
  refine C_puts (fs' := [vr (j + 1), vr a, vr (a + 9), vi 0, vi 0, vi (-1)]) (ci := 5) (i := 2) (v := vr (a + 9)) (dt_at dtX5_init 22 rfl) rfl (by decide) wF_X5_39 (fun _ => rfl) GC_n (fun _ => by first | rfl | decide) (fun _ => rfl) (fun _ h9 => by cases h9) (Nat.le_of_ble_eq_true rfl) rfl ?_
  exact C_ret (dt_at dtX5_init 23 rfl) rfl (by decide) (by decide)
def dX10 : List AV := [vs 0, vs 0, vs 0, vs 0, vs 0, vs 0, vi 0, vi 0]
theorem dfX10 : ∀ i, i < 8 → ∀ as, defaultValue (tyT 10 i) = vp_V (dX10.map (cv as (fun _ => 0))) i := by
  intro i hi as
  rcases (show i = 0 ∨ i = 1 ∨ i = 2 ∨ i = 3 ∨ i = 4 ∨ i = 5 ∨ i = 6 ∨ i = 7 by omega) with rfl | rfl | rfl | rfl | rfl | rfl | rfl | rfl <;> rfl
def fsX10 (j a : Nat) : List AV := [vr (j + 1), vr (j + 3), vr (j + 4), vr (j + 5), vr (j + 6), vr a, vi 0, vi 0]
def LX10 (j _a : Nat) : List CE := ((((([] ++ .inl (8, fsX8 (j + 1)) :: LX8 (j + 1)) ++ [.inr (1, 8)]) ++ [.inr (1, 7)]) ++ [.inr (1, 9)]) ++ [.inr (1, 9)])
def mX10_init : MI := (yX10_init, cX10_init, 2, none, { frames := 3, cells := 6, slots := 111, locals := 192 })
def tX10_init : List (Nat × Instr × Nat) := [(0, .aload_n 0, 1), (1, .invokespecial 3, 3), (4, .aload_n 0, 1), (5, .new 9, 3), (8, .dup, 1), (9, .invokespecial 11, 3), (12, .putfield 12, 3), (15, .aload_n 0, 1), (16, .bipush 8, 2), (18, .newarray .int, 2), (20, .putfield 20, 3), (23, .aload_n 0, 1), (24, .bipush 7, 2), (26, .newarray .int, 2), (28, .putfield 24, 3), (31, .aload_n 0, 1), (32, .bipush 9, 2), (34, .newarray .int, 2), (36, .putfield 27, 3), (39, .aload_n 0, 1), (40, .bipush 9, 2), (42, .newarray .int, 2), (44, .putfield 30, 3), (47, .aload_n 0, 1), (48, .iconst 0, 1), (49, .putfield 33, 3), (52, .aload_n 0, 1), (53, .iconst 0, 1), (54, .putfield 37, 3), (57, .aload_n 0, 1), (58, .aload_n 1, 1), (59, .putfield 40, 3), (62, .return_, 1)]
theorem dtX10_init : tX10_init.all (fun q => decide (decode cX10_init q.1 = .ok (q.2.1, q.2.2))) = true := by decide +kernel
theorem npX10_init : (parseMethodDescriptor (mY mX10_init).desc).map (fun d => d.parameters.length) = some 1 := by decide +kernel
set_option maxHeartbeats 4000000 in
set_option maxRecDepth 100000 in
theorem cX10 (j a : Nat) : SpecC mX10_init (j + 1) j 10 dX10 [] [vr a] (fsX10 j a) (LX10 j a) := by
  refine SpecC_of (by decide +kernel) rfl (Nat.le_of_ble_eq_true rfl) ?_
  refine C_aload (dt_at dtX10_init 0 rfl) rfl rfl ⟨_, rfl⟩ ?_
  refine C_obj (dt_at dtX10_init 1 rfl) wO_X10 wO_i wO_c (by decide) (by decide) ?_
  refine C_aload (dt_at dtX10_init 2 rfl) rfl rfl ⟨_, rfl⟩ ?_
  refine C_new (ci := 8) (k := (j + 1)) (fs := dX8) (dt_at dtX10_init 3 rfl) rfl wK_X10_9 wIn_X8 wN_X8 dfX8 rfl (by decide) (by decide) ?_
  refine C_dup (dt_at dtX10_init 4 rfl) rfl ?_
  refine C_call (M' := mX8_init) (pars := []) (st := [vr (j + 1), vr j]) (dt_at dtX10_init 5 rfl) (cX8 (j + 1)) rfl rfl rfl wL_X10_11 wI_X8_init wN_X8 wC_X8_init ⟨by decide, by decide⟩ rfl rfl npX8_init (by decide) (by decide) (Nat.le_of_ble_eq_true rfl) (by decide) (by decide) GC_a (fun _ _ _ _ _ _ _ q hq => nomatch hq) ?_
  refine C_puts (fs' := [vr (j + 1), vs 0, vs 0, vs 0, vs 0, vs 0, vi 0, vi 0]) (ci := 10) (i := 0) (v := vr (j + 1)) (dt_at dtX10_init 6 rfl) rfl (by decide) wF_X10_12 (fun _ => rfl) GC_n (fun _ => by first | rfl | decide) (fun _ => rfl) (fun _ h9 => by cases h9) (Nat.le_of_ble_eq_true rfl) rfl ?_
  refine C_aload (dt_at dtX10_init 7 rfl) rfl rfl ⟨_, rfl⟩ ?_
  refine C_bipush (dt_at dtX10_init 8 rfl) (by decide) ?_
  refine C_newI (k := (j + 3)) (N := 8) (dt_at dtX10_init 9 rfl) (by decide) (by decide) (by decide) rfl (by decide) (by decide) ?_
  refine C_puts (fs' := [vr (j + 1), vr (j + 3), vs 0, vs 0, vs 0, vs 0, vi 0, vi 0]) (ci := 10) (i := 1) (v := vr (j + 3)) (dt_at dtX10_init 10 rfl) rfl (by decide) wF_X10_20 (fun _ => rfl) GC_n (fun _ => by first | rfl | decide) (fun _ => rfl) (fun _ h9 => by cases h9) (Nat.le_of_ble_eq_true rfl) rfl ?_
  refine C_aload (dt_at dtX10_init 11 rfl) rfl rfl ⟨_, rfl⟩ ?_
  refine C_bipush (dt_at dtX10_init 12 rfl) (by decide) ?_
  refine C_newI (k := (j + 4)) (N := 7) (dt_at dtX10_init 13 rfl) (by decide) (by decide) (by decide) rfl (by decide) (by decide) ?_
  refine C_puts (fs' := [vr (j + 1), vr (j + 3), vr (j + 4), vs 0, vs 0, vs 0, vi 0, vi 0]) (ci := 10) (i := 2) (v := vr (j + 4)) (dt_at dtX10_init 14 rfl) rfl (by decide) wF_X10_24 (fun _ => rfl) GC_n (fun _ => by first | rfl | decide) (fun _ => rfl) (fun _ h9 => by cases h9) (Nat.le_of_ble_eq_true rfl) rfl ?_
  refine C_aload (dt_at dtX10_init 15 rfl) rfl rfl ⟨_, rfl⟩ ?_
  refine C_bipush (dt_at dtX10_init 16 rfl) (by decide) ?_
  refine C_newI (k := (j + 5)) (N := 9) (dt_at dtX10_init 17 rfl) (by decide) (by decide) (by decide) rfl (by decide) (by decide) ?_
  refine C_puts (fs' := [vr (j + 1), vr (j + 3), vr (j + 4), vr (j + 5), vs 0, vs 0, vi 0, vi 0]) (ci := 10) (i := 3) (v := vr (j + 5)) (dt_at dtX10_init 18 rfl) rfl (by decide) wF_X10_27 (fun _ => rfl) GC_n (fun _ => by first | rfl | decide) (fun _ => rfl) (fun _ h9 => by cases h9) (Nat.le_of_ble_eq_true rfl) rfl ?_
  refine C_aload (dt_at dtX10_init 19 rfl) rfl rfl ⟨_, rfl⟩ ?_
  refine C_bipush (dt_at dtX10_init 20 rfl) (by decide) ?_
  refine C_newI (k := (j + 6)) (N := 9) (dt_at dtX10_init 21 rfl) (by decide) (by decide) (by decide) rfl (by decide) (by decide) ?_
  refine C_puts (fs' := [vr (j + 1), vr (j + 3), vr (j + 4), vr (j + 5), vr (j + 6), vs 0, vi 0, vi 0]) (ci := 10) (i := 4) (v := vr (j + 6)) (dt_at dtX10_init 22 rfl) rfl (by decide) wF_X10_30 (fun _ => rfl) GC_n (fun _ => by first | rfl | decide) (fun _ => rfl) (fun _ h9 => by cases h9) (Nat.le_of_ble_eq_true rfl) rfl ?_
  refine C_aload (dt_at dtX10_init 23 rfl) rfl rfl ⟨_, rfl⟩ ?_
  refine C_iconst (dt_at dtX10_init 24 rfl) ?_
  refine C_puts (fs' := [vr (j + 1), vr (j + 3), vr (j + 4), vr (j + 5), vr (j + 6), vs 0, vi 0, vi 0]) (ci := 10) (i := 6) (v := vi 0) (dt_at dtX10_init 25 rfl) rfl (by decide) wF_X10_33 (fun _ => rfl) GC_n (fun _ => by first | rfl | decide) (fun _ => rfl) (fun _ h9 => by cases h9) (Nat.le_of_ble_eq_true rfl) rfl ?_
  refine C_aload (dt_at dtX10_init 26 rfl) rfl rfl ⟨_, rfl⟩ ?_
  refine C_iconst (dt_at dtX10_init 27 rfl) ?_
  refine C_puts (fs' := [vr (j + 1), vr (j + 3), vr (j + 4), vr (j + 5), vr (j + 6), vs 0, vi 0, vi 0]) (ci := 10) (i := 7) (v := vi 0) (dt_at dtX10_init 28 rfl) rfl (by decide) wF_X10_37 (fun _ => rfl) GC_n (fun _ => by first | rfl | decide) (fun _ => rfl) (fun _ h9 => by cases h9) (Nat.le_of_ble_eq_true rfl) rfl ?_
  refine C_aload (dt_at dtX10_init 29 rfl) rfl rfl ⟨_, rfl⟩ ?_
  refine C_aload (dt_at dtX10_init 30 rfl) rfl rfl ⟨_, rfl⟩ ?_
  refine C_puts (fs' := [vr (j + 1), vr (j + 3), vr (j + 4), vr (j + 5), vr (j + 6), vr a, vi 0, vi 0]) (ci := 10) (i := 5) (v := vr a) (dt_at dtX10_init 31 rfl) rfl (by decide) wF_X10_40 (fun _ => rfl) GC_n (fun _ => by first | rfl | decide) (fun _ => rfl) (fun _ h9 => by cases h9) (Nat.le_of_ble_eq_true rfl) rfl ?_
  exact C_ret (dt_at dtX10_init 32 rfl) rfl (by decide) (by decide)
def dX4 : List AV := [vs 0, vs 0, vs 0]
theorem dfX4 : ∀ i, i < 3 → ∀ as, defaultValue (tyT 4 i) = vp_V (dX4.map (cv as (fun _ => 0))) i := by
  intro i hi as
  rcases (show i = 0 ∨ i = 1 ∨ i = 2 by omega) with rfl | rfl | rfl <;> rfl
def fsX4 (j a b : Nat) : List AV := [vr (j + 1), vr a, vr b]
def LX4 (_j _a _b : Nat) : List CE := ([] ++ .inr (5, 7) :: List.replicate 7 (.inr (1, 61)))
def mX4_init : MI := (yX4_init, cX4_init, 3, none, { frames := 1, cells := 8, slots := 434, locals := 64 })
def tX4_init : List (Nat × Instr × Nat) := [(0, .aload_n 0, 1), (1, .invokespecial 3, 3), (4, .aload_n 0, 1), (5, .bipush 7, 2), (7, .bipush 61, 2), (9, .multianewarray 9 2, 4), (13, .putfield 11, 3), (16, .aload_n 0, 1), (17, .aload_n 1, 1), (18, .putfield 16, 3), (21, .aload_n 0, 1), (22, .aload_n 2, 1), (23, .putfield 20, 3), (26, .return_, 1)]
theorem dtX4_init : tX4_init.all (fun q => decide (decode cX4_init q.1 = .ok (q.2.1, q.2.2))) = true := by decide +kernel
theorem npX4_init : (parseMethodDescriptor (mY mX4_init).desc).map (fun d => d.parameters.length) = some 2 := by decide +kernel
set_option maxHeartbeats 4000000 in
set_option maxRecDepth 100000 in
theorem cX4 (j a b : Nat) : SpecC mX4_init (j + 1) j 4 dX4 [] [vr a, vr b] (fsX4 j a b) (LX4 j a b) := by
  refine SpecC_of (by decide +kernel) rfl (Nat.le_of_ble_eq_true rfl) ?_
  refine C_aload (dt_at dtX4_init 0 rfl) rfl rfl ⟨_, rfl⟩ ?_
  refine C_obj (dt_at dtX4_init 1 rfl) wO_X4 wO_i wO_c (by decide) (by decide) ?_
  refine C_aload (dt_at dtX4_init 2 rfl) rfl rfl ⟨_, rfl⟩ ?_
  refine C_bipush (dt_at dtX4_init 3 rfl) (by decide) ?_
  refine C_bipush (dt_at dtX4_init 4 rfl) (by decide) ?_
  refine C_mna (k := (j + 1)) (N := 7) (K9 := 61) (dt_at dtX4_init 5 rfl) wK_X4_9 wAr_int GC_a (by decide) (by decide) (by decide) (by decide) (by decide) (by decide) rfl (by decide) (by decide) ?_
  refine C_puts (fs' := [vr (j + 1), vs 0, vs 0]) (ci := 4) (i := 0) (v := vr (j + 1)) (dt_at dtX4_init 6 rfl) rfl (by decide) wF_X4_11 (fun _ => rfl) GC_n (fun _ => by first | rfl | decide) (fun _ => rfl) (fun _ h9 => by cases h9) (Nat.le_of_ble_eq_true rfl) rfl ?_
  refine C_aload (dt_at dtX4_init 7 rfl) rfl rfl ⟨_, rfl⟩ ?_
  refine C_aload (dt_at dtX4_init 8 rfl) rfl rfl ⟨_, rfl⟩ ?_
  refine C_puts (fs' := [vr (j + 1), vr a, vs 0]) (ci := 4) (i := 1) (v := vr a) (dt_at dtX4_init 9 rfl) rfl (by decide) wF_X4_16 (fun _ => rfl) GC_n (fun _ => by first | rfl | decide) (fun _ => rfl) (fun _ h9 => by cases h9) (Nat.le_of_ble_eq_true rfl) rfl ?_
  refine C_aload (dt_at dtX4_init 10 rfl) rfl rfl ⟨_, rfl⟩ ?_
  refine C_aload (dt_at dtX4_init 11 rfl) rfl rfl ⟨_, rfl⟩ ?_
  refine C_puts (fs' := [vr (j + 1), vr a, vr b]) (ci := 4) (i := 2) (v := vr b) (dt_at dtX4_init 12 rfl) rfl (by decide) wF_X4_20 (fun _ => rfl) GC_n (fun _ => by first | rfl | decide) (fun _ => rfl) (fun _ h9 => by cases h9) (Nat.le_of_ble_eq_true rfl) rfl ?_
  exact C_ret (dt_at dtX4_init 13 rfl) rfl (by decide) (by decide)
def dX2 : List AV := [vs 0, vs 0, vs 0, vs 0, vi 0, vi 0]
theorem dfX2 : ∀ i, i < 6 → ∀ as, defaultValue (tyT 2 i) = vp_V (dX2.map (cv as (fun _ => 0))) i := by
  intro i hi as
  rcases (show i = 0 ∨ i = 1 ∨ i = 2 ∨ i = 3 ∨ i = 4 ∨ i = 5 by omega) with rfl | rfl | rfl | rfl | rfl | rfl <;> rfl
def fsX2 (j a : Nat) : List AV := [vr (j + 10), vr (j + 1), vr (j + 2), vr (j + 9), vi 0, vi 0]
def LX2 (j a : Nat) : List CE := (((([] ++ [.inr (1, 70)]) ++ .inr (5, 6) :: List.replicate 6 (.inr (1, 70))) ++ [.inr (1, 6)]) ++ .inl (10, fsX10 (j + 10) a) :: LX10 (j + 10) a)
def mX2_init : MI := (yX2_init, cX2_init, 2, none, { frames := 4, cells := 16, slots := 621, locals := 256 })
def tX2_init : List (Nat × Instr × Nat) := [(0, .aload_n 0, 1), (1, .invokespecial 3, 3), (4, .aload_n 0, 1), (5, .bipush 70, 2), (7, .newarray .int, 2), (9, .putfield 9, 3), (12, .aload_n 0, 1), (13, .bipush 6, 2), (15, .bipush 70, 2), (17, .multianewarray 15 2, 4), (21, .putfield 17, 3), (24, .aload_n 0, 1), (25, .bipush 6, 2), (27, .newarray .int, 2), (29, .putfield 20, 3), (32, .aload_n 0, 1), (33, .iconst 0, 1), (34, .putfield 23, 3), (37, .aload_n 0, 1), (38, .iconst 0, 1), (39, .putfield 27, 3), (42, .aload_n 0, 1), (43, .new 30, 3), (46, .dup, 1), (47, .aload_n 1, 1), (48, .invokespecial 32, 3), (51, .putfield 35, 3), (54, .return_, 1)]
theorem dtX2_init : tX2_init.all (fun q => decide (decode cX2_init q.1 = .ok (q.2.1, q.2.2))) = true := by decide +kernel
theorem npX2_init : (parseMethodDescriptor (mY mX2_init).desc).map (fun d => d.parameters.length) = some 1 := by decide +kernel
set_option maxHeartbeats 4000000 in
set_option maxRecDepth 100000 in
theorem cX2 (j a : Nat) : SpecC mX2_init (j + 1) j 2 dX2 [] [vr a] (fsX2 j a) (LX2 j a) := by
  refine SpecC_of (by decide +kernel) rfl (Nat.le_of_ble_eq_true rfl) ?_
  refine C_aload (dt_at dtX2_init 0 rfl) rfl rfl ⟨_, rfl⟩ ?_
  refine C_obj (dt_at dtX2_init 1 rfl) wO_X2 wO_i wO_c (by decide) (by decide) ?_
  refine C_aload (dt_at dtX2_init 2 rfl) rfl rfl ⟨_, rfl⟩ ?_
  refine C_bipush (dt_at dtX2_init 3 rfl) (by decide) ?_
  refine C_newI (k := (j + 1)) (N := 70) (dt_at dtX2_init 4 rfl) (by decide) (by decide) (by decide) rfl (by decide) (by decide) ?_
  refine C_puts (fs' := [vs 0, vr (j + 1), vs 0, vs 0, vi 0, vi 0]) (ci := 2) (i := 1) (v := vr (j + 1)) (dt_at dtX2_init 5 rfl) rfl (by decide) wF_X2_9 (fun _ => rfl) GC_n (fun _ => by first | rfl | decide) (fun _ => rfl) (fun _ h9 => by cases h9) (Nat.le_of_ble_eq_true rfl) rfl ?_
  refine C_aload (dt_at dtX2_init 6 rfl) rfl rfl ⟨_, rfl⟩ ?_
  refine C_bipush (dt_at dtX2_init 7 rfl) (by decide) ?_
  refine C_bipush (dt_at dtX2_init 8 rfl) (by decide) ?_
  refine C_mna (k := (j + 2)) (N := 6) (K9 := 70) (dt_at dtX2_init 9 rfl) wK_X2_15 wAr_int GC_a (by decide) (by decide) (by decide) (by decide) (by decide) (by decide) rfl (by decide) (by decide) ?_
  refine C_puts (fs' := [vs 0, vr (j + 1), vr (j + 2), vs 0, vi 0, vi 0]) (ci := 2) (i := 2) (v := vr (j + 2)) (dt_at dtX2_init 10 rfl) rfl (by decide) wF_X2_17 (fun _ => rfl) GC_n (fun _ => by first | rfl | decide) (fun _ => rfl) (fun _ h9 => by cases h9) (Nat.le_of_ble_eq_true rfl) rfl ?_
  refine C_aload (dt_at dtX2_init 11 rfl) rfl rfl ⟨_, rfl⟩ ?_
  refine C_bipush (dt_at dtX2_init 12 rfl) (by decide) ?_
  refine C_newI (k := (j + 9)) (N := 6) (dt_at dtX2_init 13 rfl) (by decide) (by decide) (by decide) rfl (by decide) (by decide) ?_
  refine C_puts (fs' := [vs 0, vr (j + 1), vr (j + 2), vr (j + 9), vi 0, vi 0]) (ci := 2) (i := 3) (v := vr (j + 9)) (dt_at dtX2_init 14 rfl) rfl (by decide) wF_X2_20 (fun _ => rfl) GC_n (fun _ => by first | rfl | decide) (fun _ => rfl) (fun _ h9 => by cases h9) (Nat.le_of_ble_eq_true rfl) rfl ?_
  refine C_aload (dt_at dtX2_init 15 rfl) rfl rfl ⟨_, rfl⟩ ?_
  refine C_iconst (dt_at dtX2_init 16 rfl) ?_
  refine C_puts (fs' := [vs 0, vr (j + 1), vr (j + 2), vr (j + 9), vi 0, vi 0]) (ci := 2) (i := 4) (v := vi 0) (dt_at dtX2_init 17 rfl) rfl (by decide) wF_X2_23 (fun _ => rfl) GC_n (fun _ => by first | rfl | decide) (fun _ => rfl) (fun _ h9 => by cases h9) (Nat.le_of_ble_eq_true rfl) rfl ?_
  refine C_aload (dt_at dtX2_init 18 rfl) rfl rfl ⟨_, rfl⟩ ?_
  refine C_iconst (dt_at dtX2_init 19 rfl) ?_
  refine C_puts (fs' := [vs 0, vr (j + 1), vr (j + 2), vr (j + 9), vi 0, vi 0]) (ci := 2) (i := 5) (v := vi 0) (dt_at dtX2_init 20 rfl) rfl (by decide) wF_X2_27 (fun _ => rfl) GC_n (fun _ => by first | rfl | decide) (fun _ => rfl) (fun _ h9 => by cases h9) (Nat.le_of_ble_eq_true rfl) rfl ?_
  refine C_aload (dt_at dtX2_init 21 rfl) rfl rfl ⟨_, rfl⟩ ?_
  refine C_new (ci := 10) (k := (j + 10)) (fs := dX10) (dt_at dtX2_init 22 rfl) rfl wK_X2_30 wIn_X10 wN_X10 dfX10 rfl (by decide) (by decide) ?_
  refine C_dup (dt_at dtX2_init 23 rfl) rfl ?_
  refine C_aload (dt_at dtX2_init 24 rfl) rfl rfl ⟨_, rfl⟩ ?_
  refine C_call (M' := mX10_init) (pars := [vr a]) (st := [vr (j + 10), vr j]) (dt_at dtX2_init 25 rfl) (cX10 (j + 10) a) rfl rfl rfl wL_X2_32 wI_X10_init wN_X10 wC_X10_init ⟨by decide, by decide⟩ rfl rfl npX10_init (by decide) (by decide) (Nat.le_of_ble_eq_true rfl) (by decide) (by decide) GC_a (fun _ _ _ _ _ _ _ q hq => nomatch hq) ?_
  refine C_puts (fs' := [vr (j + 10), vr (j + 1), vr (j + 2), vr (j + 9), vi 0, vi 0]) (ci := 2) (i := 0) (v := vr (j + 10)) (dt_at dtX2_init 26 rfl) rfl (by decide) wF_X2_35 (fun _ => rfl) GC_n (fun _ => by first | rfl | decide) (fun _ => rfl) (fun _ h9 => by cases h9) (Nat.le_of_ble_eq_true rfl) rfl ?_
  exact C_ret (dt_at dtX2_init 27 rfl) rfl (by decide) (by decide)
def dX11 : List AV := [vs 0, vs 0, vs 0, vs 0, vs 0, vs 0, vs 0, vs 0, vs 0, vs 0, vs 0, vs 0, vs 0, vs 0, vs 0, vi 0, vi 0, vi 0]
theorem dfX11 : ∀ i, i < 18 → ∀ as, defaultValue (tyT 11 i) = vp_V (dX11.map (cv as (fun _ => 0))) i := by
  intro i hi as
  rcases (show i = 0 ∨ i = 1 ∨ i = 2 ∨ i = 3 ∨ i = 4 ∨ i = 5 ∨ i = 6 ∨ i = 7 ∨ i = 8 ∨ i = 9 ∨ i = 10 ∨ i = 11 ∨ i = 12 ∨ i = 13 ∨ i = 14 ∨ i = 15 ∨ i = 16 ∨ i = 17 by omega) with rfl | rfl | rfl | rfl | rfl | rfl | rfl | rfl | rfl | rfl | rfl | rfl | rfl | rfl | rfl | rfl | rfl | rfl <;> rfl
def fsX11 (j : Nat) : List AV := [vr (j + 1), vr (j + 2), vr (j + 3), vr (j + 18), vr (j + 33), vr (j + 36), vr (j + 38), vr (j + 40), vr (j + 45), vr (j + 47), vr (j + 49), vr (j + 54), vr (j + 61), vr (j + 70), vr (j + 87), vi 0, vi (-1), vi 0]
def LX11 (j : Nat) : List CE := ((((((((((((((([] ++ [.inr (2, 700)]) ++ [.inr (1, 3)]) ++ .inl (3, fsX3 (j + 3)) :: LX3 (j + 3)) ++ .inl (3, fsX3 (j + 18)) :: LX3 (j + 18)) ++ .inl (5, fsX5 (j + 33) (j + 18)) :: LX5 (j + 33) (j + 18)) ++ .inl (8, fsX8 (j + 36)) :: LX8 (j + 36)) ++ .inl (0, fsX0 (j + 38)) :: LX0 (j + 38)) ++ .inl (7, fsX7 (j + 40)) :: LX7 (j + 40)) ++ .inl (8, fsX8 (j + 45)) :: LX8 (j + 45)) ++ .inl (0, fsX0 (j + 47)) :: LX0 (j + 47)) ++ .inl (7, fsX7 (j + 49)) :: LX7 (j + 49)) ++ .inl (10, fsX10 (j + 54) (j + 3)) :: LX10 (j + 54) (j + 3)) ++ .inl (4, fsX4 (j + 61) (j + 3) (j + 36)) :: LX4 (j + 61) (j + 3) (j + 36)) ++ .inl (2, fsX2 (j + 70) (j + 3)) :: LX2 (j + 70) (j + 3)) ++ .inl (1, fsX1 (j + 87)) :: LX1 (j + 87))
def mX11_init : MI := (yX11_init, cX11_init, 1, none, { frames := 5, cells := 89, slots := 11505, locals := 320 })
def tX11_init : List (Nat × Instr × Nat) := [(0, .aload_n 0, 1), (1, .invokespecial 1, 3), (4, .aload_n 0, 1), (5, .sipush 700, 3), (8, .newarray .byte, 2), (10, .putfield 9, 3), (13, .aload_n 0, 1), (14, .iconst 3, 1), (15, .newarray .int, 2), (17, .putfield 13, 3), (20, .aload_n 0, 1), (21, .new 17, 3), (24, .dup, 1), (25, .invokespecial 19, 3), (28, .putfield 20, 3), (31, .aload_n 0, 1), (32, .new 17, 3), (35, .dup, 1), (36, .invokespecial 19, 3), (39, .putfield 24, 3), (42, .aload_n 0, 1), (43, .new 27, 3), (46, .dup, 1), (47, .aload_n 0, 1), (48, .getfield 24, 3), (51, .invokespecial 29, 3), (54, .putfield 32, 3), (57, .aload_n 0, 1), (58, .new 36, 3), (61, .dup, 1), (62, .invokespecial 38, 3), (65, .putfield 39, 3), (68, .aload_n 0, 1), (69, .new 43, 3), (72, .dup, 1), (73, .invokespecial 45, 3), (76, .putfield 46, 3), (79, .aload_n 0, 1), (80, .new 50, 3), (83, .dup, 1), (84, .invokespecial 52, 3), (87, .putfield 53, 3), (90, .aload_n 0, 1), (91, .new 36, 3), (94, .dup, 1), (95, .invokespecial 38, 3), (98, .putfield 57, 3), (101, .aload_n 0, 1), (102, .new 43, 3), (105, .dup, 1), (106, .invokespecial 45, 3), (109, .putfield 60, 3), (112, .aload_n 0, 1), (113, .new 50, 3), (116, .dup, 1), (117, .invokespecial 52, 3), (120, .putfield 63, 3), (123, .aload_n 0, 1), (124, .new 66, 3), (127, .dup, 1), (128, .aload_n 0, 1), (129, .getfield 20, 3), (132, .invokespecial 68, 3), (135, .putfield 69, 3), (138, .aload_n 0, 1), (139, .new 73, 3), (142, .dup, 1), (143, .aload_n 0, 1), (144, .getfield 20, 3), (147, .aload_n 0, 1), (148, .getfield 39, 3), (151, .invokespecial 75, 3), (154, .putfield 78, 3), (157, .aload_n 0, 1), (158, .new 82, 3), (161, .dup, 1), (162, .aload_n 0, 1), (163, .getfield 20, 3), (166, .invokespecial 84, 3), (169, .putfield 85, 3), (172, .aload_n 0, 1), (173, .new 89, 3), (176, .dup, 1), (177, .invokespecial 91, 3), (180, .putfield 92, 3), (183, .aload_n 0, 1), (184, .iconst 0, 1), (185, .putfield 96, 3), (188, .aload_n 0, 1), (189, .iconst (-1), 1), (190, .putfield 100, 3), (193, .aload_n 0, 1), (194, .iconst 0, 1), (195, .putfield 103, 3), (198, .return_, 1)]
theorem dtX11_init : tX11_init.all (fun q => decide (decode cX11_init q.1 = .ok (q.2.1, q.2.2))) = true := by decide +kernel
theorem npX11_init : (parseMethodDescriptor (mY mX11_init).desc).map (fun d => d.parameters.length) = some 0 := by decide +kernel
set_option maxHeartbeats 4000000 in
set_option maxRecDepth 100000 in
theorem cX11 (j : Nat) : SpecC mX11_init (j + 1) j 11 dX11 [] [] (fsX11 j) (LX11 j) := by
  refine SpecC_of (by decide +kernel) rfl (Nat.le_of_ble_eq_true rfl) ?_
  refine C_aload (dt_at dtX11_init 0 rfl) rfl rfl ⟨_, rfl⟩ ?_
  refine C_obj (dt_at dtX11_init 1 rfl) wO_X11 wO_i wO_c (by decide) (by decide) ?_
  refine C_aload (dt_at dtX11_init 2 rfl) rfl rfl ⟨_, rfl⟩ ?_
  refine C_sipush (dt_at dtX11_init 3 rfl) (by decide) ?_
  refine C_newB (k := (j + 1)) (N := 700) (dt_at dtX11_init 4 rfl) (by decide) (by decide) (by decide) rfl (by decide) (by decide) ?_
  refine C_puts (fs' := [vr (j + 1), vs 0, vs 0, vs 0, vs 0, vs 0, vs 0, vs 0, vs 0, vs 0, vs 0, vs 0, vs 0, vs 0, vs 0, vi 0, vi 0, vi 0]) (ci := 11) (i := 0) (v := vr (j + 1)) (dt_at dtX11_init 5 rfl) rfl (by decide) wF_X11_9 (fun _ => rfl) GC_n (fun _ => by first | rfl | decide) (fun _ => rfl) (fun _ h9 => by cases h9) (Nat.le_of_ble_eq_true rfl) rfl ?_
  refine C_aload (dt_at dtX11_init 6 rfl) rfl rfl ⟨_, rfl⟩ ?_
  refine C_iconst (dt_at dtX11_init 7 rfl) ?_
  refine C_newI (k := (j + 2)) (N := 3) (dt_at dtX11_init 8 rfl) (by decide) (by decide) (by decide) rfl (by decide) (by decide) ?_
  refine C_puts (fs' := [vr (j + 1), vr (j + 2), vs 0, vs 0, vs 0, vs 0, vs 0, vs 0, vs 0, vs 0, vs 0, vs 0, vs 0, vs 0, vs 0, vi 0, vi 0, vi 0]) (ci := 11) (i := 1) (v := vr (j + 2)) (dt_at dtX11_init 9 rfl) rfl (by decide) wF_X11_13 (fun _ => rfl) GC_n (fun _ => by first | rfl | decide) (fun _ => rfl) (fun _ h9 => by cases h9) (Nat.le_of_ble_eq_true rfl) rfl ?_
  refine C_aload (dt_at dtX11_init 10 rfl) rfl rfl ⟨_, rfl⟩ ?_
  refine C_new (ci := 3) (k := (j + 3)) (fs := dX3) (dt_at dtX11_init 11 rfl) rfl wK_X11_17 wIn_X3 wN_X3 dfX3 rfl (by decide) (by decide) ?_
  refine C_dup (dt_at dtX11_init 12 rfl) rfl ?_
  refine C_call (M' := mX3_init) (pars := []) (st := [vr (j + 3), vr j]) (dt_at dtX11_init 13 rfl) (cX3 (j + 3)) rfl rfl rfl wL_X11_19 wI_X3_init wN_X3 wC_X3_init ⟨by decide, by decide⟩ rfl rfl npX3_init (by decide) (by decide) (Nat.le_of_ble_eq_true rfl) (by decide) (by decide) GC_a (fun _ _ _ _ _ _ _ q hq => nomatch hq) ?_
  refine C_puts (fs' := [vr (j + 1), vr (j + 2), vr (j + 3), vs 0, vs 0, vs 0, vs 0, vs 0, vs 0, vs 0, vs 0, vs 0, vs 0, vs 0, vs 0, vi 0, vi 0, vi 0]) (ci := 11) (i := 2) (v := vr (j + 3)) (dt_at dtX11_init 14 rfl) rfl (by decide) wF_X11_20 (fun _ => rfl) GC_n (fun _ => by first | rfl | decide) (fun _ => rfl) (fun _ h9 => by cases h9) (Nat.le_of_ble_eq_true rfl) rfl ?_
  refine C_aload (dt_at dtX11_init 15 rfl) rfl rfl ⟨_, rfl⟩ ?_
  refine C_new (ci := 3) (k := (j + 18)) (fs := dX3) (dt_at dtX11_init 16 rfl) rfl wK_X11_17 wIn_X3 wN_X3 dfX3 rfl (by decide) (by decide) ?_
  refine C_dup (dt_at dtX11_init 17 rfl) rfl ?_
  refine C_call (M' := mX3_init) (pars := []) (st := [vr (j + 18), vr j]) (dt_at dtX11_init 18 rfl) (cX3 (j + 18)) rfl rfl rfl wL_X11_19 wI_X3_init wN_X3 wC_X3_init ⟨by decide, by decide⟩ rfl rfl npX3_init (by decide) (by decide) (Nat.le_of_ble_eq_true rfl) (by decide) (by decide) GC_a (fun _ _ _ _ _ _ _ q hq => nomatch hq) ?_
  refine C_puts (fs' := [vr (j + 1), vr (j + 2), vr (j + 3), vr (j + 18), vs 0, vs 0, vs 0, vs 0, vs 0, vs 0, vs 0, vs 0, vs 0, vs 0, vs 0, vi 0, vi 0, vi 0]) (ci := 11) (i := 3) (v := vr (j + 18)) (dt_at dtX11_init 19 rfl) rfl (by decide) wF_X11_24 (fun _ => rfl) GC_n (fun _ => by first | rfl | decide) (fun _ => rfl) (fun _ h9 => by cases h9) (Nat.le_of_ble_eq_true rfl) rfl ?_
  refine C_aload (dt_at dtX11_init 20 rfl) rfl rfl ⟨_, rfl⟩ ?_
  refine C_new (ci := 5) (k := (j + 33)) (fs := dX5) (dt_at dtX11_init 21 rfl) rfl wK_X11_27 wIn_X5 wN_X5 dfX5 rfl (by decide) (by decide) ?_
  refine C_dup (dt_at dtX11_init 22 rfl) rfl ?_
  refine C_aload (dt_at dtX11_init 23 rfl) rfl rfl ⟨_, rfl⟩ ?_
  refine C_get (ci := 11) (i := 3) (v := vr (j + 18)) (dt_at dtX11_init 24 rfl) rfl (by decide) wF_X11_24 rfl ⟨_, rfl⟩ ?_
  refine C_call (M' := mX5_init) (pars := [vr (j + 18)]) (st := [vr (j + 33), vr j]) (dt_at dtX11_init 25 rfl) (cX5 (j + 33) (j + 18) (by omega)) rfl rfl rfl wL_X11_29 wI_X5_init wN_X5 wC_X5_init ⟨by decide, by decide⟩ rfl rfl npX5_init (by decide) (by decide) (Nat.le_of_ble_eq_true rfl) (by decide) (by decide) GC_a (fun D C z s H locs hS q hq => by rw [List.mem_singleton.mp hq]; exact hS.2.2.1 17 (.inl (3, fsX3 (j + 18))) rfl) ?_
  refine C_puts (fs' := [vr (j + 1), vr (j + 2), vr (j + 3), vr (j + 18), vr (j + 33), vs 0, vs 0, vs 0, vs 0, vs 0, vs 0, vs 0, vs 0, vs 0, vs 0, vi 0, vi 0, vi 0]) (ci := 11) (i := 4) (v := vr (j + 33)) (dt_at dtX11_init 26 rfl) rfl (by decide) wF_X11_32 (fun _ => rfl) GC_n (fun _ => by first | rfl | decide) (fun _ => rfl) (fun _ h9 => by cases h9) (Nat.le_of_ble_eq_true rfl) rfl ?_
  refine C_aload (dt_at dtX11_init 27 rfl) rfl rfl ⟨_, rfl⟩ ?_
  refine C_new (ci := 8) (k := (j + 36)) (fs := dX8) (dt_at dtX11_init 28 rfl) rfl wK_X11_36 wIn_X8 wN_X8 dfX8 rfl (by decide) (by decide) ?_
  refine C_dup (dt_at dtX11_init 29 rfl) rfl ?_
  refine C_call (M' := mX8_init) (pars := []) (st := [vr (j + 36), vr j]) (dt_at dtX11_init 30 rfl) (cX8 (j + 36)) rfl rfl rfl wL_X11_38 wI_X8_init wN_X8 wC_X8_init ⟨by decide, by decide⟩ rfl rfl npX8_init (by decide) (by decide) (Nat.le_of_ble_eq_true rfl) (by decide) (by decide) GC_a (fun _ _ _ _ _ _ _ q hq => nomatch hq) ?_
  refine C_puts (fs' := [vr (j + 1), vr (j + 2), vr (j + 3), vr (j + 18), vr (j + 33), vr (j + 36), vs 0, vs 0, vs 0, vs 0, vs 0, vs 0, vs 0, vs 0, vs 0, vi 0, vi 0, vi 0]) (ci := 11) (i := 5) (v := vr (j + 36)) (dt_at dtX11_init 31 rfl) rfl (by decide) wF_X11_39 (fun _ => rfl) GC_n (fun _ => by first | rfl | decide) (fun _ => rfl) (fun _ h9 => by cases h9) (Nat.le_of_ble_eq_true rfl) rfl ?_
  refine C_aload (dt_at dtX11_init 32 rfl) rfl rfl ⟨_, rfl⟩ ?_
  refine C_new (ci := 0) (k := (j + 38)) (fs := dX0) (dt_at dtX11_init 33 rfl) rfl wK_X11_43 wIn_X0 wN_X0 dfX0 rfl (by decide) (by decide) ?_
  refine C_dup (dt_at dtX11_init 34 rfl) rfl ?_
  refine C_call (M' := mX0_init) (pars := []) (st := [vr (j + 38), vr j]) (dt_at dtX11_init 35 rfl) (cX0 (j + 38)) rfl rfl rfl wL_X11_45 wI_X0_init wN_X0 wC_X0_init ⟨by decide, by decide⟩ rfl rfl npX0_init (by decide) (by decide) (Nat.le_of_ble_eq_true rfl) (by decide) (by decide) GC_a (fun _ _ _ _ _ _ _ q hq => nomatch hq) ?_
  refine C_puts (fs' := [vr (j + 1), vr (j + 2), vr (j + 3), vr (j + 18), vr (j + 33), vr (j + 36), vr (j + 38), vs 0, vs 0, vs 0, vs 0, vs 0, vs 0, vs 0, vs 0, vi 0, vi 0, vi 0]) (ci := 11) (i := 6) (v := vr (j + 38)) (dt_at dtX11_init 36 rfl) rfl (by decide) wF_X11_46 (fun _ => rfl) GC_n (fun _ => by first | rfl | decide) (fun _ => rfl) (fun _ h9 => by cases h9) (Nat.le_of_ble_eq_true rfl) rfl ?_
  refine C_aload (dt_at dtX11_init 37 rfl) rfl rfl ⟨_, rfl⟩ ?_
  refine C_new (ci := 7) (k := (j + 40)) (fs := dX7) (dt_at dtX11_init 38 rfl) rfl wK_X11_50 wIn_X7 wN_X7 dfX7 rfl (by decide) (by decide) ?_
  refine C_dup (dt_at dtX11_init 39 rfl) rfl ?_
  refine C_call (M' := mX7_init) (pars := []) (st := [vr (j + 40), vr j]) (dt_at dtX11_init 40 rfl) (cX7 (j + 40)) rfl rfl rfl wL_X11_52 wI_X7_init wN_X7 wC_X7_init ⟨by decide, by decide⟩ rfl rfl npX7_init (by decide) (by decide) (Nat.le_of_ble_eq_true rfl) (by decide) (by decide) GC_a (fun _ _ _ _ _ _ _ q hq => nomatch hq) ?_
  refine C_puts (fs' := [vr (j + 1), vr (j + 2), vr (j + 3), vr (j + 18), vr (j + 33), vr (j + 36), vr (j + 38), vr (j + 40), vs 0, vs 0, vs 0, vs 0, vs 0, vs 0, vs 0, vi 0, vi 0, vi 0]) (ci := 11) (i := 7) (v := vr (j + 40)) (dt_at dtX11_init 41 rfl) rfl (by decide) wF_X11_53 (fun _ => rfl) GC_n (fun _ => by first | rfl | decide) (fun _ => rfl) (fun _ h9 => by cases h9) (Nat.le_of_ble_eq_true rfl) rfl ?_
  refine C_aload (dt_at dtX11_init 42 rfl) rfl rfl ⟨_, rfl⟩ ?_
  refine C_new (ci := 8) (k := (j + 45)) (fs := dX8) (dt_at dtX11_init 43 rfl) rfl wK_X11_36 wIn_X8 wN_X8 dfX8 rfl (by decide) (by decide) ?_
  refine C_dup (dt_at dtX11_init 44 rfl) rfl ?_
  refine C_call (M' := mX8_init) (pars := []) (st := [vr (j + 45), vr j]) (dt_at dtX11_init 45 rfl) (cX8 (j + 45)) rfl rfl rfl wL_X11_38 wI_X8_init wN_X8 wC_X8_init ⟨by decide, by decide⟩ rfl rfl npX8_init (by decide) (by decide) (Nat.le_of_ble_eq_true rfl) (by decide) (by decide) GC_a (fun _ _ _ _ _ _ _ q hq => nomatch hq) ?_
  refine C_puts (fs' := [vr (j + 1), vr (j + 2), vr (j + 3), vr (j + 18), vr (j + 33), vr (j + 36), vr (j + 38), vr (j + 40), vr (j + 45), vs 0, vs 0, vs 0, vs 0, vs 0, vs 0, vi 0, vi 0, vi 0]) (ci := 11) (i := 8) (v := vr (j + 45)) (dt_at dtX11_init 46 rfl) rfl (by decide) wF_X11_57 (fun _ => rfl) GC_n (fun _ => by first | rfl | decide) (fun _ => rfl) (fun _ h9 => by cases h9) (Nat.le_of_ble_eq_true rfl) rfl ?_
  refine C_aload (dt_at dtX11_init 47 rfl) rfl rfl ⟨_, rfl⟩ ?_
  refine C_new (ci := 0) (k := (j + 47)) (fs := dX0) (dt_at dtX11_init 48 rfl) rfl wK_X11_43 wIn_X0 wN_X0 dfX0 rfl (by decide) (by decide) ?_
  refine C_dup (dt_at dtX11_init 49 rfl) rfl ?_
  refine C_call (M' := mX0_init) (pars := []) (st := [vr (j + 47), vr j]) (dt_at dtX11_init 50 rfl) (cX0 (j + 47)) rfl rfl rfl wL_X11_45 wI_X0_init wN_X0 wC_X0_init ⟨by decide, by decide⟩ rfl rfl npX0_init (by decide) (by decide) (Nat.le_of_ble_eq_true rfl) (by decide) (by decide) GC_a (fun _ _ _ _ _ _ _ q hq => nomatch hq) ?_
  refine C_puts (fs' := [vr (j + 1), vr (j + 2), vr (j + 3), vr (j + 18), vr (j + 33), vr (j + 36), vr (j + 38), vr (j + 40), vr (j + 45), vr (j + 47), vs 0, vs 0, vs 0, vs 0, vs 0, vi 0, vi 0, vi 0]) (ci := 11) (i := 9) (v := vr (j + 47)) (dt_at dtX11_init 51 rfl) rfl (by decide) wF_X11_60 (fun _ => rfl) GC_n (fun _ => by first | rfl | decide) (fun _ => rfl) (fun _ h9 => by cases h9) (Nat.le_of_ble_eq_true rfl) rfl ?_
  refine C_aload (dt_at dtX11_init 52 rfl) rfl rfl ⟨_, rfl⟩ ?_
  refine C_new (ci := 7) (k := (j + 49)) (fs := dX7) (dt_at dtX11_init 53 rfl) rfl wK_X11_50 wIn_X7 wN_X7 dfX7 rfl (by decide) (by decide) ?_
  refine C_dup (dt_at dtX11_init 54 rfl) rfl ?_
  refine C_call (M' := mX7_init) (pars := []) (st := [vr (j + 49), vr j]) (dt_at dtX11_init 55 rfl) (cX7 (j + 49)) rfl rfl rfl wL_X11_52 wI_X7_init wN_X7 wC_X7_init ⟨by decide, by decide⟩ rfl rfl npX7_init (by decide) (by decide) (Nat.le_of_ble_eq_true rfl) (by decide) (by decide) GC_a (fun _ _ _ _ _ _ _ q hq => nomatch hq) ?_
  refine C_puts (fs' := [vr (j + 1), vr (j + 2), vr (j + 3), vr (j + 18), vr (j + 33), vr (j + 36), vr (j + 38), vr (j + 40), vr (j + 45), vr (j + 47), vr (j + 49), vs 0, vs 0, vs 0, vs 0, vi 0, vi 0, vi 0]) (ci := 11) (i := 10) (v := vr (j + 49)) (dt_at dtX11_init 56 rfl) rfl (by decide) wF_X11_63 (fun _ => rfl) GC_n (fun _ => by first | rfl | decide) (fun _ => rfl) (fun _ h9 => by cases h9) (Nat.le_of_ble_eq_true rfl) rfl ?_
  refine C_aload (dt_at dtX11_init 57 rfl) rfl rfl ⟨_, rfl⟩ ?_
  refine C_new (ci := 10) (k := (j + 54)) (fs := dX10) (dt_at dtX11_init 58 rfl) rfl wK_X11_66 wIn_X10 wN_X10 dfX10 rfl (by decide) (by decide) ?_
  refine C_dup (dt_at dtX11_init 59 rfl) rfl ?_
  refine C_aload (dt_at dtX11_init 60 rfl) rfl rfl ⟨_, rfl⟩ ?_
  refine C_get (ci := 11) (i := 2) (v := vr (j + 3)) (dt_at dtX11_init 61 rfl) rfl (by decide) wF_X11_20 rfl ⟨_, rfl⟩ ?_
  refine C_call (M' := mX10_init) (pars := [vr (j + 3)]) (st := [vr (j + 54), vr j]) (dt_at dtX11_init 62 rfl) (cX10 (j + 54) (j + 3)) rfl rfl rfl wL_X11_68 wI_X10_init wN_X10 wC_X10_init ⟨by decide, by decide⟩ rfl rfl npX10_init (by decide) (by decide) (Nat.le_of_ble_eq_true rfl) (by decide) (by decide) GC_a (fun _ _ _ _ _ _ _ q hq => nomatch hq) ?_
  refine C_puts (fs' := [vr (j + 1), vr (j + 2), vr (j + 3), vr (j + 18), vr (j + 33), vr (j + 36), vr (j + 38), vr (j + 40), vr (j + 45), vr (j + 47), vr (j + 49), vr (j + 54), vs 0, vs 0, vs 0, vi 0, vi 0, vi 0]) (ci := 11) (i := 11) (v := vr (j + 54)) (dt_at dtX11_init 63 rfl) rfl (by decide) wF_X11_69 (fun _ => rfl) GC_n (fun _ => by first | rfl | decide) (fun _ => rfl) (fun _ h9 => by cases h9) (Nat.le_of_ble_eq_true rfl) rfl ?_
  refine C_aload (dt_at dtX11_init 64 rfl) rfl rfl ⟨_, rfl⟩ ?_
  refine C_new (ci := 4) (k := (j + 61)) (fs := dX4) (dt_at dtX11_init 65 rfl) rfl wK_X11_73 wIn_X4 wN_X4 dfX4 rfl (by decide) (by decide) ?_
  refine C_dup (dt_at dtX11_init 66 rfl) rfl ?_
  refine C_aload (dt_at dtX11_init 67 rfl) rfl rfl ⟨_, rfl⟩ ?_
  refine C_get (ci := 11) (i := 2) (v := vr (j + 3)) (dt_at dtX11_init 68 rfl) rfl (by decide) wF_X11_20 rfl ⟨_, rfl⟩ ?_
  refine C_aload (dt_at dtX11_init 69 rfl) rfl rfl ⟨_, rfl⟩ ?_
  refine C_get (ci := 11) (i := 5) (v := vr (j + 36)) (dt_at dtX11_init 70 rfl) rfl (by decide) wF_X11_39 rfl ⟨_, rfl⟩ ?_
  refine C_call (M' := mX4_init) (pars := [vr (j + 3), vr (j + 36)]) (st := [vr (j + 61), vr j]) (dt_at dtX11_init 71 rfl) (cX4 (j + 61) (j + 3) (j + 36)) rfl rfl rfl wL_X11_75 wI_X4_init wN_X4 wC_X4_init ⟨by decide, by decide⟩ rfl rfl npX4_init (by decide) (by decide) (Nat.le_of_ble_eq_true rfl) (by decide) (by decide) GC_a (fun _ _ _ _ _ _ _ q hq => nomatch hq) ?_
  refine C_puts (fs' := [vr (j + 1), vr (j + 2), vr (j + 3), vr (j + 18), vr (j + 33), vr (j + 36), vr (j + 38), vr (j + 40), vr (j + 45), vr (j + 47), vr (j + 49), vr (j + 54), vr (j + 61), vs 0, vs 0, vi 0, vi 0, vi 0]) (ci := 11) (i := 12) (v := vr (j + 61)) (dt_at dtX11_init 72 rfl) rfl (by decide) wF_X11_78 (fun _ => rfl) GC_n (fun _ => by first | rfl | decide) (fun _ => rfl) (fun _ h9 => by cases h9) (Nat.le_of_ble_eq_true rfl) rfl ?_
  refine C_aload (dt_at dtX11_init 73 rfl) rfl rfl ⟨_, rfl⟩ ?_
  refine C_new (ci := 2) (k := (j + 70)) (fs := dX2) (dt_at dtX11_init 74 rfl) rfl wK_X11_82 wIn_X2 wN_X2 dfX2 rfl (by decide) (by decide) ?_
  refine C_dup (dt_at dtX11_init 75 rfl) rfl ?_
  refine C_aload (dt_at dtX11_init 76 rfl) rfl rfl ⟨_, rfl⟩ ?_
  refine C_get (ci := 11) (i := 2) (v := vr (j + 3)) (dt_at dtX11_init 77 rfl) rfl (by decide) wF_X11_20 rfl ⟨_, rfl⟩ ?_
  refine C_call (M' := mX2_init) (pars := [vr (j + 3)]) (st := [vr (j + 70), vr j]) (dt_at dtX11_init 78 rfl) (cX2 (j + 70) (j + 3)) rfl rfl rfl wL_X11_84 wI_X2_init wN_X2 wC_X2_init ⟨by decide, by decide⟩ rfl rfl npX2_init (by decide) (by decide) (Nat.le_of_ble_eq_true rfl) (by decide) (by decide) GC_a (fun _ _ _ _ _ _ _ q hq => nomatch hq) ?_
  refine C_puts (fs' := [vr (j + 1), vr (j + 2), vr (j + 3), vr (j + 18), vr (j + 33), vr (j + 36), vr (j + 38), vr (j + 40), vr (j + 45), vr (j + 47), vr (j + 49), vr (j + 54), vr (j + 61), vr (j + 70), vs 0, vi 0, vi 0, vi 0]) (ci := 11) (i := 13) (v := vr (j + 70)) (dt_at dtX11_init 79 rfl) rfl (by decide) wF_X11_85 (fun _ => rfl) GC_n (fun _ => by first | rfl | decide) (fun _ => rfl) (fun _ h9 => by cases h9) (Nat.le_of_ble_eq_true rfl) rfl ?_
  refine C_aload (dt_at dtX11_init 80 rfl) rfl rfl ⟨_, rfl⟩ ?_
  refine C_new (ci := 1) (k := (j + 87)) (fs := dX1) (dt_at dtX11_init 81 rfl) rfl wK_X11_89 wIn_X1 wN_X1 dfX1 rfl (by decide) (by decide) ?_
  refine C_dup (dt_at dtX11_init 82 rfl) rfl ?_
  refine C_call (M' := mX1_init) (pars := []) (st := [vr (j + 87), vr j]) (dt_at dtX11_init 83 rfl) (cX1 (j + 87)) rfl rfl rfl wL_X11_91 wI_X1_init wN_X1 wC_X1_init ⟨by decide, by decide⟩ rfl rfl npX1_init (by decide) (by decide) (Nat.le_of_ble_eq_true rfl) (by decide) (by decide) GC_a (fun _ _ _ _ _ _ _ q hq => nomatch hq) ?_
  refine C_puts (fs' := [vr (j + 1), vr (j + 2), vr (j + 3), vr (j + 18), vr (j + 33), vr (j + 36), vr (j + 38), vr (j + 40), vr (j + 45), vr (j + 47), vr (j + 49), vr (j + 54), vr (j + 61), vr (j + 70), vr (j + 87), vi 0, vi 0, vi 0]) (ci := 11) (i := 14) (v := vr (j + 87)) (dt_at dtX11_init 84 rfl) rfl (by decide) wF_X11_92 (fun _ => rfl) GC_n (fun _ => by first | rfl | decide) (fun _ => rfl) (fun _ h9 => by cases h9) (Nat.le_of_ble_eq_true rfl) rfl ?_
  refine C_aload (dt_at dtX11_init 85 rfl) rfl rfl ⟨_, rfl⟩ ?_
  refine C_iconst (dt_at dtX11_init 86 rfl) ?_
  refine C_puts (fs' := [vr (j + 1), vr (j + 2), vr (j + 3), vr (j + 18), vr (j + 33), vr (j + 36), vr (j + 38), vr (j + 40), vr (j + 45), vr (j + 47), vr (j + 49), vr (j + 54), vr (j + 61), vr (j + 70), vr (j + 87), vi 0, vi 0, vi 0]) (ci := 11) (i := 15) (v := vi 0) (dt_at dtX11_init 87 rfl) rfl (by decide) wF_X11_96 (fun _ => rfl) GC_n (fun _ => by first | rfl | decide) (fun _ => rfl) (fun _ h9 => by cases h9) (Nat.le_of_ble_eq_true rfl) rfl ?_
  refine C_aload (dt_at dtX11_init 88 rfl) rfl rfl ⟨_, rfl⟩ ?_
  refine C_iconst (dt_at dtX11_init 89 rfl) ?_
  refine C_puts (fs' := [vr (j + 1), vr (j + 2), vr (j + 3), vr (j + 18), vr (j + 33), vr (j + 36), vr (j + 38), vr (j + 40), vr (j + 45), vr (j + 47), vr (j + 49), vr (j + 54), vr (j + 61), vr (j + 70), vr (j + 87), vi 0, vi (-1), vi 0]) (ci := 11) (i := 16) (v := vi (-1)) (dt_at dtX11_init 90 rfl) rfl (by decide) wF_X11_100 (fun _ => rfl) GC_n (fun _ => by first | rfl | decide) (fun _ => rfl) (fun _ h9 => by cases h9) (Nat.le_of_ble_eq_true rfl) rfl ?_
  refine C_aload (dt_at dtX11_init 91 rfl) rfl rfl ⟨_, rfl⟩ ?_
  refine C_iconst (dt_at dtX11_init 92 rfl) ?_
  refine C_puts (fs' := [vr (j + 1), vr (j + 2), vr (j + 3), vr (j + 18), vr (j + 33), vr (j + 36), vr (j + 38), vr (j + 40), vr (j + 45), vr (j + 47), vr (j + 49), vr (j + 54), vr (j + 61), vr (j + 70), vr (j + 87), vi 0, vi (-1), vi 0]) (ci := 11) (i := 17) (v := vi 0) (dt_at dtX11_init 93 rfl) rfl (by decide) wF_X11_103 (fun _ => rfl) GC_n (fun _ => by first | rfl | decide) (fun _ => rfl) (fun _ h9 => by cases h9) (Nat.le_of_ble_eq_true rfl) rfl ?_
  exact C_ret (dt_at dtX11_init 94 rfl) rfl (by decide) (by decide)
def dX12 : List AV := [vi 0, vi 0, vi 0, vi 0, vi 0, vs 0, vs 0, vs 0, vs 0, vs 0, vs 0, vs 0, vi 0, vi 0, vi 0, vs 0, vi 0, vi 0, vi 0, vi 0, vi 0, vi 0, vi 0, vl 0, vi 0, vi 0, vi 0, vi 0, vi 0, vi 0, vi 0, vi 0, vi 0, vs 0, vs 0, vs 0, vs 0, vs 0, vs 0, vs 0, vs 0, vs 0, vs 0, vs 0, vi 0, vs 0, vs 0, vi 0, vi 0, vi 0, vs 0, vi 0, vs 0, vs 0, vs 0, vi 0, vi 0, vi 0, vi 0, vs 0, vs 0, vs 0]
theorem dfX12 : ∀ i, i < 62 → ∀ as, defaultValue (tyT 12 i) = vp_V (dX12.map (cv as (fun _ => 0))) i := by
  intro i hi as
  rcases (show i = 0 ∨ i = 1 ∨ i = 2 ∨ i = 3 ∨ i = 4 ∨ i = 5 ∨ i = 6 ∨ i = 7 ∨ i = 8 ∨ i = 9 ∨ i = 10 ∨ i = 11 ∨ i = 12 ∨ i = 13 ∨ i = 14 ∨ i = 15 ∨ i = 16 ∨ i = 17 ∨ i = 18 ∨ i = 19 ∨ i = 20 ∨ i = 21 ∨ i = 22 ∨ i = 23 ∨ i = 24 ∨ i = 25 ∨ i = 26 ∨ i = 27 ∨ i = 28 ∨ i = 29 ∨ i = 30 ∨ i = 31 ∨ i = 32 ∨ i = 33 ∨ i = 34 ∨ i = 35 ∨ i = 36 ∨ i = 37 ∨ i = 38 ∨ i = 39 ∨ i = 40 ∨ i = 41 ∨ i = 42 ∨ i = 43 ∨ i = 44 ∨ i = 45 ∨ i = 46 ∨ i = 47 ∨ i = 48 ∨ i = 49 ∨ i = 50 ∨ i = 51 ∨ i = 52 ∨ i = 53 ∨ i = 54 ∨ i = 55 ∨ i = 56 ∨ i = 57 ∨ i = 58 ∨ i = 59 ∨ i = 60 ∨ i = 61 by omega) with rfl | rfl | rfl | rfl | rfl | rfl | rfl | rfl | rfl | rfl | rfl | rfl | rfl | rfl | rfl | rfl | rfl | rfl | rfl | rfl | rfl | rfl | rfl | rfl | rfl | rfl | rfl | rfl | rfl | rfl | rfl | rfl | rfl | rfl | rfl | rfl | rfl | rfl | rfl | rfl | rfl | rfl | rfl | rfl | rfl | rfl | rfl | rfl | rfl | rfl | rfl | rfl | rfl | rfl | rfl | rfl | rfl | rfl | rfl | rfl | rfl | rfl <;> rfl
def fsX12 (j : Nat) : List AV := [vi 0, vi 0, vi 0, vi (-1), vi (-1), vr (j + 1), vr (j + 2), vr (j + 3), vr (j + 4), vr (j + 5), vr (j + 6), vr (j + 7), vi 0, vi 0, vi (-1), vr (j + 8), vi 0, vi 0, vi 0, vi 0, vi 0, vi 0, vi 0, vl 0, vi 0, vi 0, vi 0, vi 0, vi 0, vi 0, vi 0, vi 0, vi 0, vr (j + 9), vr (j + 10), vr (j + 11), vr (j + 12), vr (j + 13), vr (j + 14), vr (j + 15), vr (j + 16), vr (j + 17), vr (j + 18), vr (j + 19), vi 0, vr (j + 20), vr (j + 21), vi 0, vi 0, vi 0, vr (j + 22), vi 0, vr (j + 23), vr (j + 24), vr (j + 25), vi 0, vi 0, vi 0, vi 0, vr (j + 26), vr (j + 27), vr (j + 28)]
def LX12 (_j : Nat) : List CE := (((((((((((((((((((((((((((([] ++ [.inr (1, 6)]) ++ [.inr (1, 6)]) ++ [.inr (1, 7)]) ++ [.inr (1, 7)]) ++ [.inr (1, 7)]) ++ [.inr (1, 1400)]) ++ [.inr (1, 700)]) ++ [.inr (1, 3)]) ++ [.inr (1, 6)]) ++ [.inr (1, 6)]) ++ [.inr (1, 7)]) ++ [.inr (1, 7)]) ++ [.inr (1, 7)]) ++ [.inr (1, 77)]) ++ [.inr (1, 1400)]) ++ [.inr (1, 950)]) ++ [.inr (3, 9)]) ++ [.inr (1, 154)]) ++ [.inr (1, 3080)]) ++ [.inr (1, 8)]) ++ [.inr (1, 950)]) ++ [.inr (1, 427)]) ++ [.inr (1, 32)]) ++ [.inr (1, 6)]) ++ [.inr (1, 420)]) ++ [.inr (1, 77)]) ++ [.inr (1, 3080)]) ++ [.inr (1, 32)])
def mX12_init : MI := (yX12_init, cX12_init, 1, none, { frames := 2, cells := 28, slots := 12871, locals := 128 })
def tX12_init : List (Nat × Instr × Nat) := [(0, .aload_n 0, 1), (1, .invokespecial 1, 3), (4, .aload_n 0, 1), (5, .iconst (-1), 1), (6, .putfield 9, 3), (9, .aload_n 0, 1), (10, .iconst (-1), 1), (11, .putfield 13, 3), (14, .aload_n 0, 1), (15, .bipush 6, 2), (17, .newarray .int, 2), (19, .putfield 16, 3), (22, .aload_n 0, 1), (23, .bipush 6, 2), (25, .newarray .int, 2), (27, .putfield 20, 3), (30, .aload_n 0, 1), (31, .bipush 7, 2), (33, .newarray .int, 2), (35, .putfield 23, 3), (38, .aload_n 0, 1), (39, .bipush 7, 2), (41, .newarray .int, 2), (43, .putfield 26, 3), (46, .aload_n 0, 1), (47, .bipush 7, 2), (49, .newarray .int, 2), (51, .putfield 29, 3), (54, .aload_n 0, 1), (55, .sipush 1400, 3), (58, .newarray .int, 2), (60, .putfield 32, 3), (63, .aload_n 0, 1), (64, .sipush 700, 3), (67, .newarray .int, 2), (69, .putfield 35, 3), (72, .aload_n 0, 1), (73, .iconst (-1), 1), (74, .putfield 38, 3), (77, .aload_n 0, 1), (78, .iconst 3, 1), (79, .newarray .int, 2), (81, .putfield 41, 3), (84, .aload_n 0, 1), (85, .bipush 6, 2), (87, .newarray .int, 2), (89, .putfield 44, 3), (92, .aload_n 0, 1), (93, .bipush 6, 2), (95, .newarray .int, 2), (97, .putfield 47, 3), (100, .aload_n 0, 1), (101, .bipush 7, 2), (103, .newarray .int, 2), (105, .putfield 50, 3), (108, .aload_n 0, 1), (109, .bipush 7, 2), (111, .newarray .int, 2), (113, .putfield 53, 3), (116, .aload_n 0, 1), (117, .bipush 7, 2), (119, .newarray .int, 2), (121, .putfield 56, 3), (124, .aload_n 0, 1), (125, .bipush 77, 2), (127, .newarray .int, 2), (129, .putfield 59, 3), (132, .aload_n 0, 1), (133, .sipush 1400, 3), (136, .newarray .int, 2), (138, .putfield 62, 3), (141, .aload_n 0, 1), (142, .sipush 950, 3), (145, .newarray .int, 2), (147, .putfield 65, 3), (150, .aload_n 0, 1), (151, .bipush 9, 2), (153, .newarray .boolean, 2), (155, .putfield 68, 3), (158, .aload_n 0, 1), (159, .sipush 154, 3), (162, .newarray .int, 2), (164, .putfield 72, 3), (167, .aload_n 0, 1), (168, .sipush 3080, 3), (171, .newarray .int, 2), (173, .putfield 75, 3), (176, .aload_n 0, 1), (177, .bipush 8, 2), (179, .newarray .int, 2), (181, .putfield 78, 3), (184, .aload_n 0, 1), (185, .sipush 950, 3), (188, .newarray .int, 2), (190, .putfield 81, 3), (193, .aload_n 0, 1), (194, .sipush 427, 3), (197, .newarray .int, 2), (199, .putfield 84, 3), (202, .aload_n 0, 1), (203, .bipush 32, 2), (205, .newarray .int, 2), (207, .putfield 87, 3), (210, .aload_n 0, 1), (211, .bipush 6, 2), (213, .newarray .int, 2), (215, .putfield 90, 3), (218, .aload_n 0, 1), (219, .sipush 420, 3), (222, .newarray .int, 2), (224, .putfield 93, 3), (227, .aload_n 0, 1), (228, .bipush 77, 2), (230, .newarray .int, 2), (232, .putfield 96, 3), (235, .aload_n 0, 1), (236, .sipush 3080, 3), (239, .newarray .int, 2), (241, .putfield 99, 3), (244, .aload_n 0, 1), (245, .bipush 32, 2), (247, .newarray .int, 2), (249, .putfield 102, 3), (252, .return_, 1)]
theorem dtX12_init : tX12_init.all (fun q => decide (decode cX12_init q.1 = .ok (q.2.1, q.2.2))) = true := by decide +kernel
theorem npX12_init : (parseMethodDescriptor (mY mX12_init).desc).map (fun d => d.parameters.length) = some 0 := by decide +kernel
set_option maxHeartbeats 4000000 in
set_option maxRecDepth 100000 in
theorem cX12 (j : Nat) : SpecC mX12_init (j + 1) j 12 dX12 [] [] (fsX12 j) (LX12 j) := by
  refine SpecC_of (by decide +kernel) rfl (Nat.le_of_ble_eq_true rfl) ?_
  refine C_aload (dt_at dtX12_init 0 rfl) rfl rfl ⟨_, rfl⟩ ?_
  refine C_obj (dt_at dtX12_init 1 rfl) wO_X12 wO_i wO_c (by decide) (by decide) ?_
  refine C_aload (dt_at dtX12_init 2 rfl) rfl rfl ⟨_, rfl⟩ ?_
  refine C_iconst (dt_at dtX12_init 3 rfl) ?_
  refine C_puts (fs' := [vi 0, vi 0, vi 0, vi (-1), vi 0, vs 0, vs 0, vs 0, vs 0, vs 0, vs 0, vs 0, vi 0, vi 0, vi 0, vs 0, vi 0, vi 0, vi 0, vi 0, vi 0, vi 0, vi 0, vl 0, vi 0, vi 0, vi 0, vi 0, vi 0, vi 0, vi 0, vi 0, vi 0, vs 0, vs 0, vs 0, vs 0, vs 0, vs 0, vs 0, vs 0, vs 0, vs 0, vs 0, vi 0, vs 0, vs 0, vi 0, vi 0, vi 0, vs 0, vi 0, vs 0, vs 0, vs 0, vi 0, vi 0, vi 0, vi 0, vs 0, vs 0, vs 0]) (ci := 12) (i := 3) (v := vi (-1)) (dt_at dtX12_init 4 rfl) rfl (by decide) wF_X12_9 (fun _ => rfl) GC_n (fun _ => by first | rfl | decide) (fun _ => rfl) (fun _ h9 => by cases h9) (Nat.le_of_ble_eq_true rfl) rfl ?_
  refine C_aload (dt_at dtX12_init 5 rfl) rfl rfl ⟨_, rfl⟩ ?_
  refine C_iconst (dt_at dtX12_init 6 rfl) ?_
  refine C_puts (fs' := [vi 0, vi 0, vi 0, vi (-1), vi (-1), vs 0, vs 0, vs 0, vs 0, vs 0, vs 0, vs 0, vi 0, vi 0, vi 0, vs 0, vi 0, vi 0, vi 0, vi 0, vi 0, vi 0, vi 0, vl 0, vi 0, vi 0, vi 0, vi 0, vi 0, vi 0, vi 0, vi 0, vi 0, vs 0, vs 0, vs 0, vs 0, vs 0, vs 0, vs 0, vs 0, vs 0, vs 0, vs 0, vi 0, vs 0, vs 0, vi 0, vi 0, vi 0, vs 0, vi 0, vs 0, vs 0, vs 0, vi 0, vi 0, vi 0, vi 0, vs 0, vs 0, vs 0]) (ci := 12) (i := 4) (v := vi (-1)) (dt_at dtX12_init 7 rfl) rfl (by decide) wF_X12_13 (fun _ => rfl) GC_n (fun _ => by first | rfl | decide) (fun _ => rfl) (fun _ h9 => by cases h9) (Nat.le_of_ble_eq_true rfl) rfl ?_
  refine C_aload (dt_at dtX12_init 8 rfl) rfl rfl ⟨_, rfl⟩ ?_
  refine C_bipush (dt_at dtX12_init 9 rfl) (by decide) ?_
  refine C_newI (k := (j + 1)) (N := 6) (dt_at dtX12_init 10 rfl) (by decide) (by decide) (by decide) rfl (by decide) (by decide) ?_
  refine C_puts (fs' := [vi 0, vi 0, vi 0, vi (-1), vi (-1), vr (j + 1), vs 0, vs 0, vs 0, vs 0, vs 0, vs 0, vi 0, vi 0, vi 0, vs 0, vi 0, vi 0, vi 0, vi 0, vi 0, vi 0, vi 0, vl 0, vi 0, vi 0, vi 0, vi 0, vi 0, vi 0, vi 0, vi 0, vi 0, vs 0, vs 0, vs 0, vs 0, vs 0, vs 0, vs 0, vs 0, vs 0, vs 0, vs 0, vi 0, vs 0, vs 0, vi 0, vi 0, vi 0, vs 0, vi 0, vs 0, vs 0, vs 0, vi 0, vi 0, vi 0, vi 0, vs 0, vs 0, vs 0]) (ci := 12) (i := 5) (v := vr (j + 1)) (dt_at dtX12_init 11 rfl) rfl (by decide) wF_X12_16 (fun _ => rfl) GC_n (fun _ => by first | rfl | decide) (fun _ => rfl) (fun _ h9 => by cases h9) (Nat.le_of_ble_eq_true rfl) rfl ?_
  refine C_aload (dt_at dtX12_init 12 rfl) rfl rfl ⟨_, rfl⟩ ?_
  refine C_bipush (dt_at dtX12_init 13 rfl) (by decide) ?_
  refine C_newI (k := (j + 2)) (N := 6) (dt_at dtX12_init 14 rfl) (by decide) (by decide) (by decide) rfl (by decide) (by decide) ?_
  refine C_puts (fs' := [vi 0, vi 0, vi 0, vi (-1), vi (-1), vr (j + 1), vr (j + 2), vs 0, vs 0, vs 0, vs 0, vs 0, vi 0, vi 0, vi 0, vs 0, vi 0, vi 0, vi 0, vi 0, vi 0, vi 0, vi 0, vl 0, vi 0, vi 0, vi 0, vi 0, vi 0, vi 0, vi 0, vi 0, vi 0, vs 0, vs 0, vs 0, vs 0, vs 0, vs 0, vs 0, vs 0, vs 0, vs 0, vs 0, vi 0, vs 0, vs 0, vi 0, vi 0, vi 0, vs 0, vi 0, vs 0, vs 0, vs 0, vi 0, vi 0, vi 0, vi 0, vs 0, vs 0, vs 0]) (ci := 12) (i := 6) (v := vr (j + 2)) (dt_at dtX12_init 15 rfl) rfl (by decide) wF_X12_20 (fun _ => rfl) GC_n (fun _ => by first | rfl | decide) (fun _ => rfl) (fun _ h9 => by cases h9) (Nat.le_of_ble_eq_true rfl) rfl ?_
  refine C_aload (dt_at dtX12_init 16 rfl) rfl rfl ⟨_, rfl⟩ ?_
  refine C_bipush (dt_at dtX12_init 17 rfl) (by decide) ?_
  refine C_newI (k := (j + 3)) (N := 7) (dt_at dtX12_init 18 rfl) (by decide) (by decide) (by decide) rfl (by decide) (by decide) ?_
  refine C_puts (fs' := [vi 0, vi 0, vi 0, vi (-1), vi (-1), vr (j + 1), vr (j + 2), vr (j + 3), vs 0, vs 0, vs 0, vs 0, vi 0, vi 0, vi 0, vs 0, vi 0, vi 0, vi 0, vi 0, vi 0, vi 0, vi 0, vl 0, vi 0, vi 0, vi 0, vi 0, vi 0, vi 0, vi 0, vi 0, vi 0, vs 0, vs 0, vs 0, vs 0, vs 0, vs 0, vs 0, vs 0, vs 0, vs 0, vs 0, vi 0, vs 0, vs 0, vi 0, vi 0, vi 0, vs 0, vi 0, vs 0, vs 0, vs 0, vi 0, vi 0, vi 0, vi 0, vs 0, vs 0, vs 0]) (ci := 12) (i := 7) (v := vr (j + 3)) (dt_at dtX12_init 19 rfl) rfl (by decide) wF_X12_23 (fun _ => rfl) GC_n (fun _ => by first | rfl | decide) (fun _ => rfl) (fun _ h9 => by cases h9) (Nat.le_of_ble_eq_true rfl) rfl ?_
  refine C_aload (dt_at dtX12_init 20 rfl) rfl rfl ⟨_, rfl⟩ ?_
  refine C_bipush (dt_at dtX12_init 21 rfl) (by decide) ?_
  refine C_newI (k := (j + 4)) (N := 7) (dt_at dtX12_init 22 rfl) (by decide) (by decide) (by decide) rfl (by decide) (by decide) ?_
  refine C_puts (fs' := [vi 0, vi 0, vi 0, vi (-1), vi (-1), vr (j + 1), vr (j + 2), vr (j + 3), vr (j + 4), vs 0, vs 0, vs 0, vi 0, vi 0, vi 0, vs 0, vi 0, vi 0, vi 0, vi 0, vi 0, vi 0, vi 0, vl 0, vi 0, vi 0, vi 0, vi 0, vi 0, vi 0, vi 0, vi 0, vi 0, vs 0, vs 0, vs 0, vs 0, vs 0, vs 0, vs 0, vs 0, vs 0, vs 0, vs 0, vi 0, vs 0, vs 0, vi 0, vi 0, vi 0, vs 0, vi 0, vs 0, vs 0, vs 0, vi 0, vi 0, vi 0, vi 0, vs 0, vs 0, vs 0]) (ci := 12) (i := 8) (v := vr (j + 4)) (dt_at dtX12_init 23 rfl) rfl (by decide) wF_X12_26 (fun _ => rfl) GC_n (fun _ => by first | rfl | decide) (fun _ => rfl) (fun _ h9 => by cases h9) (Nat.le_of_ble_eq_true rfl) rfl ?_
  refine C_aload (dt_at dtX12_init 24 rfl) rfl rfl ⟨_, rfl⟩ ?_
  refine C_bipush (dt_at dtX12_init 25 rfl) (by decide) ?_
  refine C_newI (k := (j + 5)) (N := 7) (dt_at dtX12_init 26 rfl) (by decide) (by decide) (by decide) rfl (by decide) (by decide) ?_
  refine C_puts (fs' := [vi 0, vi 0, vi 0, vi (-1), vi (-1), vr (j + 1), vr (j + 2), vr (j + 3), vr (j + 4), vr (j + 5), vs 0, vs 0, vi 0, vi 0, vi 0, vs 0, vi 0, vi 0, vi 0, vi 0, vi 0, vi 0, vi 0, vl 0, vi 0, vi 0, vi 0, vi 0, vi 0, vi 0, vi 0, vi 0, vi 0, vs 0, vs 0, vs 0, vs 0, vs 0, vs 0, vs 0, vs 0, vs 0, vs 0, vs 0, vi 0, vs 0, vs 0, vi 0, vi 0, vi 0, vs 0, vi 0, vs 0, vs 0, vs 0, vi 0, vi 0, vi 0, vi 0, vs 0, vs 0, vs 0]) (ci := 12) (i := 9) (v := vr (j + 5)) (dt_at dtX12_init 27 rfl) rfl (by decide) wF_X12_29 (fun _ => rfl) GC_n (fun _ => by first | rfl | decide) (fun _ => rfl) (fun _ h9 => by cases h9) (Nat.le_of_ble_eq_true rfl) rfl ?_
  refine C_aload (dt_at dtX12_init 28 rfl) rfl rfl ⟨_, rfl⟩ ?_
  refine C_sipush (dt_at dtX12_init 29 rfl) (by decide) ?_
  refine C_newI (k := (j + 6)) (N := 1400) (dt_at dtX12_init 30 rfl) (by decide) (by decide) (by decide) rfl (by decide) (by decide) ?_
  refine C_puts (fs' := [vi 0, vi 0, vi 0, vi (-1), vi (-1), vr (j + 1), vr (j + 2), vr (j + 3), vr (j + 4), vr (j + 5), vr (j + 6), vs 0, vi 0, vi 0, vi 0, vs 0, vi 0, vi 0, vi 0, vi 0, vi 0, vi 0, vi 0, vl 0, vi 0, vi 0, vi 0, vi 0, vi 0, vi 0, vi 0, vi 0, vi 0, vs 0, vs 0, vs 0, vs 0, vs 0, vs 0, vs 0, vs 0, vs 0, vs 0, vs 0, vi 0, vs 0, vs 0, vi 0, vi 0, vi 0, vs 0, vi 0, vs 0, vs 0, vs 0, vi 0, vi 0, vi 0, vi 0, vs 0, vs 0, vs 0]) (ci := 12) (i := 10) (v := vr (j + 6)) (dt_at dtX12_init 31 rfl) rfl (by decide) wF_X12_32 (fun _ => rfl) GC_n (fun _ => by first | rfl | decide) (fun _ => rfl) (fun _ h9 => by cases h9) (Nat.le_of_ble_eq_true rfl) rfl ?_
  refine C_aload (dt_at dtX12_init 32 rfl) rfl rfl ⟨_, rfl⟩ ?_
  refine C_sipush (dt_at dtX12_init 33 rfl) (by decide) ?_
  refine C_newI (k := (j + 7)) (N := 700) (dt_at dtX12_init 34 rfl) (by decide) (by decide) (by decide) rfl (by decide) (by decide) ?_
  refine C_puts (fs' := [vi 0, vi 0, vi 0, vi (-1), vi (-1), vr (j + 1), vr (j + 2), vr (j + 3), vr (j + 4), vr (j + 5), vr (j + 6), vr (j + 7), vi 0, vi 0, vi 0, vs 0, vi 0, vi 0, vi 0, vi 0, vi 0, vi 0, vi 0, vl 0, vi 0, vi 0, vi 0, vi 0, vi 0, vi 0, vi 0, vi 0, vi 0, vs 0, vs 0, vs 0, vs 0, vs 0, vs 0, vs 0, vs 0, vs 0, vs 0, vs 0, vi 0, vs 0, vs 0, vi 0, vi 0, vi 0, vs 0, vi 0, vs 0, vs 0, vs 0, vi 0, vi 0, vi 0, vi 0, vs 0, vs 0, vs 0]) (ci := 12) (i := 11) (v := vr (j + 7)) (dt_at dtX12_init 35 rfl) rfl (by decide) wF_X12_35 (fun _ => rfl) GC_n (fun _ => by first | rfl | decide) (fun _ => rfl) (fun _ h9 => by cases h9) (Nat.le_of_ble_eq_true rfl) rfl ?_
  refine C_aload (dt_at dtX12_init 36 rfl) rfl rfl ⟨_, rfl⟩ ?_
  refine C_iconst (dt_at dtX12_init 37 rfl) ?_
  refine C_puts (fs' := [vi 0, vi 0, vi 0, vi (-1), vi (-1), vr (j + 1), vr (j + 2), vr (j + 3), vr (j + 4), vr (j + 5), vr (j + 6), vr (j + 7), vi 0, vi 0, vi (-1), vs 0, vi 0, vi 0, vi 0, vi 0, vi 0, vi 0, vi 0, vl 0, vi 0, vi 0, vi 0, vi 0, vi 0, vi 0, vi 0, vi 0, vi 0, vs 0, vs 0, vs 0, vs 0, vs 0, vs 0, vs 0, vs 0, vs 0, vs 0, vs 0, vi 0, vs 0, vs 0, vi 0, vi 0, vi 0, vs 0, vi 0, vs 0, vs 0, vs 0, vi 0, vi 0, vi 0, vi 0, vs 0, vs 0, vs 0]) (ci := 12) (i := 14) (v := vi (-1)) (dt_at dtX12_init 38 rfl) rfl (by decide) wF_X12_38 (fun _ => rfl) GC_n (fun _ => by first | rfl | decide) (fun _ => rfl) (fun _ h9 => by cases h9) (Nat.le_of_ble_eq_true rfl) rfl ?_
  refine C_aload (dt_at dtX12_init 39 rfl) rfl rfl ⟨_, rfl⟩ ?_
  refine C_iconst (dt_at dtX12_init 40 rfl) ?_
  refine C_newI (k := (j + 8)) (N := 3) (dt_at dtX12_init 41 rfl) (by decide) (by decide) (by decide) rfl (by decide) (by decide) ?_
  refine C_puts (fs' := [vi 0, vi 0, vi 0, vi (-1), vi (-1), vr (j + 1), vr (j + 2), vr (j + 3), vr (j + 4), vr (j + 5), vr (j + 6), vr (j + 7), vi 0, vi 0, vi (-1), vr (j + 8), vi 0, vi 0, vi 0, vi 0, vi 0, vi 0, vi 0, vl 0, vi 0, vi 0, vi 0, vi 0, vi 0, vi 0, vi 0, vi 0, vi 0, vs 0, vs 0, vs 0, vs 0, vs 0, vs 0, vs 0, vs 0, vs 0, vs 0, vs 0, vi 0, vs 0, vs 0, vi 0, vi 0, vi 0, vs 0, vi 0, vs 0, vs 0, vs 0, vi 0, vi 0, vi 0, vi 0, vs 0, vs 0, vs 0]) (ci := 12) (i := 15) (v := vr (j + 8)) (dt_at dtX12_init 42 rfl) rfl (by decide) wF_X12_41 (fun _ => rfl) GC_n (fun _ => by first | rfl | decide) (fun _ => rfl) (fun _ h9 => by cases h9) (Nat.le_of_ble_eq_true rfl) rfl ?_
  refine C_aload (dt_at dtX12_init 43 rfl) rfl rfl ⟨_, rfl⟩ ?_
  refine C_bipush (dt_at dtX12_init 44 rfl) (by decide) ?_
  refine C_newI (k := (j + 9)) (N := 6) (dt_at dtX12_init 45 rfl) (by decide) (by decide) (by decide) rfl (by decide) (by decide) ?_
  refine C_puts (fs' := [vi 0, vi 0, vi 0, vi (-1), vi (-1), vr (j + 1), vr (j + 2), vr (j + 3), vr (j + 4), vr (j + 5), vr (j + 6), vr (j + 7), vi 0, vi 0, vi (-1), vr (j + 8), vi 0, vi 0, vi 0, vi 0, vi 0, vi 0, vi 0, vl 0, vi 0, vi 0, vi 0, vi 0, vi 0, vi 0, vi 0, vi 0, vi 0, vr (j + 9), vs 0, vs 0, vs 0, vs 0, vs 0, vs 0, vs 0, vs 0, vs 0, vs 0, vi 0, vs 0, vs 0, vi 0, vi 0, vi 0, vs 0, vi 0, vs 0, vs 0, vs 0, vi 0, vi 0, vi 0, vi 0, vs 0, vs 0, vs 0]) (ci := 12) (i := 33) (v := vr (j + 9)) (dt_at dtX12_init 46 rfl) rfl (by decide) wF_X12_44 (fun _ => rfl) GC_n (fun _ => by first | rfl | decide) (fun _ => rfl) (fun _ h9 => by cases h9) (Nat.le_of_ble_eq_true rfl) rfl ?_
  refine C_aload (dt_at dtX12_init 47 rfl) rfl rfl ⟨_, rfl⟩ ?_
  refine C_bipush (dt_at dtX12_init 48 rfl) (by decide) ?_
  refine C_newI (k := (j + 10)) (N := 6) (dt_at dtX12_init 49 rfl) (by decide) (by decide) (by decide) rfl (by decide) (by decide) ?_
  refine C_puts (fs' := [vi 0, vi 0, vi 0, vi (-1), vi (-1), vr (j + 1), vr (j + 2), vr (j + 3), vr (j + 4), vr (j + 5), vr (j + 6), vr (j + 7), vi 0, vi 0, vi (-1), vr (j + 8), vi 0, vi 0, vi 0, vi 0, vi 0, vi 0, vi 0, vl 0, vi 0, vi 0, vi 0, vi 0, vi 0, vi 0, vi 0, vi 0, vi 0, vr (j + 9), vr (j + 10), vs 0, vs 0, vs 0, vs 0, vs 0, vs 0, vs 0, vs 0, vs 0, vi 0, vs 0, vs 0, vi 0, vi 0, vi 0, vs 0, vi 0, vs 0, vs 0, vs 0, vi 0, vi 0, vi 0, vi 0, vs 0, vs 0, vs 0]) (ci := 12) (i := 34) (v := vr (j + 10)) (dt_at dtX12_init 50 rfl) rfl (by decide) wF_X12_47 (fun _ => rfl) GC_n (fun _ => by first | rfl | decide) (fun _ => rfl) (fun _ h9 => by cases h9) (Nat.le_of_ble_eq_true rfl) rfl ?_
  refine C_aload (dt_at dtX12_init 51 rfl) rfl rfl ⟨_, rfl⟩ ?_
  refine C_bipush (dt_at dtX12_init 52 rfl) (by decide) ?_
  refine C_newI (k := (j + 11)) (N := 7) (dt_at dtX12_init 53 rfl) (by decide) (by decide) (by decide) rfl (by decide) (by decide) ?_
  refine C_puts (fs' := [vi 0, vi 0, vi 0, vi (-1), vi (-1), vr (j + 1), vr (j + 2), vr (j + 3), vr (j + 4), vr (j + 5), vr (j + 6), vr (j + 7), vi 0, vi 0, vi (-1), vr (j + 8), vi 0, vi 0, vi 0, vi 0, vi 0, vi 0, vi 0, vl 0, vi 0, vi 0, vi 0, vi 0, vi 0, vi 0, vi 0, vi 0, vi 0, vr (j + 9), vr (j + 10), vr (j + 11), vs 0, vs 0, vs 0, vs 0, vs 0, vs 0, vs 0, vs 0, vi 0, vs 0, vs 0, vi 0, vi 0, vi 0, vs 0, vi 0, vs 0, vs 0, vs 0, vi 0, vi 0, vi 0, vi 0, vs 0, vs 0, vs 0]) (ci := 12) (i := 35) (v := vr (j + 11)) (dt_at dtX12_init 54 rfl) rfl (by decide) wF_X12_50 (fun _ => rfl) GC_n (fun _ => by first | rfl | decide) (fun _ => rfl) (fun _ h9 => by cases h9) (Nat.le_of_ble_eq_true rfl) rfl ?_
  refine C_aload (dt_at dtX12_init 55 rfl) rfl rfl ⟨_, rfl⟩ ?_
  refine C_bipush (dt_at dtX12_init 56 rfl) (by decide) ?_
  refine C_newI (k := (j + 12)) (N := 7) (dt_at dtX12_init 57 rfl) (by decide) (by decide) (by decide) rfl (by decide) (by decide) ?_
  refine C_puts (fs' := [vi 0, vi 0, vi 0, vi (-1), vi (-1), vr (j + 1), vr (j + 2), vr (j + 3), vr (j + 4), vr (j + 5), vr (j + 6), vr (j + 7), vi 0, vi 0, vi (-1), vr (j + 8), vi 0, vi 0, vi 0, vi 0, vi 0, vi 0, vi 0, vl 0, vi 0, vi 0, vi 0, vi 0, vi 0, vi 0, vi 0, vi 0, vi 0, vr (j + 9), vr (j + 10), vr (j + 11), vr (j + 12), vs 0, vs 0, vs 0, vs 0, vs 0, vs 0, vs 0, vi 0, vs 0, vs 0, vi 0, vi 0, vi 0, vs 0, vi 0, vs 0, vs 0, vs 0, vi 0, vi 0, vi 0, vi 0, vs 0, vs 0, vs 0]) (ci := 12) (i := 36) (v := vr (j + 12)) (dt_at dtX12_init 58 rfl) rfl (by decide) wF_X12_53 (fun _ => rfl) GC_n (fun _ => by first | rfl | decide) (fun _ => rfl) (fun _ h9 => by cases h9) (Nat.le_of_ble_eq_true rfl) rfl ?_
  refine C_aload (dt_at dtX12_init 59 rfl) rfl rfl ⟨_, rfl⟩ ?_
  refine C_bipush (dt_at dtX12_init 60 rfl) (by decide) ?_
  refine C_newI (k := (j + 13)) (N := 7) (dt_at dtX12_init 61 rfl) (by decide) (by decide) (by decide) rfl (by decide) (by decide) ?_
  refine C_puts (fs' := [vi 0, vi 0, vi 0, vi (-1), vi (-1), vr (j + 1), vr (j + 2), vr (j + 3), vr (j + 4), vr (j + 5), vr (j + 6), vr (j + 7), vi 0, vi 0, vi (-1), vr (j + 8), vi 0, vi 0, vi 0, vi 0, vi 0, vi 0, vi 0, vl 0, vi 0, vi 0, vi 0, vi 0, vi 0, vi 0, vi 0, vi 0, vi 0, vr (j + 9), vr (j + 10), vr (j + 11), vr (j + 12), vr (j + 13), vs 0, vs 0, vs 0, vs 0, vs 0, vs 0, vi 0, vs 0, vs 0, vi 0, vi 0, vi 0, vs 0, vi 0, vs 0, vs 0, vs 0, vi 0, vi 0, vi 0, vi 0, vs 0, vs 0, vs 0]) (ci := 12) (i := 37) (v := vr (j + 13)) (dt_at dtX12_init 62 rfl) rfl (by decide) wF_X12_56 (fun _ => rfl) GC_n (fun _ => by first | rfl | decide) (fun _ => rfl) (fun _ h9 => by cases h9) (Nat.le_of_ble_eq_true rfl) rfl ?_
  refine C_aload (dt_at dtX12_init 63 rfl) rfl rfl ⟨_, rfl⟩ ?_
  refine C_bipush (dt_at dtX12_init 64 rfl) (by decide) ?_
  refine C_newI (k := (j + 14)) (N := 77) (dt_at dtX12_init 65 rfl) (by decide) (by decide) (by decide) rfl (by decide) (by decide) ?_
  refine C_puts (fs' := [vi 0, vi 0, vi 0, vi (-1), vi (-1), vr (j + 1), vr (j + 2), vr (j + 3), vr (j + 4), vr (j + 5), vr (j + 6), vr (j + 7), vi 0, vi 0, vi (-1), vr (j + 8), vi 0, vi 0, vi 0, vi 0, vi 0, vi 0, vi 0, vl 0, vi 0, vi 0, vi 0, vi 0, vi 0, vi 0, vi 0, vi 0, vi 0, vr (j + 9), vr (j + 10), vr (j + 11), vr (j + 12), vr (j + 13), vr (j + 14), vs 0, vs 0, vs 0, vs 0, vs 0, vi 0, vs 0, vs 0, vi 0, vi 0, vi 0, vs 0, vi 0, vs 0, vs 0, vs 0, vi 0, vi 0, vi 0, vi 0, vs 0, vs 0, vs 0]) (ci := 12) (i := 38) (v := vr (j + 14)) (dt_at dtX12_init 66 rfl) rfl (by decide) wF_X12_59 (fun _ => rfl) GC_n (fun _ => by first | rfl | decide) (fun _ => rfl) (fun _ h9 => by cases h9) (Nat.le_of_ble_eq_true rfl) rfl ?_
  refine C_aload (dt_at dtX12_init 67 rfl) rfl rfl ⟨_, rfl⟩ ?_
  refine C_sipush (dt_at dtX12_init 68 rfl) (by decide) ?_
  refine C_newI (k := (j + 15)) (N := 1400) (dt_at dtX12_init 69 rfl) (by decide) (by decide) (by decide) rfl (by decide) (by decide) ?_
  refine C_puts (fs' := [vi 0, vi 0, vi 0, vi (-1), vi (-1), vr (j + 1), vr (j + 2), vr (j + 3), vr (j + 4), vr (j + 5), vr (j + 6), vr (j + 7), vi 0, vi 0, vi (-1), vr (j + 8), vi 0, vi 0, vi 0, vi 0, vi 0, vi 0, vi 0, vl 0, vi 0, vi 0, vi 0, vi 0, vi 0, vi 0, vi 0, vi 0, vi 0, vr (j + 9), vr (j + 10), vr (j + 11), vr (j + 12), vr (j + 13), vr (j + 14), vr (j + 15), vs 0, vs 0, vs 0, vs 0, vi 0, vs 0, vs 0, vi 0, vi 0, vi 0, vs 0, vi 0, vs 0, vs 0, vs 0, vi 0, vi 0, vi 0, vi 0, vs 0, vs 0, vs 0]) (ci := 12) (i := 39) (v := vr (j + 15)) (dt_at dtX12_init 70 rfl) rfl (by decide) wF_X12_62 (fun _ => rfl) GC_n (fun _ => by first | rfl | decide) (fun _ => rfl) (fun _ h9 => by cases h9) (Nat.le_of_ble_eq_true rfl) rfl ?_
  refine C_aload (dt_at dtX12_init 71 rfl) rfl rfl ⟨_, rfl⟩ ?_
  refine C_sipush (dt_at dtX12_init 72 rfl) (by decide) ?_
  refine C_newI (k := (j + 16)) (N := 950) (dt_at dtX12_init 73 rfl) (by decide) (by decide) (by decide) rfl (by decide) (by decide) ?_
  refine C_puts (fs' := [vi 0, vi 0, vi 0, vi (-1), vi (-1), vr (j + 1), vr (j + 2), vr (j + 3), vr (j + 4), vr (j + 5), vr (j + 6), vr (j + 7), vi 0, vi 0, vi (-1), vr (j + 8), vi 0, vi 0, vi 0, vi 0, vi 0, vi 0, vi 0, vl 0, vi 0, vi 0, vi 0, vi 0, vi 0, vi 0, vi 0, vi 0, vi 0, vr (j + 9), vr (j + 10), vr (j + 11), vr (j + 12), vr (j + 13), vr (j + 14), vr (j + 15), vr (j + 16), vs 0, vs 0, vs 0, vi 0, vs 0, vs 0, vi 0, vi 0, vi 0, vs 0, vi 0, vs 0, vs 0, vs 0, vi 0, vi 0, vi 0, vi 0, vs 0, vs 0, vs 0]) (ci := 12) (i := 40) (v := vr (j + 16)) (dt_at dtX12_init 74 rfl) rfl (by decide) wF_X12_65 (fun _ => rfl) GC_n (fun _ => by first | rfl | decide) (fun _ => rfl) (fun _ h9 => by cases h9) (Nat.le_of_ble_eq_true rfl) rfl ?_
  refine C_aload (dt_at dtX12_init 75 rfl) rfl rfl ⟨_, rfl⟩ ?_
  refine C_bipush (dt_at dtX12_init 76 rfl) (by decide) ?_
  refine C_newZ (k := (j + 17)) (N := 9) (dt_at dtX12_init 77 rfl) (by decide) (by decide) (by decide) rfl (by decide) (by decide) ?_
  refine C_puts (fs' := [vi 0, vi 0, vi 0, vi (-1), vi (-1), vr (j + 1), vr (j + 2), vr (j + 3), vr (j + 4), vr (j + 5), vr (j + 6), vr (j + 7), vi 0, vi 0, vi (-1), vr (j + 8), vi 0, vi 0, vi 0, vi 0, vi 0, vi 0, vi 0, vl 0, vi 0, vi 0, vi 0, vi 0, vi 0, vi 0, vi 0, vi 0, vi 0, vr (j + 9), vr (j + 10), vr (j + 11), vr (j + 12), vr (j + 13), vr (j + 14), vr (j + 15), vr (j + 16), vr (j + 17), vs 0, vs 0, vi 0, vs 0, vs 0, vi 0, vi 0, vi 0, vs 0, vi 0, vs 0, vs 0, vs 0, vi 0, vi 0, vi 0, vi 0, vs 0, vs 0, vs 0]) (ci := 12) (i := 41) (v := vr (j + 17)) (dt_at dtX12_init 78 rfl) rfl (by decide) wF_X12_68 (fun _ => rfl) GC_n (fun _ => by first | rfl | decide) (fun _ => rfl) (fun _ h9 => by cases h9) (Nat.le_of_ble_eq_true rfl) rfl ?_
  refine C_aload (dt_at dtX12_init 79 rfl) rfl rfl ⟨_, rfl⟩ ?_
  refine C_sipush (dt_at dtX12_init 80 rfl) (by decide) ?_
  refine C_newI (k := (j + 18)) (N := 154) (dt_at dtX12_init 81 rfl) (by decide) (by decide) (by decide) rfl (by decide) (by decide) ?_
  refine C_puts (fs' := [vi 0, vi 0, vi 0, vi (-1), vi (-1), vr (j + 1), vr (j + 2), vr (j + 3), vr (j + 4), vr (j + 5), vr (j + 6), vr (j + 7), vi 0, vi 0, vi (-1), vr (j + 8), vi 0, vi 0, vi 0, vi 0, vi 0, vi 0, vi 0, vl 0, vi 0, vi 0, vi 0, vi 0, vi 0, vi 0, vi 0, vi 0, vi 0, vr (j + 9), vr (j + 10), vr (j + 11), vr (j + 12), vr (j + 13), vr (j + 14), vr (j + 15), vr (j + 16), vr (j + 17), vr (j + 18), vs 0, vi 0, vs 0, vs 0, vi 0, vi 0, vi 0, vs 0, vi 0, vs 0, vs 0, vs 0, vi 0, vi 0, vi 0, vi 0, vs 0, vs 0, vs 0]) (ci := 12) (i := 42) (v := vr (j + 18)) (dt_at dtX12_init 82 rfl) rfl (by decide) wF_X12_72 (fun _ => rfl) GC_n (fun _ => by first | rfl | decide) (fun _ => rfl) (fun _ h9 => by cases h9) (Nat.le_of_ble_eq_true rfl) rfl ?_
  refine C_aload (dt_at dtX12_init 83 rfl) rfl rfl ⟨_, rfl⟩ ?_
  refine C_sipush (dt_at dtX12_init 84 rfl) (by decide) ?_
  refine C_newI (k := (j + 19)) (N := 3080) (dt_at dtX12_init 85 rfl) (by decide) (by decide) (by decide) rfl (by decide) (by decide) ?_
  refine C_puts (fs' := [vi 0, vi 0, vi 0, vi (-1), vi (-1), vr (j + 1), vr (j + 2), vr (j + 3), vr (j + 4), vr (j + 5), vr (j + 6), vr (j + 7), vi 0, vi 0, vi (-1), vr (j + 8), vi 0, vi 0, vi 0, vi 0, vi 0, vi 0, vi 0, vl 0, vi 0, vi 0, vi 0, vi 0, vi 0, vi 0, vi 0, vi 0, vi 0, vr (j + 9), vr (j + 10), vr (j + 11), vr (j + 12), vr (j + 13), vr (j + 14), vr (j + 15), vr (j + 16), vr (j + 17), vr (j + 18), vr (j + 19), vi 0, vs 0, vs 0, vi 0, vi 0, vi 0, vs 0, vi 0, vs 0, vs 0, vs 0, vi 0, vi 0, vi 0, vi 0, vs 0, vs 0, vs 0]) (ci := 12) (i := 43) (v := vr (j + 19)) (dt_at dtX12_init 86 rfl) rfl (by decide) wF_X12_75 (fun _ => rfl) GC_n (fun _ => by first | rfl | decide) (fun _ => rfl) (fun _ h9 => by cases h9) (Nat.le_of_ble_eq_true rfl) rfl ?_
  refine C_aload (dt_at dtX12_init 87 rfl) rfl rfl ⟨_, rfl⟩ ?_
  refine C_bipush (dt_at dtX12_init 88 rfl) (by decide) ?_
  refine C_newI (k := (j + 20)) (N := 8) (dt_at dtX12_init 89 rfl) (by decide) (by decide) (by decide) rfl (by decide) (by decide) ?_
  refine C_puts (fs' := [vi 0, vi 0, vi 0, vi (-1), vi (-1), vr (j + 1), vr (j + 2), vr (j + 3), vr (j + 4), vr (j + 5), vr (j + 6), vr (j + 7), vi 0, vi 0, vi (-1), vr (j + 8), vi 0, vi 0, vi 0, vi 0, vi 0, vi 0, vi 0, vl 0, vi 0, vi 0, vi 0, vi 0, vi 0, vi 0, vi 0, vi 0, vi 0, vr (j + 9), vr (j + 10), vr (j + 11), vr (j + 12), vr (j + 13), vr (j + 14), vr (j + 15), vr (j + 16), vr (j + 17), vr (j + 18), vr (j + 19), vi 0, vr (j + 20), vs 0, vi 0, vi 0, vi 0, vs 0, vi 0, vs 0, vs 0, vs 0, vi 0, vi 0, vi 0, vi 0, vs 0, vs 0, vs 0]) (ci := 12) (i := 45) (v := vr (j + 20)) (dt_at dtX12_init 90 rfl) rfl (by decide) wF_X12_78 (fun _ => rfl) GC_n (fun _ => by first | rfl | decide) (fun _ => rfl) (fun _ h9 => by cases h9) (Nat.le_of_ble_eq_true rfl) rfl ?_
  refine C_aload (dt_at dtX12_init 91 rfl) rfl rfl ⟨_, rfl⟩ ?_
  refine C_sipush (dt_at dtX12_init 92 rfl) (by decide) ?_
  refine C_newI (k := (j + 21)) (N := 950) (dt_at dtX12_init 93 rfl) (by decide) (by decide) (by decide) rfl (by decide) (by decide) ?_
  refine C_puts (fs' := [vi 0, vi 0, vi 0, vi (-1), vi (-1), vr (j + 1), vr (j + 2), vr (j + 3), vr (j + 4), vr (j + 5), vr (j + 6), vr (j + 7), vi 0, vi 0, vi (-1), vr (j + 8), vi 0, vi 0, vi 0, vi 0, vi 0, vi 0, vi 0, vl 0, vi 0, vi 0, vi 0, vi 0, vi 0, vi 0, vi 0, vi 0, vi 0, vr (j + 9), vr (j + 10), vr (j + 11), vr (j + 12), vr (j + 13), vr (j + 14), vr (j + 15), vr (j + 16), vr (j + 17), vr (j + 18), vr (j + 19), vi 0, vr (j + 20), vr (j + 21), vi 0, vi 0, vi 0, vs 0, vi 0, vs 0, vs 0, vs 0, vi 0, vi 0, vi 0, vi 0, vs 0, vs 0, vs 0]) (ci := 12) (i := 46) (v := vr (j + 21)) (dt_at dtX12_init 94 rfl) rfl (by decide) wF_X12_81 (fun _ => rfl) GC_n (fun _ => by first | rfl | decide) (fun _ => rfl) (fun _ h9 => by cases h9) (Nat.le_of_ble_eq_true rfl) rfl ?_
  refine C_aload (dt_at dtX12_init 95 rfl) rfl rfl ⟨_, rfl⟩ ?_
  refine C_sipush (dt_at dtX12_init 96 rfl) (by decide) ?_
  refine C_newI (k := (j + 22)) (N := 427) (dt_at dtX12_init 97 rfl) (by decide) (by decide) (by decide) rfl (by decide) (by decide) ?_
  refine C_puts (fs' := [vi 0, vi 0, vi 0, vi (-1), vi (-1), vr (j + 1), vr (j + 2), vr (j + 3), vr (j + 4), vr (j + 5), vr (j + 6), vr (j + 7), vi 0, vi 0, vi (-1), vr (j + 8), vi 0, vi 0, vi 0, vi 0, vi 0, vi 0, vi 0, vl 0, vi 0, vi 0, vi 0, vi 0, vi 0, vi 0, vi 0, vi 0, vi 0, vr (j + 9), vr (j + 10), vr (j + 11), vr (j + 12), vr (j + 13), vr (j + 14), vr (j + 15), vr (j + 16), vr (j + 17), vr (j + 18), vr (j + 19), vi 0, vr (j + 20), vr (j + 21), vi 0, vi 0, vi 0, vr (j + 22), vi 0, vs 0, vs 0, vs 0, vi 0, vi 0, vi 0, vi 0, vs 0, vs 0, vs 0]) (ci := 12) (i := 50) (v := vr (j + 22)) (dt_at dtX12_init 98 rfl) rfl (by decide) wF_X12_84 (fun _ => rfl) GC_n (fun _ => by first | rfl | decide) (fun _ => rfl) (fun _ h9 => by cases h9) (Nat.le_of_ble_eq_true rfl) rfl ?_
  refine C_aload (dt_at dtX12_init 99 rfl) rfl rfl ⟨_, rfl⟩ ?_
  refine C_bipush (dt_at dtX12_init 100 rfl) (by decide) ?_
  refine C_newI (k := (j + 23)) (N := 32) (dt_at dtX12_init 101 rfl) (by decide) (by decide) (by decide) rfl (by decide) (by decide) ?_
  refine C_puts (fs' := [vi 0, vi 0, vi 0, vi (-1), vi (-1), vr (j + 1), vr (j + 2), vr (j + 3), vr (j + 4), vr (j + 5), vr (j + 6), vr (j + 7), vi 0, vi 0, vi (-1), vr (j + 8), vi 0, vi 0, vi 0, vi 0, vi 0, vi 0, vi 0, vl 0, vi 0, vi 0, vi 0, vi 0, vi 0, vi 0, vi 0, vi 0, vi 0, vr (j + 9), vr (j + 10), vr (j + 11), vr (j + 12), vr (j + 13), vr (j + 14), vr (j + 15), vr (j + 16), vr (j + 17), vr (j + 18), vr (j + 19), vi 0, vr (j + 20), vr (j + 21), vi 0, vi 0, vi 0, vr (j + 22), vi 0, vr (j + 23), vs 0, vs 0, vi 0, vi 0, vi 0, vi 0, vs 0, vs 0, vs 0]) (ci := 12) (i := 52) (v := vr (j + 23)) (dt_at dtX12_init 102 rfl) rfl (by decide) wF_X12_87 (fun _ => rfl) GC_n (fun _ => by first | rfl | decide) (fun _ => rfl) (fun _ h9 => by cases h9) (Nat.le_of_ble_eq_true rfl) rfl ?_
  refine C_aload (dt_at dtX12_init 103 rfl) rfl rfl ⟨_, rfl⟩ ?_
  refine C_bipush (dt_at dtX12_init 104 rfl) (by decide) ?_
  refine C_newI (k := (j + 24)) (N := 6) (dt_at dtX12_init 105 rfl) (by decide) (by decide) (by decide) rfl (by decide) (by decide) ?_
  refine C_puts (fs' := [vi 0, vi 0, vi 0, vi (-1), vi (-1), vr (j + 1), vr (j + 2), vr (j + 3), vr (j + 4), vr (j + 5), vr (j + 6), vr (j + 7), vi 0, vi 0, vi (-1), vr (j + 8), vi 0, vi 0, vi 0, vi 0, vi 0, vi 0, vi 0, vl 0, vi 0, vi 0, vi 0, vi 0, vi 0, vi 0, vi 0, vi 0, vi 0, vr (j + 9), vr (j + 10), vr (j + 11), vr (j + 12), vr (j + 13), vr (j + 14), vr (j + 15), vr (j + 16), vr (j + 17), vr (j + 18), vr (j + 19), vi 0, vr (j + 20), vr (j + 21), vi 0, vi 0, vi 0, vr (j + 22), vi 0, vr (j + 23), vr (j + 24), vs 0, vi 0, vi 0, vi 0, vi 0, vs 0, vs 0, vs 0]) (ci := 12) (i := 53) (v := vr (j + 24)) (dt_at dtX12_init 106 rfl) rfl (by decide) wF_X12_90 (fun _ => rfl) GC_n (fun _ => by first | rfl | decide) (fun _ => rfl) (fun _ h9 => by cases h9) (Nat.le_of_ble_eq_true rfl) rfl ?_
  refine C_aload (dt_at dtX12_init 107 rfl) rfl rfl ⟨_, rfl⟩ ?_
  refine C_sipush (dt_at dtX12_init 108 rfl) (by decide) ?_
  refine C_newI (k := (j + 25)) (N := 420) (dt_at dtX12_init 109 rfl) (by decide) (by decide) (by decide) rfl (by decide) (by decide) ?_
  refine C_puts (fs' := [vi 0, vi 0, vi 0, vi (-1), vi (-1), vr (j + 1), vr (j + 2), vr (j + 3), vr (j + 4), vr (j + 5), vr (j + 6), vr (j + 7), vi 0, vi 0, vi (-1), vr (j + 8), vi 0, vi 0, vi 0, vi 0, vi 0, vi 0, vi 0, vl 0, vi 0, vi 0, vi 0, vi 0, vi 0, vi 0, vi 0, vi 0, vi 0, vr (j + 9), vr (j + 10), vr (j + 11), vr (j + 12), vr (j + 13), vr (j + 14), vr (j + 15), vr (j + 16), vr (j + 17), vr (j + 18), vr (j + 19), vi 0, vr (j + 20), vr (j + 21), vi 0, vi 0, vi 0, vr (j + 22), vi 0, vr (j + 23), vr (j + 24), vr (j + 25), vi 0, vi 0, vi 0, vi 0, vs 0, vs 0, vs 0]) (ci := 12) (i := 54) (v := vr (j + 25)) (dt_at dtX12_init 110 rfl) rfl (by decide) wF_X12_93 (fun _ => rfl) GC_n (fun _ => by first | rfl | decide) (fun _ => rfl) (fun _ h9 => by cases h9) (Nat.le_of_ble_eq_true rfl) rfl ?_
  refine C_aload (dt_at dtX12_init 111 rfl) rfl rfl ⟨_, rfl⟩ ?_
  refine C_bipush (dt_at dtX12_init 112 rfl) (by decide) ?_
  refine C_newI (k := (j + 26)) (N := 77) (dt_at dtX12_init 113 rfl) (by decide) (by decide) (by decide) rfl (by decide) (by decide) ?_
  refine C_puts (fs' := [vi 0, vi 0, vi 0, vi (-1), vi (-1), vr (j + 1), vr (j + 2), vr (j + 3), vr (j + 4), vr (j + 5), vr (j + 6), vr (j + 7), vi 0, vi 0, vi (-1), vr (j + 8), vi 0, vi 0, vi 0, vi 0, vi 0, vi 0, vi 0, vl 0, vi 0, vi 0, vi 0, vi 0, vi 0, vi 0, vi 0, vi 0, vi 0, vr (j + 9), vr (j + 10), vr (j + 11), vr (j + 12), vr (j + 13), vr (j + 14), vr (j + 15), vr (j + 16), vr (j + 17), vr (j + 18), vr (j + 19), vi 0, vr (j + 20), vr (j + 21), vi 0, vi 0, vi 0, vr (j + 22), vi 0, vr (j + 23), vr (j + 24), vr (j + 25), vi 0, vi 0, vi 0, vi 0, vr (j + 26), vs 0, vs 0]) (ci := 12) (i := 59) (v := vr (j + 26)) (dt_at dtX12_init 114 rfl) rfl (by decide) wF_X12_96 (fun _ => rfl) GC_n (fun _ => by first | rfl | decide) (fun _ => rfl) (fun _ h9 => by cases h9) (Nat.le_of_ble_eq_true rfl) rfl ?_
  refine C_aload (dt_at dtX12_init 115 rfl) rfl rfl ⟨_, rfl⟩ ?_
  refine C_sipush (dt_at dtX12_init 116 rfl) (by decide) ?_
  refine C_newI (k := (j + 27)) (N := 3080) (dt_at dtX12_init 117 rfl) (by decide) (by decide) (by decide) rfl (by decide) (by decide) ?_
  refine C_puts (fs' := [vi 0, vi 0, vi 0, vi (-1), vi (-1), vr (j + 1), vr (j + 2), vr (j + 3), vr (j + 4), vr (j + 5), vr (j + 6), vr (j + 7), vi 0, vi 0, vi (-1), vr (j + 8), vi 0, vi 0, vi 0, vi 0, vi 0, vi 0, vi 0, vl 0, vi 0, vi 0, vi 0, vi 0, vi 0, vi 0, vi 0, vi 0, vi 0, vr (j + 9), vr (j + 10), vr (j + 11), vr (j + 12), vr (j + 13), vr (j + 14), vr (j + 15), vr (j + 16), vr (j + 17), vr (j + 18), vr (j + 19), vi 0, vr (j + 20), vr (j + 21), vi 0, vi 0, vi 0, vr (j + 22), vi 0, vr (j + 23), vr (j + 24), vr (j + 25), vi 0, vi 0, vi 0, vi 0, vr (j + 26), vr (j + 27), vs 0]) (ci := 12) (i := 60) (v := vr (j + 27)) (dt_at dtX12_init 118 rfl) rfl (by decide) wF_X12_99 (fun _ => rfl) GC_n (fun _ => by first | rfl | decide) (fun _ => rfl) (fun _ h9 => by cases h9) (Nat.le_of_ble_eq_true rfl) rfl ?_
  refine C_aload (dt_at dtX12_init 119 rfl) rfl rfl ⟨_, rfl⟩ ?_
  refine C_bipush (dt_at dtX12_init 120 rfl) (by decide) ?_
  refine C_newI (k := (j + 28)) (N := 32) (dt_at dtX12_init 121 rfl) (by decide) (by decide) (by decide) rfl (by decide) (by decide) ?_
  refine C_puts (fs' := [vi 0, vi 0, vi 0, vi (-1), vi (-1), vr (j + 1), vr (j + 2), vr (j + 3), vr (j + 4), vr (j + 5), vr (j + 6), vr (j + 7), vi 0, vi 0, vi (-1), vr (j + 8), vi 0, vi 0, vi 0, vi 0, vi 0, vi 0, vi 0, vl 0, vi 0, vi 0, vi 0, vi 0, vi 0, vi 0, vi 0, vi 0, vi 0, vr (j + 9), vr (j + 10), vr (j + 11), vr (j + 12), vr (j + 13), vr (j + 14), vr (j + 15), vr (j + 16), vr (j + 17), vr (j + 18), vr (j + 19), vi 0, vr (j + 20), vr (j + 21), vi 0, vi 0, vi 0, vr (j + 22), vi 0, vr (j + 23), vr (j + 24), vr (j + 25), vi 0, vi 0, vi 0, vi 0, vr (j + 26), vr (j + 27), vr (j + 28)]) (ci := 12) (i := 61) (v := vr (j + 28)) (dt_at dtX12_init 122 rfl) rfl (by decide) wF_X12_102 (fun _ => rfl) GC_n (fun _ => by first | rfl | decide) (fun _ => rfl) (fun _ h9 => by cases h9) (Nat.le_of_ble_eq_true rfl) rfl ?_
  exact C_ret (dt_at dtX12_init 123 rfl) rfl (by decide) (by decide)
