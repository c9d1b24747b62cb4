/-! String.indexOf of the two constants: the JDK's own methods. -/
def SX (ad adV : Nat → Nat) (U : State) : Prop := vk_S 2 [4, 3] [[100, 116, 110, 109], [100, 104, 108]] (fun i => ad (203 + i)) adV (fun _ => False) U U.heap ∧ va_Z "java/lang/String" "COMPACT_STRINGS" "Z" (.int 1) (fun _ => False) U U.heap
theorem SX.moved {ad adV : Nat → Nat} {u U : State} (hvm : u.vm.Alike U.vm) (hh : U.heap = u.heap) (h : SX ad adV u) : SX ad adV U := by
  unfold SX
  rw [hh]
  exact ⟨h.1.moved hvm, h.2.moved hvm⟩
def RD (l : Launch) (ad adV : Nat → Nat) (y : MethodName) (cy : ByteArray) (nL : Nat) (ty : FieldType) (fr lo : Nat) (as : List Value) (v : Int32) : Prop := Met l y (Cond.code y cy nL (some ty) :: lw_tb) { frames := fr, cells := 0, slots := 0, locals := lo } (va_Pc as (SX ad adV)) (fun _ st oc t => oc = .returned (some (.int v)) ∧ t.heap = st.heap) 0 0 (fun _ => False)
theorem rd_of {l : Launch} {ad adV : Nat → Nat} {y : MethodName} {cy : ByteArray} {nL fr lo : Nat} {ty : FieldType} {as : List Value} {v : Int32} (hpn : plainName y.cls = true) (hlen : (lg_sl as).length ≤ nL) (hn : narrow ty (.int v) = .int v)
    (body : ∀ (p : Program) (e : Env) (s : State) (m : MethodId) (below : List Frame) (meth : Method) (c : Code) (ls : Array Slot) (Q : State → Prop), CallFix p m c cy nL s as.toArray lw_tb y.cls → lv_has ls nL (lv_args 0 as) → SX ad adV s → (∀ (pc : Nat) (ls1 : Array Slot), decode cy pc = .ok (.ireturn, 1) → W p l e { frames := fr, cells := 0, slots := 0, locals := lo } s m as.toArray below meth c s.heap [] 0 0 Q (F0 m pc ls1 [.int v])) → W p l e { frames := fr, cells := 0, slots := 0, locals := lo } s m as.toArray below meth c s.heap [] 0 0 Q (F0 m 0 ls [])) : RD l ad adV y cy nL ty fr lo as v := by
  refine Met.ofW (cc := cy) (maxL := nL) (ret := some ty) hpn rfl ?_
  intro p e s m args below meth c s₁ B hml hv
  obtain ⟨rfl, hX⟩ := hv
  have hx := B.exec
  have hb := B.bytes
  have hr := B.returns
  have hlocks := B.notSynchronized
  have hts0 := atoms_spec (ws := Cond.code y cy nL (some ty) :: lw_tb) B.pre
  have hts : ∀ w ∈ lw_tb, w.before as.toArray s = true := fun w hw => hts0 w (List.mem_cons_of_mem _ hw)
  have hown : s.vm.findClass y.cls = some m.cls := findClass_of_methodNamed B.named
  have hl := lv_entry as (n := nL) hlen
  rw [lg_entry_eq]
  generalize (lg_sl as ++ List.replicate (nL - (lg_sl as).length) Slot.unset).toArray = ls at hl ⊢
  refine body p e s m below meth c ls _ ⟨hx, hb, hml, hown, hts⟩ hl hX (fun pc ls1 hd => ?_)
  exact W.zret hx hb hr hn (fun t ht hW => ⟨rfl, ht⟩) (fun q hq => by cases hq) hd
section IX
variable {p : Program} {l : Launch} {e : Env} {R : Room} {s : State} {m : MethodId} {args : Array Value} {below : List Frame} {meth : Method} {c : Code} {H : Heap} {locs : List Loc} {cells slots : Nat} {Q : State → Prop}
variable {ad adV : Nat → Nat} {cc : ByteArray} {nL pc : Nat} {ls : Array Slot} {rest st0 : List Value}
theorem ix_go {a : Array Value} {v : Int32} (hr : va_Run p l e R s m args below meth c H locs cells slots 0 0 (F0 m pc ls st0) rest ((fun (_ : Array Value) st oc t => oc = .returned (some (.int v)) ∧ t.heap = st.heap) a) (fun _ => False)) (kk : W p l e R s m args below meth c H locs cells slots Q (F0 m (pc + 3) ls (.int v :: rest))) : W p l e R s m args below meth c H locs cells slots Q (F0 m pc ls st0) := by
  intro T hT X
  obtain ⟨w, st₀, t, T', L', h0, X', hL, e1, e2, ⟨hv, hh⟩, st⟩ := hr T hT X
  have hw : w = some (.int v) := by
    injection hv
  subst hw
  have hL0 : L' = [] := by
    cases L' with
    | nil => rfl
    | cons q l => exact absurd (hL q List.mem_cons_self) id
  subst hL0
  rw [List.append_nil] at X'
  obtain ⟨t2, a1, b1⟩ := kk T' (by rw [e1, hh, h0]) X'
  exact ⟨t2, st t2 a1, b1⟩
theorem ix_ws {y : MethodName} {cy : ByteArray} {maxL : Nat} {ty : FieldType} (hts : ∀ w ∈ lw_tb, w.before args s = true) (w6 : Cond.code y cy maxL (some ty) ∈ lw_tbl) : ∀ w ∈ Cond.code y cy maxL (some ty) :: lw_tb, ∀ (a' : Array Value) (U : State), s.WarmedH U.vm → w.before a' U = true := by
  intro w hw
  rcases List.mem_cons.mp hw with h | h
  · subst h
    exact ride g_code (hts _ (in_tb w6 g_code))
  · exact tb_ride hts w h
theorem ix_pre {as : List Value} (hX : SX ad adV s) : PreS s s.heap (va_Pc as (SX ad adV)) as :=
  ⟨fun a U g mk z => ⟨z.1, SX.moved (u := U) (U := U.calling g mk a) (Vm.Alike.refl U.vm) rfl z.2⟩, fun U hU hW => ⟨rfl, hX.moved hW.alike hU⟩⟩
theorem ix_S {y : MethodName} {cy : ByteArray} {maxL n fr lo index : Nat} {ty : FieldType} {own : String} {As : List Value} {v : Int32} {lv : List (Nat × Value)} (S : CallFix p m c cc nL s args lw_tb own) (hX : SX ad adV s) (hl : lv_has ls nL lv) (hM : RD l ad adV y cy maxL ty fr lo As v) (w4 : Cond.methodLink own index y ∈ lw_tbl) (w5 : Cond.static y ∈ lw_tbl) (w6 : Cond.code y cy maxL (some ty) ∈ lw_tbl) (w3 : Cond.initialized y.cls ∈ lw_tbl) (hyn : y.cls ≠ "java/lang/invoke/MethodHandle" ∧ y.cls ≠ "java/lang/invoke/VarHandle") (hpar : (parseMethodDescriptor y.desc).map (fun d => d.parameters.length) = some n) (hn : As.length = n) (hroom : fr + 1 ≤ R.frames ∧ 8 + (maxL + 11) + lo ≤ R.locals) (hr : (rest.map fun v => v.category).sum ≤ 8) (hst : st0 = As.reverse ++ rest) (d : decode cc pc = .ok (.invokestatic index, 3))
    (kk : W p l e R s m args below meth c s.heap [] 0 0 Q (F0 m (pc + 3) ls (.int v :: rest))) : W p l e R s m args below meth c s.heap [] 0 0 Q (F0 m pc ls st0) := by
  obtain ⟨hx, hb, hml, hown, hts⟩ := id S
  have hp2 : ∀ sig, parseMethodDescriptor y.desc = some sig → n = sig.parameters.length := by
    intro sig h
    rw [h] at hpar
    exact (Option.some.inj hpar).symm
  exact ix_go (a := As.toArray) (va_runS (As := As) (rest := rest) (n := n) S hM ⟨⟨rfl, rfl, hroom.1, hroom.2, ix_ws hts w6, List.mem_cons_self, hts _ (in_tb w6 g_code), hts _ (in_tb w3 g_ini), hyn, hp2, hts _ (in_tb w4 g_ml)⟩, hts _ (in_tb w5 g_st)⟩ (ix_pre hX) rfl hn hl.1 hst (lv_room hr) d ⟨Nat.zero_le _, Nat.zero_le _⟩) kk
theorem ix_V {y : MethodName} {cy : ByteArray} {maxL n fr lo index j : Nat} {ty : FieldType} {own : String} {As : List Value} {v : Int32} {lv : List (Nat × Value)} (S : CallFix p m c cc nL s args lw_tb own) (hX : SX ad adV s) (hl : lv_has ls nL lv) (hj : j < 2) (hM : RD l ad adV y cy maxL ty fr lo (.ref (ad (203 + j)) :: As) v) (w4 : Cond.methodLink own index y ∈ lw_tbl) (w5 : Cond.instanceMethod y ∈ lw_tbl) (w7 : Cond.selects "java/lang/String" y y ∈ lw_tbl) (w6 : Cond.code y cy maxL (some ty) ∈ lw_tbl) (w3 : Cond.initialized y.cls ∈ lw_tbl) (hyn : y.cls ≠ "java/lang/invoke/MethodHandle" ∧ y.cls ≠ "java/lang/invoke/VarHandle") (hpar : (parseMethodDescriptor y.desc).map (fun d => d.parameters.length) = some n) (hn : As.length = n) (hroom : fr + 1 ≤ R.frames ∧ 8 + (maxL + 11) + lo ≤ R.locals) (hr : (rest.map fun v => v.category).sum ≤ 8) (hst : st0 = As.reverse ++ .ref (ad (203 + j)) :: rest) (d : decode cc pc = .ok (.invokevirtual index, 3))
    (kk : W p l e R s m args below meth c s.heap [] 0 0 Q (F0 m (pc + 3) ls (.int v :: rest))) : W p l e R s m args below meth c s.heap [] 0 0 Q (F0 m pc ls st0) := by
  obtain ⟨hx, hb, hml, hown, hts⟩ := id S
  have hp2 : ∀ sig, parseMethodDescriptor y.desc = some sig → n = sig.parameters.length := by
    intro sig h
    rw [h] at hpar
    exact (Option.some.inj hpar).symm
  have hpre := ix_pre (as := .ref (ad (203 + j)) :: As) hX
  exact ix_go (a := (Value.ref (ad (203 + j)) :: As).toArray) (va_runV (C := "java/lang/String") (As := As) (rest := rest) (n := n) S hM ⟨⟨rfl, rfl, hroom.1, hroom.2, ix_ws hts w6, List.mem_cons_self, hts _ (in_tb w6 g_code), hts _ (in_tb w3 g_ini), hyn, hp2, hts _ (in_tb w4 g_ml)⟩, hts _ (in_tb w5 g_in), hts _ (in_tb w7 g_se)⟩ ⟨hpre.1, vk_recv hX.1 hj va_S.rf, hpre.2⟩ rfl hn hl.1 hst (lv_room hr) d ⟨Nat.zero_le _, Nat.zero_le _⟩) kk
end IX
def bsx (j : Nat) : List Int32 := ([[100, 116, 110, 109], [100, 104, 108]] : List (List Int32)).getD j []
def lnx (j : Nat) : Nat := ([4, 3] : List Nat).getD j 0
/-- indexOf on what is left of a text -/
def ixL : List Int32 → Int32 → Nat → Int32
  | [], _, _ => -1
  | b :: t, x, k => if b = x then nI k else ixL t x (k + 1)
theorem ixL_0 : ∀ n, n < 256 → ixL (bsx 0) (Int32.ofNat n).toInt8.toInt32 0 = ixD (Int32.ofNat n) := by decide +kernel
theorem ixL_1 : ∀ n, n < 256 → ixL (bsx 1) (Int32.ofNat n).toInt8.toInt32 0 = ixH (Int32.ofNat n) := by decide +kernel
def ixx (j : Nat) (x : Int32) : Int32 := if j = 0 then ixD x else ixH x
theorem ixx_in {j : Nat} {x : Int32} (hj : j < 2) (h : ¬ x < 0 ∧ ¬ 255 < x) : ixL (bsx j) x.toInt8.toInt32 0 = ixx j x := by
  obtain ⟨h1, h2⟩ := h
  rw [Int32.lt_iff_toInt_lt] at h1 h2
  have e0 : (0 : Int32).toInt = 0 := rfl
  have e2 : (255 : Int32).toInt = 255 := rfl
  obtain ⟨n, hn, rfl⟩ := nIof (v := x) (n := 256) (by omega) (by omega)
  have hj2 : j = 0 ∨ j = 1 := by omega
  rcases hj2 with rfl | rfl
  · exact ixL_0 n hn
  · exact ixL_1 n hn
theorem ixx_out {j : Nat} {x : Int32} (h : x < 0 ∨ 255 < x) : ixx j x = -1 := by
  have n : ∀ k : Int32, 0 ≤ k.toInt → k.toInt ≤ 255 → ¬ x = k := by
    intro k h1 h2 z
    subst z
    rw [Int32.lt_iff_toInt_lt, Int32.lt_iff_toInt_lt] at h
    have e0 : (0 : Int32).toInt = 0 := rfl
    have e2 : (255 : Int32).toInt = 255 := rfl
    omega
  unfold ixx ixD ixH
  rw [if_neg (n 100 (by decide) (by decide)), if_neg (n 116 (by decide) (by decide)), if_neg (n 110 (by decide) (by decide)), if_neg (n 109 (by decide) (by decide)), if_neg (n 100 (by decide) (by decide)), if_neg (n 104 (by decide) (by decide)), if_neg (n 108 (by decide) (by decide))]
  exact ite_self _
section IY
variable {l : Launch} {ad adV : Nat → Nat} {j : Nat}
set_option maxRecDepth 100000 in
theorem rd_coder (hj : j < 2) : RD l ad adV ⟨"java/lang/String", "coder", "()B"⟩ prog_13_method_152_code 1 .byte 2 60 [.ref (ad (203 + j))] 0 := by
  refine rd_of (by decide +kernel) (Nat.le_of_ble_eq_true rfl) rfl ?_
  intro p e s m below meth c ls Q S hl hX fin
  obtain ⟨hx, hb, hml, hown, hts⟩ := id S
  refine va_gets hx hb hX.2 va_S.rf hown (hts _ (in_tb (List.mem_append_right _ (List.mem_of_getElem? (i := 503) (by decide +kernel))) g_fl)) (fun _ h => h) (index := 38) (by decide +kernel) ?_
  refine lv_if_eq (off := 10) (tgt := 13) hx hb (by decide +kernel) (by decide) (fun h => absurd h (by decide)) (fun _ => ?_)
  refine lv_aload_n (k := 0) hx hb (by decide +kernel) rfl (lv_at hl 0 rfl) ?_
  refine vk_getf (index := 15) hx hb (hX.1.1 j hj).2.1 va_S.rf hown (hts _ (in_tb (List.mem_append_right _ (List.mem_of_getElem? (i := 1284) (by decide +kernel))) g_fl)) (fun _ h => h) (by decide +kernel) ?_
  refine lv_goto (off := 4) (tgt := 14) hx hb (by decide +kernel) (by decide) ?_
  exact fin 14 ls (by decide +kernel)
set_option maxRecDepth 100000 in
theorem rd_lat (hj : j < 2) : RD l ad adV ⟨"java/lang/String", "isLatin1", "()Z"⟩ prog_13_method_154_code 1 .boolean 2 60 [.ref (ad (203 + j))] 1 := by
  refine rd_of (by decide +kernel) (Nat.le_of_ble_eq_true rfl) rfl ?_
  intro p e s m below meth c ls Q S hl hX fin
  obtain ⟨hx, hb, hml, hown, hts⟩ := id S
  refine va_gets hx hb hX.2 va_S.rf hown (hts _ (in_tb (List.mem_append_right _ (List.mem_of_getElem? (i := 503) (by decide +kernel))) g_fl)) (fun _ h => h) (index := 38) (by decide +kernel) ?_
  refine lv_if_eq (off := 14) (tgt := 17) hx hb (by decide +kernel) (by decide) (fun h => absurd h (by decide)) (fun _ => ?_)
  refine lv_aload_n (k := 0) hx hb (by decide +kernel) rfl (lv_at hl 0 rfl) ?_
  refine vk_getf (index := 15) hx hb (hX.1.1 j hj).2.1 va_S.rf hown (hts _ (in_tb (List.mem_append_right _ (List.mem_of_getElem? (i := 1284) (by decide +kernel))) g_fl)) (fun _ h => h) (by decide +kernel) ?_
  refine lv_if_ne (off := 7) (tgt := 17) hx hb (by decide +kernel) (by decide) (fun h => absurd rfl h) (fun _ => ?_)
  refine lv_iconst (n := 1) (v := 1) hx hb (by decide +kernel) rfl ?_
  refine lv_goto (off := 4) (tgt := 18) hx hb (by decide +kernel) (by decide) ?_
  exact fin 18 ls (by decide +kernel)
set_option maxRecDepth 100000 in
theorem rd_len (hj : j < 2) : RD l ad adV ⟨"java/lang/String", "length", "()I"⟩ prog_13_method_54_code 1 .int 4 160 [.ref (ad (203 + j))] (nI (lnx j)) := by
  refine rd_of (by decide +kernel) (Nat.le_of_ble_eq_true rfl) rfl ?_
  intro p e s m below meth c ls Q S hl hX fin
  obtain ⟨hx, hb, hml, hown, hts⟩ := id S
  refine lv_aload_n (k := 0) hx hb (by decide +kernel) rfl (lv_at hl 0 rfl) ?_
  refine vk_getf (index := 9) hx hb (hX.1.1 j hj).2.2.1 va_S.rf hown (hts _ (in_tb (List.mem_append_right _ (List.mem_of_getElem? (i := 1285) (by decide +kernel))) g_fl)) (fun _ h => h) (by decide +kernel) ?_
  refine va_tlen hx hb (hX.1.1 j hj).2.2.2 va_S.rf rfl (by decide +kernel) ?_
  refine lv_aload_n (k := 0) hx hb (by decide +kernel) rfl (lv_at hl 0 rfl) ?_
  refine ix_V (index := 335) (j := j) (n := 0) (As := []) (rest := [.int (nI (lnx j))]) S hX hl hj (rd_coder hj) (List.mem_append_right _ (List.mem_of_getElem? (i := 509) (by decide +kernel))) (List.mem_append_right _ (List.mem_of_getElem? (i := 510) (by decide +kernel))) (List.mem_append_right _ (List.mem_of_getElem? (i := 511) (by decide +kernel))) (List.mem_append_right _ (List.mem_of_getElem? (i := 512) (by decide +kernel))) (List.mem_append_right _ (List.mem_of_getElem? (i := 11) (by decide +kernel))) ⟨by decide +kernel, by decide +kernel⟩ (by decide +kernel) rfl ⟨Nat.le_of_ble_eq_true rfl, Nat.le_of_ble_eq_true rfl⟩ (Nat.le_of_ble_eq_true rfl) rfl (by decide +kernel) ?_
  refine lv_ishr hx hb (by decide +kernel) ?_
  have e : (nI (lnx j) >>> ((0 : Int32) &&& 31)) = nI (lnx j) := by
    have hj2 : j = 0 ∨ j = 1 := by omega
    rcases hj2 with rfl | rfl <;> decide +kernel
  have q := fin 10 ls (by decide +kernel)
  rw [← e] at q
  exact q
set_option maxRecDepth 100000 in
theorem rd_can1 {x : Int32} (h : ¬ x < 0 ∧ ¬ 255 < x) : RD l ad adV ⟨"java/lang/StringLatin1", "canEncode", "(I)Z"⟩ prog_14_method_4_code 1 .boolean 2 60 [.int x] 1 := by
  refine rd_of (by decide +kernel) (Nat.le_of_ble_eq_true rfl) rfl ?_
  intro p e s m below meth c ls Q S hl hX fin
  obtain ⟨hx, hb, hml, hown, hts⟩ := id S
  refine lv_iload_n (k := 0) hx hb (by decide +kernel) rfl (lv_at hl 0 rfl) ?_
  refine lv_if_lt (off := 14) (tgt := 15) hx hb (by decide +kernel) (by decide) (fun z => absurd z h.1) (fun _ => ?_)
  refine lv_iload_n (k := 0) hx hb (by decide +kernel) rfl (lv_at hl 0 rfl) ?_
  refine lv_sipush (n := 255) (v := 255) hx hb (by decide +kernel) (by decide +kernel) ?_
  refine lv_icmp_gt (off := 7) (tgt := 15) hx hb (by decide +kernel) (by decide) (fun z => absurd z h.2) (fun _ => ?_)
  refine lv_iconst (n := 1) (v := 1) hx hb (by decide +kernel) rfl ?_
  refine lv_goto (off := 4) (tgt := 16) hx hb (by decide +kernel) (by decide) ?_
  exact fin 16 ls (by decide +kernel)
set_option maxRecDepth 100000 in
theorem rd_can0 {x : Int32} (h : x < 0 ∨ 255 < x) : RD l ad adV ⟨"java/lang/StringLatin1", "canEncode", "(I)Z"⟩ prog_14_method_4_code 1 .boolean 2 60 [.int x] 0 := by
  refine rd_of (by decide +kernel) (Nat.le_of_ble_eq_true rfl) rfl ?_
  intro p e s m below meth c ls Q S hl hX fin
  obtain ⟨hx, hb, hml, hown, hts⟩ := id S
  have out : ∀ ls1 : Array Slot, W p l e { frames := 2, cells := 0, slots := 0, locals := 60 } s m _ below meth c s.heap [] 0 0 Q (F0 m 15 ls1 []) := fun ls1 => lv_iconst (n := 0) (v := 0) hx hb (by decide +kernel) rfl (fin 16 ls1 (by decide +kernel))
  refine lv_iload_n (k := 0) hx hb (by decide +kernel) rfl (lv_at hl 0 rfl) ?_
  refine lv_if_lt (off := 14) (tgt := 15) hx hb (by decide +kernel) (by decide) (fun _ => out ls) (fun n0 => ?_)
  refine lv_iload_n (k := 0) hx hb (by decide +kernel) rfl (lv_at hl 0 rfl) ?_
  refine lv_sipush (n := 255) (v := 255) hx hb (by decide +kernel) (by decide +kernel) ?_
  exact lv_icmp_gt (off := 7) (tgt := 15) hx hb (by decide +kernel) (by decide) (fun _ => out ls) (fun n1 => absurd h (fun z => z.elim n0 n1))
set_option maxRecDepth 100000 in
theorem rd_ioc {x : Int32} (hj : j < 2) : RD l ad adV ⟨"java/lang/StringLatin1", "indexOfChar", "([BIII)I"⟩ prog_14_method_23_code 6 .int 2 60 [.ref (adV j), .int x, .int 0, .int (nI (lnx j))] (ixL (bsx j) x.toInt8.toInt32 0) := by
  refine rd_of (by decide +kernel) (Nat.le_of_ble_eq_true rfl) rfl ?_
  intro p e s m below meth c ls Q S hl hX fin
  obtain ⟨hx, hb, hml, hown, hts⟩ := id S
  refine lv_iload_n (k := 1) hx hb (by decide +kernel) rfl (lv_at hl 1 rfl) ?_
  refine lv_i2b hx hb (by decide +kernel) rfl ?_
  refine lv_istore (i := 4) hx hb (by decide +kernel) hl (by decide) rfl (fun ls hl => ?_)
  refine lv_iload_n (k := 2) hx hb (by decide +kernel) rfl (lv_at hl 3 rfl) ?_
  refine lv_istore (i := 5) hx hb (by decide +kernel) hl (by decide) rfl (fun ls hl => ?_)
  have hl : lv_has ls 6 [(5, .int (nI 0)), (4, .int x.toInt8.toInt32), (0, .ref (adV j)), (1, .int x), (2, .int 0), (3, .int (nI (lnx j)))] := hl
  have hT := (hX.1.1 j hj).2.2.2
  have hln : (bsx j).length = lnx j := by
    have hj2 : j = 0 ∨ j = 1 := by omega
    rcases hj2 with rfl | rfl <;> rfl
  have hl4 : lnx j ≤ 4 := by
    have hj2 : j = 0 ∨ j = 1 := by omega
    rcases hj2 with rfl | rfl <;> decide
  have loop : ∀ (t : List Int32) (k : Nat) (ls : Array Slot), (bsx j).drop k = t → k ≤ lnx j → ixL t x.toInt8.toInt32 k = ixL (bsx j) x.toInt8.toInt32 0 → lv_has ls 6 [(5, .int (nI k)), (4, .int x.toInt8.toInt32), (0, .ref (adV j)), (1, .int x), (2, .int 0), (3, .int (nI (lnx j)))] → W p l e { frames := 2, cells := 0, slots := 0, locals := 60 } s m ([.ref (adV j), .int x, .int 0, .int (nI (lnx j))] : List Value).toArray below meth c s.heap [] 0 0 Q (F0 m 7 ls []) := by
    intro t
    induction t with
    | nil =>
      intro k ls hk hle hv hl
      have hk2 : k = lnx j := by
        have := congrArg List.length hk
        rw [List.length_drop, hln, List.length_nil] at this
        omega
      refine lv_iload (i := 5) hx hb (by decide +kernel) (lv_at hl 0 rfl) ?_
      refine lv_iload_n (k := 3) hx hb (by decide +kernel) rfl (lv_at hl 5 rfl) ?_
      refine lv_icmp_ge (off := 21) (tgt := 31) hx hb (by decide +kernel) (by decide) (fun _ => ?_) (fun z => absurd (by rw [hk2]; exact Int32.le_refl _) z)
      refine lv_iconst (n := -1) (v := -1) hx hb (by decide +kernel) rfl ?_
      have q := fin 32 ls (by decide +kernel)
      rw [← hv] at q
      exact q
    | cons b t ih =>
      intro k ls hk hle hv hl
      have hlen := congrArg List.length hk
      rw [List.length_drop, hln, List.length_cons] at hlen
      have hlt : k < lnx j := by omega
      have hb0 : (bsx j)[k]? = some b := by
        have h0 : ((bsx j).drop k)[0]? = some b := by rw [hk]; rfl
        rw [List.getElem?_drop] at h0
        exact h0
      have hbk : (bsx j).getD k 0 = b := by rw [List.getD_eq_getElem?_getD, hb0]; rfl
      have nk : (nI k).toInt = k := nI_toInt (by omega)
      have nn : (nI (lnx j)).toInt = (lnx j : Nat) := nI_toInt (by omega)
      have ck : (nI k).toNatClampNeg = k := ix_nI (by omega)
      refine lv_iload (i := 5) hx hb (by decide +kernel) (lv_at hl 0 rfl) ?_
      refine lv_iload_n (k := 3) hx hb (by decide +kernel) rfl (lv_at hl 5 rfl) ?_
      refine lv_icmp_ge (off := 21) (tgt := 31) hx hb (by decide +kernel) (by decide) (fun z => absurd z (by rw [Int32.le_iff_toInt_le, nk, nn]; omega)) (fun _ => ?_)
      refine lv_aload_n (k := 0) hx hb (by decide +kernel) rfl (lv_at hl 2 rfl) ?_
      refine lv_iload (i := 5) hx hb (by decide +kernel) (lv_at hl 0 rfl) ?_
      refine va_tb (v := .int b) hx hb hT va_S.rf (i := nI k) ?_ ?_ (by decide +kernel) ?_
      · unfold vp_in
        rw [ck, Int32.lt_iff_toInt_lt, nk]
        have e0 : (0 : Int32).toInt = 0 := rfl
        intro z
        rcases z with z | z
        · omega
        · exact absurd hlt (Nat.not_lt.mpr z)
      · rw [ck]
        exact congrArg Value.int hbk
      refine lv_iload (i := 4) hx hb (by decide +kernel) (lv_at hl 1 rfl) ?_
      refine lv_icmp_ne (off := 6) (tgt := 25) hx hb (by decide +kernel) (by decide) (fun hne => ?_) (fun heq => ?_)
      · refine lv_iinc (i := 5) (n := 1) (v := nI (k + 1)) hx hb (by decide +kernel) (k := 0) hl rfl (by rw [nI_succ]; rfl) (by decide) rfl (fun ls1 hl1 => ?_)
        refine lv_goto (off := -21) (tgt := 7) hx hb (by decide +kernel) (by decide) ?_
        refine ih (k + 1) ls1 ?_ hlt ?_ hl1
        · rw [← List.drop_drop, hk]
          rfl
        · rw [← hv]
          exact (if_neg hne).symm
      · refine lv_iload (i := 5) hx hb (by decide +kernel) (lv_at hl 0 rfl) ?_
        have q := fin 24 ls (by decide +kernel)
        have e : ixL (b :: t) x.toInt8.toInt32 k = nI k := if_pos heq
        rw [← hv, e] at q
        exact q
  exact loop (bsx j) 0 ls rfl (Nat.zero_le _) rfl hl
set_option maxRecDepth 100000 in
theorem rd_l1 {x : Int32} (hj : j < 2) : RD l ad adV ⟨"java/lang/StringLatin1", "indexOf", "([BIII)I"⟩ prog_14_method_22_code 4 .int 4 160 [.ref (adV j), .int x, .int 0, .int (nI (lnx j))] (ixx j x) := by
  refine rd_of (by decide +kernel) (Nat.le_of_ble_eq_true rfl) rfl ?_
  intro p e s m below meth c ls Q S hl hX fin
  obtain ⟨hx, hb, hml, hown, hts⟩ := id S
  by_cases h : x < 0 ∨ 255 < x
  · refine lv_iload_n (k := 1) hx hb (by decide +kernel) rfl (lv_at hl 1 rfl) ?_
    refine ix_S (index := 88) (n := 1) (As := [.int x]) (rest := []) S hX hl (rd_can0 h) (List.mem_append_right _ (List.mem_of_getElem? (i := 516) (by decide +kernel))) (List.mem_append_right _ (List.mem_of_getElem? (i := 517) (by decide +kernel))) (List.mem_append_right _ (List.mem_of_getElem? (i := 518) (by decide +kernel))) (List.mem_append_right _ (List.mem_of_getElem? (i := 12) (by decide +kernel))) ⟨by decide +kernel, by decide +kernel⟩ (by decide +kernel) rfl ⟨Nat.le_of_ble_eq_true rfl, Nat.le_of_ble_eq_true rfl⟩ (Nat.le_of_ble_eq_true rfl) rfl (by decide +kernel) ?_
    refine lv_if_ne (off := 5) (tgt := 9) hx hb (by decide +kernel) (by decide) (fun z => absurd rfl z) (fun _ => ?_)
    refine lv_iconst (n := -1) (v := -1) hx hb (by decide +kernel) rfl ?_
    have q := fin 8 ls (by decide +kernel)
    rw [ixx_out h] at q
    exact q
  · have h2 : ¬ x < 0 ∧ ¬ 255 < x := ⟨fun z => h (Or.inl z), fun z => h (Or.inr z)⟩
    refine lv_iload_n (k := 1) hx hb (by decide +kernel) rfl (lv_at hl 1 rfl) ?_
    refine ix_S (index := 88) (n := 1) (As := [.int x]) (rest := []) S hX hl (rd_can1 h2) (List.mem_append_right _ (List.mem_of_getElem? (i := 516) (by decide +kernel))) (List.mem_append_right _ (List.mem_of_getElem? (i := 517) (by decide +kernel))) (List.mem_append_right _ (List.mem_of_getElem? (i := 518) (by decide +kernel))) (List.mem_append_right _ (List.mem_of_getElem? (i := 12) (by decide +kernel))) ⟨by decide +kernel, by decide +kernel⟩ (by decide +kernel) rfl ⟨Nat.le_of_ble_eq_true rfl, Nat.le_of_ble_eq_true rfl⟩ (Nat.le_of_ble_eq_true rfl) rfl (by decide +kernel) ?_
    refine lv_if_ne (off := 5) (tgt := 9) hx hb (by decide +kernel) (by decide) (fun _ => ?_) (fun z => absurd z (by decide))
    refine lv_iload_n (k := 2) hx hb (by decide +kernel) rfl (lv_at hl 2 rfl) ?_
    refine lv_iconst (n := 0) (v := 0) hx hb (by decide +kernel) rfl ?_
    refine va_mmax hx hb (hml.trans hl.1.symm) hown (hts _ (in_tb (List.mem_append_right _ (List.mem_of_getElem? (i := 519) (by decide +kernel))) g_ml)) (hts _ (in_tb bs_max g_st)) (hts _ (in_tb bi_Math g_ini)) (hts _ (in_tb bc_max g_code)) (Nat.le_of_ble_eq_true rfl) (Nat.le_of_ble_eq_true rfl) (Nat.zero_le _) (Nat.zero_le _) (index := 92) (by decide +kernel) ?_
    refine lv_istore_n (k := 2) (i := 2) hx hb (by decide +kernel) rfl hl (by decide) rfl (fun ls hl => ?_)
    have hl : lv_has ls 4 [(2, .int 0), (0, .ref (adV j)), (1, .int x), (3, .int (nI (lnx j)))] := hl
    refine lv_iload_n (k := 3) hx hb (by decide +kernel) rfl (lv_at hl 3 rfl) ?_
    refine lv_aload_n (k := 0) hx hb (by decide +kernel) rfl (lv_at hl 1 rfl) ?_
    refine va_tlen hx hb (hX.1.1 j hj).2.2.2 va_S.rf rfl (by decide +kernel) ?_
    refine va_mmin hx hb (hml.trans hl.1.symm) hown (hts _ (in_tb (List.mem_append_right _ (List.mem_of_getElem? (i := 520) (by decide +kernel))) g_ml)) (hts _ (in_tb bs_min g_st)) (hts _ (in_tb bi_Math g_ini)) (hts _ (in_tb bc_min g_code)) (Nat.le_of_ble_eq_true rfl) (Nat.le_of_ble_eq_true rfl) (Nat.zero_le _) (Nat.zero_le _) (index := 38) (by decide +kernel) ?_
    have em : (if Int32.ofNat (lnx j) < nI (lnx j) then Int32.ofNat (lnx j) else nI (lnx j)) = nI (lnx j) := ite_self _
    refine lv_istore_n (k := 3) (i := 3) (x := (if Int32.ofNat (lnx j) < nI (lnx j) then Int32.ofNat (lnx j) else nI (lnx j))) hx hb (by decide +kernel) rfl hl (by decide) rfl (fun ls hl => ?_)
    rw [em] at hl
    have hl : lv_has ls 4 [(3, .int (nI (lnx j))), (2, .int 0), (0, .ref (adV j)), (1, .int x)] := hl
    refine lv_iload_n (k := 2) hx hb (by decide +kernel) rfl (lv_at hl 1 rfl) ?_
    refine lv_iload_n (k := 3) hx hb (by decide +kernel) rfl (lv_at hl 0 rfl) ?_
    have hpos : (0 : Int32) < nI (lnx j) := by
      have hj2 : j = 0 ∨ j = 1 := by omega
      rcases hj2 with rfl | rfl <;> decide +kernel
    refine lv_icmp_lt (off := 5) (tgt := 29) hx hb (by decide +kernel) (by decide) (fun _ => ?_) (fun z => absurd hpos z)
    refine lv_aload_n (k := 0) hx hb (by decide +kernel) rfl (lv_at hl 2 rfl) ?_
    refine lv_iload_n (k := 1) hx hb (by decide +kernel) rfl (lv_at hl 3 rfl) ?_
    refine lv_iload_n (k := 2) hx hb (by decide +kernel) rfl (lv_at hl 1 rfl) ?_
    refine lv_iload_n (k := 3) hx hb (by decide +kernel) rfl (lv_at hl 0 rfl) ?_
    refine ix_S (index := 95) (n := 4) (As := [.ref (adV j), .int x, .int 0, .int (nI (lnx j))]) (rest := []) S hX hl (rd_ioc (x := x) hj) (List.mem_append_right _ (List.mem_of_getElem? (i := 521) (by decide +kernel))) (List.mem_append_right _ (List.mem_of_getElem? (i := 522) (by decide +kernel))) (List.mem_append_right _ (List.mem_of_getElem? (i := 523) (by decide +kernel))) (List.mem_append_right _ (List.mem_of_getElem? (i := 12) (by decide +kernel))) ⟨by decide +kernel, by decide +kernel⟩ (by decide +kernel) rfl ⟨Nat.le_of_ble_eq_true rfl, Nat.le_of_ble_eq_true rfl⟩ (Nat.le_of_ble_eq_true rfl) rfl (by decide +kernel) ?_
    have q := fin 36 ls (by decide +kernel)
    rw [← ixx_in hj h2] at q
    exact q
set_option maxRecDepth 100000 in
theorem rd_ii {x : Int32} (hj : j < 2) : RD l ad adV ⟨"java/lang/String", "indexOf", "(II)I"⟩ prog_13_method_80_code 3 .int 6 260 [.ref (ad (203 + j)), .int x, .int 0] (ixx j x) := by
  refine rd_of (by decide +kernel) (Nat.le_of_ble_eq_true rfl) rfl ?_
  intro p e s m below meth c ls Q S hl hX fin
  obtain ⟨hx, hb, hml, hown, hts⟩ := id S
  refine lv_aload_n (k := 0) hx hb (by decide +kernel) rfl (lv_at hl 0 rfl) ?_
  refine ix_V (index := 492) (j := j) (n := 0) (As := []) (rest := []) S hX hl hj (rd_lat hj) (List.mem_append_right _ (List.mem_of_getElem? (i := 499) (by decide +kernel))) (List.mem_append_right _ (List.mem_of_getElem? (i := 500) (by decide +kernel))) (List.mem_append_right _ (List.mem_of_getElem? (i := 501) (by decide +kernel))) (List.mem_append_right _ (List.mem_of_getElem? (i := 502) (by decide +kernel))) (List.mem_append_right _ (List.mem_of_getElem? (i := 11) (by decide +kernel))) ⟨by decide +kernel, by decide +kernel⟩ (by decide +kernel) rfl ⟨Nat.le_of_ble_eq_true rfl, Nat.le_of_ble_eq_true rfl⟩ (Nat.le_of_ble_eq_true rfl) rfl (by decide +kernel) ?_
  refine lv_if_eq (off := 19) (tgt := 23) hx hb (by decide +kernel) (by decide) (fun h => absurd h (by decide)) (fun _ => ?_)
  refine lv_aload_n (k := 0) hx hb (by decide +kernel) rfl (lv_at hl 0 rfl) ?_
  refine vk_getf (index := 9) hx hb (hX.1.1 j hj).2.2.1 va_S.rf hown (hts _ (in_tb (List.mem_append_right _ (List.mem_of_getElem? (i := 1285) (by decide +kernel))) g_fl)) (fun _ h => h) (by decide +kernel) ?_
  refine lv_iload_n (k := 1) hx hb (by decide +kernel) rfl (lv_at hl 1 rfl) ?_
  refine lv_iload_n (k := 2) hx hb (by decide +kernel) rfl (lv_at hl 2 rfl) ?_
  refine lv_aload_n (k := 0) hx hb (by decide +kernel) rfl (lv_at hl 0 rfl) ?_
  refine ix_V (index := 505) (j := j) (n := 0) (As := []) (rest := [.int 0, .int x, .ref (adV j)]) S hX hl hj (rd_len hj) (List.mem_append_right _ (List.mem_of_getElem? (i := 505) (by decide +kernel))) (List.mem_append_right _ (List.mem_of_getElem? (i := 506) (by decide +kernel))) (List.mem_append_right _ (List.mem_of_getElem? (i := 507) (by decide +kernel))) (List.mem_append_right _ (List.mem_of_getElem? (i := 508) (by decide +kernel))) (List.mem_append_right _ (List.mem_of_getElem? (i := 11) (by decide +kernel))) ⟨by decide +kernel, by decide +kernel⟩ (by decide +kernel) rfl ⟨Nat.le_of_ble_eq_true rfl, Nat.le_of_ble_eq_true rfl⟩ (Nat.le_of_ble_eq_true rfl) rfl (by decide +kernel) ?_
  refine ix_S (index := 637) (n := 4) (As := [.ref (adV j), .int x, .int 0, .int (nI (lnx j))]) (rest := []) S hX hl (rd_l1 (x := x) hj) (List.mem_append_right _ (List.mem_of_getElem? (i := 513) (by decide +kernel))) (List.mem_append_right _ (List.mem_of_getElem? (i := 514) (by decide +kernel))) (List.mem_append_right _ (List.mem_of_getElem? (i := 515) (by decide +kernel))) (List.mem_append_right _ (List.mem_of_getElem? (i := 12) (by decide +kernel))) ⟨by decide +kernel, by decide +kernel⟩ (by decide +kernel) rfl ⟨Nat.le_of_ble_eq_true rfl, Nat.le_of_ble_eq_true rfl⟩ (Nat.le_of_ble_eq_true rfl) rfl (by decide +kernel) ?_
  refine lv_goto (off := 16) (tgt := 36) hx hb (by decide +kernel) (by decide) ?_
  exact fin 36 ls (by decide +kernel)
end IY
theorem ix_all {l : Launch} {dC : Nat → ClassId} {dI : Nat → Nat → Nat} {dA : Nat → ClassId} {ad : Nat → Nat} {L : Nat} {fz : Mem} : IXM l dC dI dA ad L fz := by
  intro k o x μ hk
  obtain ⟨j, hj, rfl, rfl⟩ : ∃ j, j < 2 ∧ k = 14 + j ∧ o = 203 + j := by
    rcases hk with ⟨rfl, rfl⟩ | ⟨rfl, rfl⟩
    · exact ⟨0, by decide, rfl, rfl⟩
    · exact ⟨1, by decide, rfl, rfl⟩
  have hv : (if 14 + j = 14 then ixD x else ixH x) = ixx j x := by
    have hj2 : j = 0 ∨ j = 1 := by omega
    rcases hj2 with rfl | rfl <;> rfl
  rw [hv]
  refine Met.ofW (cc := cIX) (maxL := 2) (ret := some .int) (by decide +kernel) rfl ?_
  intro p e s m args below meth c s₁ B hml hv
  obtain ⟨rfl, hW, hVR⟩ := hv
  have hx := B.exec
  have hb := B.bytes
  have hr := B.returns
  have hlocks := B.notSynchronized
  have hts0 := atoms_spec (ws := wsIX) B.pre
  have hts : ∀ w ∈ lw_tb, w.before (([vR (14 + j) (203 + j), vI x] : List AV).map (cv ad)).toArray s = true := fun w hw => hts0 w (List.mem_cons_of_mem _ hw)
  have hown : s.vm.findClass "java/lang/String" = some m.cls := findClass_of_methodNamed B.named
  obtain ⟨-, hP, hz, -, ⟨-, -, hcs⟩, adV, hS⟩ := hW
  have hX : SX ad adV s := ⟨hS.narrow (fun _ h => h.elim), hcs.narrow (fun _ h => h.elim)⟩
  have hl := lv_entry ([.ref (ad (203 + j)), .int x]) (n := 2) (Nat.le_of_ble_eq_true rfl)
  show W p l e _ s m _ below meth c s.heap [] 0 0 _ (entryFrame m ([.ref (ad (203 + j)), .int x] : List Value).toArray 2)
  rw [lg_entry_eq]
  generalize (lg_sl ([.ref (ad (203 + j)), .int x]) ++ List.replicate (2 - (lg_sl ([.ref (ad (203 + j)), .int x])).length) Slot.unset).toArray = ls at hl ⊢
  have S : CallFix p m c cIX 2 s (([vR (14 + j) (203 + j), vI x] : List AV).map (cv ad)).toArray lw_tb "java/lang/String" := ⟨hx, hb, hml, hown, hts⟩
  refine lv_aload_n (k := 0) hx hb (by decide +kernel) rfl (lv_at hl 0 rfl) ?_
  refine lv_iload_n (k := 1) hx hb (by decide +kernel) rfl (lv_at hl 1 rfl) ?_
  refine lv_iconst (n := 0) (v := 0) hx hb (by decide +kernel) rfl ?_
  refine ix_V (index := 633) (j := j) (n := 2) (As := [.int x, .int 0]) (rest := []) S hX hl hj (rd_ii (x := x) hj) (List.mem_append_right _ (List.mem_of_getElem? (i := 495) (by decide +kernel))) (List.mem_append_right _ (List.mem_of_getElem? (i := 496) (by decide +kernel))) (List.mem_append_right _ (List.mem_of_getElem? (i := 497) (by decide +kernel))) (List.mem_append_right _ (List.mem_of_getElem? (i := 498) (by decide +kernel))) (List.mem_append_right _ (List.mem_of_getElem? (i := 11) (by decide +kernel))) ⟨by decide +kernel, by decide +kernel⟩ (by decide +kernel) rfl ⟨Nat.le_of_ble_eq_true rfl, Nat.le_of_ble_eq_true rfl⟩ (Nat.le_of_ble_eq_true rfl) rfl (by decide +kernel) ?_
  refine W.zret hx hb hr rfl (fun t ht hW => ⟨⟨⟨rfl, fun v hv => by cases hv; trivial⟩, by rw [ht]; exact hP, hz⟩, ⟨by rw [ht]; exact Nat.le_refl _, fun q _ _ => by rw [ht]⟩⟩) (fun q hq => by cases hq) (by decide +kernel)
