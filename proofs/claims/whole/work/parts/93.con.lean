/-! CONSTRUCTORS: the objects as they come. -/
def dfs (k : Nat) : List Value := (fl k).map fun x => match x with
  | some _ => .null
  | none => .int 0
theorem dfs_len {k : Nat} (h : k < 9) : (dfs k).length = nF k := by
  unfold dfs
  rw [List.length_map]
  exact fl_len k h
theorem dfs_ok : ∀ k, k < 9 → ∀ j, j < nF k → defaultValue (tyT k j) = vp_V (dfs k) j := by decide +kernel
def wsC (y : MethodName) (cc : ByteArray) (nL : Nat) : List Cond := Cond.code y cc nL none :: lw_tb
/-- the classes of which rows are made -/
def AO (U : State) : Prop := va_AO "TakenUp$Law" U ∧ va_AO "TakenUp$Rest" U ∧ va_AO "TakenUp$Sheet" U ∧ va_AO "TakenUp$Worker" U
theorem AO.moved {u U : State} (hvm : u.vm.Alike U.vm) (h : AO u) : AO U := ⟨h.1.moved hvm, h.2.1.moved hvm, h.2.2.1.moved hvm, h.2.2.2.moved hvm⟩
/-- the world while it is made -/
def CV (dC : Nat → ClassId) (dI : Nat → Nat → Nat) (dA : Nat → ClassId) (A : Nat → Prop) (s : State) (ws : va_W) (H : Heap) (locs : List Loc) : Prop :=
  ((va_K (dC, dI) vwCl (tyA dA) s ∧ AO s) ∧ va_P (dC, dI) vwCl ws H) ∧ (va_D A ws ∧ va_S A s.heap H locs) ∧ ∀ q : Nat, s.heap.size ≤ q → A q
/-- what a constructor makes out of a fresh object -/
def CON (l : Launch) (dC : Nat → ClassId) (dI : Nat → Nat → Nat) (dA : Nat → ClassId) (y : MethodName) (cc : ByteArray) (nL : Nat) (rm : Room) (ci mc ms : Nat) (cl' : Nat → (Nat → Nat) → va_W) : Prop :=
  ∀ h0 sz : Nat, Met l y (wsC y cc nL) rm (va_Pc [.ref h0] (fun U => U.heap.size = sz ∧ va_P (dC, dI) vwCl [(h0, .inr (ci, dfs ci))] U.heap ∧ (va_K (dC, dI) vwCl (tyA dA) U ∧ AO U) ∧ va_D (fun _ => True) [(h0, .inr (ci, dfs ci))])) (va_Qv (fun _ : Nat → Nat => True) (fun f t => va_P (dC, dI) vwCl (cl' h0 f) t.heap ∧ va_K (dC, dI) vwCl (tyA dA) t ∧ va_D (va_A [(h0, .inr (ci, dfs ci))] sz) (cl' h0 f)) (va_A [(h0, .inr (ci, dfs ci))] sz)) mc ms (va_A [(h0, .inr (ci, dfs ci))] sz)
theorem arr_i {D : va_G} {dA : Nat → ClassId} {s : State} {cA : ClassId} (h : va_K D vwCl (tyA dA ++ [(cA, .int)]) s) : cA = dA 0 := by
  have h1 : s.vm.findClass ("[" ++ (FieldType.int).toString) = some (dA 0) := (h.2 0 (dA 0, .int) rfl).2
  have h2 : s.vm.findClass ("[" ++ (FieldType.int).toString) = some cA := (h.2 5 (cA, .int) rfl).2
  exact Option.some.inj (h2.symm.trans h1)
theorem arr_q {D : va_G} {dA : Nat → ClassId} {s : State} {cA : ClassId} {k : Nat} {C : String} (h : va_K D vwCl (tyA dA ++ [(cA, .object C)]) s) (hk : (tyA dA)[k]? = some (dA k, .object C)) : cA = dA k := by
  have hl : k < (tyA dA).length := (List.getElem?_eq_some_iff.mp hk).1
  obtain ⟨-, -, -, -, -, h1⟩ := (h.2 k (dA k, .object C) (by rw [List.getElem?_append_left hl]; exact hk)).2
  obtain ⟨-, -, -, -, -, h2⟩ := (h.2 5 (cA, .object C) rfl).2
  exact Option.some.inj (h2.symm.trans h1)
theorem nd_of : ∀ l : List Nat, l.Nodup → va_nd l = true := by
  intro l
  induction l with
  | nil => exact fun _ => rfl
  | cons a l ih =>
    intro h
    rw [List.nodup_cons] at h
    unfold va_nd
    rw [Bool.and_eq_true, decide_eq_true_eq]
    exact ⟨h.1, ih h.2⟩
theorem nd_range (n : Nat) : va_nd (List.range n) = true := nd_of _ List.nodup_range
section CO
variable {p : Program} {l : Launch} {e : Env} {R : Room} {s : State} {m : MethodId} {args : Array Value} {below : List Frame} {meth : Method} {c : Code} {H : Heap} {locs : List Loc} {cells slots : Nat} {Q : State → Prop}
variable {dC : Nat → ClassId} {dI : Nat → Nat → Nat} {dA : Nat → ClassId} {A : Nat → Prop} {cc : ByteArray} {nL pc : Nat} {ls : Array Slot} {rest : List Value} {ws : va_W}
/-- newarray of ints; putfield -/
theorem cn_arr {h0 ci q0 k index : Nat} {fs : List Value} (S : CallFix p m c cc nL s args lw_tb (cn ci)) (hin : meth.name = "<init>") (V : CV dC dI dA A s ws H locs) (hci : ci < 9) (he : ws[q0]? = some (h0, .inr (ci, fs))) (hfs : fs.length = nF ci) (hk : k < nF ci) (hfin : (TT ci k).2.2.2 = true) (hdecl : (TT ci k).1 = cn ci) (hty : tyT ci k = .array .int) (hlink : Cond.fieldLink (cn ci) index (cn ci) (TT ci k).2.1 (TT ci k).2.2.1 ∈ lw_tbl)
    {n : Int32} {N : Nat} (hn : ¬ n < 0) (hN : n.toNatClampNeg = N) (hby : N * 4 ≤ 536870912) (hcells : cells + 1 ≤ R.cells) (hslots : slots + N ≤ R.slots) (d1 : decode cc pc = .ok (.newarray .int, 2)) (d2 : decode cc (pc + 2) = .ok (.putfield index, 3))
    (kk : ∀ (q : Nat) (H1 : Heap) (locs1 : List Loc), CV dC dI dA A s ((ws ++ [(q, Sum.inl (dA 0, N, Sum.inl (fun _ => 0)))]).set q0 (h0, .inr (ci, fs.set k (.ref q)))) H1 locs1 → W p l e R s m args below meth c H1 locs1 (cells + 1) (slots + N) Q (F0 m (pc + 5) ls rest)) : W p l e R s m args below meth c H locs cells slots Q (F0 m pc ls (.int n :: .ref h0 :: rest)) := by
  obtain ⟨hx, hb, hml, hown, hts⟩ := id S
  obtain ⟨⟨⟨hK, hO⟩, hP⟩, ⟨hD, hS⟩, hA⟩ := V
  refine va_newa (atype := .int) hx hb (hts (.arrayClass .int) (in_tb (List.mem_append_right _ (List.mem_of_getElem? (i := 88) (by decide +kernel))))) rfl hK hP hD hS hA (a0 := (N, .inl (fun _ => 0))) (fun cA => rfl) hn hN hby hcells hslots d1 (fun q cA H1 hK1 hP1 hD1 hS1 => ?_)
  have ea := arr_i hK1
  rw [ea] at hP1 hD1
  have he1 : (ws ++ [(q, Sum.inl (dA 0, N, Sum.inl (fun _ => 0)))])[q0]? = some (h0, .inr (ci, fs)) := by rw [List.getElem?_append_left (List.getElem?_eq_some_iff.mp he).1]; exact he
  exact va_putF hx hb hts (fun w hw => in_tb (cl_in ci hci w hw) (g_lay hw)) (tyT ci) (cl_ty ci hci) (cl_nm ci hci) hown hK hP1 hD1 hS1 q0 he1 (cl_at ci hci) k hk (hts _ (in_tb hlink g_fl)) (fun _ h9 => by rw [hdecl] at h9; exact h9) hfin hin hdecl ((cl_ty ci hci k hk).trans (congrArg some hty)) rfl rfl (by rw [hfs]; exact hk) d2 (fun H2 locs2 hP2 hD2 hS2 => kk q H2 locs2 ⟨⟨⟨hK, hO⟩, hP2⟩, ⟨hD2, hS2⟩, hA⟩)
/-- anewarray; putfield -/
theorem cn_arq {h0 ci q0 k index i1 kq : Nat} {C : String} {fs : List Value} (S : CallFix p m c cc nL s args lw_tb (cn ci)) (hin : meth.name = "<init>") (V : CV dC dI dA A s ws H locs) (hci : ci < 9) (he : ws[q0]? = some (h0, .inr (ci, fs))) (hfs : fs.length = nF ci) (hk : k < nF ci) (hfin : (TT ci k).2.2.2 = true) (hdecl : (TT ci k).1 = cn ci) (hty : tyT ci k = .array (.object C)) (hlink : Cond.fieldLink (cn ci) index (cn ci) (TT ci k).2.1 (TT ci k).2.2.1 ∈ lw_tbl)
    (hkq : (tyA dA)[kq]? = some (dA kq, .object C)) (w1 : Cond.classLink (cn ci) i1 C ∈ lw_tbl) (w2 : ∀ U, AO U → va_AO C U) {n : Int32} {N : Nat} (hn : ¬ n < 0) (hN : n.toNatClampNeg = N) (hby : N * 4 ≤ 536870912) (hcells : cells + 1 ≤ R.cells) (hslots : slots + N ≤ R.slots) (d1 : decode cc pc = .ok (.anewarray i1, 3)) (d2 : decode cc (pc + 3) = .ok (.putfield index, 3))
    (kk : ∀ (q : Nat) (H1 : Heap) (locs1 : List Loc), CV dC dI dA A s ((ws ++ [(q, Sum.inl (dA kq, N, Sum.inr (Sum.inr (Sum.inr (Sum.inr (fun _ => none))))))]).set q0 (h0, .inr (ci, fs.set k (.ref q)))) H1 locs1 → W p l e R s m args below meth c H1 locs1 (cells + 1) (slots + N) Q (F0 m (pc + 6) ls rest)) : W p l e R s m args below meth c H locs cells slots Q (F0 m pc ls (.int n :: .ref h0 :: rest)) := by
  obtain ⟨hx, hb, hml, hown, hts⟩ := id S
  obtain ⟨⟨⟨hK, hO⟩, hP⟩, ⟨hD, hS⟩, hA⟩ := V
  have hov : va_AO C s := w2 s hO
  refine va_newq hx hb hown (hts _ (in_tb w1)) hov hK hP hD hS hA hn hN hby hcells hslots d1 (fun q cA H1 hK1 hP1 hD1 hS1 => ?_)
  have ea := arr_q hK1 hkq
  rw [ea] at hP1 hD1
  have he1 : (ws ++ [(q, Sum.inl (dA kq, N, Sum.inr (Sum.inr (Sum.inr (Sum.inr (fun _ => none))))))])[q0]? = some (h0, .inr (ci, fs)) := by rw [List.getElem?_append_left (List.getElem?_eq_some_iff.mp he).1]; exact he
  exact va_putF hx hb hts (fun w hw => in_tb (cl_in ci hci w hw) (g_lay hw)) (tyT ci) (cl_ty ci hci) (cl_nm ci hci) hown hK hP1 hD1 hS1 q0 he1 (cl_at ci hci) k hk (hts _ (in_tb hlink g_fl)) (fun _ h9 => by rw [hdecl] at h9; exact h9) hfin hin hdecl ((cl_ty ci hci k hk).trans (congrArg some hty)) rfl rfl (by rw [hfs]; exact hk) d2 (fun H2 locs2 hP2 hD2 hS2 => kk q H2 locs2 ⟨⟨⟨hK, hO⟩, hP2⟩, ⟨hD2, hS2⟩, hA⟩)
/-- putfield of a reference that was just made -/
theorem cn_putq {h0 ci q0 k index q : Nat} {C : String} {fs : List Value} (S : CallFix p m c cc nL s args lw_tb (cn ci)) (hin : meth.name = "<init>") (V : CV dC dI dA A s ws H locs) (hci : ci < 9) (he : ws[q0]? = some (h0, .inr (ci, fs))) (hfs : fs.length = nF ci) (hk : k < nF ci) (hfin : (TT ci k).2.2.2 = true) (hdecl : (TT ci k).1 = cn ci) (hty : tyT ci k = .object C) (hlink : Cond.fieldLink (cn ci) index (cn ci) (TT ci k).2.1 (TT ci k).2.2.1 ∈ lw_tbl) (d2 : decode cc pc = .ok (.putfield index, 3))
    (kk : ∀ (H1 : Heap) (locs1 : List Loc), CV dC dI dA A s (ws.set q0 (h0, .inr (ci, fs.set k (.ref q)))) H1 locs1 → W p l e R s m args below meth c H1 locs1 cells slots Q (F0 m (pc + 3) ls rest)) : W p l e R s m args below meth c H locs cells slots Q (F0 m pc ls (.ref q :: .ref h0 :: rest)) := by
  obtain ⟨hx, hb, hml, hown, hts⟩ := id S
  obtain ⟨⟨⟨hK, hO⟩, hP⟩, ⟨hD, hS⟩, hA⟩ := V
  exact va_putF hx hb hts (fun w hw => in_tb (cl_in ci hci w hw) (g_lay hw)) (tyT ci) (cl_ty ci hci) (cl_nm ci hci) hown hK hP hD hS q0 he (cl_at ci hci) k hk (hts _ (in_tb hlink g_fl)) (fun _ h9 => by rw [hdecl] at h9; exact h9) hfin hin hdecl ((cl_ty ci hci k hk).trans (congrArg some hty)) rfl rfl (by rw [hfs]; exact hk) d2 (fun H2 locs2 hP2 hD2 hS2 => kk H2 locs2 ⟨⟨⟨hK, hO⟩, hP2⟩, ⟨hD2, hS2⟩, hA⟩)
/-- putfield of a number -/
theorem cn_puti {h0 ci q0 k index : Nat} {v : Int32} {fs : List Value} (S : CallFix p m c cc nL s args lw_tb (cn ci)) (V : CV dC dI dA A s ws H locs) (hci : ci < 9) (he : ws[q0]? = some (h0, .inr (ci, fs))) (hfs : fs.length = nF ci) (hk : k < nF ci) (hfin : (TT ci k).2.2.2 = false) (hdecl : (TT ci k).1 = cn ci) (hty : tyT ci k = .int) (hlink : Cond.fieldLink (cn ci) index (cn ci) (TT ci k).2.1 (TT ci k).2.2.1 ∈ lw_tbl) (d2 : decode cc pc = .ok (.putfield index, 3))
    (kk : ∀ (H1 : Heap) (locs1 : List Loc), CV dC dI dA A s (ws.set q0 (h0, .inr (ci, fs.set k (.int v)))) H1 locs1 → W p l e R s m args below meth c H1 locs1 cells slots Q (F0 m (pc + 3) ls rest)) : W p l e R s m args below meth c H locs cells slots Q (F0 m pc ls (.int v :: .ref h0 :: rest)) := by
  obtain ⟨hx, hb, hml, hown, hts⟩ := id S
  obtain ⟨⟨⟨hK, hO⟩, hP⟩, ⟨hD, hS⟩, hA⟩ := V
  exact va_put hx hb hts (fun w hw => in_tb (cl_in ci hci w hw) (g_lay hw)) (tyT ci) (cl_ty ci hci) (cl_nm ci hci) hown hK hP hD hS q0 he (cl_at ci hci) k hk (hts _ (in_tb hlink g_fl)) (fun _ h9 => by rw [hdecl] at h9; exact h9) hfin ((cl_ty ci hci k hk).trans (congrArg some hty)) rfl rfl (by rw [hfs]; exact hk) d2 (fun H2 locs2 hP2 hD2 hS2 => kk H2 locs2 ⟨⟨⟨hK, hO⟩, hP2⟩, ⟨hD2, hS2⟩, hA⟩)
/-- getfield of a reference -/
theorem cn_get {h0 ci q0 k index : Nat} {v : Value} {fs : List Value} (S : CallFix p m c cc nL s args lw_tb (cn ci)) (V : CV dC dI dA A s ws H locs) (hci : ci < 9) (he : ws[q0]? = some (h0, .inr (ci, fs))) (hk : k < nF ci) (hdecl : (TT ci k).1 = cn ci) (hlink : Cond.fieldLink (cn ci) index (cn ci) (TT ci k).2.1 (TT ci k).2.2.1 ∈ lw_tbl) (hv : fs[k]? = some v) (d2 : decode cc pc = .ok (.getfield index, 3))
    (kk : W p l e R s m args below meth c H locs cells slots Q (F0 m (pc + 3) ls (v :: rest))) : W p l e R s m args below meth c H locs cells slots Q (F0 m pc ls (.ref h0 :: rest)) := by
  obtain ⟨hx, hb, hml, hown, hts⟩ := id S
  obtain ⟨⟨⟨hK, hO⟩, hP⟩, ⟨hD, hS⟩, hA⟩ := V
  exact va_get hx hb hts (fun w hw => in_tb (cl_in ci hci w hw) (g_lay hw)) hown hK hP q0 he (cl_at ci hci) k hk (hts _ (in_tb hlink g_fl)) (fun _ h9 => by rw [hdecl] at h9; exact h9) hv d2 kk
/-- new; dup; invokespecial -/
theorem cn_obj {cw ci i1 i2 maxL mc ms : Nat} {y : MethodName} {cy : ByteArray} {rm : Room} {cl' : Nat → (Nat → Nat) → va_W} {lv : List (Nat × Value)} (S : CallFix p m c cc nL s args lw_tb (cn cw)) (V : CV dC dI dA A s ws H locs) (hl : lv_has ls nL lv) (hci : ci < 9) (hC : CON l dC dI dA y cy maxL rm ci mc ms cl') (w1 : Cond.classLink (cn cw) i1 (cn ci) ∈ lw_tbl) (w2 : Cond.instantiable (cn ci) (nF ci) ∈ lw_tbl) (w3 : Cond.initialized (cn ci) ∈ lw_tbl) (w4 : (∃ host, Cond.methodLinkNest (cn cw) i2 y host ∈ lw_tbl) ∨ Cond.methodLink (cn cw) i2 y ∈ lw_tbl) (w5 : Cond.instanceMethod y ∈ lw_tbl) (w6 : Cond.code y cy maxL none ∈ lw_tbl)
    (hy : y.cls = cn ci ∧ y.name = "<init>" ∧ y.desc = "()V") (hyn : y.cls ≠ "java/lang/invoke/MethodHandle" ∧ y.cls ≠ "java/lang/invoke/VarHandle") (hrm : rm.cells = mc ∧ rm.slots = ms ∧ rm.frames + 1 ≤ R.frames ∧ 8 + (maxL + 11) + rm.locals ≤ R.locals) (hroom : cells + 1 + mc ≤ R.cells ∧ slots + nF ci + ms ≤ R.slots) (hr : (rest.map fun v => v.category).sum ≤ 7) (d1 : decode cc pc = .ok (.new i1, 3)) (d2 : decode cc (pc + 3) = .ok (.dup, 1)) (d3 : decode cc (pc + 4) = .ok (.invokespecial i2, 3))
    (kk : ∀ (q : Nat) (f : Nat → Nat) (H1 : Heap) (locs1 : List Loc), CV dC dI dA A s (ws ++ cl' q f) H1 locs1 → W p l e R s m args below meth c H1 locs1 (cells + 1 + mc) (slots + nF ci + ms) Q (F0 m (pc + 7) ls (.ref q :: rest))) : W p l e R s m args below meth c H locs cells slots Q (F0 m pc ls rest) := by
  obtain ⟨hx, hb, hml, hown, hts⟩ := id S
  obtain ⟨⟨⟨hK, hO⟩, hP⟩, ⟨hD, hS⟩, hA⟩ := V
  refine va_new (ci := ci) (fs := dfs ci) hx hb hts (fun w hw => in_tb (cl_in ci hci w hw) (g_lay hw)) (tyT ci) (cl_ty ci hci) hown (hts _ (in_tb w1)) (hts _ (in_tb w2)) (hts _ (in_tb w3 g_ini)) hK hP hD hS hA (cl_at ci hci) (dfs_ok ci hci) (by omega) (by omega) d1 (fun q H1 hP1 hD1 hS1 => ?_)
  refine lv_dup hx hb d2 rfl ?_
  have hC1 : [ws.length].map (fun i => (ws ++ [(q, .inr (ci, dfs ci))])[i]?) = ([(q, .inr (ci, dfs ci))] : va_W).map some := by simp
  have hR1 : (List.range ws.length).map (fun i => (ws ++ [(q, .inr (ci, dfs ci))])[i]?) = ws.map some := by
    apply List.ext_getElem?
    intro i
    rw [List.getElem?_map, List.getElem?_map]
    by_cases hi : i < ws.length
    · rw [List.getElem?_range hi]
      show some ((ws ++ [(q, .inr (ci, dfs ci))])[i]?) = _
      rw [List.getElem?_append_left hi, List.getElem?_eq_getElem hi]
      rfl
    · rw [List.getElem?_eq_none (by rw [List.length_range]; omega), List.getElem?_eq_none (by omega)]
      rfl
  have hFc := va_free (wc := [(q, .inr (ci, dfs ci))]) hD1 hS1 hA [ws.length] hC1
  have hP2 : va_P (dC, dI) vwCl [(q, .inr (ci, dfs ci))] H1 := hP1.sub [ws.length] (by simp)
  have hD2 : va_D A [(q, .inr (ci, dfs ci))] := hD1.sub [ws.length] rfl hC1
  have hws : ∀ w ∈ wsC y cy maxL, ∀ (a' : Array Value) (U : State), s.WarmedH U.vm → w.before a' U = true := by
    intro w hw
    rcases List.mem_cons.mp hw with h | h
    · subst h
      exact ride g_code (hts _ (in_tb w6 g_code))
    · exact tb_ride hts w h
  have hpar : ∀ sig, parseMethodDescriptor y.desc = some sig → 0 = sig.parameters.length := by
    intro sig h
    rw [hy.2.2] at h
    have h2 : (parseMethodDescriptor "()V").map (fun d => d.parameters.length) = some 0 := by decide +kernel
    rw [h] at h2
    exact (Option.some.inj h2).symm
  have hmon : 2 * (F0 m (pc + 4) ls (.ref q :: .ref q :: rest)).monitorRoom + ((Value.ref q :: rest).map fun v => v.category).sum ≤ 8 := lv_room (by
    rw [List.map_cons, List.sum_cons]
    have : (Value.ref q).category = 1 := rfl
    omega)
  have hini : (Cond.initialized y.cls).before args s = true := by rw [hy.1]; exact hts _ (in_tb w3 g_ini)
  have hcont : ∀ (f : Nat → Nat) (t : State) (H2 : Heap) (locs2 : List Loc), t.heap = H2 → s.vm.Alike t.vm → True → (va_P (dC, dI) vwCl (cl' q f) t.heap ∧ va_K (dC, dI) vwCl (tyA dA) t ∧ va_D (va_A [(q, .inr (ci, dfs ci))] H1.size) (cl' q f)) → H1.size ≤ H2.size → (∀ x : Nat, x < H1.size → ¬ va_A [(q, .inr (ci, dfs ci))] H1.size x → H2[x]? = H1[x]?) → va_S A s.heap H2 locs2 → W p l e R s m args below meth c H2 locs2 (cells + 1 + mc) (slots + nF ci + ms) Q (F0 m (pc + 4 + 3) ls (.ref q :: rest)) := by
    intro f t H2 locs2 ht hvm _ hB hz hk1 hS2
    obtain ⟨hP3, hK3, hD3⟩ := hB
    rw [ht] at hP3
    obtain ⟨hP4, hD4⟩ := va_join (wr := ws) (w1 := cl' q f) hP1 hD1 [ws.length] (List.range ws.length) hC1 hR1 (nd_range _) (fun i hi hj => by
      have := List.mem_range.mp hi
      have := List.mem_singleton.mp hj
      omega) hk1 hFc hP3 hD3
    exact kk q f H2 locs2 ⟨⟨⟨hK, hO⟩, hP4⟩, ⟨hD4, hS2⟩, hA⟩
  have hpre : PreS s H1 (va_Pc [.ref q] (fun U => U.heap.size = H1.size ∧ va_P (dC, dI) vwCl [(q, .inr (ci, dfs ci))] U.heap ∧ (va_K (dC, dI) vwCl (tyA dA) U ∧ AO U) ∧ va_D (fun _ => True) [(q, .inr (ci, dfs ci))])) (.ref q :: []) :=
    ⟨fun a U g mk z => by obtain ⟨q0, q1, qP, qK, qD⟩ := z; exact ⟨q0, q1, qP, ⟨va_K.moved (u := U) (U := U.calling g mk a) (Vm.Alike.refl U.vm) qK.1, AO.moved (u := U) (U := U.calling g mk a) (Vm.Alike.refl U.vm) qK.2⟩, qD⟩, fun U hU hW => ⟨rfl, by rw [hU], by rw [hU]; exact hP2, ⟨va_K.moved hW.alike hK, hO.moved hW.alike⟩, hD2.weaken (fun _ _ _ _ => trivial)⟩⟩
  rcases w4 with ⟨host, w4⟩ | w4
  · exact va_callv (va_runIN (As := []) (rest := .ref q :: rest) (n := 0) S (hC q H1.size) ⟨⟨⟨hrm.1, hrm.2.1, hrm.2.2.1, hrm.2.2.2, hws, List.mem_cons_self⟩, hts _ (in_tb w6 g_code), hini, hyn, hpar, hts _ (in_tb w4 rfl)⟩, hy.2.1, hts _ (in_tb w5 g_in)⟩ hpre rfl rfl hl.1 rfl hmon d3 ⟨hroom.1, hroom.2⟩) hS1 (fun x _ h => hFc x h) hFc hcont
  · exact va_callv (va_runI (As := []) (rest := .ref q :: rest) (n := 0) S (hC q H1.size) ⟨⟨hrm.1, hrm.2.1, hrm.2.2.1, hrm.2.2.2, hws, List.mem_cons_self, hts _ (in_tb w6 g_code), hini, hyn, hpar, hts _ (in_tb w4 g_ml)⟩, hy.2.1, hts _ (in_tb w5 g_in)⟩ hpre rfl rfl hl.1 rfl hmon d3 ⟨hroom.1, hroom.2⟩) hS1 (fun x _ h => hFc x h) hFc hcont
def itD (cc : ByteArray) (pc ix i1 i2 : Nat) : Prop := decode cc pc = .ok (.iload_n 1, 1) ∧ decode cc (pc + 1) = .ok (.aload_n 0, 1) ∧ decode cc (pc + 2) = .ok (.getfield ix, 3) ∧ decode cc (pc + 5) = .ok (.arraylength, 1) ∧ decode cc (pc + 6) = .ok (.if_icmp .ge 22, 3) ∧ decode cc (pc + 9) = .ok (.aload_n 0, 1) ∧ decode cc (pc + 10) = .ok (.getfield ix, 3) ∧ decode cc (pc + 13) = .ok (.iload_n 1, 1) ∧ decode cc (pc + 14) = .ok (.new i1, 3) ∧ decode cc (pc + 17) = .ok (.dup, 1) ∧ decode cc (pc + 18) = .ok (.invokespecial i2, 3) ∧ decode cc (pc + 21) = .ok (.aastore, 1) ∧ decode cc (pc + 22) = .ok (.iinc 1 1, 3) ∧ decode cc (pc + 25) = .ok (.goto (-25), 3)
/-- one object more into the row: the loop once -/
theorem cn_it {cw ci ix i1 i2 maxL mc ms h0 k qa kq a n : Nat} {i : Int32} {f : Nat → Option Nat} {fs : List Value} {y : MethodName} {cy : ByteArray} {rm : Room} {cl' : Nat → (Nat → Nat) → va_W} (S : CallFix p m c cc 2 s args lw_tb (cn cw)) (V : CV dC dI dA A s ws H locs) (hl : lv_has ls 2 [(1, .int i), (0, .ref h0)]) (hcw : cw < 9) (he : ws[0]? = some (h0, .inr (cw, fs))) (hk : k < nF cw) (hdecl : (TT cw k).1 = cn cw) (hlink : Cond.fieldLink (cn cw) ix (cn cw) (TT cw k).2.1 (TT cw k).2.2.1 ∈ lw_tbl) (hv : fs[k]? = some (.ref a)) (ha : ws[qa]? = some (a, .inl (dA kq, n, .inr (.inr (.inr (.inr f)))))) (hkq : (tyA dA)[kq]? = some (dA kq, .object (cn ci))) (hi : vp_in i n) (hlt : ¬ Int32.ofNat n ≤ i)
    (hci : ci < 9) (hC : CON l dC dI dA y cy maxL rm ci mc ms cl') (h0c : ∀ (q : Nat) (g : Nat → Nat), ∃ vs, (cl' q g)[0]? = some (q, .inr (ci, vs))) (w1 : Cond.classLink (cn cw) i1 (cn ci) ∈ lw_tbl) (w2 : Cond.instantiable (cn ci) (nF ci) ∈ lw_tbl) (w3 : Cond.initialized (cn ci) ∈ lw_tbl) (w4 : (∃ host, Cond.methodLinkNest (cn cw) i2 y host ∈ lw_tbl) ∨ Cond.methodLink (cn cw) i2 y ∈ lw_tbl) (w5 : Cond.instanceMethod y ∈ lw_tbl) (w6 : Cond.code y cy maxL none ∈ lw_tbl)
    (hy : y.cls = cn ci ∧ y.name = "<init>" ∧ y.desc = "()V") (hyn : y.cls ≠ "java/lang/invoke/MethodHandle" ∧ y.cls ≠ "java/lang/invoke/VarHandle") (hrm : rm.cells = mc ∧ rm.slots = ms ∧ rm.frames + 1 ≤ R.frames ∧ 8 + (maxL + 11) + rm.locals ≤ R.locals) (hroom : cells + 1 + mc ≤ R.cells ∧ slots + nF ci + ms ≤ R.slots) (hd : itD cc pc ix i1 i2)
    (kk : ∀ (q : Nat) (g : Nat → Nat) (H1 : Heap) (locs1 : List Loc) (ls1 : Array Slot), CV dC dI dA A s ((ws ++ cl' q g).set qa (a, .inl (dA kq, n, .inr (.inr (.inr (.inr (va_up f i.toNatClampNeg (some q)))))))) H1 locs1 → lv_has ls1 2 [(1, .int (i + 1)), (0, .ref h0)] → W p l e R s m args below meth c H1 locs1 (cells + 1 + mc) (slots + nF ci + ms) Q (F0 m pc ls1 [])) : W p l e R s m args below meth c H locs cells slots Q (F0 m pc ls []) := by
  obtain ⟨hx, hb, hml, hown, hts⟩ := id S
  obtain ⟨e1, e2, e3, e4, e5, e6, e7, e8, e9, e10, e11, e12, e13, e14⟩ := hd
  refine lv_iload_n hx hb e1 rfl (lv_at hl 0 rfl) ?_
  refine lv_aload_n hx hb e2 rfl (lv_at hl 1 rfl) ?_
  refine cn_get S V hcw he hk hdecl hlink hv e3 ?_
  refine va_alen hx hb V.1.1.1 V.1.2 qa kq ha hkq rfl e4 ?_
  refine lv_icmp_ge hx hb e5 (tgt := pc + 28) (by omega) (fun h => absurd h hlt) (fun _ => ?_)
  refine lv_aload_n hx hb e6 rfl (lv_at hl 1 rfl) ?_
  refine cn_get S V hcw he hk hdecl hlink hv e7 ?_
  refine lv_iload_n hx hb e8 rfl (lv_at hl 0 rfl) ?_
  refine cn_obj S V hl hci hC w1 w2 w3 w4 w5 w6 hy hyn hrm hroom (rest := [.int i, .ref a]) (by show 1 + (1 + 0) ≤ 7; omega) e9 e10 e11 (fun q g H1 locs1 V1 => ?_)
  obtain ⟨vs, hc0⟩ := h0c q g
  obtain ⟨⟨⟨hK1, hO1⟩, hP1⟩, ⟨hD1, hS1⟩, hA1⟩ := id V1
  refine va_astq hx hb hK1 hP1 hD1 hS1 qa kq ws.length ci (by rw [List.getElem?_append_left (List.getElem?_eq_some_iff.mp ha).1]; exact ha) hkq (by rw [List.getElem?_append_right (Nat.le_refl _), Nat.sub_self]; exact hc0) (cl_at ci hci) hi e12 (fun H2 locs2 hP2 hD2 hS2 => ?_)
  refine lv_iinc hx hb e13 (k := 0) hl rfl rfl (by decide) rfl (fun ls1 hl1 => ?_)
  refine lv_goto hx hb e14 (tgt := pc) (by omega) ?_
  exact kk q g H2 locs2 ls1 ⟨⟨⟨hK1, hO1⟩, hP2⟩, ⟨hD2, hS2⟩, hA1⟩ hl1
/-- behind the loop -/
theorem cn_ex {cw ix i1 i2 h0 k qa kq a n : Nat} {i : Int32} {f : Nat → Option Nat} {fs : List Value} {C : String} (S : CallFix p m c cc 2 s args lw_tb (cn cw)) (V : CV dC dI dA A s ws H locs) (hl : lv_has ls 2 [(1, .int i), (0, .ref h0)]) (hcw : cw < 9) (he : ws[0]? = some (h0, .inr (cw, fs))) (hk : k < nF cw) (hdecl : (TT cw k).1 = cn cw) (hlink : Cond.fieldLink (cn cw) ix (cn cw) (TT cw k).2.1 (TT cw k).2.2.1 ∈ lw_tbl) (hv : fs[k]? = some (.ref a)) (ha : ws[qa]? = some (a, .inl (dA kq, n, .inr (.inr (.inr (.inr f)))))) (hkq : (tyA dA)[kq]? = some (dA kq, .object C)) (hlt : Int32.ofNat n ≤ i) (hd : itD cc pc ix i1 i2) (kk : W p l e R s m args below meth c H locs cells slots Q (F0 m (pc + 28) ls [])) : W p l e R s m args below meth c H locs cells slots Q (F0 m pc ls []) := by
  obtain ⟨hx, hb, hml, hown, hts⟩ := id S
  obtain ⟨e1, e2, e3, e4, e5, -⟩ := hd
  refine lv_iload_n hx hb e1 rfl (lv_at hl 0 rfl) ?_
  refine lv_aload_n hx hb e2 rfl (lv_at hl 1 rfl) ?_
  refine cn_get S V hcw he hk hdecl hlink hv e3 ?_
  refine va_alen hx hb V.1.1.1 V.1.2 qa kq ha hkq rfl e4 ?_
  exact lv_icmp_ge hx hb e5 (tgt := pc + 28) (by omega) (fun _ => kk) (fun h => absurd hlt h)
/-- a row's content counts within its length alone -/
theorem cn_cg {qa a n : Nat} {cA : ClassId} {f f' : Nat → Option Nat} (V : CV dC dI dA A s ws H locs) (ha : ws[qa]? = some (a, .inl (cA, n, .inr (.inr (.inr (.inr f)))))) (hf : ∀ i, i < n → f i = f' i) : CV dC dI dA A s (ws.set qa (a, .inl (cA, n, .inr (.inr (.inr (.inr f')))))) H locs := by
  obtain ⟨⟨⟨hK, hO⟩, hP⟩, ⟨hD, hS⟩, hA⟩ := V
  have h0 := hP qa _ ha
  refine ⟨⟨⟨hK, hO⟩, hP.set hD ha ?_ (fun _ _ => rfl)⟩, ⟨hD.set ha, hS⟩, hA⟩
  show H[a]? = some (vp_cell _ _)
  rw [vp_cell_q]
  replace h0 : H[a]? = some (vp_cell _ _) := h0
  rw [vp_cell_q] at h0
  rw [h0]
  unfold arrV
  congr 2
  apply Array.ext
  · simp
  · intro i h1 h2
    simp only [Array.size_ofFn] at h1
    rw [Array.getElem_ofFn, Array.getElem_ofFn]
    show va_rf (f i) = va_rf (f' i)
    rw [hf i h1]
end CO
theorem con_of {l : Launch} {dC : Nat → ClassId} {dI : Nat → Nat → Nat} {dA : Nat → ClassId} {y : MethodName} {cy : ByteArray} {maxL : Nat} {rm : Room} {ci mc ms i0 : Nat} {cl' : Nat → (Nat → Nat) → va_W} (hpn : plainName y.cls = true) (hy : y.cls = cn ci ∧ y.name = "<init>") (h1 : 1 ≤ maxL) (hrm : 1 ≤ rm.frames ∧ 30 ≤ rm.locals) (hlink : Cond.methodLink (cn ci) i0 objectInit ∈ lw_tbl) (d0 : decode cy 0 = .ok (.aload_n 0, 1)) (d1 : decode cy 1 = .ok (.invokespecial i0, 3))
    (body : ∀ (p : Program) (e : Env) (s : State) (m : MethodId) (args : Array Value) (below : List Frame) (meth : Method) (c : Code) (h0 : Nat) (A : Nat → Prop) (ls : Array Slot) (Q : State → Prop), CallFix p m c cy maxL s args lw_tb (cn ci) → meth.name = "<init>" → lv_has ls maxL [(0, .ref h0)] → CV dC dI dA A s [(h0, .inr (ci, dfs ci))] s.heap [] → (∀ (H : Heap) (locs : List Loc) (ls1 : Array Slot) (pc : Nat) (f : Nat → Nat), decode cy pc = .ok (.return_, 1) → CV dC dI dA A s (cl' h0 f) H locs → W p l e rm s m args below meth c H locs mc ms Q (F0 m pc ls1 [])) → W p l e rm s m args below meth c s.heap [] 0 0 Q (F0 m 4 ls [])) : CON l dC dI dA y cy maxL rm ci mc ms cl' := by
  intro h0 sz
  refine Met.ofW (cc := cy) (maxL := maxL) (ret := none) hpn rfl ?_
  intro p e s m args below meth c s₁ B hml hv
  obtain ⟨rfl, hsz, hP, hK, hD0⟩ := hv
  have hx := B.exec
  have hb := B.bytes
  have hr := B.returns
  have hlocks := B.notSynchronized
  have hts0 := atoms_spec (ws := wsC y cy maxL) B.pre
  have hts : ∀ w ∈ lw_tb, w.before ([Value.ref h0] : List Value).toArray s = true := fun w hw => hts0 w (List.mem_cons_of_mem _ hw)
  have hown : s.vm.findClass (cn ci) = some m.cls := by rw [← hy.1]; exact findClass_of_methodNamed B.named
  have hin : meth.name = "<init>" := (name_of_methodNamed B.named B.method).1.trans hy.2
  subst hsz
  have hD := hD0.self (sz := s.heap.size)
  have hl := lv_entry ([.ref h0]) (n := maxL) h1
  rw [lg_entry_eq]
  generalize (lg_sl ([.ref h0]) ++ List.replicate (maxL - (lg_sl ([.ref h0])).length) Slot.unset).toArray = ls at hl ⊢
  have hl : lv_has ls maxL [(0, .ref h0)] := hl
  refine lv_aload_n hx hb d0 rfl (lv_at hl 0 rfl) ?_
  have hm := lv_room (m := m) (pc := 0 + 1) (ls := ls) (rest := [.ref h0]) (st := []) (by decide)
  refine W.objInit hx hb hown (hts (.methodLink (cn ci) i0 objectInit) (in_tb hlink g_ml)) (hts (.instanceMethod objectInit) (in_tb (List.mem_append_right _ (List.mem_of_getElem? (i := 23) (by decide +kernel))) g_in)) (hts (.code objectInit ⟨#[0xb1]⟩ 1 none) (in_tb (List.mem_append_right _ (List.mem_of_getElem? (i := 24) (by decide +kernel))) g_code)) rfl (by rw [hml]; exact hl.1) rfl d1 hrm.1 (Nat.le_trans (Nat.add_le_add_right hm 12) (Nat.le_trans (by decide) hrm.2)) ?_
  refine W.eq (g2 := F0 m 4 ls []) rfl ?_
  refine body p e s m _ below meth c h0 _ ls _ ⟨hx, hb, hml, hown, hts⟩ hin hl ⟨⟨hK, hP⟩, ⟨hD, va_S.rf⟩, fun q h => Or.inr h⟩ (fun H locs ls1 pc f hd V => ?_)
  obtain ⟨⟨⟨hK9, hO9⟩, hP9⟩, ⟨hD9, hS9⟩, hA9⟩ := V
  exact W.vret hx hb hr (fun t ht hW => ⟨⟨f, rfl, trivial, by rw [ht]; exact hP9, va_K.moved hW.alike hK9, hD9⟩, hS9.F ht⟩) hS9.2.2 hd
