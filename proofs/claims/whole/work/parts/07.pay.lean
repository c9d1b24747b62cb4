/-! THE WORDS THAT RIDE from a caller to a callee. -/
def isNst (w : Cond) : Bool := match w with
  | .fieldLinkNest _ _ _ _ _ _ => true
  | .methodLinkNest _ _ _ _ => true
  | _ => false
def lw_tb : List Cond := lw_tbl.filter (fun w => goodWord w || isNst w)
theorem in_tb {w : Cond} (h : w ∈ lw_tbl) (hg : (goodWord w || isNst w) = true := by rfl) : w ∈ lw_tb := List.mem_filter.mpr ⟨h, hg⟩
theorem tb_in {w : Cond} (h : w ∈ lw_tb) : w ∈ lw_tbl := (List.mem_filter.mp h).1
theorem ride {args : Array Value} {s : State} {w : Cond} (h : (goodWord w || isNst w) = true) (hb : w.before args s = true) : ∀ (a' : Array Value) (U : State), s.WarmedH U.vm → w.before a' U = true := by
  intro a' U hW
  rcases Bool.or_eq_true_iff.mp h with h1 | h1
  · exact word_at hW (good_of_word h1) hb
  · cases w with
    | fieldLinkNest a i b n d z => exact va_Nw.use rfl (va_Nw.warmF hW (va_Nw.of rfl hb))
    | methodLinkNest a i y z => exact va_Nw.use rfl (va_Nw.warmM hW (va_Nw.of rfl hb))
    | _ => exact absurd h1 (by simp [isNst])
theorem tb_ride {args : Array Value} {s : State} (hts : ∀ w ∈ lw_tb, w.before args s = true) : ∀ w ∈ lw_tb, ∀ (a' : Array Value) (U : State), s.WarmedH U.vm → w.before a' U = true :=
  fun w hw => ride (List.mem_filter.mp hw).2 (hts w hw)
theorem g_fl {a b c d : String} {i : Nat} : (goodWord (.fieldLink a i b c d) || isNst (.fieldLink a i b c d)) = true := by rfl
theorem g_ml {a : String} {i : Nat} {y : MethodName} : (goodWord (.methodLink a i y) || isNst (.methodLink a i y)) = true := by rfl
theorem g_code {a : MethodName} {b : ByteArray} {n : Nat} {r : Option FieldType} : (goodWord (.code a b n r) || isNst (.code a b n r)) = true := by rfl
theorem g_st {y : MethodName} : (goodWord (.static y) || isNst (.static y)) = true := by rfl
theorem g_in {y : MethodName} : (goodWord (.instanceMethod y) || isNst (.instanceMethod y)) = true := by rfl
theorem g_se {c : String} {y z : MethodName} : (goodWord (.selects c y z) || isNst (.selects c y z)) = true := by rfl
theorem g_ini {c : String} : (goodWord (.initialized c) || isNst (.initialized c)) = true := by rfl
theorem g_con {c : String} {i : Nat} {x : Int32} : (goodWord (.constant c i x) || isNst (.constant c i x)) = true := by rfl
theorem g_conL {c : String} {i : Nat} {x : Int64} : (goodWord (.constantLong c i x) || isNst (.constantLong c i x)) = true := by rfl
theorem g_lays {a b c d : String} : (goodWord (.lays a b c d) || isNst (.lays a b c d)) = true := by rfl
theorem g_laysF {a b c d : String} : (goodWord (.laysFinal a b c d) || isNst (.laysFinal a b c d)) = true := by rfl
theorem g_nat {y : MethodName} : (goodWord (.native y) || isNst (.native y)) = true := by rfl
theorem g_lay {C : String} {T : u_T} {N : Nat} {w : Cond} (h : w ∈ u_ws C T N) : (goodWord w || isNst w) = true := by
  obtain ⟨j, -, rfl⟩ := List.mem_map.mp h
  unfold u_lay
  split <;> rfl
