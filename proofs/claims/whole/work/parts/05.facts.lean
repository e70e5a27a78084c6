-- what the tables say of the image: words, links, codes
def zTB : List Cond := lw_tbl.filter goodWord
def zNW : List Cond := [.fieldLinkNest RX4 100 RX3 "entry" "I" RX7, .fieldLinkNest RX7 173 RX3 "taken" "I" RX7, .fieldLinkNest RX4 168 RX3 "taken" "I" RX7, .fieldLinkNest RX4 97 RX3 "steps" "I" RX7, .fieldLinkNest RX7 170 RX3 "steps" "I" RX7, .fieldLinkNest RX4 59 RX3 "behind" "I" RX7, .fieldLinkNest RX4 82 RX3 "stopped" "Z" RX7, .fieldLinkNest RX7 167 RX3 "stopped" "Z" RX7, .fieldLinkNest RX7 120 RX4 "differsAt" "I" RX7]
def zin (i : Nat) (w : Cond) : Bool := decide (lw_tbl[i]? = some w) && goodWord w
theorem zin_mem {i : Nat} {w : Cond} (h : zin i w = true) : w ∈ zTB := by
  simp only [zin, Bool.and_eq_true, decide_eq_true_eq] at h
  exact List.mem_filter.mpr ⟨List.mem_of_getElem? h.1, h.2⟩
theorem zTB_good {w : Cond} (h : w ∈ zTB) : (w.onTables && w.keeps) = true ∨ ∃ ty, w = .arrayClass ty := good_of_word (List.mem_filter.mp h).2
/-- the words of a method: its own code, and all -/
def zws (y : MethodName) (b : ByteArray) (n : Nat) (r : Option FieldType) : List Cond := .code y b n r :: zTB
def zfl_ok (e : String × Nat × Nat × Nat × Nat) (i : Nat) : Bool := match vwCl[e.2.2.1]? with
  | some q => decide (e.2.2.2.1 < q.2.2) && (if e.2.2.2.2 = 0 then zin i (.fieldLink e.1 e.2.1 (q.2.1 e.2.2.2.1).1 (q.2.1 e.2.2.2.1).2.1 (q.2.1 e.2.2.2.1).2.2.1) else decide (Cond.fieldLinkNest e.1 e.2.1 (q.2.1 e.2.2.2.1).1 (q.2.1 e.2.2.2.1).2.1 (q.2.1 e.2.2.2.1).2.2.1 RX7 ∈ zNW))
  | none => false
set_option maxRecDepth 100000 in
theorem zfl_all : zFLT.length = zFLx.length ∧ (zFLT.zip zFLx).all (fun q => zfl_ok q.1 q.2) = true := by decide +kernel
def zml_ok (e : String × Nat × Nat × Nat × Nat × Nat) (i : Nat × Nat × Nat × Nat) : Bool := match zMT[e.2.2.1]? with
  | some ((R, y, _, _, _, _), _) => decide (y.cls = R) && decide (vwCl[e.2.2.2.2.1]?.map (fun q => q.1) = some R) && zin i.1 (.methodLink e.1 e.2.1 y) && zin i.2.2.2 (.initialized R)
      && decide ((parseMethodDescriptor y.desc).map (fun d => d.parameters.length) = some e.2.2.2.2.2)
      && (if e.2.2.2.1 = 0 then zin i.2.1 (.instanceMethod y) && zin i.2.2.1 (.selects R y y) else zin i.2.1 (.static y) && decide (e.1 = R))
  | none => false
set_option maxRecDepth 100000 in
theorem zml_all : zMLT.length = zMLx.length ∧ (zMLT.zip zMLx).all (fun q => zml_ok q.1 q.2) = true := by decide +kernel
set_option maxRecDepth 100000 in
theorem zcl_all : (∀ w ∈ wsX00, w ∈ lw_tbl) ∧ (∀ w ∈ wsX10, w ∈ lw_tbl) ∧ (∀ w ∈ wsX20, w ∈ lw_tbl) ∧ (∀ w ∈ wsX30, w ∈ lw_tbl) ∧ (∀ w ∈ wsX40, w ∈ lw_tbl) ∧ (∀ w ∈ wsX50, w ∈ lw_tbl) ∧ (∀ w ∈ wsX60, w ∈ lw_tbl) ∧ (∀ w ∈ wsX70, w ∈ lw_tbl) ∧ (∀ w ∈ wsX80, w ∈ lw_tbl) := by decide +kernel
/-- a target: where it is a cut, 10000 is added -/
def zpc (t : Nat) : Nat := if 10000 ≤ t then t - 10000 else t
/-- the op of a condition, and whether its targets are changed -/
def zcn (c : ClassFile.Cond) : Nat × Bool := match c with
  | .eq => (0, false)
  | .ne => (0, true)
  | .lt => (1, false)
  | .ge => (1, true)
  | .gt => (2, false)
  | .le => (2, true)
/-- field types of the classes -/
def zty (ci : Nat) : Nat → FieldType := match ci with
  | 0 => tyX0
  | 1 => tyX1
  | 2 => tyX2
  | 3 => tyX3
  | 4 => tyX4
  | 5 => tyX5
  | 6 => tyX6
  | 7 => tyX7
  | _ => tyX8
/-- the instruction i of length len at pc does what the op says -/
def zok (own : String) (rt : Option FieldType) (nL : Nat) (pc : Nat) (i : Instr) (len : Nat) (op : zO) : Bool := match op with
  | (o, nx, x, y, z, k, sw) => match i with
    | .iconst n => o == 0 && len == 1 && zpc nx == pc + 1 && k == Int32.ofInt n
    | .bipush n => o == 0 && len == 2 && zpc nx == pc + 2 && k == (Int8.ofInt n).toInt32
    | .sipush n => o == 0 && len == 3 && zpc nx == pc + 3 && k == (Int16.ofInt n).toInt32
    | .iload_n j => o == 1 && len == 1 && zpc nx == pc + 1 && x == j.val
    | .iload j => o == 1 && len == 2 && zpc nx == pc + 2 && x == j
    | .aload_n j => o == 2 && len == 1 && zpc nx == pc + 1 && x == j.val
    | .aload j => o == 2 && len == 2 && zpc nx == pc + 2 && x == j
    | .lload_n j => o == 3 && len == 1 && zpc nx == pc + 1 && x == j.val
    | .istore_n j => o == 4 && len == 1 && zpc nx == pc + 1 && x == j.val && decide (x < nL)
    | .istore j => o == 4 && len == 2 && zpc nx == pc + 2 && x == j && decide (x < nL)
    | .iinc j n => o == 6 && len == 3 && zpc nx == pc + 3 && x == j && k == Int32.ofInt n
    | .iadd => o == 7 && y == 0 && len == 1 && zpc nx == pc + 1
    | .isub => o == 7 && y == 1 && len == 1 && zpc nx == pc + 1
    | .imul => o == 7 && y == 2 && len == 1 && zpc nx == pc + 1
    | .iand => o == 7 && y == 3 && len == 1 && zpc nx == pc + 1
    | .ior => o == 7 && y == 4 && len == 1 && zpc nx == pc + 1
    | .ishl => o == 7 && y == 5 && len == 1 && zpc nx == pc + 1
    | .ineg => o == 8 && y == 0 && len == 1 && zpc nx == pc + 1
    | .i2c => o == 8 && y == 1 && len == 1 && zpc nx == pc + 1
    | .lshr => o == 9 && y == 0 && len == 1 && zpc nx == pc + 1
    | .lushr => o == 9 && y == 1 && len == 1 && zpc nx == pc + 1
    | .land => o == 9 && y == 2 && len == 1 && zpc nx == pc + 1
    | .l2i => o == 9 && y == 3 && len == 1 && zpc nx == pc + 1
    | .ifCond c off => o == 32 + (zcn c).1 && len == 3 && zpc (if (zcn c).2 then x else nx) == pc + 3 && decide ((pc : Int) + off = (zpc (if (zcn c).2 then nx else x) : Int))
    | .if_icmp c off => o == 35 + (zcn c).1 && len == 3 && zpc (if (zcn c).2 then x else nx) == pc + 3 && decide ((pc : Int) + off = (zpc (if (zcn c).2 then nx else x) : Int))
    | .goto off => o == 12 && len == 3 && decide ((pc : Int) + off = (zpc x : Int))
    | .tableswitch d lo hi offs => o == 13 && y == 0 && decide ((pc : Int) + d = (zpc x : Int)) && decide (hi = lo + sw.length - 1) && decide (sw.length = offs.size) && decide (-1000 < lo) && decide (hi < 1000)
        && (List.range sw.length).all (fun j => match sw[j]?, offs[j]? with
          | some q, some off => q.1 == Int32.ofInt (lo + j) && decide ((pc : Int) + off = (zpc q.2 : Int))
          | _, _ => false)
    | .lookupswitch d ps => o == 13 && y == 1 && decide ((pc : Int) + d = (zpc x : Int)) && (ps.toList.zip (ps.toList.drop 1)).all (fun (a, next) => a.1 < next.1) && decide (sw.length = ps.size)
        && (List.range sw.length).all (fun j => match sw[j]?, ps[j]? with
          | some q, some r => q.1 == Int32.ofInt r.1 && decide (-1000 < r.1) && decide (r.1 < 1000) && decide ((pc : Int) + r.2 = (zpc q.2 : Int))
          | _, _ => false)
    | .getfield idx => o == 14 && len == 3 && zpc nx == pc + 3 && (zFLT[z]? == some (own, idx, x, y, 0) || zFLT[z]? == some (own, idx, x, y, 1))
    | .putfield idx => ((o == 15 && zty x y == .int) || (o == 31 && zty x y == .boolean)) && len == 3 && zpc nx == pc + 3 && (zFLT[z]? == some (own, idx, x, y, 0) || zFLT[z]? == some (own, idx, x, y, 1)) && (match vwCl[x]? with
        | some q => (q.2.1 y).2.2.2 == false
        | none => false)
    | .iaload => o == 16 && y == 0 && len == 1 && zpc nx == pc + 1
    | .caload => o == 16 && y == 1 && len == 1 && zpc nx == pc + 1
    | .iastore => o == 17 && y == 0 && len == 1 && zpc nx == pc + 1
    | .castore => o == 17 && y == 1 && len == 1 && zpc nx == pc + 1
    | .invokevirtual idx => len == 3 && zpc nx == pc + 3 && (((o == 18 || o == 30) && (match sw with
          | [(_, ci)] => decide (1 ≤ y) && zMLT[z]? == some (own, idx, x, 0, ci, y - 1)
          | _ => false)) || (o == 28 && own == RX6 && zSC.contains (x, idx)))
    | .invokestatic idx => len == 3 && zpc nx == pc + 3 && (((o == 18 || o == 30) && sw.isEmpty && (match zMLT[z]? with
          | some (w, i, m, s, _, n) => w == own && i == idx && m == x && s == 1 && n == y
          | none => false)) || (o == 25 && ((own == RX1 && idx == 43) || (own == RX3 && idx == 32))))
    | .ireturn => o == 19 && len == 1 && ((y == 0 && rt == some .int) || (y == 1 && rt == some .boolean))
    | .return_ => o == 20 && len == 1 && rt == none
    | .dup => o == 21 && len == 1 && zpc nx == pc + 1
    | .pop => o == 22 && len == 1 && zpc nx == pc + 1
    | .dup2 => o == 23 && len == 1 && zpc nx == pc + 1
    | .arraylength => o == 24 && len == 1 && zpc nx == pc + 1
    | .ldc2_w idx => o == 26 && len == 3 && zpc nx == pc + 3 && idx == 71 && own == RX8 && k == 255
    | .ldc idx => o == 27 && len == 2 && zpc nx == pc + 2 && x == idx && (y == 99 || (own == RX6 && zSI[y]? == some idx))
    | .new idx => o == 29
    | _ => false
def zmt_ok (e : zMI × Nat) : Bool := match lw_tbl[e.2]?, e.1 with
  | some (.code y b n r), (R, y0, n0, r0, tab, _) => decide (y = y0) && n == n0 && decide (r = r0) && plainName R && decide (y.cls = R) && decide (y.cls ≠ "java/lang/invoke/MethodHandle") && decide (y.cls ≠ "java/lang/invoke/VarHandle") && decide (n ≤ 20)
      && tab.all (fun q => match decode b q.1 with
        | .ok (i, len) => decide (q.1 < 10000) && zok R r n q.1 i len q.2
        | _ => false)
  | _, _ => false
theorem zcl_good : (wsX00 ++ wsX10 ++ wsX20 ++ wsX30 ++ wsX40 ++ wsX50 ++ wsX60 ++ wsX70 ++ wsX80).all goodWord = true := by decide +kernel
theorem zcl_in : ∀ (ci : Nat) (q : vw_C), vwCl[ci]? = some q → ∀ w ∈ u_ws q.1 q.2.1 q.2.2, w ∈ zTB := by
  intro ci q hq w hw
  have hg := List.all_eq_true.mp zcl_good
  obtain ⟨h0, h1, h2, h3, h4, h5, h6, h7, h8⟩ := zcl_all
  have key : ∀ (l : List Cond), (∀ w ∈ l, w ∈ lw_tbl) → (∀ w ∈ l, goodWord w = true) → ∀ w ∈ l, w ∈ zTB := fun l a b w h => List.mem_filter.mpr ⟨a w h, b w h⟩
  match ci, hq with
  | 0, hq => cases hq; exact key _ h0 (fun w h => hg w (by simp only [List.mem_append, h, true_or, or_true])) w hw
  | 1, hq => cases hq; exact key _ h1 (fun w h => hg w (by simp only [List.mem_append, h, true_or, or_true])) w hw
  | 2, hq => cases hq; exact key _ h2 (fun w h => hg w (by simp only [List.mem_append, h, true_or, or_true])) w hw
  | 3, hq => cases hq; exact key _ h3 (fun w h => hg w (by simp only [List.mem_append, h, true_or, or_true])) w hw
  | 4, hq => cases hq; exact key _ h4 (fun w h => hg w (by simp only [List.mem_append, h, true_or, or_true])) w hw
  | 5, hq => cases hq; exact key _ h5 (fun w h => hg w (by simp only [List.mem_append, h, true_or, or_true])) w hw
  | 6, hq => cases hq; exact key _ h6 (fun w h => hg w (by simp only [List.mem_append, h, true_or, or_true])) w hw
  | 7, hq => cases hq; exact key _ h7 (fun w h => hg w (by simp only [List.mem_append, h, true_or, or_true])) w hw
  | 8, hq => cases hq; exact key _ h8 (fun w h => hg w (by simp only [List.mem_append, h, true_or, or_true])) w hw
  | n + 9, hq => simp [vwCl] at hq
theorem zcl_ty : ∀ (ci : Nat) (q : vw_C), vwCl[ci]? = some q → (∀ k, k < q.2.2 → parseFieldDescriptor (q.2.1 k).2.2.1 = some (zty ci k)) ∧ ∀ a, a < q.2.2 → ∀ b, b < q.2.2 → a ≠ b → (q.2.1 a).2.1 ≠ (q.2.1 b).2.1 := by
  intro ci q hq
  match ci, hq with
  | 0, hq => cases hq; exact ⟨tyX0_ok, nmX0⟩
  | 1, hq => cases hq; exact ⟨tyX1_ok, nmX1⟩
  | 2, hq => cases hq; exact ⟨tyX2_ok, nmX2⟩
  | 3, hq => cases hq; exact ⟨tyX3_ok, nmX3⟩
  | 4, hq => cases hq; exact ⟨tyX4_ok, nmX4⟩
  | 5, hq => cases hq; exact ⟨tyX5_ok, nmX5⟩
  | 6, hq => cases hq; exact ⟨tyX6_ok, nmX6⟩
  | 7, hq => cases hq; exact ⟨tyX7_ok, nmX7⟩
  | 8, hq => cases hq; exact ⟨tyX8_ok, nmX8⟩
  | n + 9, hq => simp [vwCl] at hq
theorem zip_at {α β : Type} {l : List α} {r : List β} (hl : l.length = r.length) {P : α × β → Bool} (h : (l.zip r).all P = true) {z : Nat} {e : α} (he : l[z]? = some e) : ∃ i, P (e, i) = true := by
  have hz := (List.getElem?_eq_some_iff.mp he).1
  have hz2 : z < r.length := hl ▸ hz
  have h1 : (e, r[z]) ∈ l.zip r := by
    have : (l.zip r)[z]? = some (e, r[z]) := by
      rw [List.getElem?_zip_eq_some]
      exact ⟨he, List.getElem?_eq_getElem hz2⟩
    exact List.mem_of_getElem? this
  exact ⟨_, List.all_eq_true.mp h _ h1⟩
theorem zfl_spec {z : Nat} {own : String} {idx ci k n : Nat} (h : zFLT[z]? = some (own, idx, ci, k, n)) : ∃ q : vw_C, vwCl[ci]? = some q ∧ k < q.2.2 ∧
    (if n = 0 then Cond.fieldLink own idx (q.2.1 k).1 (q.2.1 k).2.1 (q.2.1 k).2.2.1 ∈ zTB else Cond.fieldLinkNest own idx (q.2.1 k).1 (q.2.1 k).2.1 (q.2.1 k).2.2.1 RX7 ∈ zNW) := by
  obtain ⟨i, hi⟩ := zip_at (P := fun q => zfl_ok q.1 q.2) zfl_all.1 zfl_all.2 h
  simp only [zfl_ok] at hi
  split at hi
  · next q hq =>
    simp only [Bool.and_eq_true, decide_eq_true_eq] at hi
    refine ⟨q, hq, hi.1, ?_⟩
    split
    · next h0 => rw [if_pos h0] at hi; exact zin_mem hi.2
    · next h0 => rw [if_neg h0] at hi; exact of_decide_eq_true hi.2
  · cases hi
theorem zml_spec {z : Nat} {own : String} {idx mi st ci n : Nat} (h : zMLT[z]? = some (own, idx, mi, st, ci, n)) : ∃ (C : String) (y : MethodName) (nL : Nat) (rt : Option FieldType) (tab : List (Nat × zO)) (cut : List (Nat × List Nat)) (i : Nat),
    zMT[mi]? = some ((C, y, nL, rt, tab, cut), i) ∧ y.cls = C ∧ (∃ T N, vwCl[ci]? = some (C, T, N)) ∧ Cond.methodLink own idx y ∈ zTB ∧ Cond.initialized C ∈ zTB ∧ (parseMethodDescriptor y.desc).map (fun d => d.parameters.length) = some n ∧
    (if st = 0 then Cond.instanceMethod y ∈ zTB ∧ Cond.selects C y y ∈ zTB else Cond.static y ∈ zTB ∧ own = C) := by
  obtain ⟨i, hi⟩ := zip_at (P := fun q => zml_ok q.1 q.2) zml_all.1 zml_all.2 h
  simp only [zml_ok] at hi
  split at hi
  · next C y nL rt tab cut j hq =>
    simp only [Bool.and_eq_true, decide_eq_true_eq] at hi
    obtain ⟨⟨⟨⟨⟨h1, h2⟩, h3⟩, h4⟩, h5⟩, h6⟩ := hi
    refine ⟨C, y, nL, rt, tab, cut, j, hq, h1, ?_, zin_mem h3, zin_mem h4, h5, ?_⟩
    · cases hv : vwCl[ci]? with
      | none => rw [hv] at h2; cases h2
      | some q => rw [hv] at h2; obtain ⟨C', T, N⟩ := q; cases h2; exact ⟨T, N, rfl⟩
    · split
      · next h0 => rw [if_pos h0, Bool.and_eq_true] at h6; exact ⟨zin_mem h6.1, zin_mem h6.2⟩
      · next h0 => rw [if_neg h0, Bool.and_eq_true] at h6; exact ⟨zin_mem h6.1, of_decide_eq_true h6.2⟩
  · cases hi
/-- what a method's row says -/
theorem zmt_spec {e : zMI × Nat} (h : zmt_ok e = true) : ∃ (C : String) (y : MethodName) (n : Nat) (rt : Option FieldType) (tab : List (Nat × zO)) (cut : List (Nat × List Nat)) (i : Nat) (b : ByteArray), e = ((C, y, n, rt, tab, cut), i) ∧ lw_tbl[i]? = some (.code y b n rt) ∧ plainName y.cls = true ∧ y.cls = C ∧
    (y.cls ≠ "java/lang/invoke/MethodHandle" ∧ y.cls ≠ "java/lang/invoke/VarHandle") ∧ n ≤ 20 ∧ ∀ q ∈ tab, q.1 < 10000 ∧ ∃ j len, decode b q.1 = .ok (j, len) ∧ zok C rt n q.1 j len q.2 = true := by
  obtain ⟨⟨C, y0, n0, r0, tab, cut⟩, i⟩ := e
  simp only [zmt_ok] at h
  split at h
  · next y b n r C' y' n' r' tab' cut' hw he =>
    cases he
    simp only [Bool.and_eq_true, decide_eq_true_eq, beq_iff_eq] at h
    obtain ⟨⟨⟨⟨⟨⟨⟨⟨h1, h2⟩, h3⟩, h4⟩, h5⟩, h6⟩, h7⟩, h8⟩, h9⟩ := h
    subst h1; subst h2; subst h3
    refine ⟨_, _, _, _, _, _, _, b, rfl, hw, by rw [h5]; exact h4, h5, ⟨h6, h7⟩, h8, fun q hq => ?_⟩
    have h10 := List.all_eq_true.mp h9 q hq
    split at h10
    · next j len hd =>
      simp only [Bool.and_eq_true, decide_eq_true_eq] at h10
      exact ⟨h10.1, j, len, hd, h10.2⟩
    · cases h10
  · cases h
