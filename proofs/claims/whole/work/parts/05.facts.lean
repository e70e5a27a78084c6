-- what the tables say of the image: words, links, codes
def zTB : List Cond := lw_tbl.filter goodWord
def zNW : List Cond := [.fieldLinkNest RX4 100 RX3 "entry" "I" RX7, .fieldLinkNest RX7 173 RX3 "taken" "I" RX7, .fieldLinkNest RX4 168 RX3 "taken" "I" RX7, .fieldLinkNest RX4 97 RX3 "steps" "I" RX7, .fieldLinkNest RX7 170 RX3 "steps" "I" RX7, .fieldLinkNest RX4 59 RX3 "behind" "I" RX7, .fieldLinkNest RX4 82 RX3 "stopped" "Z" RX7, .fieldLinkNest RX7 167 RX3 "stopped" "Z" RX7, .fieldLinkNest RX7 120 RX4 "differsAt" "I" RX7]
def zin (i : Nat) (w : Cond) : Bool := decide (lw_tbl[i]? = some w) && goodWord w
theorem zin_mem {i : Nat} {w : Cond} (h : zin i w = true) : w ∈ zTB := by
  simp only [zin, Bool.and_eq_true, decide_eq_true_eq] at h
  exact List.mem_filter.mpr ⟨List.mem_of_getElem? h.1, h.2⟩
theorem zTB_good {w : Cond} (h : w ∈ zTB) : (w.onTables && w.keeps) = true ∨ ∃ ty, w = .arrayClass ty := good_of_word (List.mem_filter.mp h).2
/-- the words of a method: its own code, and all -/
def zws (y : MethodName) (b : ByteArray) (n : Nat) (r : Option FieldType) : List Cond := .code y b n r :: zTB
def zfl_ok (e : String × Nat × Nat × Nat × Nat) (i : Nat) : Bool := match vwCl[e.2.2.1]? with
  | some q => decide (e.2.2.2.1 < q.2.2) && (if e.2.2.2.2 = 0 then zin i (.fieldLink e.1 e.2.1 (q.2.1 e.2.2.2.1).1 (q.2.1 e.2.2.2.1).2.1 (q.2.1 e.2.2.2.1).2.2.1) else decide (Cond.fieldLinkNest e.1 e.2.1 (q.2.1 e.2.2.2.1).1 (q.2.1 e.2.2.2.1).2.1 (q.2.1 e.2.2.2.1).2.2.1 RX7 ∈ zNW))
  | none => false
set_option maxRecDepth 100000 in
theorem zfl_all : zFLT.length = zFLx.length ∧ (zFLT.zip zFLx).all (fun q => zfl_ok q.1 q.2) = true := by decide +kernel
def zml_ok (e : String × Nat × Nat × Nat × Nat × Nat) (i : Nat × Nat × Nat × Nat) : Bool := match zMT[e.2.2.1]? with
  | some ((R, y, _, _, _, _), _) => decide (y.cls = R) && decide (vwCl[e.2.2.2.2.1]?.map (fun q => q.1) = some R) && zin i.1 (.methodLink e.1 e.2.1 y) && zin i.2.2.2 (.initialized R)
      && decide ((parseMethodDescriptor y.desc).map (fun d => d.parameters.length) = some e.2.2.2.2.2)
      && (if e.2.2.2.1 = 0 then zin i.2.1 (.instanceMethod y) && zin i.2.2.1 (.selects R y y) else zin i.2.1 (.static y) && decide (e.1 = R))
  | none => false
set_option maxRecDepth 100000 in
theorem zml_all : zMLT.length = zMLx.length ∧ (zMLT.zip zMLx).all (fun q => zml_ok q.1 q.2) = true := by decide +kernel
set_option maxRecDepth 100000 in
theorem zcl_all : (∀ w ∈ wsX00, w ∈ lw_tbl) ∧ (∀ w ∈ wsX10, w ∈ lw_tbl) ∧ (∀ w ∈ wsX20, w ∈ lw_tbl) ∧ (∀ w ∈ wsX30, w ∈ lw_tbl) ∧ (∀ w ∈ wsX40, w ∈ lw_tbl) ∧ (∀ w ∈ wsX50, w ∈ lw_tbl) ∧ (∀ w ∈ wsX60, w ∈ lw_tbl) ∧ (∀ w ∈ wsX70, w ∈ lw_tbl) ∧ (∀ w ∈ wsX80, w ∈ lw_tbl) := by decide +kernel
/-- a target: where it is a cut, 10000 is added -/
def zpc (t : Nat) : Nat := if 10000 ≤ t then t - 10000 else t
def zcn (c : ClassFile.Cond) : Nat := match c with
  | .eq => 0
  | .ne => 1
  | .lt => 2
  | .ge => 3
  | .gt => 4
  | .le => 5
/-- field types of the classes -/
def zty (ci : Nat) : Nat → FieldType := match ci with
  | 0 => tyX0
  | 1 => tyX1
  | 2 => tyX2
  | 3 => tyX3
  | 4 => tyX4
  | 5 => tyX5
  | 6 => tyX6
  | 7 => tyX7
  | _ => tyX8
/-- the instruction i of length len at pc does what the op says -/
def zok (own : String) (rt : Option FieldType) (pc : Nat) (i : Instr) (len : Nat) (op : zO) : Bool := match op with
  | (o, nx, x, y, z, k, sw) => match i with
    | .iconst n => o == 0 && len == 1 && zpc nx == pc + 1 && k == Int32.ofInt n
    | .bipush n => o == 0 && len == 2 && zpc nx == pc + 2 && k == (Int8.ofInt n).toInt32
    | .sipush n => o == 0 && len == 3 && zpc nx == pc + 3 && k == (Int16.ofInt n).toInt32
    | .iload_n j => o == 1 && len == 1 && zpc nx == pc + 1 && x == j.val
    | .iload j => o == 1 && len == 2 && zpc nx == pc + 2 && x == j
    | .aload_n j => o == 2 && len == 1 && zpc nx == pc + 1 && x == j.val
    | .aload j => o == 2 && len == 2 && zpc nx == pc + 2 && x == j
    | .lload_n j => o == 3 && len == 1 && zpc nx == pc + 1 && x == j.val
    | .istore_n j => o == 4 && len == 1 && zpc nx == pc + 1 && x == j.val
    | .istore j => o == 4 && len == 2 && zpc nx == pc + 2 && x == j
    | .iinc j n => o == 6 && len == 3 && zpc nx == pc + 3 && x == j && k == Int32.ofInt n
    | .iadd => o == 7 && y == 0 && len == 1 && zpc nx == pc + 1
    | .isub => o == 7 && y == 1 && len == 1 && zpc nx == pc + 1
    | .imul => o == 7 && y == 2 && len == 1 && zpc nx == pc + 1
    | .iand => o == 7 && y == 3 && len == 1 && zpc nx == pc + 1
    | .ior => o == 7 && y == 4 && len == 1 && zpc nx == pc + 1
    | .ishl => o == 7 && y == 5 && len == 1 && zpc nx == pc + 1
    | .ineg => o == 8 && y == 0 && len == 1 && zpc nx == pc + 1
    | .i2c => o == 8 && y == 1 && len == 1 && zpc nx == pc + 1
    | .lshr => o == 9 && y == 0 && len == 1 && zpc nx == pc + 1
    | .lushr => o == 9 && y == 1 && len == 1 && zpc nx == pc + 1
    | .land => o == 9 && y == 2 && len == 1 && zpc nx == pc + 1
    | .l2i => o == 9 && y == 3 && len == 1 && zpc nx == pc + 1
    | .ifCond c off => o == 10 && y == zcn c && len == 3 && zpc nx == pc + 3 && decide ((pc : Int) + off = (zpc x : Int))
    | .if_icmp c off => o == 11 && y == zcn c && len == 3 && zpc nx == pc + 3 && decide ((pc : Int) + off = (zpc x : Int))
    | .goto off => o == 12 && len == 3 && decide ((pc : Int) + off = (zpc x : Int))
    | .tableswitch d lo hi offs => o == 13 && y == 0 && decide ((pc : Int) + d = (zpc x : Int)) && decide (hi = lo + sw.length - 1) && decide (sw.length = offs.size) && decide (-1000 < lo) && decide (hi < 1000)
        && (List.range sw.length).all (fun j => match sw[j]?, offs[j]? with
          | some q, some off => q.1 == Int32.ofInt (lo + j) && decide ((pc : Int) + off = (zpc q.2 : Int))
          | _, _ => false)
    | .lookupswitch d ps => o == 13 && y == 1 && decide ((pc : Int) + d = (zpc x : Int)) && (ps.toList.zip (ps.toList.drop 1)).all (fun (a, next) => a.1 < next.1) && decide (sw.length = ps.size)
        && (List.range sw.length).all (fun j => match sw[j]?, ps[j]? with
          | some q, some r => q.1 == Int32.ofInt r.1 && decide (-1000 < r.1) && decide (r.1 < 1000) && decide ((pc : Int) + r.2 = (zpc q.2 : Int))
          | _, _ => false)
    | .getfield idx => o == 14 && len == 3 && zpc nx == pc + 3 && (zFLT[z]? == some (own, idx, x, y, 0) || zFLT[z]? == some (own, idx, x, y, 1))
    | .putfield idx => o == 15 && len == 3 && zpc nx == pc + 3 && (zFLT[z]? == some (own, idx, x, y, 0) || zFLT[z]? == some (own, idx, x, y, 1)) && decide (zty x y = if k = 1 then .boolean else .int) && (match vwCl[x]? with
        | some q => (q.2.1 y).2.2.2 == false
        | none => false)
    | .iaload => o == 16 && y == 0 && len == 1 && zpc nx == pc + 1
    | .caload => o == 16 && y == 1 && len == 1 && zpc nx == pc + 1
    | .iastore => o == 17 && y == 0 && len == 1 && zpc nx == pc + 1
    | .castore => o == 17 && y == 1 && len == 1 && zpc nx == pc + 1
    | .invokevirtual idx => len == 3 && zpc nx == pc + 3 && ((o == 18 && (match sw with
          | [(_, ci)] => decide (1 ≤ y) && zMLT[z]? == some (own, idx, x, 0, ci, y - 1)
          | _ => false)) || (o == 28 && own == RX6 && zSC.contains (x, idx)))
    | .invokestatic idx => len == 3 && zpc nx == pc + 3 && ((o == 18 && sw.isEmpty && (match zMLT[z]? with
          | some (w, i, m, s, _, n) => w == own && i == idx && m == x && s == 1 && n == y
          | none => false)) || (o == 25 && ((own == RX1 && idx == 43) || (own == RX3 && idx == 32))))
    | .ireturn => o == 19 && len == 1 && ((y == 0 && rt == some .int) || (y == 1 && rt == some .boolean))
    | .return_ => o == 20 && len == 1 && rt == none
    | .dup => o == 21 && len == 1 && zpc nx == pc + 1
    | .pop => o == 22 && len == 1 && zpc nx == pc + 1
    | .dup2 => o == 23 && len == 1 && zpc nx == pc + 1
    | .arraylength => o == 24 && len == 1 && zpc nx == pc + 1
    | .ldc2_w idx => o == 26 && len == 3 && zpc nx == pc + 3 && idx == 71 && own == RX8 && k == 255
    | .ldc idx => o == 27 && len == 2 && zpc nx == pc + 2 && x == idx && (y == 99 || (own == RX6 && zSI[y]? == some idx))
    | .new idx => o == 29
    | _ => false
def zmt_ok (e : zMI × Nat) : Bool := match lw_tbl[e.2]?, e.1 with
  | some (.code y b n r), (R, y0, n0, r0, tab, _) => decide (y = y0) && n == n0 && decide (r = r0) && plainName R && decide (y.cls = R) && decide (y.cls ≠ "java/lang/invoke/MethodHandle") && decide (y.cls ≠ "java/lang/invoke/VarHandle") && decide (n ≤ 20)
      && tab.all (fun q => match decode b q.1 with
        | .ok (i, len) => decide (q.1 < 10000) && zok R r q.1 i len q.2
        | _ => false)
  | _, _ => false
