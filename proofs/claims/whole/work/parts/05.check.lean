/-! what a method's rows must be, so that the real machine does them: decided by program -/
def mj_wd (pos : Nat) (w : Cond) : Bool := decide (lw_tbl[pos]? = some w) && goodWord w
def mj_wn (pos : Nat) (w : Cond) : Bool := decide (lw_tbl[pos]? = some w) && mj_nw w
theorem mj_wd_in {pos : Nat} {w : Cond} (h : mj_wd pos w = true) : w ∈ mj_WSG := by
  unfold mj_wd at h
  rw [Bool.and_eq_true, decide_eq_true_eq] at h
  exact List.mem_filter.mpr ⟨List.mem_of_getElem? h.1, h.2⟩
theorem mj_wn_in {pos : Nat} {w : Cond} (h : mj_wn pos w = true) : w ∈ lw_tbl ∧ mj_nw w = true := by
  unfold mj_wn at h
  rw [Bool.and_eq_true, decide_eq_true_eq] at h
  exact ⟨List.mem_of_getElem? h.1, h.2⟩
def mj_okn (y : MethodName) : Bool := decide (y.cls ≠ "java/lang/invoke/MethodHandle") && decide (y.cls ≠ "java/lang/invoke/VarHandle")
def mj_oka (y : MethodName) (n : Nat) : Bool := decide ((parseMethodDescriptor y.desc).map (fun d => d.parameters.length) = some n)
def mj_cw (M : mj_Me) : Cond := .code M.1 M.2.1 M.2.2.1 M.2.2.2.1
def mj_cn (ci : Nat) : Option String := (vwCl[ci]?).map (fun q => q.1)
def mj_ckg (own : String) (idx ci k fc pos : Nat) : Bool := match vwCl[ci]? with
  | some q => decide (k < q.2.2) && (decide (mj_fc (q.2.1 k).2.2.1 = fc) && mj_wd pos (.fieldLink own idx (q.2.1 k).1 (q.2.1 k).2.1 (q.2.1 k).2.2.1))
  | none => false
def mj_ckp (own nm : String) (idx ci k fc pos : Nat) : Bool := match vwCl[ci]? with
  | some q => decide (k < q.2.2) && (decide (mj_fc (q.2.1 k).2.2.1 = fc) && (mj_wd pos (.fieldLink own idx (q.2.1 k).1 (q.2.1 k).2.1 (q.2.1 k).2.2.1) && ((!(q.2.1 k).2.2.2 || (decide (nm = "<init>") && decide ((q.2.1 k).1 = own))) && (match fc, parseFieldDescriptor (q.2.1 k).2.2.1 with
      | 0, some .int => true
      | 1, some .boolean => true
      | 2, some .long => true
      | 3, some (.object _) => true
      | 3, some (.array _) => true
      | _, _ => false))))
  | none => false
def mj_cki (P : Nat → mj_Me) (own : String) (idx : Nat) (iv : Nat) (ax : List Nat) : Bool := match iv, ax with
  | _, [] => true
  | 0, [0, mn, ci, n, _, p1, p2, p3, p4, p5] => mj_wd p1 (.methodLink own idx (P mn).1) && (mj_wd p2 (.instanceMethod (P mn).1) && (mj_wd p3 (.selects (P mn).1.cls (P mn).1 (P mn).1) && (mj_wd p4 (.initialized (P mn).1.cls) && (mj_wd p5 (mj_cw (P mn)) && (decide (mj_cn ci = some (P mn).1.cls) && (mj_okn (P mn).1 && mj_oka (P mn).1 n))))))
  | 0, [8, mn, _, n, _, p1, p2, p3, p4, p5] => mj_wd p1 (.methodLink own idx (P mn).1) && (mj_wd p2 (.instanceMethod (P mn).1) && (mj_wd p3 (.selects (P mn).1.cls (P mn).1 (P mn).1) && (mj_wd p4 (.initialized (P mn).1.cls) && (mj_wd p5 (mj_cw (P mn)) && (decide ((P mn).1.cls = "java/lang/String") && (mj_okn (P mn).1 && mj_oka (P mn).1 n))))))
  | 1, [1, mn, _, n, _, p1, p2, p3, p4] => mj_wd p1 (.methodLink own idx (P mn).1) && (mj_wd p2 (.static (P mn).1) && (mj_wd p3 (.initialized (P mn).1.cls) && (mj_wd p4 (mj_cw (P mn)) && (mj_okn (P mn).1 && mj_oka (P mn).1 n))))
  | 1, [6, mn, _, n, _, p1, p2, p3, p4] => mj_wn p1 (.methodLinkNest own idx (P mn).1 "LastToWince") && (mj_wd p2 (.static (P mn).1) && (mj_wd p3 (.initialized (P mn).1.cls) && (mj_wd p4 (mj_cw (P mn)) && (mj_okn (P mn).1 && mj_oka (P mn).1 n))))
  | 1, [4, p1] => mj_wd p1 (.methodLink own idx arraycopyName)
  | 2, [3, p1] => mj_wd p1 (.methodLink own idx Lib.objectInit)
  | 2, [2, mn, _, n, _, p1, p2, p3, p4] => mj_wd p1 (.methodLink own idx (P mn).1) && (mj_wd p2 (.instanceMethod (P mn).1) && (mj_wd p3 (.initialized (P mn).1.cls) && (mj_wd p4 (mj_cw (P mn)) && (mj_okn (P mn).1 && (mj_oka (P mn).1 n && (decide ((P mn).1.name = "<init>") && decide ((P mn).2.2.2.1 = none)))))))
  | 2, [7, mn, _, n, _, p1, p2, p3, p4] => mj_wn p1 (.methodLinkNest own idx (P mn).1 "LastToWince") && (mj_wd p2 (.instanceMethod (P mn).1) && (mj_wd p3 (.initialized (P mn).1.cls) && (mj_wd p4 (mj_cw (P mn)) && (mj_okn (P mn).1 && (mj_oka (P mn).1 n && (decide ((P mn).1.name = "<init>") && decide ((P mn).2.2.2.1 = none)))))))
  | _, _ => false
def mj_sws (pc : Nat) : List Nat → List Int → Bool
  | [], [] => true
  | t :: ts, o :: os => decide ((pc : Int) + o = (t : Int)) && mj_sws pc ts os
  | _, _ => false
def mj_ckx (P : Nat → mj_Me) (own nm : String) (rt : Option FieldType) (pc : Nat) (i : Instr) (len : Nat) (cst : Int32) (ax : List Nat) : Bool := match i with
  | .iconst n => decide (len = 1) && decide (Int32.ofInt n = cst)
  | .bipush n => decide (len = 2) && decide ((Int8.ofInt n).toInt32 = cst)
  | .sipush n => decide (len = 3) && decide ((Int16.ofInt n).toInt32 = cst)
  | .ldc k => decide (len = 2) && (match ax with
    | [0, p] => mj_wd p (.constant own k cst)
    | [1, j, p] => decide (lw_tbl[p]? = some (.stringRef own k (mj_tx j))) && (decide (3 ≤ j) && decide (j < 8))
    | _ => true)
  | .ldc_w k => decide (len = 3) && (match ax with
    | [0, p] => mj_wd p (.constant own k cst)
    | _ => true)
  | .ldc2_w k => decide (len = 3) && (match ax with
    | [v, p] => mj_wd p (.constantLong own k (Int64.ofNat v))
    | _ => true)
  | .iload _ => decide (len = 2)
  | .lload _ => decide (len = 2)
  | .aload _ => decide (len = 2)
  | .istore _ => decide (len = 2)
  | .lstore _ => decide (len = 2)
  | .astore _ => decide (len = 2)
  | .iinc _ n => decide (len = 3) && decide (Int32.ofInt n = cst)
  | .getfield k => decide (len = 3) && (match ax with
    | [0, p] => mj_wd p (.fieldLink own k "java/lang/String" "value" "[B")
    | [1, p] => mj_wd p (.fieldLink own k "java/lang/String" "coder" "B")
    | [ci, kk, fc, p] => mj_ckg own k ci kk fc p
    | _ => true)
  | .putfield k => decide (len = 3) && (match ax with
    | [ci, kk, fc, p] => mj_ckp own nm k ci kk fc p
    | _ => true)
  | .getstatic k => decide (len = 3) && (match ax with
    | [0, p, 0] => mj_wd p (.fieldLink own k "LastToWince" "SET_MOST" "[I")
    | [1, p, 1] => mj_wn p (.fieldLinkNest own k "LastToWince" "TOLD_MOST" "[I" "LastToWince")
    | [2, p, 0] => mj_wd p (.fieldLink own k "java/lang/String" "COMPACT_STRINGS" "Z")
    | [3, p, 0] => mj_wd p (.fieldLink own k "jdk/internal/util/Preconditions" "SIOOBE_FORMATTER" "Ljava/util/function/BiFunction;")
    | [] => true
    | _ => false)
  | .new k => decide (len = 3) && (match ax with
    | [ci, n, p1, p2, p3] => (match vwCl[ci]? with
      | some q => decide (n = q.2.2) && (mj_wd p1 (.classLink own k q.1) && (mj_wd p2 (.instantiable q.1 q.2.2) && mj_wd p3 (.initialized q.1)))
      | none => false)
    | _ => true)
  | .newarray t => decide (len = 2) && (match ax with
    | [kd] => (match t, kd with
      | .int, 100 => true
      | .long, 101 => true
      | .byte, 102 => true
      | _, _ => false)
    | _ => true)
  | .anewarray k => decide (len = 3) && (match ax with
    | [p] => mj_wd p (.classLink own k "LastToWince$Room")
    | _ => false)
  | .if_icmp _ o => decide (len = 3) && decide ((pc : Int) + o = ((ax.headD 0 : Nat) : Int))
  | .ifCond _ o => decide (len = 3) && decide ((pc : Int) + o = ((ax.headD 0 : Nat) : Int))
  | .ifnonnull o => decide (len = 3) && decide ((pc : Int) + o = ((ax.headD 0 : Nat) : Int))
  | .goto o => decide (len = 3) && decide ((pc : Int) + o = ((ax.headD 0 : Nat) : Int))
  | .tableswitch df lo hi offs => (match ax with
    | d :: ts => decide ((pc : Int) + df = (d : Int)) && (mj_sws pc ts offs.toList && (decide (Int32.ofInt lo = cst) && (decide (-2147483648 ≤ lo) && (decide (lo ≤ 2147483647) && (decide (hi = lo + (offs.size : Int) - 1) && decide (hi ≤ 2147483647))))))
    | _ => true)
  | .invokevirtual k => decide (len = 3) && mj_cki P own k 0 ax
  | .invokestatic k => decide (len = 3) && mj_cki P own k 1 ax
  | .invokespecial k => decide (len = 3) && mj_cki P own k 2 ax
  | .ireturn => decide (len = 1) && (match ax with
    | [0] => decide (rt = some .int)
    | [1] => decide (rt = some .boolean)
    | [2] => decide (rt = some .char)
    | [3] => decide (rt = some .byte)
    | _ => false)
  | .lreturn => decide (len = 1) && decide (rt = some .long)
  | .areturn => decide (len = 1) && (match rt with
    | some (.object _) => true
    | some (.array _) => true
    | _ => false)
  | .return_ => decide (len = 1) && decide (rt = none)
  | _ => decide (len = 1)
/-- the rows of a stretch of code -/
def mj_ckb (P : Nat → mj_Me) (own nm : String) (cc : ByteArray) (rt : Option FieldType) : List mj_I → Nat → Bool
  | [], _ => true
  | i :: is, pc => decide (decode cc pc = .ok (i.1, i.2.1)) && (mj_ckx P own nm rt pc i.1 i.2.1 i.2.2.1 i.2.2.2 && mj_ckb P own nm cc rt is (pc + i.2.1))
def mj_ckm (P : Nat → mj_Me) (M : mj_Me) : Bool := plainName M.1.cls && (decide (M.2.2.1 ≤ 45) && M.2.2.2.2.all (fun b => mj_ckb P M.1.cls M.1.name M.2.1 M.2.2.2.1 b.2 b.1))
