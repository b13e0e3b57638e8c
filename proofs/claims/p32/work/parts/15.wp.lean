/-! ===== the tables are right: what is looked up of each method and instruction ===== -/
def qWat (p : Nat) (w : Cond) : Bool := decide (lw_tbl[p]? = some w) && goodWord w
def qNat9 (p : Nat) (w : Cond) : Bool := decide (lw_tbl[p]? = some w) && qNest w
def qMoB (cal : Nat) : Bool := qWat (qPC cal) (.code (qY cal) (qB cal) (qML cal) (qRT cal)) && qWat (qPN cal) (.initialized (qY cal).cls) && plainName (qY cal).cls && decide ((qY cal).cls ≠ "java/lang/invoke/MethodHandle" ∧ (qY cal).cls ≠ "java/lang/invoke/VarHandle" ∧ (parseMethodDescriptor (qY cal).desc).map (fun d => d.parameters.length) = some (qNA cal)) &&
  (match qKd cal with
    | 0 => qWat (qPI cal) (.instanceMethod (qY cal)) && qWat (qPS cal) (.selects (qY cal).cls (qY cal) (qY cal)) && (if cal < 224 then (match vwCl[qCi cal]? with | some q => decide (q.1 = (qY cal).cls) | none => false) else decide ((qY cal).cls = "java/lang/String"))
    | 1 => qWat (qPI cal) (.static (qY cal))
    | 2 => qWat (qPI cal) (.instanceMethod (qY cal)) && decide ((qY cal).name = "<init>" ∧ qRT cal = none)
    | _ => false)
def qFl (own : String) (i : Nat) (q : vw_C) (k c : Nat) : Bool := decide (k < q.2.2) && (if c % 2 = 1 then qNat9 (c / 2) (.fieldLinkNest own i (q.2.1 k).1 (q.2.1 k).2.1 (q.2.1 k).2.2.1 "SiegeInk") else qWat (c / 2) (.fieldLink own i (q.2.1 k).1 (q.2.1 k).2.1 (q.2.1 k).2.2.1))
/-- how long an instruction is (0: a switch) -/
def qLn (i : Instr) : Nat := match i with
  | .iload _ | .lload _ | .aload _ | .istore _ | .lstore _ | .astore _ | .bipush _ | .ldc _ | .newarray _ => 2
  | .iinc _ _ | .sipush _ | .ldc2_w _ | .ldc_w _ | .goto _ | .if_icmp _ _ | .ifCond _ _ | .getfield _ | .putfield _ | .getstatic _ | .invokevirtual _ | .invokestatic _ | .invokespecial _ | .new _ => 3
  | .multianewarray _ _ => 4
  | .tableswitch _ _ _ _ | .lookupswitch _ _ => 0
  | _ => 1
def qChk (mid : Nat) (e : qE) : Bool := match e with
  | (pc, len, ins, a, b, c, d) => decide (decode (qB mid) pc = .ok (ins, len)) && decide (qLn ins = 0 ∨ len = qLn ins) && (match ins with
    | .getfield i => if a = 99 then (if b = 0 then qWat (c / 2) (.fieldLink (qY mid).cls i "java/lang/String" "value" "[B") else qWat (c / 2) (.fieldLink (qY mid).cls i "java/lang/String" "coder" "B")) else (match vwCl[a]? with
      | some q => qFl (qY mid).cls i q b c
      | none => false)
    | .putfield i => (match vwCl[a]? with
      | some q => qFl (qY mid).cls i q b c && (!(q.2.1 b).2.2.2 || (decide (c % 2 = 0) && decide ((qY mid).name = "<init>" ∧ (q.2.1 b).1 = (qY mid).cls)))
      | none => false)
    | .getstatic i => (match a with
      | 1 => qWat (c / 2) (.fieldLink (qY mid).cls i "SiegeInk$Grammar" "PART_ENDS" "[I")
      | 2 => qWat (c / 2) (.fieldLink (qY mid).cls i "java/lang/String" "COMPACT_STRINGS" "Z")
      | 3 => qWat (c / 2) (.fieldLink (qY mid).cls i "jdk/internal/util/Preconditions" "SIOOBE_FORMATTER" "Ljava/util/function/BiFunction;")
      | _ => false)
    | .invokevirtual i => decide (a = 1999) || (decide (qKd a = 0) && qWat (c / 2) (.methodLink (qY mid).cls i (qY a)))
    | .invokestatic i => decide (a = 1999) || (match a with
      | 1001 => qWat (c / 2) (.methodLink (qY mid).cls i Lib.Math.min.name)
      | 1002 => qWat (c / 2) (.methodLink (qY mid).cls i Lib.Math.max.name)
      | 1003 => qWat (c / 2) (.methodLink (qY mid).cls i arraycopyName)
      | _ => decide (qKd a = 1) && qWat (c / 2) (.methodLink (qY mid).cls i (qY a)))
    | .invokespecial i => (match a with
      | 1000 => qWat (c / 2) (.methodLink (qY mid).cls i Lib.objectInit)
      | _ => decide (qKd a = 2) && (if c % 2 = 1 then qNat9 (c / 2) (.methodLinkNest (qY mid).cls i (qY a) "SiegeInk") else qWat (c / 2) (.methodLink (qY mid).cls i (qY a))))
    | .new i => (match vwCl[a]? with
      | some q => qWat c (.classLink (qY mid).cls i q.1) && decide (Cond.instantiable q.1 q.2.2 ∈ lw_tbl) && decide (Cond.initialized q.1 ∈ lw_tbl) && goodWord (Cond.instantiable q.1 q.2.2) && goodWord (Cond.initialized q.1)
      | none => false)
    | .multianewarray i _ => qWat c (.classLink (qY mid).cls i ("[" ++ (FieldType.array .int).toString))
    | .ldc i => (match a with
      | 0 => qWat c (.constant (qY mid).cls i (Int32.ofInt d)) && decide (-2147483648 ≤ d ∧ d < 2147483648)
      | _ => decide (b < 8) && (match qStrs[b]? with
        | some q => decide (q.1 = (qY mid).cls ∧ q.2.1 = i)
        | none => false))
    | .ldc_w i => qWat c (.constant (qY mid).cls i (Int32.ofInt d)) && decide (-2147483648 ≤ d ∧ d < 2147483648)
    | .ldc2_w i => qWat c (.constantLong (qY mid).cls i (Int64.ofInt d)) && decide (-9223372036854775808 ≤ d ∧ d < 9223372036854775808)
    | .iconst n => decide (-2147483648 ≤ n ∧ n < 2147483648)
    | .bipush n => decide (-128 ≤ n ∧ n < 128)
    | .sipush n => decide (-32768 ≤ n ∧ n < 32768)
    | .goto o => decide (0 ≤ (pc : Int) + o)
    | .if_icmp _ o => decide (0 ≤ (pc : Int) + o)
    | .ifCond _ o => decide (0 ≤ (pc : Int) + o)
    | .tableswitch df lo hi os => decide (0 ≤ (pc : Int) + df) && os.toList.all (fun o => decide (0 ≤ (pc : Int) + o)) && decide ((os.size : Int) = hi - lo + 1)
    | .lookupswitch df ps => decide (0 ≤ (pc : Int) + df) && ps.toList.all (fun o => decide (0 ≤ (pc : Int) + o.2)) && (ps.toList.zip (ps.toList.drop 1)).all (fun (a, next) => a.1 < next.1)
    | _ => true)
def qSeq : List qE → Bool
  | [] => true
  | [_] => true
  | e :: f :: es => decide (f.1 = e.1 + e.2.1) && qSeq (f :: es)
/-! ===== what must hold ahead of straight code ===== -/
def qAri (w : Bool) (z : Int) (K : Int → Prop) : Prop := match w with
  | true => K (q32 z)
  | false => (-2147483648 ≤ z ∧ z < 2147483648) ∧ K z
def qAri6 (w : Bool) (z : Int) (K : Int → Prop) : Prop := match w with
  | true => K (q64 z)
  | false => (-9223372036854775808 ≤ z ∧ z < 9223372036854775808) ∧ K z
def qTabC (x : Int) (J : Int → Prop) : List Int → Int → Prop
  | [], _ => True
  | o :: os, k => (x = k → J o) ∧ qTabC x J os (k + 1)
def qLook (x : Int) (J : Int → Prop) : List (Int × Int) → Int → Prop
  | [], d => J d
  | (k, o) :: r, d => (x = k → J o) ∧ (x ≠ k → qLook x J r d)
/-- the i-th of rows, by cases -/
def qRow (fz : qFz) (o : Nat) (i : Int) (K : Nat → Prop) : Nat → Prop
  | 0 => True
  | n + 1 => qRow fz o i K n ∧ (i = (n : Int) → match fz o n with
    | some t => if t < 1000 then K t else False
    | none => False)
/-- calls: of what answers an int, a long, a reference, nothing; of a constructor -/
def CI (fz : qFz) (cal : Nat) (As : List qV) (sh : qS) (M : qM) (K : Int → qM → Prop) : Prop := RB fz cal 0 (qEnt As (qML cal)) [] sh M 0 0 (fun r sh' M' => ∃ z, r = qI z ∧ sh' = sh ∧ K z M')
def CL (fz : qFz) (cal : Nat) (As : List qV) (sh : qS) (M : qM) (K : Int → qM → Prop) : Prop := RB fz cal 0 (qEnt As (qML cal)) [] sh M 0 0 (fun r sh' M' => ∃ z, r = qL z ∧ sh' = sh ∧ K z M')
def CR (fz : qFz) (cal : Nat) (As : List qV) (sh : qS) (M : qM) (K : Nat → qM → Prop) : Prop := RB fz cal 0 (qEnt As (qML cal)) [] sh M 0 0 (fun r sh' M' => ∃ k, r = qR k ∧ sh' = sh ∧ K k M')
def CV (fz : qFz) (cal : Nat) (As : List qV) (sh : qS) (M : qM) (K : qM → Prop) : Prop := RB fz cal 0 (qEnt As (qML cal)) [] sh M 0 0 (fun r sh' M' => r = qU ∧ sh' = sh ∧ K M')
def CC (fz : qFz) (cal : Nat) (As : List qV) (sh : qS) (M : qM) (K : qS → qM → Prop) : Prop := RB fz cal 0 (qEnt As (qML cal)) [] sh M 0 0 (fun r sh' M' => r = qU ∧ K sh' M')
def qCall (fz : qFz) (cal : Nat) (As st ls : List qV) (sh : qS) (M : qM) (cn sn : Nat) (nx : List qV → List qV → qS → qM → Nat → Nat → Prop) : Prop := match qRT cal with
  | none => if qCn cal = 0 then CV fz cal As sh M (fun M' => nx ls st sh M' (cn + qCn cal) (sn + qSn cal)) else CC fz cal As sh M (fun sh' M' => nx ls st sh' M' (cn + qCn cal) (sn + qSn cal))
  | some .long => CL fz cal As sh M (fun z M' => nx ls (qL z :: st) sh M' (cn + qCn cal) (sn + qSn cal))
  | some (.object _) => CR fz cal As sh M (fun k M' => nx ls (qR k :: st) sh M' (cn + qCn cal) (sn + qSn cal))
  | some _ => CI fz cal As sh M (fun z M' => nx ls (qI z :: st) sh M' (cn + qCn cal) (sn + qSn cal))
def qRmB (mid cal cn sn : Nat) : Bool := Nat.ble (qFr cal + 1) (qFr mid) && Nat.ble (8 + (qML cal + 11) + qLo cal) (qLo mid) && Nat.ble (cn + qCn cal) (qCn mid) && Nat.ble (sn + qSn cal) (qSn mid)
def qOwn (sh : qS) (o cal : Nat) : Bool := match sh[o]? with
  | some (0, ci) => Nat.beq ci (qCi cal)
  | _ => false
def qGd (b : Bool) (P : Prop) : Prop := match b with
  | true => P
  | false => False
def qStk (st : List qV) (k : Nat) : Bool := Nat.ble ((st.map qCat).sum) k
def qW1 (fz : qFz) (mid : Nat) (wr : Bool) (e : qE) (ls st : List qV) (sh : qS) (M : qM) (cn sn : Nat) (nx : List qV → List qV → qS → qM → Nat → Nat → Prop) (jp : Nat → List qV → List qV → Prop) (rt : qV → Prop) : Prop := match e with
  | (pc, _, ins, a, b, _, d) => match ins with
    | .iload k => (match ls[k]? with | some (.inl x) => nx ls (qI x :: st) sh M cn sn | _ => False)
    | .iload_n k => (match ls[k.val]? with | some (.inl x) => nx ls (qI x :: st) sh M cn sn | _ => False)
    | .lload k => (match ls[k]? with | some (.inr (.inl x)) => nx ls (qL x :: st) sh M cn sn | _ => False)
    | .lload_n k => (match ls[k.val]? with | some (.inr (.inl x)) => nx ls (qL x :: st) sh M cn sn | _ => False)
    | .aload k => (match ls[k]? with | some (.inr (.inr (.inl (some x)))) => qGd (Nat.blt x 1400) (nx ls (qR x :: st) sh M cn sn) | _ => False)
    | .aload_n k => (match ls[k.val]? with | some (.inr (.inr (.inl (some x)))) => qGd (Nat.blt x 1400) (nx ls (qR x :: st) sh M cn sn) | _ => False)
    | .istore k => (match st with | .inl x :: st' => qGd (Nat.blt k ls.length) (nx (qSt1 ls k (qI x)) st' sh M cn sn) | _ => False)
    | .istore_n k => (match st with | .inl x :: st' => qGd (Nat.blt k.val ls.length) (nx (qSt1 ls k.val (qI x)) st' sh M cn sn) | _ => False)
    | .lstore k => (match st with | .inr (.inl x) :: st' => qGd (Nat.blt (k + 1) ls.length) (nx (qSt2 ls k (qL x)) st' sh M cn sn) | _ => False)
    | .lstore_n k => (match st with | .inr (.inl x) :: st' => qGd (Nat.blt (k.val + 1) ls.length) (nx (qSt2 ls k.val (qL x)) st' sh M cn sn) | _ => False)
    | .astore k => (match st with | .inr (.inr (.inl (some x))) :: st' => qGd (Nat.blt x 1400 && Nat.blt k ls.length) (nx (qSt1 ls k (qR x)) st' sh M cn sn) | _ => False)
    | .astore_n k => (match st with | .inr (.inr (.inl (some x))) :: st' => qGd (Nat.blt x 1400 && Nat.blt k.val ls.length) (nx (qSt1 ls k.val (qR x)) st' sh M cn sn) | _ => False)
    | .iinc k n => (match ls[k]? with | some (.inl x) => qAri wr (x + n) (fun z => nx (qSt1 ls k (qI z)) st sh M cn sn) | _ => False)
    | .iconst n => nx ls (qI n :: st) sh M cn sn
    | .bipush n => nx ls (qI n :: st) sh M cn sn
    | .sipush n => nx ls (qI n :: st) sh M cn sn
    | .ldc _ => (match a with | 0 => nx ls (qI d :: st) sh M cn sn | _ => nx ls (qR (1000 + b) :: st) sh M cn sn)
    | .ldc_w _ => nx ls (qI d :: st) sh M cn sn
    | .lconst n => nx ls (qL ((n.val : Nat) : Int) :: st) sh M cn sn
    | .ldc2_w _ => nx ls (qL d :: st) sh M cn sn
    | .iadd => (match st with | .inl y :: .inl x :: st' => qAri wr (x + y) (fun z => nx ls (qI z :: st') sh M cn sn) | _ => False)
    | .isub => (match st with | .inl y :: .inl x :: st' => qAri wr (x - y) (fun z => nx ls (qI z :: st') sh M cn sn) | _ => False)
    | .imul => (match st with | .inl y :: .inl x :: st' => qAri wr (x * y) (fun z => nx ls (qI z :: st') sh M cn sn) | _ => False)
    | .idiv => (match st with | .inl y :: .inl x :: st' => y ≠ 0 ∧ qAri wr (x.tdiv y) (fun z => nx ls (qI z :: st') sh M cn sn) | _ => False)
    | .irem => (match st with | .inl y :: .inl x :: st' => y ≠ 0 ∧ nx ls (qI (x.tmod y) :: st') sh M cn sn | _ => False)
    | .iand => (match st with | .inl y :: .inl x :: st' => nx ls (qI (qAnd x y) :: st') sh M cn sn | _ => False)
    | .ishl => (match st with | .inl y :: .inl x :: st' => nx ls (qI (qShl x y) :: st') sh M cn sn | _ => False)
    | .ishr => (match st with | .inl y :: .inl x :: st' => nx ls (qI (qShr x y) :: st') sh M cn sn | _ => False)
    | .ladd => (match st with | .inr (.inl y) :: .inr (.inl x) :: st' => qAri6 wr (x + y) (fun z => nx ls (qL z :: st') sh M cn sn) | _ => False)
    | .lmul => (match st with | .inr (.inl y) :: .inr (.inl x) :: st' => qAri6 wr (x * y) (fun z => nx ls (qL z :: st') sh M cn sn) | _ => False)
    | .ldiv => (match st with | .inr (.inl y) :: .inr (.inl x) :: st' => y ≠ 0 ∧ qAri6 wr (x.tdiv y) (fun z => nx ls (qL z :: st') sh M cn sn) | _ => False)
    | .lcmp => (match st with | .inr (.inl y) :: .inr (.inl x) :: st' => nx ls (qI (qCmp x y) :: st') sh M cn sn | _ => False)
    | .i2l => (match st with | .inl x :: st' => nx ls (qL x :: st') sh M cn sn | _ => False)
    | .l2i => (match st with | .inr (.inl x) :: st' => qAri wr x (fun z => nx ls (qI z :: st') sh M cn sn) | _ => False)
    | .i2b => (match st with | .inl x :: st' => nx ls (qI (q8 x) :: st') sh M cn sn | _ => False)
    | .i2c => (match st with | .inl x :: st' => nx ls (qI (qI2c x) :: st') sh M cn sn | _ => False)
    | .dup => (match st with | v :: st' => qGd (Nat.beq (qCat v) 1) (nx ls (v :: v :: st') sh M cn sn) | _ => False)
    | .dup2 => (match st with | v :: w :: st' => qGd (Nat.beq (qCat v) 1 && Nat.beq (qCat w) 1) (nx ls (v :: w :: v :: w :: st') sh M cn sn) | _ => False)
    | .pop => (match st with | v :: st' => qGd (Nat.beq (qCat v) 1) (nx ls st' sh M cn sn) | _ => False)
    | .goto o => jp (qTgt pc o) ls st
    | .if_icmp c o => (match st with | .inl y :: .inl x :: st' => (qHolds c x y → jp (qTgt pc o) ls st') ∧ (¬ qHolds c x y → nx ls st' sh M cn sn) | _ => False)
    | .ifCond c o => (match st with | .inl x :: st' => (qHolds c x 0 → jp (qTgt pc o) ls st') ∧ (¬ qHolds c x 0 → nx ls st' sh M cn sn) | _ => False)
    | .tableswitch df lo hi os => (match st with | .inl x :: st' => qTabC x (fun o => jp (qTgt pc o) ls st') os.toList lo ∧ ((x < lo ∨ hi < x) → jp (qTgt pc df) ls st') | _ => False)
    | .lookupswitch df ps => (match st with | .inl x :: st' => qLook x (fun o => jp (qTgt pc o) ls st') ps.toList df | _ => False)
    | .getstatic _ => (match a with | 1 => nx ls (qR 1200 :: st) sh M cn sn | 2 => nx ls (qI 1 :: st) sh M cn sn | _ => nx ls (qR 1400 :: st) sh M cn sn)
    | .getfield _ => (match st with
      | .inr (.inr (.inl (some o))) :: st' => (match a with
        | 99 => qGd (Nat.ble 1000 o && Nat.blt o 1008) (match b with | 0 => nx ls (qR (1100 + (o - 1000)) :: st') sh M cn sn | _ => nx ls (qI 0 :: st') sh M cn sn)
        | _ => (match sh[o]? with
          | some (0, ci) => qGd (Nat.beq ci a && Nat.blt o 1000) (match qFt a b with
            | 0 => nx ls (qI (M o b) :: st') sh M cn sn
            | 1 => nx ls (qI (M o b) :: st') sh M cn sn
            | 3 => (match fz o b with
              | some t => nx ls (qR t :: st') sh M cn sn
              | none => ∃ t : Nat, M o b = (t : Int) + 1 ∧ nx ls (qR t :: st') sh M cn sn)
            | _ => False)
          | _ => False))
      | _ => False)
    | .putfield _ => (match st with
      | v :: .inr (.inr (.inl (some o))) :: st' => (match sh[o]? with
        | some (0, ci) => qGd (Nat.beq ci a && Nat.blt o 1000) (match qFt a b with
          | 0 => (match v with | .inl x => nx ls st' sh (stM M o b x) cn sn | _ => False)
          | 1 => (match v with | .inl x => (x = 0 ∨ x = 1) ∧ nx ls st' sh (stM M o b x) cn sn | _ => False)
          | 3 => (match v with | .inr (.inr (.inl (some t))) => (t < 1400 ∧ fz o b = none) ∧ nx ls st' sh (stM M o b ((t : Int) + 1)) cn sn | _ => False)
          | _ => False)
        | _ => False)
      | _ => False)
    | .iaload => (match st with
      | .inl i :: .inr (.inr (.inl (some o))) :: st' => (match qSh sh o with
        | some (1, n) => (0 ≤ i ∧ i < (n : Int)) ∧ nx ls (qI (M o i) :: st') sh M cn sn
        | some (6, _) => qGd (Nat.ble 1000 o) ((0 ≤ i ∧ i < M o (-1)) ∧ nx ls (qI (M o i) :: st') sh M cn sn)
        | _ => False)
      | _ => False)
    | .baload => (match st with
      | .inl i :: .inr (.inr (.inl (some o))) :: st' => (match qSh sh o with
        | some (2, n) => (0 ≤ i ∧ i < (n : Int)) ∧ nx ls (qI (M o i) :: st') sh M cn sn
        | some (3, n) => (0 ≤ i ∧ i < (n : Int)) ∧ nx ls (qI (M o i) :: st') sh M cn sn
        | _ => False)
      | _ => False)
    | .laload => (match st with
      | .inl i :: .inr (.inr (.inl (some o))) :: st' => (match sh[o]? with
        | some (4, n) => qGd (Nat.blt o 1000) ((0 ≤ i ∧ i < (n : Int)) ∧ nx ls (qL (M o i) :: st') sh M cn sn)
        | _ => False)
      | _ => False)
    | .aaload => (match st with
      | .inl i :: .inr (.inr (.inl (some o))) :: st' => (match sh[o]? with
        | some (5, n) => qGd (Nat.blt o 1000) ((0 ≤ i ∧ i < (n : Int)) ∧ qRow fz o i (fun t => nx ls (qR t :: st') sh M cn sn) n)
        | _ => False)
      | _ => False)
    | .iastore => (match st with
      | .inl x :: .inl i :: .inr (.inr (.inl (some o))) :: st' => (match sh[o]? with
        | some (1, n) => qGd (Nat.blt o 1000) ((0 ≤ i ∧ i < (n : Int)) ∧ nx ls st' sh (stM M o i x) cn sn)
        | _ => False)
      | _ => False)
    | .bastore => (match st with
      | .inl x :: .inl i :: .inr (.inr (.inl (some o))) :: st' => (match sh[o]? with
        | some (2, n) => qGd (Nat.blt o 1000) ((0 ≤ i ∧ i < (n : Int)) ∧ nx ls st' sh (stM M o i (q8 x)) cn sn)
        | some (3, n) => qGd (Nat.blt o 1000) ((0 ≤ i ∧ i < (n : Int)) ∧ (x = 0 ∨ x = 1) ∧ nx ls st' sh (stM M o i x) cn sn)
        | _ => False)
      | _ => False)
    | .lastore => (match st with
      | .inr (.inl x) :: .inl i :: .inr (.inr (.inl (some o))) :: st' => (match sh[o]? with
        | some (4, n) => qGd (Nat.blt o 1000) ((0 ≤ i ∧ i < (n : Int)) ∧ nx ls st' sh (stM M o i x) cn sn)
        | _ => False)
      | _ => False)
    | .arraylength => (match st with
      | .inr (.inr (.inl (some o))) :: st' => (match qSh sh o with
        | some (1, n) => qGd (Nat.blt n 2147483648) (nx ls (qI (n : Int) :: st') sh M cn sn)
        | some (2, n) => qGd (Nat.blt n 2147483648) (nx ls (qI (n : Int) :: st') sh M cn sn)
        | some (3, n) => qGd (Nat.blt n 2147483648) (nx ls (qI (n : Int) :: st') sh M cn sn)
        | some (4, n) => qGd (Nat.blt n 2147483648) (nx ls (qI (n : Int) :: st') sh M cn sn)
        | some (5, n) => qGd (Nat.blt n 2147483648) (nx ls (qI (n : Int) :: st') sh M cn sn)
        | some (6, _) => qGd (Nat.ble 1000 o) (nx ls (qI (M o (-1)) :: st') sh M cn sn)
        | _ => False)
      | _ => False)
    | .invokestatic _ => (match a with
      | 1999 => False
      | 1001 => (match st with | .inl y :: .inl x :: st' => qGd (Nat.ble 1 (qFr mid) && Nat.ble ((st'.map qCat).sum + 13) (qLo mid) && Nat.ble cn (qCn mid) && Nat.ble sn (qSn mid)) (nx ls (qI (if y < x then y else x) :: st') sh M cn sn) | _ => False)
      | 1002 => (match st with | .inl y :: .inl x :: st' => qGd (Nat.ble 1 (qFr mid) && Nat.ble ((st'.map qCat).sum + 13) (qLo mid) && Nat.ble cn (qCn mid) && Nat.ble sn (qSn mid)) (nx ls (qI (if x < y then y else x) :: st') sh M cn sn) | _ => False)
      | 1003 => (match st with
        | .inl n :: .inl dp :: .inr (.inr (.inl (some q2))) :: .inl sp :: .inr (.inr (.inl (some q1))) :: st' => (match sh[q1]?, sh[q2]? with
          | some (1, n1), some (1, n2) => qGd (Nat.ble 1 (qFr mid) && Nat.ble ((st'.map qCat).sum + 18) (qLo mid) && Nat.blt q1 1000 && Nat.blt q2 1000) ((0 ≤ sp ∧ 0 ≤ dp ∧ 0 ≤ n ∧ sp + n ≤ (n1 : Int) ∧ dp + n ≤ (n2 : Int)) ∧ nx ls st' sh (cpM M q1 sp q2 dp n) cn sn)
          | _, _ => False)
        | _ => False)
      | cal => qGd (Nat.beq (st.take (qNA cal)).reverse.length (qNA cal) && qRmB mid cal cn sn && qStk (st.drop (qNA cal)) 8 && Nat.ble (qArg (st.take (qNA cal)).reverse).length (qML cal)) (qCall fz cal (st.take (qNA cal)).reverse (st.drop (qNA cal)) ls sh M cn sn nx))
    | .invokevirtual _ => (match a with
      | 1999 => False
      | cal => (match st.drop (qNA cal) with
        | .inr (.inr (.inl (some o))) :: st' => qGd (Nat.beq (st.take (qNA cal)).reverse.length (qNA cal) && qRmB mid cal cn sn && qStk st' 8 && Nat.ble (qArg (qR o :: (st.take (qNA cal)).reverse)).length (qML cal)) ((match Nat.blt cal 224 with
          | true => qGd (Nat.blt o 1000 && qOwn sh o cal) True
          | false => 1000 ≤ o ∧ o < 1008) ∧ qCall fz cal (qR o :: (st.take (qNA cal)).reverse) st' ls sh M cn sn nx)
        | _ => False))
    | .invokespecial _ => (match a with
      | 1000 => (match st with | .inr (.inr (.inl (some o))) :: st' => qGd (Nat.blt o 1000 && Nat.ble 1 (qFr mid) && Nat.ble ((st'.map qCat).sum + 12) (qLo mid)) (nx ls st' sh M cn sn) | _ => False)
      | cal => (match st.drop (qNA cal) with
        | .inr (.inr (.inl (some o))) :: st' => qGd (Nat.blt o 1000 && Nat.beq (st.take (qNA cal)).reverse.length (qNA cal) && qRmB mid cal cn sn && qStk st' 8 && Nat.ble (qArg (qR o :: (st.take (qNA cal)).reverse)).length (qML cal)) (qCall fz cal (qR o :: (st.take (qNA cal)).reverse) st' ls sh M cn sn nx)
        | _ => False))
    | .new _ => (∀ j, fz sh.length j = none) ∧ qGd (Nat.blt sh.length 999 && Nat.ble (cn + 1) (qCn mid) && Nat.ble (sn + qNf a) (qSn mid)) (nx ls (qR sh.length :: st) (sh ++ [(0, a)]) (zeroM M sh.length) (cn + 1) (sn + qNf a))
    | .newarray t => (match st with
      | .inl (Int.ofNat n) :: st' => qGd (!(Nat.beq (qAk t) 0) && Nat.blt n 60000000 && Nat.blt sh.length 999 && Nat.ble (cn + 1) (qCn mid) && Nat.ble (sn + n) (qSn mid)) (nx ls (qR sh.length :: st') (sh ++ [(qAk t, n)]) (zeroM M sh.length) (cn + 1) (sn + n))
      | _ => False)
    | .multianewarray _ k => (match k, st with
      | 2, .inl (Int.ofNat w) :: .inl (Int.ofNat n) :: st' => (∀ j, fz sh.length j = none) ∧ qGd (Nat.blt n 100 && Nat.blt w 100000 && Nat.blt sh.length 800 && Nat.ble (cn + (1 + n)) (qCn mid) && Nat.ble (sn + (n + n * w)) (qSn mid)) (nx ls (qR sh.length :: st') (sh ++ (5, n) :: List.replicate n (1, w)) (rowsM M sh.length n) (cn + 1 + n) (sn + n + n * w))
      | _, _ => False)
    | .ireturn => (match st with
      | [.inl x] => qGd (Nat.ble cn (qCn mid) && Nat.ble sn (qSn mid)) (match qRT mid with
        | some .int => rt (qI x)
        | some .boolean => (x = 0 ∨ x = 1) ∧ rt (qI x)
        | some .char => (0 ≤ x ∧ x < 65536) ∧ rt (qI x)
        | some .byte => (-128 ≤ x ∧ x < 128) ∧ rt (qI x)
        | _ => False)
      | _ => False)
    | .lreturn => (match st with
      | [.inr (.inl x)] => qGd (Nat.ble cn (qCn mid) && Nat.ble sn (qSn mid)) (match qRT mid with
        | some .long => rt (qL x)
        | _ => False)
      | _ => False)
    | .areturn => (match st with
      | [.inr (.inr (.inl (some x)))] => qGd (Nat.ble cn (qCn mid) && Nat.ble sn (qSn mid)) (match qRT mid with
        | some (.object _) => x < 1400 ∧ rt (qR x)
        | _ => False)
      | _ => False)
    | .return_ => (match st with
      | [] => qGd (Nat.ble cn (qCn mid) && Nat.ble sn (qSn mid)) (match qRT mid with
        | none => rt qU
        | _ => False)
      | _ => False)
    | _ => False
def qFetch (mid t : Nat) : List qE := (qCode mid).dropWhile (fun e => !(Nat.beq e.1 t))
/-- the locals that are still asked for at a place -/
def qMask : List Bool → List qV → List qV
  | b :: bs, v :: vs => (match b with | true => v | false => qU) :: qMask bs vs
  | _, vs => vs
def wpn (fz : qFz) (mid : Nat) (ct : Nat → Option (List Bool)) (wr : Nat → Bool) (Q : qV → qS → qM → Prop) : Nat → List qE → List qV → List qV → qS → qM → Nat → Nat → Prop
  | 0, es, ls, st, sh, M, cn, sn => (match es with | e :: _ => RB fz mid e.1 ls st sh M cn sn Q | [] => False)
  | n + 1, es, ls, st, sh, M, cn, sn => (match es with
    | e :: es' => qW1 fz mid (wr e.1) e ls st sh M cn sn (fun ls' st' sh' M' cn' sn' => match es' with
      | f :: _ => (match ct f.1 with
        | some bm => RB fz mid f.1 (qMask bm ls') st' sh' M' cn' sn' Q
        | none => wpn fz mid ct wr Q n es' ls' st' sh' M' cn' sn')
      | [] => False) (fun t ls' st' => match ct t with
      | some bm => RB fz mid t (qMask bm ls') st' sh M cn sn Q
      | none => wpn fz mid ct wr Q n (qFetch mid t) ls' st' sh M cn sn) (fun r => Q r sh M)
    | [] => False)
