/-! A SMALL MACHINE over numbered cells (my own): it runs the methods' own decoded instructions over a memory of ints and references by cell number; what it answers is what the JVM does (part 22). -/
abbrev mRf : Type := Option (Nat × Nat)
abbrev mAV : Type := Int32 ⊕ (mRf ⊕ Int64)
abbrev mLV : Type := Int32 ⊕ mRf
/-- how many cells of a kind; the ints; the references; the longs (kind, number, place) -/
abbrev mMm : Type := (Nat → Nat) × (Nat → Nat → Nat → Int32) × (Nat → Nat → Nat → mRf) × (Nat → Nat → Nat → Int64)
/-- pc, instruction, next pc, three numbers (kind, place, sort; target; callee), a constant -/
abbrev mEn : Type := Nat × ClassFile.Instr × Nat × Nat × Nat × Nat × Int32
/-- an answer: returned (with a value or without), or threw (which class), and the memory behind it -/
abbrev mRs : Type := Option ((Option mLV ⊕ Nat) × mMm)
def mq_up {α : Type} (f : Nat → Nat → Nat → α) (k i j : Nat) (v : α) : Nat → Nat → Nat → α := fun k' i' j' => if k' = k ∧ i' = i ∧ j' = j then v else f k' i' j'
def mq_cr {α : Type} (f : Nat → Nat → Nat → α) (k i : Nat) (v : α) : Nat → Nat → Nat → α := fun k' i' j' => if k' = k ∧ i' = i then v else f k' i' j'
def mq_lk (pc : Nat) : List mEn → Option mEn
  | [] => none
  | e :: r => if e.1 = pc then some e else mq_lk pc r
def mq_gl (i : Nat) : List (Nat × mLV) → Option mLV
  | [] => none
  | q :: r => if q.1 = i then some q.2 else mq_gl i r
def mq_sl (i : Nat) (v : mLV) : List (Nat × mLV) → List (Nat × mLV)
  | [] => [(i, v)]
  | q :: r => if q.1 = i then (i, v) :: r.filter (fun q => !(q.1 == i)) else q :: mq_sl i v r
def mq_en : Nat → List mLV → List (Nat × mLV)
  | _, [] => []
  | i, v :: r => (i, v) :: mq_en (i + 1) r
/-- n arguments off the stack, the first one first -/
def mq_pop : Nat → List mAV → List mLV → Option (List mLV × List mAV)
  | 0, st, acc => some (acc, st)
  | n + 1, .inl x :: r, acc => mq_pop n r (.inl x :: acc)
  | n + 1, .inr (.inl q) :: r, acc => mq_pop n r (.inr q :: acc)
  | _ + 1, _, _ => none
/-- how many slots a stack takes -/
def mq_rl : List mAV → Nat
  | [] => 0
  | .inl _ :: r => mq_rl r + 1
  | .inr (.inl _) :: r => mq_rl r + 1
  | .inr (.inr _) :: r => mq_rl r + 2
def mq_toA : mLV → mAV
  | .inl x => .inl x
  | .inr q => .inr (.inl q)
def mq_psh : Option mLV → List mAV → List mAV
  | none, st => st
  | some v, st => mq_toA v :: st
def mq_c1 : mAV → Bool
  | .inl _ => true
  | .inr (.inl _) => true
  | .inr (.inr _) => false
def mq_swt (x : Int32) (d : Nat) : List (Int32 × Nat) → Nat
  | [] => d
  | q :: r => if x = q.1 then q.2 else mq_swt x d r
def mq_new (M : mMm) (k : Nat) : mMm := (fun k' => if k' = k then M.1 k + 1 else M.1 k', mq_cr M.2.1 k (M.1 k) 0, mq_cr M.2.2.1 k (M.1 k) none, mq_cr M.2.2.2 k (M.1 k) 0)
/-- ki: of a kind: its sort (0 object, 1 ints, 2 longs, 3 references, 4 bytes, 5 booleans, 8 an exception, 9 the script), its class, how many places; sw: a switch's pairs; hn: a call's handlers; mx: a method's cells and slots; call: the callees; code: the method's own; lim: its own cells and slots; scr: the script -/
def mq_st (ki : Nat → Nat × Nat × Nat) (sw : Nat → List (Int32 × Nat)) (hn : Nat → Nat → Option Nat) (mx : Nat → Nat × Nat × Nat) (call : Nat → List mLV → mMm → mRs) (code : List mEn) (lim : Nat × Nat × Nat) (scr : Option (Nat × (Nat → Int32))) (go : Nat → List (Nat × mLV) → List mAV → mMm → Nat → Nat → mRs) (pc : Nat) (lv : List (Nat × mLV)) (st : List mAV) (M : mMm) (cs ss : Nat) : mRs :=
  match mq_lk pc code with
  | none => none
  | some (_, ins, nx, a, b, c, v) =>
    match ins with
    | .iconst _ => go nx lv (.inl v :: st) M cs ss
    | .bipush _ => go nx lv (.inl v :: st) M cs ss
    | .sipush _ => go nx lv (.inl v :: st) M cs ss
    | .ldc _ => go nx lv (.inl v :: st) M cs ss
    | .aconst_null => go nx lv (.inr (.inl none) :: st) M cs ss
    | .iload i => match mq_gl i lv with
      | some (.inl x) => go nx lv (.inl x :: st) M cs ss
      | _ => none
    | .iload_n i => match mq_gl i.val lv with
      | some (.inl x) => go nx lv (.inl x :: st) M cs ss
      | _ => none
    | .aload i => match mq_gl i lv with
      | some (.inr x) => go nx lv (.inr (.inl x) :: st) M cs ss
      | _ => none
    | .aload_n i => match mq_gl i.val lv with
      | some (.inr x) => go nx lv (.inr (.inl x) :: st) M cs ss
      | _ => none
    | .istore i => match st with
      | .inl x :: r => go nx (mq_sl i (.inl x) lv) r M cs ss
      | _ => none
    | .istore_n i => match st with
      | .inl x :: r => go nx (mq_sl i.val (.inl x) lv) r M cs ss
      | _ => none
    | .astore i => match st with
      | .inr (.inl x) :: r => go nx (mq_sl i (.inr x) lv) r M cs ss
      | _ => none
    | .astore_n i => match st with
      | .inr (.inl x) :: r => go nx (mq_sl i.val (.inr x) lv) r M cs ss
      | _ => none
    | .iinc i _ => match mq_gl i lv with
      | some (.inl x) => go nx (mq_sl i (.inl (x + v)) lv) st M cs ss
      | _ => none
    | .iadd => match st with
      | .inl y :: .inl x :: r => go nx lv (.inl (x + y) :: r) M cs ss
      | _ => none
    | .isub => match st with
      | .inl y :: .inl x :: r => go nx lv (.inl (x - y) :: r) M cs ss
      | _ => none
    | .imul => match st with
      | .inl y :: .inl x :: r => go nx lv (.inl (x * y) :: r) M cs ss
      | _ => none
    | .iand => match st with
      | .inl y :: .inl x :: r => go nx lv (.inl (x &&& y) :: r) M cs ss
      | _ => none
    | .ior => match st with
      | .inl y :: .inl x :: r => go nx lv (.inl (x ||| y) :: r) M cs ss
      | _ => none
    | .ixor => match st with
      | .inl y :: .inl x :: r => go nx lv (.inl (x ^^^ y) :: r) M cs ss
      | _ => none
    | .ishl => match st with
      | .inl y :: .inl x :: r => go nx lv (.inl (x <<< (y &&& 31)) :: r) M cs ss
      | _ => none
    | .ishr => match st with
      | .inl y :: .inl x :: r => go nx lv (.inl (x >>> (y &&& 31)) :: r) M cs ss
      | _ => none
    | .iushr => match st with
      | .inl y :: .inl x :: r => go nx lv (.inl ((x.toUInt32 >>> (y.toUInt32 &&& Int32.toUInt32 31)).toInt32) :: r) M cs ss
      | _ => none
    | .irem => match st with
      | .inl y :: .inl x :: r => if y = 0 then none else go nx lv (.inl (x - x / y * y) :: r) M cs ss
      | _ => none
    | .idiv => match st with
      | .inl y :: .inl x :: r => if y = 0 then none else go nx lv (.inl (x / y) :: r) M cs ss
      | _ => none
    | .ineg => match st with
      | .inl x :: r => go nx lv (.inl (-x) :: r) M cs ss
      | _ => none
    | .i2b => match st with
      | .inl x :: r => go nx lv (.inl x.toInt8.toInt32 :: r) M cs ss
      | _ => none
    | .i2s => match st with
      | .inl x :: r => go nx lv (.inl x.toInt16.toInt32 :: r) M cs ss
      | _ => none
    | .i2c => match st with
      | .inl x :: r => go nx lv (.inl (x.toUInt32 % 65536).toInt32 :: r) M cs ss
      | _ => none
    | .i2l => match st with
      | .inl x :: r => go nx lv (.inr (.inr x.toInt64) :: r) M cs ss
      | _ => none
    | .ldc2_w _ => go nx lv (.inr (.inr (Int64.ofNat a)) :: st) M cs ss
    | .land => match st with
      | .inr (.inr y) :: .inr (.inr x) :: r => go nx lv (.inr (.inr (x &&& y)) :: r) M cs ss
      | _ => none
    | .lcmp => match st with
      | .inr (.inr y) :: .inr (.inr x) :: r => go nx lv (.inl (lg_cmp x y) :: r) M cs ss
      | _ => none
    | .dup => match st with
      | x :: r => match mq_c1 x with
        | true => go nx lv (x :: x :: r) M cs ss
        | false => none
      | _ => none
    | .pop => match st with
      | x :: r => match mq_c1 x with
        | true => go nx lv r M cs ss
        | false => none
      | _ => none
    | .dup_x1 => match st with
      | x :: y :: r => match mq_c1 x, mq_c1 y with
        | true, true => go nx lv (x :: y :: x :: r) M cs ss
        | _, _ => none
      | _ => none
    | .dup_x2 => match st with
      | x :: y :: z :: r => match mq_c1 x, mq_c1 y, mq_c1 z with
        | true, true, true => go nx lv (x :: y :: z :: x :: r) M cs ss
        | _, _, _ => none
      | _ => none
    | .dup2 => match st with
      | x :: y :: r => match mq_c1 x, mq_c1 y with
        | true, true => go nx lv (x :: y :: x :: y :: r) M cs ss
        | _, _ => none
      | _ => none
    | .goto _ => go a lv st M cs ss
    | .ifCond cnd _ => match st with
      | .inl x :: r => match cnd with
        | .eq => if x = 0 then go a lv r M cs ss else go nx lv r M cs ss
        | .ne => if x = 0 then go nx lv r M cs ss else go a lv r M cs ss
        | .lt => if x < 0 then go a lv r M cs ss else go nx lv r M cs ss
        | .ge => if x < 0 then go nx lv r M cs ss else go a lv r M cs ss
        | .gt => if 0 < x then go a lv r M cs ss else go nx lv r M cs ss
        | .le => if 0 < x then go nx lv r M cs ss else go a lv r M cs ss
      | _ => none
    | .if_icmp cnd _ => match st with
      | .inl y :: .inl x :: r => match cnd with
        | .eq => if x = y then go a lv r M cs ss else go nx lv r M cs ss
        | .ne => if x = y then go nx lv r M cs ss else go a lv r M cs ss
        | .lt => if x < y then go a lv r M cs ss else go nx lv r M cs ss
        | .ge => if x < y then go nx lv r M cs ss else go a lv r M cs ss
        | .gt => if y < x then go a lv r M cs ss else go nx lv r M cs ss
        | .le => if y < x then go nx lv r M cs ss else go a lv r M cs ss
      | _ => none
    | .ifnull _ => match st with
      | .inr (.inl none) :: r => go a lv r M cs ss
      | .inr (.inl (some _)) :: r => go nx lv r M cs ss
      | _ => none
    | .ifnonnull _ => match st with
      | .inr (.inl none) :: r => go nx lv r M cs ss
      | .inr (.inl (some _)) :: r => go a lv r M cs ss
      | _ => none
    | .tableswitch _ _ _ _ => match st with
      | .inl x :: r => go (mq_swt x a (sw b)) lv r M cs ss
      | _ => none
    | .lookupswitch _ _ => match st with
      | .inl x :: r => go (mq_swt x a (sw b)) lv r M cs ss
      | _ => none
    | .getfield _ => match st with
      | .inr (.inl (some q)) :: r => if q.1 = a then (match c with
        | 1 => go nx lv (.inr (.inl (M.2.2.1 q.1 q.2 b)) :: r) M cs ss
        | _ => go nx lv (.inl (M.2.1 q.1 q.2 b) :: r) M cs ss) else none
      | _ => none
    | .putfield _ => match st with
      | .inl x :: .inr (.inl (some q)) :: r => if q.1 = a then (match c with
        | 0 => go nx lv r (M.1, mq_up M.2.1 q.1 q.2 b x, M.2.2) cs ss
        | 2 => if x = 0 ∨ x = 1 then go nx lv r (M.1, mq_up M.2.1 q.1 q.2 b x, M.2.2) cs ss else none
        | _ => none) else none
      | .inr (.inl y) :: .inr (.inl (some q)) :: r => if q.1 = a then (match c with
        | 1 => if y = some (999, 0) then none else go nx lv r (M.1, M.2.1, mq_up M.2.2.1 q.1 q.2 b y, M.2.2.2) cs ss
        | _ => none) else none
      | _ => none
    | .arraylength => match st with
      | .inr (.inl (some q)) :: r => (match (ki q.1).1 with
        | 1 => go nx lv (.inl (Int32.ofNat (ki q.1).2.2) :: r) M cs ss
        | 3 => go nx lv (.inl (Int32.ofNat (ki q.1).2.2) :: r) M cs ss
        | 9 => if q = (999, 0) then (match scr with
          | some w => go nx lv (.inl (Int32.ofNat w.1) :: r) M cs ss
          | none => none) else none
        | _ => none)
      | _ => none
    | .iaload => match st with
      | .inl i :: .inr (.inl (some q)) :: r => (match (ki q.1).1 with
        | 1 => if i < 0 ∨ (ki q.1).2.2 ≤ i.toNatClampNeg then none else go nx lv (.inl (M.2.1 q.1 q.2 i.toNatClampNeg) :: r) M cs ss
        | 9 => if q = (999, 0) then (match scr with
          | some w => if i < 0 ∨ w.1 ≤ i.toNatClampNeg then none else go nx lv (.inl (w.2 i.toNatClampNeg) :: r) M cs ss
          | none => none) else none
        | _ => none)
      | _ => none
    | .iastore => match st with
      | .inl x :: .inl i :: .inr (.inl (some q)) :: r => (match (ki q.1).1 with
        | 1 => if i < 0 ∨ (ki q.1).2.2 ≤ i.toNatClampNeg then none else go nx lv r (M.1, mq_up M.2.1 q.1 q.2 i.toNatClampNeg x, M.2.2) cs ss
        | _ => none)
      | _ => none
    | .baload => match st with
      | .inl i :: .inr (.inl (some q)) :: r => (match (ki q.1).1 with
        | 4 => if i < 0 ∨ (ki q.1).2.2 ≤ i.toNatClampNeg then none else go nx lv (.inl (M.2.1 q.1 q.2 i.toNatClampNeg) :: r) M cs ss
        | 5 => if i < 0 ∨ (ki q.1).2.2 ≤ i.toNatClampNeg then none else go nx lv (.inl (M.2.1 q.1 q.2 i.toNatClampNeg) :: r) M cs ss
        | _ => none)
      | _ => none
    | .bastore => match st with
      | .inl x :: .inl i :: .inr (.inl (some q)) :: r => (match (ki q.1).1 with
        | 4 => if i < 0 ∨ (ki q.1).2.2 ≤ i.toNatClampNeg then none else go nx lv r (M.1, mq_up M.2.1 q.1 q.2 i.toNatClampNeg x.toInt8.toInt32, M.2.2) cs ss
        | 5 => if i < 0 ∨ (ki q.1).2.2 ≤ i.toNatClampNeg then none else if x = 0 ∨ x = 1 then go nx lv r (M.1, mq_up M.2.1 q.1 q.2 i.toNatClampNeg x, M.2.2) cs ss else none
        | _ => none)
      | _ => none
    | .laload => match st with
      | .inl i :: .inr (.inl (some q)) :: r => (match (ki q.1).1 with
        | 2 => if i < 0 ∨ (ki q.1).2.2 ≤ i.toNatClampNeg then none else go nx lv (.inr (.inr (M.2.2.2 q.1 q.2 i.toNatClampNeg)) :: r) M cs ss
        | _ => none)
      | _ => none
    | .lastore => match st with
      | .inr (.inr x) :: .inl i :: .inr (.inl (some q)) :: r => (match (ki q.1).1 with
        | 2 => if i < 0 ∨ (ki q.1).2.2 ≤ i.toNatClampNeg then none else go nx lv r (M.1, M.2.1, M.2.2.1, mq_up M.2.2.2 q.1 q.2 i.toNatClampNeg x) cs ss
        | _ => none)
      | _ => none
    | .aaload => match st with
      | .inl i :: .inr (.inl (some q)) :: r => (match (ki q.1).1 with
        | 3 => if i < 0 ∨ (ki q.1).2.2 ≤ i.toNatClampNeg then none else go nx lv (.inr (.inl (M.2.2.1 q.1 q.2 i.toNatClampNeg)) :: r) M cs ss
        | _ => none)
      | _ => none
    | .aastore => match st with
      | .inr (.inl (some y)) :: .inl i :: .inr (.inl (some q)) :: r => (match (ki q.1).1 with
        | 3 => if i < 0 ∨ (ki q.1).2.2 ≤ i.toNatClampNeg then none else if (ki y.1).1 = 0 ∧ (ki y.1).2.1 = (ki q.1).2.1 then go nx lv r (M.1, M.2.1, mq_up M.2.2.1 q.1 q.2 i.toNatClampNeg (some y), M.2.2.2) cs ss else none
        | _ => none)
      | _ => none
    | .new _ => if cs + 1 ≤ lim.1 ∧ ss + (ki a).2.2 ≤ lim.2.1 then (match (ki a).1 with
        | 0 => go nx lv (.inr (.inl (some (a, M.1 a))) :: st) (mq_new M a) (cs + 1) (ss + (ki a).2.2)
        | 8 => (match st with
          | [] => some (.inr (ki a).2.1, M)
          | _ => none)
        | _ => none) else none
    | .newarray _ => match st with
      | .inl n :: r => if n = Int32.ofNat (ki a).2.2 ∧ cs + 1 ≤ lim.1 ∧ ss + (ki a).2.2 ≤ lim.2.1 then go nx lv (.inr (.inl (some (a, M.1 a))) :: r) (mq_new M a) (cs + 1) (ss + (ki a).2.2) else none
      | _ => none
    | .anewarray _ => match st with
      | .inl n :: r => if n = Int32.ofNat (ki a).2.2 ∧ cs + 1 ≤ lim.1 ∧ ss + (ki a).2.2 ≤ lim.2.1 then go nx lv (.inr (.inl (some (a, M.1 a))) :: r) (mq_new M a) (cs + 1) (ss + (ki a).2.2) else none
      | _ => none
    | .invokespecial _ => match mq_pop b st [] with
      | some (.inr (some q) :: as, r) => if mq_rl r ≤ 8 then (match a with
        | 0 => go nx lv r M cs ss
        | a + 1 => if cs + (mx a).1 ≤ lim.1 ∧ ss + (mx a).2.1 ≤ lim.2.1 then (match call a (.inr (some q) :: as) M with
          | some (.inl w, M') => go nx lv (mq_psh w r) M' (cs + (mx a).1) (ss + (mx a).2.1)
          | _ => none) else none) else none
      | _ => none
    | .invokevirtual _ => match mq_pop b st [] with
      | some (.inr (some q) :: as, r) => if (ki q.1).1 = 0 ∧ (ki q.1).2.1 = (mx a).2.2 ∧ mq_rl r ≤ 8 ∧ cs + (mx a).1 ≤ lim.1 ∧ ss + (mx a).2.1 ≤ lim.2.1 then (match call a (.inr (some q) :: as) M with
          | some (.inl w, M') => go nx lv (mq_psh w r) M' (cs + (mx a).1) (ss + (mx a).2.1)
          | some (.inr x, M') => (match hn c x with
            | some hp => go hp [] [] M' (cs + (mx a).1) (ss + (mx a).2.1)
            | none => none)
          | none => none) else none
      | _ => none
    | .invokestatic _ => match c with
      | 7 => (match st with
        | .inl y :: .inl x :: r => if mq_rl r ≤ 8 then go nx lv (.inl (if y < x then y else x) :: r) M cs ss else none
        | _ => none)
      | _ => (match mq_pop b st [] with
        | some (as, r) => if mq_rl r ≤ 8 ∧ cs + (mx a).1 ≤ lim.1 ∧ ss + (mx a).2.1 ≤ lim.2.1 then (match call a as M with
          | some (.inl w, M') => go nx lv (mq_psh w r) M' (cs + (mx a).1) (ss + (mx a).2.1)
          | _ => none) else none
        | none => none)
    | .ireturn => match st with
      | [.inl x] => (match c with
        | 2 => if x = 0 ∨ x = 1 then some (.inl (some (.inl x)), M) else none
        | _ => some (.inl (some (.inl x)), M))
      | _ => none
    | .areturn => match st with
      | [.inr (.inl q)] => some (.inl (some (.inr q)), M)
      | _ => none
    | .return_ => match st with
      | [] => some (.inl none, M)
      | _ => none
    | _ => none
def mq_loop (ki : Nat → Nat × Nat × Nat) (sw : Nat → List (Int32 × Nat)) (hn : Nat → Nat → Option Nat) (mx : Nat → Nat × Nat × Nat) (call : Nat → List mLV → mMm → mRs) (code : List mEn) (lim : Nat × Nat × Nat) (scr : Option (Nat × (Nat → Int32))) : Nat → Nat → List (Nat × mLV) → List mAV → mMm → Nat → Nat → mRs
  | 0, _, _, _, _, _, _ => none
  | f + 1, pc, lv, st, M, cs, ss => mq_st ki sw hn mx call code lim scr (mq_loop ki sw hn mx call code lim scr f) pc lv st M cs ss
/-- a method at depth d, by its number; ml: its locals -/
def mq_ex (ki : Nat → Nat × Nat × Nat) (sw : Nat → List (Int32 × Nat)) (hn : Nat → Nat → Option Nat) (mx : Nat → Nat × Nat × Nat) (ml : Nat → Nat) (cd : Nat → List mEn) (F : Nat) : Nat → Nat → List mLV → mMm → mRs
  | 0, _, _, _ => none
  | d + 1, mi, as, M => if as.length ≤ ml mi then mq_loop ki sw hn mx (mq_ex ki sw hn mx ml cd F d) (cd mi) (mx mi) none F 0 (mq_en 0 as) [] M 0 0 else none
