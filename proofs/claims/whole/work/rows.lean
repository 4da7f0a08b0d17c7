section
/-! A SMALL MACHINE over numbered cells (my own): it runs the methods' own decoded instructions over a memory of ints and references by cell number; what it answers is what the JVM does (part 22). -/
abbrev mRf : Type := Option (Nat × Nat)
abbrev mAV : Type := Int32 ⊕ (mRf ⊕ Int64)
abbrev mLV : Type := Int32 ⊕ mRf
/-- how many cells of a kind; the ints; the references; the longs (kind, number, place) -/
abbrev mMm : Type := (Nat → Nat) × (Nat → Nat → Nat → Int32) × (Nat → Nat → Nat → mRf) × (Nat → Nat → Nat → Int64)
/-- pc, instruction, next pc, three numbers (kind, place, sort; target; callee), a constant -/
abbrev mEn : Type := Nat × ClassFile.Instr × Nat × Nat × Nat × Nat × Int32
/-- an answer: returned (with a value or without), or threw (which class), and the memory behind it -/
abbrev mRs : Type := Option ((Option mLV ⊕ Nat) × mMm)
def mq_up {α : Type} (f : Nat → Nat → Nat → α) (k i j : Nat) (v : α) : Nat → Nat → Nat → α := fun k' i' j' => if k' = k ∧ i' = i ∧ j' = j then v else f k' i' j'
def mq_cr {α : Type} (f : Nat → Nat → Nat → α) (k i : Nat) (v : α) : Nat → Nat → Nat → α := fun k' i' j' => if k' = k ∧ i' = i then v else f k' i' j'
def mq_lk (pc : Nat) : List mEn → Option mEn
  | [] => none
  | e :: r => if e.1 = pc then some e else mq_lk pc r
def mq_gl (i : Nat) : List (Nat × mLV) → Option mLV
  | [] => none
  | q :: r => if q.1 = i then some q.2 else mq_gl i r
def mq_sl (i : Nat) (v : mLV) : List (Nat × mLV) → List (Nat × mLV)
  | [] => [(i, v)]
  | q :: r => if q.1 = i then (i, v) :: r.filter (fun q => !(q.1 == i)) else q :: mq_sl i v r
def mq_en : Nat → List mLV → List (Nat × mLV)
  | _, [] => []
  | i, v :: r => (i, v) :: mq_en (i + 1) r
/-- n arguments off the stack, the first one first -/
def mq_pop : Nat → List mAV → List mLV → Option (List mLV × List mAV)
  | 0, st, acc => some (acc, st)
  | n + 1, .inl x :: r, acc => mq_pop n r (.inl x :: acc)
  | n + 1, .inr (.inl q) :: r, acc => mq_pop n r (.inr q :: acc)
  | _ + 1, _, _ => none
def mq_toA : mLV → mAV
  | .inl x => .inl x
  | .inr q => .inr (.inl q)
def mq_psh : Option mLV → List mAV → List mAV
  | none, st => st
  | some v, st => mq_toA v :: st
def mq_c1 : mAV → Bool
  | .inl _ => true
  | .inr (.inl _) => true
  | .inr (.inr _) => false
def mq_swt (x : Int32) (d : Nat) : List (Int32 × Nat) → Nat
  | [] => d
  | q :: r => if x = q.1 then q.2 else mq_swt x d r
def mq_new (M : mMm) (k : Nat) : mMm := (fun k' => if k' = k then M.1 k + 1 else M.1 k', mq_cr M.2.1 k (M.1 k) 0, mq_cr M.2.2.1 k (M.1 k) none, mq_cr M.2.2.2 k (M.1 k) 0)
/-- ki: of a kind: its sort (0 object, 1 ints, 2 longs, 3 references, 4 bytes, 5 booleans, 8 an exception, 9 the script), its class, how many places; sw: a switch's pairs; hn: a call's handlers; mx: a method's cells and slots; call: the callees; code: the method's own; lim: its own cells and slots; scr: the script -/
def mq_st (ki : Nat → Nat × Nat × Nat) (sw : Nat → List (Int32 × Nat)) (hn : Nat → Nat → Option Nat) (mx : Nat → Nat × Nat × Nat) (call : Nat → List mLV → mMm → mRs) (code : List mEn) (lim : Nat × Nat × Nat) (scr : Option (Nat × (Nat → Int32))) (go : Nat → List (Nat × mLV) → List mAV → mMm → Nat → Nat → mRs) (pc : Nat) (lv : List (Nat × mLV)) (st : List mAV) (M : mMm) (cs ss : Nat) : mRs :=
  match mq_lk pc code with
  | none => none
  | some (_, ins, nx, a, b, c, v) =>
    match ins with
    | .iconst _ => go nx lv (.inl v :: st) M cs ss
    | .bipush _ => go nx lv (.inl v :: st) M cs ss
    | .sipush _ => go nx lv (.inl v :: st) M cs ss
    | .ldc _ => go nx lv (.inl v :: st) M cs ss
    | .aconst_null => go nx lv (.inr (.inl none) :: st) M cs ss
    | .iload i => match mq_gl i lv with
      | some (.inl x) => go nx lv (.inl x :: st) M cs ss
      | _ => none
    | .iload_n i => match mq_gl i.val lv with
      | some (.inl x) => go nx lv (.inl x :: st) M cs ss
      | _ => none
    | .aload i => match mq_gl i lv with
      | some (.inr x) => go nx lv (.inr (.inl x) :: st) M cs ss
      | _ => none
    | .aload_n i => match mq_gl i.val lv with
      | some (.inr x) => go nx lv (.inr (.inl x) :: st) M cs ss
      | _ => none
    | .istore i => match st with
      | .inl x :: r => go nx (mq_sl i (.inl x) lv) r M cs ss
      | _ => none
    | .istore_n i => match st with
      | .inl x :: r => go nx (mq_sl i.val (.inl x) lv) r M cs ss
      | _ => none
    | .astore i => match st with
      | .inr (.inl x) :: r => go nx (mq_sl i (.inr x) lv) r M cs ss
      | _ => none
    | .astore_n i => match st with
      | .inr (.inl x) :: r => go nx (mq_sl i.val (.inr x) lv) r M cs ss
      | _ => none
    | .iinc i _ => match mq_gl i lv with
      | some (.inl x) => go nx (mq_sl i (.inl (x + v)) lv) st M cs ss
      | _ => none
    | .iadd => match st with
      | .inl y :: .inl x :: r => go nx lv (.inl (x + y) :: r) M cs ss
      | _ => none
    | .isub => match st with
      | .inl y :: .inl x :: r => go nx lv (.inl (x - y) :: r) M cs ss
      | _ => none
    | .imul => match st with
      | .inl y :: .inl x :: r => go nx lv (.inl (x * y) :: r) M cs ss
      | _ => none
    | .iand => match st with
      | .inl y :: .inl x :: r => go nx lv (.inl (x &&& y) :: r) M cs ss
      | _ => none
    | .ior => match st with
      | .inl y :: .inl x :: r => go nx lv (.inl (x ||| y) :: r) M cs ss
      | _ => none
    | .ixor => match st with
      | .inl y :: .inl x :: r => go nx lv (.inl (x ^^^ y) :: r) M cs ss
      | _ => none
    | .ishl => match st with
      | .inl y :: .inl x :: r => go nx lv (.inl (x <<< (y &&& 31)) :: r) M cs ss
      | _ => none
    | .ishr => match st with
      | .inl y :: .inl x :: r => go nx lv (.inl (x >>> (y &&& 31)) :: r) M cs ss
      | _ => none
    | .iushr => match st with
      | .inl y :: .inl x :: r => go nx lv (.inl ((x.toUInt32 >>> (y.toUInt32 &&& Int32.toUInt32 31)).toInt32) :: r) M cs ss
      | _ => none
    | .irem => match st with
      | .inl y :: .inl x :: r => if y = 0 then none else go nx lv (.inl (x - x / y * y) :: r) M cs ss
      | _ => none
    | .idiv => match st with
      | .inl y :: .inl x :: r => if y = 0 then none else go nx lv (.inl (x / y) :: r) M cs ss
      | _ => none
    | .ineg => match st with
      | .inl x :: r => go nx lv (.inl (-x) :: r) M cs ss
      | _ => none
    | .i2b => match st with
      | .inl x :: r => go nx lv (.inl x.toInt8.toInt32 :: r) M cs ss
      | _ => none
    | .i2s => match st with
      | .inl x :: r => go nx lv (.inl x.toInt16.toInt32 :: r) M cs ss
      | _ => none
    | .i2c => match st with
      | .inl x :: r => go nx lv (.inl (x.toUInt32 % 65536).toInt32 :: r) M cs ss
      | _ => none
    | .i2l => match st with
      | .inl x :: r => go nx lv (.inr (.inr x.toInt64) :: r) M cs ss
      | _ => none
    | .ldc2_w _ => go nx lv (.inr (.inr (Int64.ofNat a)) :: st) M cs ss
    | .land => match st with
      | .inr (.inr y) :: .inr (.inr x) :: r => go nx lv (.inr (.inr (x &&& y)) :: r) M cs ss
      | _ => none
    | .lcmp => match st with
      | .inr (.inr y) :: .inr (.inr x) :: r => go nx lv (.inl (lg_cmp x y) :: r) M cs ss
      | _ => none
    | .dup => match st with
      | x :: r => match mq_c1 x with
        | true => go nx lv (x :: x :: r) M cs ss
        | false => none
      | _ => none
    | .pop => match st with
      | x :: r => match mq_c1 x with
        | true => go nx lv r M cs ss
        | false => none
      | _ => none
    | .dup_x1 => match st with
      | x :: y :: r => match mq_c1 x, mq_c1 y with
        | true, true => go nx lv (x :: y :: x :: r) M cs ss
        | _, _ => none
      | _ => none
    | .dup_x2 => match st with
      | x :: y :: z :: r => match mq_c1 x, mq_c1 y, mq_c1 z with
        | true, true, true => go nx lv (x :: y :: z :: x :: r) M cs ss
        | _, _, _ => none
      | _ => none
    | .dup2 => match st with
      | x :: y :: r => match mq_c1 x, mq_c1 y with
        | true, true => go nx lv (x :: y :: x :: y :: r) M cs ss
        | _, _ => none
      | _ => none
    | .goto _ => go a lv st M cs ss
    | .ifCond cnd _ => match st with
      | .inl x :: r => match cnd with
        | .eq => if x = 0 then go a lv r M cs ss else go nx lv r M cs ss
        | .ne => if x = 0 then go nx lv r M cs ss else go a lv r M cs ss
        | .lt => if x < 0 then go a lv r M cs ss else go nx lv r M cs ss
        | .ge => if x < 0 then go nx lv r M cs ss else go a lv r M cs ss
        | .gt => if 0 < x then go a lv r M cs ss else go nx lv r M cs ss
        | .le => if 0 < x then go nx lv r M cs ss else go a lv r M cs ss
      | _ => none
    | .if_icmp cnd _ => match st with
      | .inl y :: .inl x :: r => match cnd with
        | .eq => if x = y then go a lv r M cs ss else go nx lv r M cs ss
        | .ne => if x = y then go nx lv r M cs ss else go a lv r M cs ss
        | .lt => if x < y then go a lv r M cs ss else go nx lv r M cs ss
        | .ge => if x < y then go nx lv r M cs ss else go a lv r M cs ss
        | .gt => if y < x then go a lv r M cs ss else go nx lv r M cs ss
        | .le => if y < x then go nx lv r M cs ss else go a lv r M cs ss
      | _ => none
    | .ifnull _ => match st with
      | .inr (.inl none) :: r => go a lv r M cs ss
      | .inr (.inl (some _)) :: r => go nx lv r M cs ss
      | _ => none
    | .ifnonnull _ => match st with
      | .inr (.inl none) :: r => go nx lv r M cs ss
      | .inr (.inl (some _)) :: r => go a lv r M cs ss
      | _ => none
    | .tableswitch _ _ _ _ => match st with
      | .inl x :: r => go (mq_swt x a (sw b)) lv r M cs ss
      | _ => none
    | .lookupswitch _ _ => match st with
      | .inl x :: r => go (mq_swt x a (sw b)) lv r M cs ss
      | _ => none
    | .getfield _ => match st with
      | .inr (.inl (some q)) :: r => if q.1 = a then (match c with
        | 1 => go nx lv (.inr (.inl (M.2.2.1 q.1 q.2 b)) :: r) M cs ss
        | _ => go nx lv (.inl (M.2.1 q.1 q.2 b) :: r) M cs ss) else none
      | _ => none
    | .putfield _ => match st with
      | .inl x :: .inr (.inl (some q)) :: r => if q.1 = a then (match c with
        | 0 => go nx lv r (M.1, mq_up M.2.1 q.1 q.2 b x, M.2.2) cs ss
        | 2 => if x = 0 ∨ x = 1 then go nx lv r (M.1, mq_up M.2.1 q.1 q.2 b x, M.2.2) cs ss else none
        | _ => none) else none
      | .inr (.inl y) :: .inr (.inl (some q)) :: r => if q.1 = a then (match c with
        | 1 => if y = some (999, 0) then none else go nx lv r (M.1, M.2.1, mq_up M.2.2.1 q.1 q.2 b y, M.2.2.2) cs ss
        | _ => none) else none
      | _ => none
    | .arraylength => match st with
      | .inr (.inl (some q)) :: r => (match (ki q.1).1 with
        | 1 => go nx lv (.inl (Int32.ofNat (ki q.1).2.2) :: r) M cs ss
        | 3 => go nx lv (.inl (Int32.ofNat (ki q.1).2.2) :: r) M cs ss
        | 9 => if q = (999, 0) then (match scr with
          | some w => go nx lv (.inl (Int32.ofNat w.1) :: r) M cs ss
          | none => none) else none
        | _ => none)
      | _ => none
    | .iaload => match st with
      | .inl i :: .inr (.inl (some q)) :: r => (match (ki q.1).1 with
        | 1 => if i < 0 ∨ (ki q.1).2.2 ≤ i.toNatClampNeg then none else go nx lv (.inl (M.2.1 q.1 q.2 i.toNatClampNeg) :: r) M cs ss
        | 9 => if q = (999, 0) then (match scr with
          | some w => if i < 0 ∨ w.1 ≤ i.toNatClampNeg then none else go nx lv (.inl (w.2 i.toNatClampNeg) :: r) M cs ss
          | none => none) else none
        | _ => none)
      | _ => none
    | .iastore => match st with
      | .inl x :: .inl i :: .inr (.inl (some q)) :: r => (match (ki q.1).1 with
        | 1 => if i < 0 ∨ (ki q.1).2.2 ≤ i.toNatClampNeg then none else go nx lv r (M.1, mq_up M.2.1 q.1 q.2 i.toNatClampNeg x, M.2.2) cs ss
        | _ => none)
      | _ => none
    | .baload => match st with
      | .inl i :: .inr (.inl (some q)) :: r => (match (ki q.1).1 with
        | 4 => if i < 0 ∨ (ki q.1).2.2 ≤ i.toNatClampNeg then none else go nx lv (.inl (M.2.1 q.1 q.2 i.toNatClampNeg) :: r) M cs ss
        | 5 => if i < 0 ∨ (ki q.1).2.2 ≤ i.toNatClampNeg then none else go nx lv (.inl (M.2.1 q.1 q.2 i.toNatClampNeg) :: r) M cs ss
        | _ => none)
      | _ => none
    | .bastore => match st with
      | .inl x :: .inl i :: .inr (.inl (some q)) :: r => (match (ki q.1).1 with
        | 4 => if i < 0 ∨ (ki q.1).2.2 ≤ i.toNatClampNeg then none else go nx lv r (M.1, mq_up M.2.1 q.1 q.2 i.toNatClampNeg x.toInt8.toInt32, M.2.2) cs ss
        | 5 => if i < 0 ∨ (ki q.1).2.2 ≤ i.toNatClampNeg then none else if x = 0 ∨ x = 1 then go nx lv r (M.1, mq_up M.2.1 q.1 q.2 i.toNatClampNeg x, M.2.2) cs ss else none
        | _ => none)
      | _ => none
    | .laload => match st with
      | .inl i :: .inr (.inl (some q)) :: r => (match (ki q.1).1 with
        | 2 => if i < 0 ∨ (ki q.1).2.2 ≤ i.toNatClampNeg then none else go nx lv (.inr (.inr (M.2.2.2 q.1 q.2 i.toNatClampNeg)) :: r) M cs ss
        | _ => none)
      | _ => none
    | .lastore => match st with
      | .inr (.inr x) :: .inl i :: .inr (.inl (some q)) :: r => (match (ki q.1).1 with
        | 2 => if i < 0 ∨ (ki q.1).2.2 ≤ i.toNatClampNeg then none else go nx lv r (M.1, M.2.1, M.2.2.1, mq_up M.2.2.2 q.1 q.2 i.toNatClampNeg x) cs ss
        | _ => none)
      | _ => none
    | .aaload => match st with
      | .inl i :: .inr (.inl (some q)) :: r => (match (ki q.1).1 with
        | 3 => if i < 0 ∨ (ki q.1).2.2 ≤ i.toNatClampNeg then none else go nx lv (.inr (.inl (M.2.2.1 q.1 q.2 i.toNatClampNeg)) :: r) M cs ss
        | _ => none)
      | _ => none
    | .aastore => match st with
      | .inr (.inl (some y)) :: .inl i :: .inr (.inl (some q)) :: r => (match (ki q.1).1 with
        | 3 => if i < 0 ∨ (ki q.1).2.2 ≤ i.toNatClampNeg then none else if (ki y.1).1 = 0 ∧ (ki y.1).2.1 = (ki q.1).2.1 then go nx lv r (M.1, M.2.1, mq_up M.2.2.1 q.1 q.2 i.toNatClampNeg (some y), M.2.2.2) cs ss else none
        | _ => none)
      | _ => none
    | .new _ => if cs + 1 ≤ lim.1 ∧ ss + (ki a).2.2 ≤ lim.2.1 then (match (ki a).1 with
        | 0 => go nx lv (.inr (.inl (some (a, M.1 a))) :: st) (mq_new M a) (cs + 1) (ss + (ki a).2.2)
        | 8 => (match st with
          | [] => some (.inr (ki a).2.1, M)
          | _ => none)
        | _ => none) else none
    | .newarray _ => match st with
      | .inl n :: r => if n = Int32.ofNat (ki a).2.2 ∧ cs + 1 ≤ lim.1 ∧ ss + (ki a).2.2 ≤ lim.2.1 then go nx lv (.inr (.inl (some (a, M.1 a))) :: r) (mq_new M a) (cs + 1) (ss + (ki a).2.2) else none
      | _ => none
    | .anewarray _ => match st with
      | .inl n :: r => if n = Int32.ofNat (ki a).2.2 ∧ cs + 1 ≤ lim.1 ∧ ss + (ki a).2.2 ≤ lim.2.1 then go nx lv (.inr (.inl (some (a, M.1 a))) :: r) (mq_new M a) (cs + 1) (ss + (ki a).2.2) else none
      | _ => none
    | .invokespecial _ => match mq_pop b st [] with
      | some (.inr (some q) :: as, r) => if r.length ≤ 4 then (match a with
        | 0 => go nx lv r M cs ss
        | a + 1 => if cs + (mx a).1 ≤ lim.1 ∧ ss + (mx a).2.1 ≤ lim.2.1 then (match call a (.inr (some q) :: as) M with
          | some (.inl w, M') => go nx lv (mq_psh w r) M' (cs + (mx a).1) (ss + (mx a).2.1)
          | _ => none) else none) else none
      | _ => none
    | .invokevirtual _ => match mq_pop b st [] with
      | some (.inr (some q) :: as, r) => if (ki q.1).1 = 0 ∧ (ki q.1).2.1 = (mx a).2.2 ∧ r.length ≤ 4 ∧ cs + (mx a).1 ≤ lim.1 ∧ ss + (mx a).2.1 ≤ lim.2.1 then (match call a (.inr (some q) :: as) M with
          | some (.inl w, M') => go nx lv (mq_psh w r) M' (cs + (mx a).1) (ss + (mx a).2.1)
          | some (.inr x, M') => (match hn c x with
            | some hp => go hp lv [] M' (cs + (mx a).1) (ss + (mx a).2.1)
            | none => none)
          | none => none) else none
      | _ => none
    | .invokestatic _ => match c with
      | 7 => (match st with
        | .inl y :: .inl x :: r => if r.length ≤ 4 then go nx lv (.inl (if y < x then y else x) :: r) M cs ss else none
        | _ => none)
      | _ => (match mq_pop b st [] with
        | some (as, r) => if r.length ≤ 4 ∧ cs + (mx a).1 ≤ lim.1 ∧ ss + (mx a).2.1 ≤ lim.2.1 then (match call a as M with
          | some (.inl w, M') => go nx lv (mq_psh w r) M' (cs + (mx a).1) (ss + (mx a).2.1)
          | _ => none) else none
        | none => none)
    | .ireturn => match st with
      | [.inl x] => (match c with
        | 2 => if x = 0 ∨ x = 1 then some (.inl (some (.inl x)), M) else none
        | _ => some (.inl (some (.inl x)), M))
      | _ => none
    | .areturn => match st with
      | [.inr (.inl q)] => some (.inl (some (.inr q)), M)
      | _ => none
    | .return_ => match st with
      | [] => some (.inl none, M)
      | _ => none
    | _ => none
def mq_loop (ki : Nat → Nat × Nat × Nat) (sw : Nat → List (Int32 × Nat)) (hn : Nat → Nat → Option Nat) (mx : Nat → Nat × Nat × Nat) (call : Nat → List mLV → mMm → mRs) (code : List mEn) (lim : Nat × Nat × Nat) (scr : Option (Nat × (Nat → Int32))) : Nat → Nat → List (Nat × mLV) → List mAV → mMm → Nat → Nat → mRs
  | 0, _, _, _, _, _, _ => none
  | f + 1, pc, lv, st, M, cs, ss => mq_st ki sw hn mx call code lim scr (mq_loop ki sw hn mx call code lim scr f) pc lv st M cs ss
/-- a method at depth d, by its number; ml: its locals -/
def mq_ex (ki : Nat → Nat × Nat × Nat) (sw : Nat → List (Int32 × Nat)) (hn : Nat → Nat → Option Nat) (mx : Nat → Nat × Nat × Nat) (ml : Nat → Nat) (cd : Nat → List mEn) (F : Nat) : Nat → Nat → List mLV → mMm → mRs
  | 0, _, _, _ => none
  | d + 1, mi, as, M => if as.length ≤ ml mi then mq_loop ki sw hn mx (mq_ex ki sw hn mx ml cd F d) (cd mi) (mx mi) none F 0 (mq_en 0 as) [] M 0 0 else none
end
section
/-! The machine's memory as a world of the kit: refs lists the cells there are, ad says where each lies. -/
/-- the kinds; which places of a class are references; the array classes -/
abbrev mEv : Type := (Nat → Nat × Nat × Nat) × (Nat → Nat → Bool) × (Nat → ClassId)
def mq_sr : Nat × Nat := (999, 0)
def mq_cl (ad : Nat × Nat → Nat) : mLV → Value
  | .inl x => .int x
  | .inr q => va_rf (q.map ad)
def mq_cv (ad : Nat × Nat → Nat) : mAV → Value
  | .inl x => .int x
  | .inr (.inl q) => va_rf (q.map ad)
  | .inr (.inr x) => .long x
def mq_fv (E : mEv) (ad : Nat × Nat → Nat) (M : mMm) (r : Nat × Nat) (j : Nat) : Value := if E.2.1 (E.1 r.1).2.1 j then va_rf ((M.2.2.1 r.1 r.2 j).map ad) else .int (M.2.1 r.1 r.2 j)
def mq_ce (E : mEv) (ad : Nat × Nat → Nat) (M : mMm) (r : Nat × Nat) : va_E := match (E.1 r.1).1 with
  | 0 => .inr ((E.1 r.1).2.1, (List.range (E.1 r.1).2.2).map (mq_fv E ad M r))
  | 2 => .inl (E.2.2 2, ((E.1 r.1).2.2, .inr (.inl (M.2.2.2 r.1 r.2))))
  | 3 => .inl (E.2.2 (100 + (E.1 r.1).2.1), ((E.1 r.1).2.2, .inr (.inr (.inr (.inr (fun j => (M.2.2.1 r.1 r.2 j).map ad))))))
  | t => .inl (E.2.2 t, ((E.1 r.1).2.2, .inl (M.2.1 r.1 r.2)))
def mq_W (E : mEv) (ad : Nat × Nat → Nat) (refs : List (Nat × Nat)) (M : mMm) : va_W := refs.map (fun r => (ad r, mq_ce E ad M r))
section MQW
variable {E : mEv} {ad ad' : Nat × Nat → Nat} {refs : List (Nat × Nat)} {M M' : mMm} {r r' : Nat × Nat} {i j : Nat} {A : Nat → Prop} {D : va_G} {cl : List vw_C} {H : Heap}
theorem mq_W_at (h : refs[j]? = some r) : (mq_W E ad refs M)[j]? = some (ad r, mq_ce E ad M r) := by
  rw [mq_W, List.getElem?_map, h]; rfl
theorem mq_W_inv {q : Nat × va_E} (h : (mq_W E ad refs M)[j]? = some q) : ∃ r, refs[j]? = some r ∧ q = (ad r, mq_ce E ad M r) := by
  rw [mq_W, List.getElem?_map] at h
  cases hr : refs[j]? with
  | none => rw [hr] at h; cases h
  | some r => rw [hr] at h; exact ⟨r, rfl, (Option.some.inj h).symm⟩
theorem mq_inj (hD : va_D A (mq_W E ad refs M)) (hi : refs[i]? = some r) (hj : refs[j]? = some r') (h : ad r = ad r') : i = j := hD.1 i j _ _ (mq_W_at hi) (mq_W_at hj) h
theorem mq_injr (hD : va_D A (mq_W E ad refs M)) (hi : r ∈ refs) (hj : r' ∈ refs) (h : ad r = ad r') : r = r' := by
  obtain ⟨i, h1⟩ := List.getElem?_of_mem hi
  obtain ⟨j, h2⟩ := List.getElem?_of_mem hj
  have e := mq_inj hD h1 h2 h
  subst e
  exact Option.some.inj (h1.symm.trans h2)
theorem mq_W_in (hD : va_D A (mq_W E ad refs M)) (h : r ∈ refs) : A (ad r) := by
  obtain ⟨i, h1⟩ := List.getElem?_of_mem h
  exact hD.2 i _ (mq_W_at h1)
theorem mq_W_set {e' : va_E} (hD : va_D A (mq_W E ad refs M)) (hj : refs[j]? = some r) (ho : ∀ r', r' ≠ r → mq_ce E ad M' r' = mq_ce E ad M r') (he : mq_ce E ad M' r = e') : (mq_W E ad refs M).set j (ad r, e') = mq_W E ad refs M' := by
  apply List.ext_getElem?
  intro i
  by_cases hij : i = j
  · subst hij
    rw [List.getElem?_set_self (List.getElem?_eq_some_iff.mp (mq_W_at (E := E) (ad := ad) (M := M) hj)).1, mq_W_at hj, he]
  · rw [List.getElem?_set_ne (Ne.symm hij)]
    cases hi : refs[i]? with
    | none => simp only [mq_W, List.getElem?_map, hi, Option.map_none]
    | some r' =>
      have hne : r' ≠ r := fun q => hij (mq_inj hD hi hj (by rw [q]))
      rw [mq_W_at hi, mq_W_at hi, ho r' hne]
theorem mq_up_ne {α : Type} {f : Nat → Nat → Nat → α} {k i j : Nat} {v : α} (h : r' ≠ (k, i)) : mq_up f k i j v r'.1 r'.2 = f r'.1 r'.2 := by
  funext j'
  have hn : ¬ (r'.1 = k ∧ r'.2 = i ∧ j' = j) := fun q => h (Prod.ext q.1 q.2.1)
  simp only [mq_up, if_neg hn]
theorem mq_up_at {α : Type} {f : Nat → Nat → Nat → α} {k i j : Nat} {v : α} : mq_up f k i j v k i = fun j' => if j' = j then v else f k i j' := by
  funext j'
  simp [mq_up]
theorem mq_cr_ne {α : Type} {f : Nat → Nat → Nat → α} {k i : Nat} {v : α} (h : r' ≠ (k, i)) : mq_cr f k i v r'.1 r'.2 = f r'.1 r'.2 := by
  funext j'
  have hn : ¬ (r'.1 = k ∧ r'.2 = i) := fun q => h (Prod.ext q.1 q.2)
  simp only [mq_cr, if_neg hn]
theorem mq_cr_at {α : Type} {f : Nat → Nat → Nat → α} {k i : Nat} {v : α} : mq_cr f k i v k i = fun _ => v := by
  funext j'
  simp [mq_cr]
theorem mq_ce_eq (h1 : M'.2.1 r.1 r.2 = M.2.1 r.1 r.2) (h2 : M'.2.2.1 r.1 r.2 = M.2.2.1 r.1 r.2) (h3 : M'.2.2.2 r.1 r.2 = M.2.2.2 r.1 r.2) : mq_ce E ad M' r = mq_ce E ad M r := by
  have h0 : mq_fv E ad M' r = mq_fv E ad M r := by
    funext j
    unfold mq_fv
    rw [h1, h2]
  unfold mq_ce
  rw [h0, h1, h2, h3]
theorem mq_range_set {N b : Nat} {f : Nat → Value} {v : Value} (hb : b < N) : ((List.range N).map f).set b v = (List.range N).map (fun j => if j = b then v else f j) := by
  apply List.ext_getElem?
  intro i
  by_cases hij : i = b
  · subst hij
    rw [List.getElem?_set_self (by simpa using hb), List.getElem?_map, List.getElem?_range hb]
    simp
  · rw [List.getElem?_set_ne (Ne.symm hij)]
    by_cases hi : i < N
    · rw [List.getElem?_map, List.getElem?_map, List.getElem?_range hi]
      simp [hij]
    · rw [List.getElem?_eq_none (by simpa using hi), List.getElem?_eq_none (by simpa using hi)]
theorem mq_range_at {N b : Nat} {f : Nat → Value} (hb : b < N) : ((List.range N).map f)[b]? = some (f b) := by
  rw [List.getElem?_map, List.getElem?_range hb]; rfl
theorem mq_arrV {cA : ClassId} {n : Nat} {f g : Nat → Value} (h : ∀ j, j < n → f j = g j) : arrV cA n f = arrV cA n g := by
  have e : (fun j : Fin n => f j.val) = fun j : Fin n => g j.val := funext fun j => h j.val j.isLt
  unfold arrV
  rw [e]
/-- a cell is the same where its places are -/
theorem mq_at_congr {a : Nat} (h1 : ∀ j, j < (E.1 r.1).2.2 → M'.2.1 r.1 r.2 j = M.2.1 r.1 r.2 j) (h2 : ∀ j, j < (E.1 r.1).2.2 → (M'.2.2.1 r.1 r.2 j).map ad' = (M.2.2.1 r.1 r.2 j).map ad) (h3 : ∀ j, j < (E.1 r.1).2.2 → M'.2.2.2 r.1 r.2 j = M.2.2.2 r.1 r.2 j) (h : va_at D cl (a, mq_ce E ad M r) H) : va_at D cl (a, mq_ce E ad' M' r) H := by
  unfold mq_ce at h ⊢
  split at h
  · have e : (List.range (E.1 r.1).2.2).map (mq_fv E ad' M' r) = (List.range (E.1 r.1).2.2).map (mq_fv E ad M r) := by
      apply List.map_congr_left
      intro j hj
      have hj := List.mem_range.mp hj
      unfold mq_fv
      rw [h1 j hj, h2 j hj]
    rw [e]
    exact h
  · have h : H[a]? = some (vp_cell _ _) := h
    show H[a]? = some (vp_cell _ _)
    rw [h, vp_cell_l, vp_cell_l]
    exact congrArg some (mq_arrV fun j hj => by rw [h3 j hj])
  · have h : H[a]? = some (vp_cell _ _) := h
    show H[a]? = some (vp_cell _ _)
    rw [h, vp_cell_q, vp_cell_q]
    exact congrArg some (mq_arrV fun j hj => by rw [h2 j hj])
  · have h : H[a]? = some (vp_cell _ _) := h
    show H[a]? = some (vp_cell _ _)
    rw [h, vp_cell_i, vp_cell_i]
    exact congrArg some (mq_arrV fun j hj => by rw [h1 j hj])
theorem mq_D_same {w w' : va_W} (hD : va_D A w) (h : w'.map (·.1) = w.map (·.1)) : va_D A w' := by
  have key : ∀ (k : Nat) (q : Nat × va_E), w'[k]? = some q → ∃ q0, w[k]? = some q0 ∧ q0.1 = q.1 := by
    intro k q hk
    have h1 : (w'.map (·.1))[k]? = some q.1 := by rw [List.getElem?_map, hk]; rfl
    rw [h, List.getElem?_map] at h1
    cases h2 : w[k]? with
    | none => rw [h2] at h1; cases h1
    | some q0 => rw [h2] at h1; exact ⟨q0, rfl, Option.some.inj h1⟩
  refine ⟨fun i j x y hi hj hxy => ?_, fun k q hk => ?_⟩
  · obtain ⟨x0, a1, a2⟩ := key i x hi
    obtain ⟨y0, b1, b2⟩ := key j y hj
    exact hD.1 i j x0 y0 a1 b1 (a2.trans (hxy.trans b2.symm))
  · obtain ⟨q0, a1, a2⟩ := key k q hk
    rw [← a2]
    exact hD.2 k q0 a1
theorem mq_W_fst : (mq_W E ad refs M).map (·.1) = refs.map ad := by
  rw [mq_W, List.map_map]; rfl
end MQW
end
section
/-! One row of the machine, one row of the JVM. -/
/-- what the memory keeps: which cells there are, and where its references lead -/
def mq_V (E : mEv) (M : mMm) (refs : List (Nat × Nat)) : Prop := (∀ r, r ∈ refs ↔ r.2 < M.1 r.1) ∧ ∀ r, r ∈ refs → ∀ j, j < (E.1 r.1).2.2 → ∀ r', M.2.2.1 r.1 r.2 j = some r' → r' ∈ refs
def mq_vr (refs : List (Nat × Nat)) (r : Nat × Nat) : Prop := r ∈ refs ∨ r = mq_sr
def mq_vs (refs : List (Nat × Nat)) (st : List mAV) : Prop := ∀ r, (.inr (.inl (some r)) : mAV) ∈ st → mq_vr refs r
def mq_vl (refs : List (Nat × Nat)) (lv : List (Nat × mLV)) : Prop := ∀ i r, (i, (.inr (some r) : mLV)) ∈ lv → mq_vr refs r
def mq_C (p : Program) (s : State) (m : MethodId) (args : Array Value) (c : Code) (cc : ByteArray) (nL : Nat) (own : String) (Ts : List Cond) (D : va_G) (cl : List vw_C) (tys : List (ClassId × FieldType)) (A : Nat → Prop) (X : State → Prop) : Prop :=
  p.tables.exec = Jvm.exec ∧ c.code = cc ∧ c.maxLocals = nL ∧ s.vm.findClass own = some m.cls ∧ (∀ w ∈ Ts, w.before args s = true) ∧ va_K D cl tys s ∧ (∀ q, s.heap.size ≤ q → A q) ∧ X s ∧ ∀ u U : State, u.WarmedH U.vm → X u → X U
def mq_B (E : mEv) (D : va_G) (cl : List vw_C) (A : Nat → Prop) (s : State) (ad0 : Nat × Nat → Nat) (refs0 : List (Nat × Nat)) (ad : Nat × Nat → Nat) (refs : List (Nat × Nat)) (M : mMm) (H : Heap) (locs : List Loc) : Prop :=
  va_P D cl (mq_W E ad refs M) H ∧ va_D A (mq_W E ad refs M) ∧ va_S A s.heap H locs ∧ mq_V E M refs ∧ (∀ r, r ∈ refs0 → r ∈ refs) ∧ ∀ r, mq_vr refs0 r → ad r = ad0 r
def mq_lm (ad : Nat × Nat → Nat) (lv : List (Nat × mLV)) : List (Nat × Value) := lv.map fun q => (q.1, mq_cl ad q.2)
def mq_G (p : Program) (l : Launch) (e : Env) (R : Room) (s : State) (m : MethodId) (args : Array Value) (below : List Frame) (meth : Method) (c : Code) (Q : State → Prop) (nL : Nat) (E : mEv) (D : va_G) (cl : List vw_C) (A : Nat → Prop) (ad0 : Nat × Nat → Nat) (refs0 : List (Nat × Nat)) (pc : Nat) (lv : List (Nat × mLV)) (st : List mAV) (M : mMm) (cs ss : Nat) : Prop :=
  ∀ (H : Heap) (locs : List Loc) (ls : Array Slot) (ad : Nat × Nat → Nat) (refs : List (Nat × Nat)), mq_B E D cl A s ad0 refs0 ad refs M H locs → lv_has ls nL (mq_lm ad lv) → mq_vl refs lv → mq_vs refs st → W p l e R s m args below meth c H locs cs ss Q (F0 m pc ls (st.map (mq_cv ad)))
theorem mq_cl_cat (ad : Nat × Nat → Nat) (v : mLV) : (mq_cl ad v).category = 1 := by
  rcases v with x | (_ | q) <;> rfl
theorem mq_cv_cat (ad : Nat × Nat → Nat) (v : mAV) (h : mq_c1 v = true) : (mq_cv ad v).category = 1 := by
  rcases v with x | ((_ | q) | x)
  · rfl
  · rfl
  · rfl
  · cases h
theorem mq_cv_toA (ad : Nat × Nat → Nat) (v : mLV) : mq_cv ad (mq_toA v) = mq_cl ad v := by
  rcases v with x | q <;> rfl
theorem mq_sl_mem {i : Nat} {v : mLV} {q : Nat × mLV} : ∀ {lv : List (Nat × mLV)}, q ∈ mq_sl i v lv → q = (i, v) ∨ (q ∈ lv ∧ ¬ q.1 = i)
  | [], h => Or.inl (List.mem_singleton.mp h)
  | w :: r, h => by
    unfold mq_sl at h
    split at h
    · rcases List.mem_cons.mp h with h | h
      · exact Or.inl h
      · obtain ⟨h1, h2⟩ := List.mem_filter.mp h
        exact Or.inr ⟨List.mem_cons_of_mem _ h1, by simpa using h2⟩
    · rename_i hw
      rcases List.mem_cons.mp h with h | h
      · exact Or.inr ⟨h ▸ List.mem_cons_self, by rw [h]; exact hw⟩
      · rcases mq_sl_mem h with h | h
        · exact Or.inl h
        · exact Or.inr ⟨List.mem_cons_of_mem _ h.1, h.2⟩
theorem mq_lv_sl {ad : Nat × Nat → Nat} {lv : List (Nat × mLV)} {i nL : Nat} {v : mLV} {ls : Array Slot} (h : lv_has ls nL ((i, mq_cl ad v) :: (mq_lm ad lv).filter (fun q => !(q.1 == i) && !(q.1 + 1 == i && q.2.category == 2)))) : lv_has ls nL (mq_lm ad (mq_sl i v lv)) := by
  refine ⟨h.1, h.2.1, fun q hq => h.2.2 q ?_⟩
  obtain ⟨w, hw, rfl⟩ := List.mem_map.mp hq
  rcases mq_sl_mem hw with rfl | ⟨h1, h2⟩
  · exact List.mem_cons_self
  · refine List.mem_cons_of_mem _ (List.mem_filter.mpr ⟨List.mem_map.mpr ⟨w, h1, rfl⟩, ?_⟩)
    have h3 : (w.1 == i) = false := by simpa using h2
    simp [mq_cl_cat, h3]
theorem mq_gl_mem {i : Nat} {v : mLV} : ∀ {lv : List (Nat × mLV)}, mq_gl i lv = some v → (i, v) ∈ lv
  | [], h => by cases h
  | q :: r, h => by
    unfold mq_gl at h
    split at h
    · rename_i hq
      cases h
      rw [← hq]
      exact List.mem_cons_self
    · exact List.mem_cons_of_mem _ (mq_gl_mem h)
theorem mq_lm_mem {ad : Nat × Nat → Nat} {i : Nat} {v : mLV} {lv : List (Nat × mLV)} (h : (i, v) ∈ lv) : (i, mq_cl ad v) ∈ mq_lm ad lv := List.mem_map.mpr ⟨(i, v), h, rfl⟩
theorem mq_vl_sl {refs : List (Nat × Nat)} {lv : List (Nat × mLV)} {i : Nat} {v : mLV} (h : mq_vl refs lv) (hv : ∀ r, v = .inr (some r) → mq_vr refs r) : mq_vl refs (mq_sl i v lv) := by
  intro j r hm
  rcases mq_sl_mem hm with hm | hm
  · exact hv r (Prod.mk.inj hm).2.symm
  · exact h j r hm.1
theorem mq_vs_cons {refs : List (Nat × Nat)} {st : List mAV} {v : mAV} (h : mq_vs refs st) (hv : ∀ r, v = .inr (.inl (some r)) → mq_vr refs r) : mq_vs refs (v :: st) := by
  intro r hm
  rcases List.mem_cons.mp hm with hm | hm
  · exact hv r hm.symm
  · exact h r hm
theorem mq_vs_tl {refs : List (Nat × Nat)} {st : List mAV} {v : mAV} (h : mq_vs refs (v :: st)) : mq_vs refs st := fun r hm => h r (List.mem_cons_of_mem _ hm)
theorem mq_vs_int {refs : List (Nat × Nat)} {st : List mAV} {x : Int32} (h : mq_vs refs st) : mq_vs refs (.inl x :: st) := mq_vs_cons h (fun _ q => by cases q)
theorem mq_vs_long {refs : List (Nat × Nat)} {st : List mAV} {x : Int64} (h : mq_vs refs st) : mq_vs refs (.inr (.inr x) :: st) := mq_vs_cons h (fun _ q => by cases q)
section MQG
variable {p : Program} {l : Launch} {e : Env} {R : Room} {s : State} {m : MethodId} {args : Array Value} {below : List Frame} {meth : Method} {c : Code} {Q : State → Prop}
variable {cc : ByteArray} {nL : Nat} {own : String} {Ts : List Cond} {D : va_G} {cl : List vw_C} {tys : List (ClassId × FieldType)} {A : Nat → Prop} {X : State → Prop} {E : mEv} {ad0 : Nat × Nat → Nat} {refs0 : List (Nat × Nat)}
variable {pc tgt i : Nat} {lv : List (Nat × mLV)} {r : List mAV} {M : mMm} {cs ss : Nat} {x y : Int32}
theorem mq_g_iadd (C : mq_C p s m args c cc nL own Ts D cl tys A X) (hd : decode cc pc = .ok (.iadd, 1)) (k : mq_G p l e R s m args below meth c Q nL E D cl A ad0 refs0 (pc + 1) (lv) (.inl (x + y) :: r) (M) (cs) (ss)) : mq_G p l e R s m args below meth c Q nL E D cl A ad0 refs0 (pc) (lv) (.inl y :: .inl x :: r) (M) (cs) (ss) :=
  fun H locs ls ad refs hB hl hvl hvs => lv_iadd C.1 C.2.1 hd (k H locs ls ad refs hB hl hvl (mq_vs_int (mq_vs_tl (mq_vs_tl hvs))))
theorem mq_g_isub (C : mq_C p s m args c cc nL own Ts D cl tys A X) (hd : decode cc pc = .ok (.isub, 1)) (k : mq_G p l e R s m args below meth c Q nL E D cl A ad0 refs0 (pc + 1) (lv) (.inl (x - y) :: r) (M) (cs) (ss)) : mq_G p l e R s m args below meth c Q nL E D cl A ad0 refs0 (pc) (lv) (.inl y :: .inl x :: r) (M) (cs) (ss) :=
  fun H locs ls ad refs hB hl hvl hvs => lv_isub C.1 C.2.1 hd (k H locs ls ad refs hB hl hvl (mq_vs_int (mq_vs_tl (mq_vs_tl hvs))))
theorem mq_g_imul (C : mq_C p s m args c cc nL own Ts D cl tys A X) (hd : decode cc pc = .ok (.imul, 1)) (k : mq_G p l e R s m args below meth c Q nL E D cl A ad0 refs0 (pc + 1) (lv) (.inl (x * y) :: r) (M) (cs) (ss)) : mq_G p l e R s m args below meth c Q nL E D cl A ad0 refs0 (pc) (lv) (.inl y :: .inl x :: r) (M) (cs) (ss) :=
  fun H locs ls ad refs hB hl hvl hvs => lv_imul C.1 C.2.1 hd (k H locs ls ad refs hB hl hvl (mq_vs_int (mq_vs_tl (mq_vs_tl hvs))))
theorem mq_g_iand (C : mq_C p s m args c cc nL own Ts D cl tys A X) (hd : decode cc pc = .ok (.iand, 1)) (k : mq_G p l e R s m args below meth c Q nL E D cl A ad0 refs0 (pc + 1) (lv) (.inl (x &&& y) :: r) (M) (cs) (ss)) : mq_G p l e R s m args below meth c Q nL E D cl A ad0 refs0 (pc) (lv) (.inl y :: .inl x :: r) (M) (cs) (ss) :=
  fun H locs ls ad refs hB hl hvl hvs => lv_iand C.1 C.2.1 hd (k H locs ls ad refs hB hl hvl (mq_vs_int (mq_vs_tl (mq_vs_tl hvs))))
theorem mq_g_ior (C : mq_C p s m args c cc nL own Ts D cl tys A X) (hd : decode cc pc = .ok (.ior, 1)) (k : mq_G p l e R s m args below meth c Q nL E D cl A ad0 refs0 (pc + 1) (lv) (.inl (x ||| y) :: r) (M) (cs) (ss)) : mq_G p l e R s m args below meth c Q nL E D cl A ad0 refs0 (pc) (lv) (.inl y :: .inl x :: r) (M) (cs) (ss) :=
  fun H locs ls ad refs hB hl hvl hvs => lv_ior C.1 C.2.1 hd (k H locs ls ad refs hB hl hvl (mq_vs_int (mq_vs_tl (mq_vs_tl hvs))))
theorem mq_g_ixor (C : mq_C p s m args c cc nL own Ts D cl tys A X) (hd : decode cc pc = .ok (.ixor, 1)) (k : mq_G p l e R s m args below meth c Q nL E D cl A ad0 refs0 (pc + 1) (lv) (.inl (x ^^^ y) :: r) (M) (cs) (ss)) : mq_G p l e R s m args below meth c Q nL E D cl A ad0 refs0 (pc) (lv) (.inl y :: .inl x :: r) (M) (cs) (ss) :=
  fun H locs ls ad refs hB hl hvl hvs => lv_ixor C.1 C.2.1 hd (k H locs ls ad refs hB hl hvl (mq_vs_int (mq_vs_tl (mq_vs_tl hvs))))
theorem mq_g_ishl (C : mq_C p s m args c cc nL own Ts D cl tys A X) (hd : decode cc pc = .ok (.ishl, 1)) (k : mq_G p l e R s m args below meth c Q nL E D cl A ad0 refs0 (pc + 1) (lv) (.inl (x <<< (y &&& 31)) :: r) (M) (cs) (ss)) : mq_G p l e R s m args below meth c Q nL E D cl A ad0 refs0 (pc) (lv) (.inl y :: .inl x :: r) (M) (cs) (ss) :=
  fun H locs ls ad refs hB hl hvl hvs => lv_ishl C.1 C.2.1 hd (k H locs ls ad refs hB hl hvl (mq_vs_int (mq_vs_tl (mq_vs_tl hvs))))
theorem mq_g_ishr (C : mq_C p s m args c cc nL own Ts D cl tys A X) (hd : decode cc pc = .ok (.ishr, 1)) (k : mq_G p l e R s m args below meth c Q nL E D cl A ad0 refs0 (pc + 1) (lv) (.inl (x >>> (y &&& 31)) :: r) (M) (cs) (ss)) : mq_G p l e R s m args below meth c Q nL E D cl A ad0 refs0 (pc) (lv) (.inl y :: .inl x :: r) (M) (cs) (ss) :=
  fun H locs ls ad refs hB hl hvl hvs => lv_ishr C.1 C.2.1 hd (k H locs ls ad refs hB hl hvl (mq_vs_int (mq_vs_tl (mq_vs_tl hvs))))
theorem mq_g_iushr (C : mq_C p s m args c cc nL own Ts D cl tys A X) (hd : decode cc pc = .ok (.iushr, 1)) (k : mq_G p l e R s m args below meth c Q nL E D cl A ad0 refs0 (pc + 1) (lv) (.inl ((x.toUInt32 >>> (y.toUInt32 &&& Int32.toUInt32 31)).toInt32) :: r) (M) (cs) (ss)) : mq_G p l e R s m args below meth c Q nL E D cl A ad0 refs0 (pc) (lv) (.inl y :: .inl x :: r) (M) (cs) (ss) :=
  fun H locs ls ad refs hB hl hvl hvs => lv_iushr C.1 C.2.1 hd rfl (k H locs ls ad refs hB hl hvl (mq_vs_int (mq_vs_tl (mq_vs_tl hvs))))
theorem mq_g_irem (C : mq_C p s m args c cc nL own Ts D cl tys A X) (hd : decode cc pc = .ok (.irem, 1)) (hne : ¬ y = 0) (k : mq_G p l e R s m args below meth c Q nL E D cl A ad0 refs0 (pc + 1) (lv) (.inl (x - x / y * y) :: r) (M) (cs) (ss)) : mq_G p l e R s m args below meth c Q nL E D cl A ad0 refs0 (pc) (lv) (.inl y :: .inl x :: r) (M) (cs) (ss) :=
  fun H locs ls ad refs hB hl hvl hvs => lv_irem C.1 C.2.1 hd hne (k H locs ls ad refs hB hl hvl (mq_vs_int (mq_vs_tl (mq_vs_tl hvs))))
theorem mq_g_idiv (C : mq_C p s m args c cc nL own Ts D cl tys A X) (hd : decode cc pc = .ok (.idiv, 1)) (hne : ¬ y = 0) (k : mq_G p l e R s m args below meth c Q nL E D cl A ad0 refs0 (pc + 1) (lv) (.inl (x / y) :: r) (M) (cs) (ss)) : mq_G p l e R s m args below meth c Q nL E D cl A ad0 refs0 (pc) (lv) (.inl y :: .inl x :: r) (M) (cs) (ss) :=
  fun H locs ls ad refs hB hl hvl hvs => lv_idiv C.1 C.2.1 hd hne (k H locs ls ad refs hB hl hvl (mq_vs_int (mq_vs_tl (mq_vs_tl hvs))))
theorem mq_g_ineg (C : mq_C p s m args c cc nL own Ts D cl tys A X) (hd : decode cc pc = .ok (.ineg, 1)) (k : mq_G p l e R s m args below meth c Q nL E D cl A ad0 refs0 (pc + 1) (lv) (.inl (-x) :: r) (M) (cs) (ss)) : mq_G p l e R s m args below meth c Q nL E D cl A ad0 refs0 (pc) (lv) (.inl x :: r) (M) (cs) (ss) :=
  fun H locs ls ad refs hB hl hvl hvs => lv_ineg C.1 C.2.1 hd (k H locs ls ad refs hB hl hvl (mq_vs_int (mq_vs_tl hvs)))
theorem mq_g_i2b (C : mq_C p s m args c cc nL own Ts D cl tys A X) (hd : decode cc pc = .ok (.i2b, 1)) (k : mq_G p l e R s m args below meth c Q nL E D cl A ad0 refs0 (pc + 1) (lv) (.inl (x.toInt8.toInt32) :: r) (M) (cs) (ss)) : mq_G p l e R s m args below meth c Q nL E D cl A ad0 refs0 (pc) (lv) (.inl x :: r) (M) (cs) (ss) :=
  fun H locs ls ad refs hB hl hvl hvs => lv_i2b C.1 C.2.1 hd rfl (k H locs ls ad refs hB hl hvl (mq_vs_int (mq_vs_tl hvs)))
theorem mq_g_i2s (C : mq_C p s m args c cc nL own Ts D cl tys A X) (hd : decode cc pc = .ok (.i2s, 1)) (k : mq_G p l e R s m args below meth c Q nL E D cl A ad0 refs0 (pc + 1) (lv) (.inl (x.toInt16.toInt32) :: r) (M) (cs) (ss)) : mq_G p l e R s m args below meth c Q nL E D cl A ad0 refs0 (pc) (lv) (.inl x :: r) (M) (cs) (ss) :=
  fun H locs ls ad refs hB hl hvl hvs => lv_i2s C.1 C.2.1 hd rfl (k H locs ls ad refs hB hl hvl (mq_vs_int (mq_vs_tl hvs)))
theorem mq_g_i2c (C : mq_C p s m args c cc nL own Ts D cl tys A X) (hd : decode cc pc = .ok (.i2c, 1)) (k : mq_G p l e R s m args below meth c Q nL E D cl A ad0 refs0 (pc + 1) (lv) (.inl ((x.toUInt32 % 65536).toInt32) :: r) (M) (cs) (ss)) : mq_G p l e R s m args below meth c Q nL E D cl A ad0 refs0 (pc) (lv) (.inl x :: r) (M) (cs) (ss) :=
  fun H locs ls ad refs hB hl hvl hvs => lv_i2c C.1 C.2.1 hd rfl (k H locs ls ad refs hB hl hvl (mq_vs_int (mq_vs_tl hvs)))
theorem mq_g_i2l (C : mq_C p s m args c cc nL own Ts D cl tys A X) (hd : decode cc pc = .ok (.i2l, 1)) (k : mq_G p l e R s m args below meth c Q nL E D cl A ad0 refs0 (pc + 1) (lv) (.inr (.inr x.toInt64) :: r) (M) (cs) (ss)) : mq_G p l e R s m args below meth c Q nL E D cl A ad0 refs0 (pc) (lv) (.inl x :: r) (M) (cs) (ss) :=
  fun H locs ls ad refs hB hl hvl hvs => lv_i2l C.1 C.2.1 hd rfl (k H locs ls ad refs hB hl hvl (mq_vs_long (mq_vs_tl hvs)))
theorem mq_g_lcmp (C : mq_C p s m args c cc nL own Ts D cl tys A X) {x y : Int64} (hd : decode cc pc = .ok (.lcmp, 1)) (k : mq_G p l e R s m args below meth c Q nL E D cl A ad0 refs0 (pc + 1) (lv) (.inl (lg_cmp x y) :: r) (M) (cs) (ss)) : mq_G p l e R s m args below meth c Q nL E D cl A ad0 refs0 (pc) (lv) (.inr (.inr y) :: .inr (.inr x) :: r) (M) (cs) (ss) :=
  fun H locs ls ad refs hB hl hvl hvs => W.lcmp C.1 C.2.1 hd (k H locs ls ad refs hB hl hvl (mq_vs_int (mq_vs_tl (mq_vs_tl hvs))))
theorem mq_g_iconst (C : mq_C p s m args c cc nL own Ts D cl tys A X) {n : Int} (hd : decode cc pc = .ok (.iconst n, 1)) (hv : Int32.ofInt n = x) (k : mq_G p l e R s m args below meth c Q nL E D cl A ad0 refs0 (pc + 1) (lv) (.inl x :: r) (M) (cs) (ss)) : mq_G p l e R s m args below meth c Q nL E D cl A ad0 refs0 (pc) (lv) (r) (M) (cs) (ss) :=
  fun H locs ls ad refs hB hl hvl hvs => lv_iconst C.1 C.2.1 hd hv (k H locs ls ad refs hB hl hvl (mq_vs_int hvs))
theorem mq_g_bipush (C : mq_C p s m args c cc nL own Ts D cl tys A X) {n : Int} (hd : decode cc pc = .ok (.bipush n, 2)) (hv : (Int8.ofInt n).toInt32 = x) (k : mq_G p l e R s m args below meth c Q nL E D cl A ad0 refs0 (pc + 2) (lv) (.inl x :: r) (M) (cs) (ss)) : mq_G p l e R s m args below meth c Q nL E D cl A ad0 refs0 (pc) (lv) (r) (M) (cs) (ss) :=
  fun H locs ls ad refs hB hl hvl hvs => lv_bipush C.1 C.2.1 hd hv (k H locs ls ad refs hB hl hvl (mq_vs_int hvs))
theorem mq_g_sipush (C : mq_C p s m args c cc nL own Ts D cl tys A X) {n : Int} (hd : decode cc pc = .ok (.sipush n, 3)) (hv : (Int16.ofInt n).toInt32 = x) (k : mq_G p l e R s m args below meth c Q nL E D cl A ad0 refs0 (pc + 3) (lv) (.inl x :: r) (M) (cs) (ss)) : mq_G p l e R s m args below meth c Q nL E D cl A ad0 refs0 (pc) (lv) (r) (M) (cs) (ss) :=
  fun H locs ls ad refs hB hl hvl hvs => lv_sipush C.1 C.2.1 hd hv (k H locs ls ad refs hB hl hvl (mq_vs_int hvs))
theorem mq_g_ldc (C : mq_C p s m args c cc nL own Ts D cl tys A X) {ix : Nat} (hd : decode cc pc = .ok (.ldc ix, 2)) (hv : Jvm.Cond.constant own ix x ∈ Ts) (k : mq_G p l e R s m args below meth c Q nL E D cl A ad0 refs0 (pc + 2) (lv) (.inl x :: r) (M) (cs) (ss)) : mq_G p l e R s m args below meth c Q nL E D cl A ad0 refs0 (pc) (lv) (r) (M) (cs) (ss) :=
  fun H locs ls ad refs hB hl hvl hvs => lv_ldc C.1 C.2.1 C.2.2.2.1 (C.2.2.2.2.1 _ hv) hd (k H locs ls ad refs hB hl hvl (mq_vs_int hvs))
theorem mq_g_null (C : mq_C p s m args c cc nL own Ts D cl tys A X) (hd : decode cc pc = .ok (.aconst_null, 1)) (k : mq_G p l e R s m args below meth c Q nL E D cl A ad0 refs0 (pc + 1) (lv) (.inr (.inl none) :: r) (M) (cs) (ss)) : mq_G p l e R s m args below meth c Q nL E D cl A ad0 refs0 (pc) (lv) (r) (M) (cs) (ss) :=
  fun H locs ls ad refs hB hl hvl hvs => lv_null C.1 C.2.1 hd (k H locs ls ad refs hB hl hvl (mq_vs_cons hvs (fun _ q => by cases q)))
theorem mq_g_iload (C : mq_C p s m args c cc nL own Ts D cl tys A X) (hd : decode cc pc = .ok (.iload i, 2)) (hi : mq_gl i lv = some (.inl x)) (k : mq_G p l e R s m args below meth c Q nL E D cl A ad0 refs0 (pc + 2) (lv) (.inl x :: r) (M) (cs) (ss)) : mq_G p l e R s m args below meth c Q nL E D cl A ad0 refs0 (pc) (lv) (r) (M) (cs) (ss) :=
  fun H locs ls ad refs hB hl hvl hvs => lv_iload C.1 C.2.1 hd (hl.2.2 _ (mq_lm_mem (mq_gl_mem hi))) (k H locs ls ad refs hB hl hvl (mq_vs_int hvs))
theorem mq_g_iload_n (C : mq_C p s m args c cc nL own Ts D cl tys A X) {n : Fin 4} (hd : decode cc pc = .ok (.iload_n n, 1)) (hi : mq_gl n.val lv = some (.inl x)) (k : mq_G p l e R s m args below meth c Q nL E D cl A ad0 refs0 (pc + 1) (lv) (.inl x :: r) (M) (cs) (ss)) : mq_G p l e R s m args below meth c Q nL E D cl A ad0 refs0 (pc) (lv) (r) (M) (cs) (ss) :=
  fun H locs ls ad refs hB hl hvl hvs => lv_iload_n C.1 C.2.1 hd rfl (hl.2.2 _ (mq_lm_mem (mq_gl_mem hi))) (k H locs ls ad refs hB hl hvl (mq_vs_int hvs))
theorem mq_g_aload (C : mq_C p s m args c cc nL own Ts D cl tys A X) {q : mRf} (hd : decode cc pc = .ok (.aload i, 2)) (hi : mq_gl i lv = some (.inr q)) (k : mq_G p l e R s m args below meth c Q nL E D cl A ad0 refs0 (pc + 2) (lv) (.inr (.inl q) :: r) (M) (cs) (ss)) : mq_G p l e R s m args below meth c Q nL E D cl A ad0 refs0 (pc) (lv) (r) (M) (cs) (ss) := by
  intro H locs ls ad refs hB hl hvl hvs
  have h1 := hl.2.2 _ (mq_lm_mem (ad := ad) (mq_gl_mem hi))
  have h2 := k H locs ls ad refs hB hl hvl (mq_vs_cons hvs (fun r' e => by cases e; exact hvl _ r' (mq_gl_mem hi)))
  rcases q with _ | q
  · exact lv_aloadN C.1 C.2.1 hd h1 h2
  · exact lv_aload C.1 C.2.1 hd h1 h2
theorem mq_g_aload_n (C : mq_C p s m args c cc nL own Ts D cl tys A X) {n : Fin 4} {q : mRf} (hd : decode cc pc = .ok (.aload_n n, 1)) (hi : mq_gl n.val lv = some (.inr q)) (k : mq_G p l e R s m args below meth c Q nL E D cl A ad0 refs0 (pc + 1) (lv) (.inr (.inl q) :: r) (M) (cs) (ss)) : mq_G p l e R s m args below meth c Q nL E D cl A ad0 refs0 (pc) (lv) (r) (M) (cs) (ss) := by
  intro H locs ls ad refs hB hl hvl hvs
  have h1 := hl.2.2 _ (mq_lm_mem (ad := ad) (mq_gl_mem hi))
  have h2 := k H locs ls ad refs hB hl hvl (mq_vs_cons hvs (fun r' e => by cases e; exact hvl _ r' (mq_gl_mem hi)))
  rcases q with _ | q
  · exact lv_aload_nN C.1 C.2.1 hd rfl h1 h2
  · exact lv_aload_n C.1 C.2.1 hd rfl h1 h2
theorem mq_g_istore (C : mq_C p s m args c cc nL own Ts D cl tys A X) (hd : decode cc pc = .ok (.istore i, 2)) (hn : i < nL) (k : mq_G p l e R s m args below meth c Q nL E D cl A ad0 refs0 (pc + 2) (mq_sl i (.inl x) lv) (r) (M) (cs) (ss)) : mq_G p l e R s m args below meth c Q nL E D cl A ad0 refs0 (pc) (lv) (.inl x :: r) (M) (cs) (ss) := by
  intro H locs ls ad refs hB hl hvl hvs
  exact lv_istore C.1 C.2.1 hd hl hn rfl (fun ls' hl' => k H locs ls' ad refs hB (mq_lv_sl (v := .inl x) hl') (mq_vl_sl hvl (fun _ e => by cases e)) (mq_vs_tl hvs))
theorem mq_g_istore_n (C : mq_C p s m args c cc nL own Ts D cl tys A X) {n : Fin 4} (hd : decode cc pc = .ok (.istore_n n, 1)) (hn : n.val < nL) (k : mq_G p l e R s m args below meth c Q nL E D cl A ad0 refs0 (pc + 1) (mq_sl n.val (.inl x) lv) (r) (M) (cs) (ss)) : mq_G p l e R s m args below meth c Q nL E D cl A ad0 refs0 (pc) (lv) (.inl x :: r) (M) (cs) (ss) := by
  intro H locs ls ad refs hB hl hvl hvs
  exact lv_istore_n C.1 C.2.1 hd rfl hl hn rfl (fun ls' hl' => k H locs ls' ad refs hB (mq_lv_sl (v := .inl x) hl') (mq_vl_sl hvl (fun _ e => by cases e)) (mq_vs_tl hvs))
theorem mq_g_astore (C : mq_C p s m args c cc nL own Ts D cl tys A X) {q : mRf} (hd : decode cc pc = .ok (.astore i, 2)) (hn : i < nL) (k : mq_G p l e R s m args below meth c Q nL E D cl A ad0 refs0 (pc + 2) (mq_sl i (.inr q) lv) (r) (M) (cs) (ss)) : mq_G p l e R s m args below meth c Q nL E D cl A ad0 refs0 (pc) (lv) (.inr (.inl q) :: r) (M) (cs) (ss) := by
  intro H locs ls ad refs hB hl hvl hvs
  have hv : mq_vl refs (mq_sl i (.inr q) lv) := mq_vl_sl hvl (fun r' e => by cases e; exact hvs r' List.mem_cons_self)
  rcases q with _ | q
  · exact lv_astoreN C.1 C.2.1 hd hl hn rfl (fun ls' hl' => k H locs ls' ad refs hB (mq_lv_sl (v := .inr none) hl') hv (mq_vs_tl hvs))
  · exact lv_astore C.1 C.2.1 hd hl hn rfl (fun ls' hl' => k H locs ls' ad refs hB (mq_lv_sl (v := .inr (some q)) hl') hv (mq_vs_tl hvs))
theorem mq_g_astore_n (C : mq_C p s m args c cc nL own Ts D cl tys A X) {n : Fin 4} {q : mRf} (hd : decode cc pc = .ok (.astore_n n, 1)) (hn : n.val < nL) (k : mq_G p l e R s m args below meth c Q nL E D cl A ad0 refs0 (pc + 1) (mq_sl n.val (.inr q) lv) (r) (M) (cs) (ss)) : mq_G p l e R s m args below meth c Q nL E D cl A ad0 refs0 (pc) (lv) (.inr (.inl q) :: r) (M) (cs) (ss) := by
  intro H locs ls ad refs hB hl hvl hvs
  have hv : mq_vl refs (mq_sl n.val (.inr q) lv) := mq_vl_sl hvl (fun r' e => by cases e; exact hvs r' List.mem_cons_self)
  rcases q with _ | q
  · exact lv_astore_nN C.1 C.2.1 hd rfl hl hn rfl (fun ls' hl' => k H locs ls' ad refs hB (mq_lv_sl (v := .inr none) hl') hv (mq_vs_tl hvs))
  · exact lv_astore_n C.1 C.2.1 hd rfl hl hn rfl (fun ls' hl' => k H locs ls' ad refs hB (mq_lv_sl (v := .inr (some q)) hl') hv (mq_vs_tl hvs))
theorem mq_g_iinc (C : mq_C p s m args c cc nL own Ts D cl tys A X) {n : Int} (hd : decode cc pc = .ok (.iinc i n, 3)) (hv : Int32.ofInt n = y) (hi : mq_gl i lv = some (.inl x)) (hn : i < nL) (k : mq_G p l e R s m args below meth c Q nL E D cl A ad0 refs0 (pc + 3) (mq_sl i (.inl (x + y)) lv) (r) (M) (cs) (ss)) : mq_G p l e R s m args below meth c Q nL E D cl A ad0 refs0 (pc) (lv) (r) (M) (cs) (ss) := by
  intro H locs ls ad refs hB hl hvl hvs
  obtain ⟨q, hq⟩ := List.getElem?_of_mem (mq_lm_mem (ad := ad) (mq_gl_mem hi))
  exact lv_iinc (k := q) (v := x + y) C.1 C.2.1 hd hl hq (by rw [hv]) hn rfl (fun ls' hl' => k H locs ls' ad refs hB (mq_lv_sl (v := .inl (x + y)) hl') (mq_vl_sl hvl (fun _ e => by cases e)) hvs)
theorem mq_g_dup (C : mq_C p s m args c cc nL own Ts D cl tys A X) {v : mAV} (hd : decode cc pc = .ok (.dup, 1)) (hv : mq_c1 v = true) (k : mq_G p l e R s m args below meth c Q nL E D cl A ad0 refs0 (pc + 1) (lv) (v :: v :: r) (M) (cs) (ss)) : mq_G p l e R s m args below meth c Q nL E D cl A ad0 refs0 (pc) (lv) (v :: r) (M) (cs) (ss) :=
  fun H locs ls ad refs hB hl hvl hvs => lv_dup C.1 C.2.1 hd (mq_cv_cat ad v hv) (k H locs ls ad refs hB hl hvl (fun q hq => hvs q (by rcases List.mem_cons.mp hq with h | h; exact h ▸ List.mem_cons_self; exact h)))
theorem mq_g_pop (C : mq_C p s m args c cc nL own Ts D cl tys A X) {v : mAV} (hd : decode cc pc = .ok (.pop, 1)) (hv : mq_c1 v = true) (k : mq_G p l e R s m args below meth c Q nL E D cl A ad0 refs0 (pc + 1) (lv) (r) (M) (cs) (ss)) : mq_G p l e R s m args below meth c Q nL E D cl A ad0 refs0 (pc) (lv) (v :: r) (M) (cs) (ss) :=
  fun H locs ls ad refs hB hl hvl hvs => lv_pop C.1 C.2.1 hd (mq_cv_cat ad v hv) (k H locs ls ad refs hB hl hvl (mq_vs_tl hvs))
theorem mq_g_dup_x1 (C : mq_C p s m args c cc nL own Ts D cl tys A X) {v w : mAV} (hd : decode cc pc = .ok (.dup_x1, 1)) (hv : mq_c1 v = true) (hw : mq_c1 w = true) (k : mq_G p l e R s m args below meth c Q nL E D cl A ad0 refs0 (pc + 1) (lv) (v :: w :: v :: r) (M) (cs) (ss)) : mq_G p l e R s m args below meth c Q nL E D cl A ad0 refs0 (pc) (lv) (v :: w :: r) (M) (cs) (ss) :=
  fun H locs ls ad refs hB hl hvl hvs => lv_dup_x1 C.1 C.2.1 hd (mq_cv_cat ad v hv) (mq_cv_cat ad w hw) (k H locs ls ad refs hB hl hvl (fun q hq => hvs q (by simp only [List.mem_cons] at hq ⊢; rcases hq with h | h | h | h; exact .inl h; exact .inr (.inl h); exact .inl h; exact .inr (.inr h))))
theorem mq_g_dup_x2 (C : mq_C p s m args c cc nL own Ts D cl tys A X) {v w z : mAV} (hd : decode cc pc = .ok (.dup_x2, 1)) (hv : mq_c1 v = true) (hw : mq_c1 w = true) (hz : mq_c1 z = true) (k : mq_G p l e R s m args below meth c Q nL E D cl A ad0 refs0 (pc + 1) (lv) (v :: w :: z :: v :: r) (M) (cs) (ss)) : mq_G p l e R s m args below meth c Q nL E D cl A ad0 refs0 (pc) (lv) (v :: w :: z :: r) (M) (cs) (ss) :=
  fun H locs ls ad refs hB hl hvl hvs => lv_dup_x2 C.1 C.2.1 hd (mq_cv_cat ad v hv) (mq_cv_cat ad w hw) (mq_cv_cat ad z hz) (k H locs ls ad refs hB hl hvl (fun q hq => hvs q (by simp only [List.mem_cons] at hq ⊢; rcases hq with h | h | h | h | h; exact .inl h; exact .inr (.inl h); exact .inr (.inr (.inl h)); exact .inl h; exact .inr (.inr (.inr h)))))
theorem mq_g_dup2 (C : mq_C p s m args c cc nL own Ts D cl tys A X) {v w : mAV} (hd : decode cc pc = .ok (.dup2, 1)) (hv : mq_c1 v = true) (hw : mq_c1 w = true) (k : mq_G p l e R s m args below meth c Q nL E D cl A ad0 refs0 (pc + 1) (lv) (v :: w :: v :: w :: r) (M) (cs) (ss)) : mq_G p l e R s m args below meth c Q nL E D cl A ad0 refs0 (pc) (lv) (v :: w :: r) (M) (cs) (ss) :=
  fun H locs ls ad refs hB hl hvl hvs => lv_dup2_11 C.1 C.2.1 hd (mq_cv_cat ad v hv) (mq_cv_cat ad w hw) (k H locs ls ad refs hB hl hvl (fun q hq => hvs q (by simp only [List.mem_cons] at hq ⊢; rcases hq with h | h | h | h | h; exact .inl h; exact .inr (.inl h); exact .inl h; exact .inr (.inl h); exact .inr (.inr h))))
theorem mq_g_goto (C : mq_C p s m args c cc nL own Ts D cl tys A X) {off : Int} (hd : decode cc pc = .ok (.goto off, 3)) (ht : (pc : Int) + off = (tgt : Int)) (k : mq_G p l e R s m args below meth c Q nL E D cl A ad0 refs0 (tgt) (lv) (r) (M) (cs) (ss)) : mq_G p l e R s m args below meth c Q nL E D cl A ad0 refs0 (pc) (lv) (r) (M) (cs) (ss) :=
  fun H locs ls ad refs hB hl hvl hvs => lv_goto C.1 C.2.1 hd ht (k H locs ls ad refs hB hl hvl hvs)
theorem mq_g_if_eq (C : mq_C p s m args c cc nL own Ts D cl tys A X) {off : Int} (hd : decode cc pc = .ok (.ifCond .eq off, 3)) (ht : (pc : Int) + off = (tgt : Int)) (kt : x = 0 → mq_G p l e R s m args below meth c Q nL E D cl A ad0 refs0 (tgt) (lv) (r) (M) (cs) (ss)) (kf : ¬ x = 0 → mq_G p l e R s m args below meth c Q nL E D cl A ad0 refs0 (pc + 3) (lv) (r) (M) (cs) (ss)) : mq_G p l e R s m args below meth c Q nL E D cl A ad0 refs0 (pc) (lv) (.inl x :: r) (M) (cs) (ss) :=
  fun H locs ls ad refs hB hl hvl hvs => lv_if_eq C.1 C.2.1 hd ht (fun q => kt q H locs ls ad refs hB hl hvl (mq_vs_tl hvs)) (fun q => kf q H locs ls ad refs hB hl hvl (mq_vs_tl hvs))
theorem mq_g_if_ne (C : mq_C p s m args c cc nL own Ts D cl tys A X) {off : Int} (hd : decode cc pc = .ok (.ifCond .ne off, 3)) (ht : (pc : Int) + off = (tgt : Int)) (kt : ¬ x = 0 → mq_G p l e R s m args below meth c Q nL E D cl A ad0 refs0 (tgt) (lv) (r) (M) (cs) (ss)) (kf : x = 0 → mq_G p l e R s m args below meth c Q nL E D cl A ad0 refs0 (pc + 3) (lv) (r) (M) (cs) (ss)) : mq_G p l e R s m args below meth c Q nL E D cl A ad0 refs0 (pc) (lv) (.inl x :: r) (M) (cs) (ss) :=
  fun H locs ls ad refs hB hl hvl hvs => lv_if_ne C.1 C.2.1 hd ht (fun q => kt q H locs ls ad refs hB hl hvl (mq_vs_tl hvs)) (fun q => kf q H locs ls ad refs hB hl hvl (mq_vs_tl hvs))
theorem mq_g_if_lt (C : mq_C p s m args c cc nL own Ts D cl tys A X) {off : Int} (hd : decode cc pc = .ok (.ifCond .lt off, 3)) (ht : (pc : Int) + off = (tgt : Int)) (kt : x < 0 → mq_G p l e R s m args below meth c Q nL E D cl A ad0 refs0 (tgt) (lv) (r) (M) (cs) (ss)) (kf : ¬ x < 0 → mq_G p l e R s m args below meth c Q nL E D cl A ad0 refs0 (pc + 3) (lv) (r) (M) (cs) (ss)) : mq_G p l e R s m args below meth c Q nL E D cl A ad0 refs0 (pc) (lv) (.inl x :: r) (M) (cs) (ss) :=
  fun H locs ls ad refs hB hl hvl hvs => lv_if_lt C.1 C.2.1 hd ht (fun q => kt q H locs ls ad refs hB hl hvl (mq_vs_tl hvs)) (fun q => kf q H locs ls ad refs hB hl hvl (mq_vs_tl hvs))
theorem mq_g_if_ge (C : mq_C p s m args c cc nL own Ts D cl tys A X) {off : Int} (hd : decode cc pc = .ok (.ifCond .ge off, 3)) (ht : (pc : Int) + off = (tgt : Int)) (kt : ¬ x < 0 → mq_G p l e R s m args below meth c Q nL E D cl A ad0 refs0 (tgt) (lv) (r) (M) (cs) (ss)) (kf : x < 0 → mq_G p l e R s m args below meth c Q nL E D cl A ad0 refs0 (pc + 3) (lv) (r) (M) (cs) (ss)) : mq_G p l e R s m args below meth c Q nL E D cl A ad0 refs0 (pc) (lv) (.inl x :: r) (M) (cs) (ss) :=
  fun H locs ls ad refs hB hl hvl hvs => lv_if_ge C.1 C.2.1 hd ht (fun q => kt (Int32.not_lt.mpr q) H locs ls ad refs hB hl hvl (mq_vs_tl hvs)) (fun q => kf (Int32.not_le.mp q) H locs ls ad refs hB hl hvl (mq_vs_tl hvs))
theorem mq_g_if_gt (C : mq_C p s m args c cc nL own Ts D cl tys A X) {off : Int} (hd : decode cc pc = .ok (.ifCond .gt off, 3)) (ht : (pc : Int) + off = (tgt : Int)) (kt : 0 < x → mq_G p l e R s m args below meth c Q nL E D cl A ad0 refs0 (tgt) (lv) (r) (M) (cs) (ss)) (kf : ¬ 0 < x → mq_G p l e R s m args below meth c Q nL E D cl A ad0 refs0 (pc + 3) (lv) (r) (M) (cs) (ss)) : mq_G p l e R s m args below meth c Q nL E D cl A ad0 refs0 (pc) (lv) (.inl x :: r) (M) (cs) (ss) :=
  fun H locs ls ad refs hB hl hvl hvs => lv_if_gt C.1 C.2.1 hd ht (fun q => kt q H locs ls ad refs hB hl hvl (mq_vs_tl hvs)) (fun q => kf q H locs ls ad refs hB hl hvl (mq_vs_tl hvs))
theorem mq_g_if_le (C : mq_C p s m args c cc nL own Ts D cl tys A X) {off : Int} (hd : decode cc pc = .ok (.ifCond .le off, 3)) (ht : (pc : Int) + off = (tgt : Int)) (kt : ¬ 0 < x → mq_G p l e R s m args below meth c Q nL E D cl A ad0 refs0 (tgt) (lv) (r) (M) (cs) (ss)) (kf : 0 < x → mq_G p l e R s m args below meth c Q nL E D cl A ad0 refs0 (pc + 3) (lv) (r) (M) (cs) (ss)) : mq_G p l e R s m args below meth c Q nL E D cl A ad0 refs0 (pc) (lv) (.inl x :: r) (M) (cs) (ss) :=
  fun H locs ls ad refs hB hl hvl hvs => lv_if_le C.1 C.2.1 hd ht (fun q => kt (Int32.not_lt.mpr q) H locs ls ad refs hB hl hvl (mq_vs_tl hvs)) (fun q => kf (Int32.not_le.mp q) H locs ls ad refs hB hl hvl (mq_vs_tl hvs))
theorem mq_g_icmp_eq (C : mq_C p s m args c cc nL own Ts D cl tys A X) {off : Int} (hd : decode cc pc = .ok (.if_icmp .eq off, 3)) (ht : (pc : Int) + off = (tgt : Int)) (kt : x = y → mq_G p l e R s m args below meth c Q nL E D cl A ad0 refs0 (tgt) (lv) (r) (M) (cs) (ss)) (kf : ¬ x = y → mq_G p l e R s m args below meth c Q nL E D cl A ad0 refs0 (pc + 3) (lv) (r) (M) (cs) (ss)) : mq_G p l e R s m args below meth c Q nL E D cl A ad0 refs0 (pc) (lv) (.inl y :: .inl x :: r) (M) (cs) (ss) :=
  fun H locs ls ad refs hB hl hvl hvs => lv_icmp_eq C.1 C.2.1 hd ht (fun q => kt q H locs ls ad refs hB hl hvl (mq_vs_tl (mq_vs_tl hvs))) (fun q => kf q H locs ls ad refs hB hl hvl (mq_vs_tl (mq_vs_tl hvs)))
theorem mq_g_icmp_ne (C : mq_C p s m args c cc nL own Ts D cl tys A X) {off : Int} (hd : decode cc pc = .ok (.if_icmp .ne off, 3)) (ht : (pc : Int) + off = (tgt : Int)) (kt : ¬ x = y → mq_G p l e R s m args below meth c Q nL E D cl A ad0 refs0 (tgt) (lv) (r) (M) (cs) (ss)) (kf : x = y → mq_G p l e R s m args below meth c Q nL E D cl A ad0 refs0 (pc + 3) (lv) (r) (M) (cs) (ss)) : mq_G p l e R s m args below meth c Q nL E D cl A ad0 refs0 (pc) (lv) (.inl y :: .inl x :: r) (M) (cs) (ss) :=
  fun H locs ls ad refs hB hl hvl hvs => lv_icmp_ne C.1 C.2.1 hd ht (fun q => kt q H locs ls ad refs hB hl hvl (mq_vs_tl (mq_vs_tl hvs))) (fun q => kf q H locs ls ad refs hB hl hvl (mq_vs_tl (mq_vs_tl hvs)))
theorem mq_g_icmp_lt (C : mq_C p s m args c cc nL own Ts D cl tys A X) {off : Int} (hd : decode cc pc = .ok (.if_icmp .lt off, 3)) (ht : (pc : Int) + off = (tgt : Int)) (kt : x < y → mq_G p l e R s m args below meth c Q nL E D cl A ad0 refs0 (tgt) (lv) (r) (M) (cs) (ss)) (kf : ¬ x < y → mq_G p l e R s m args below meth c Q nL E D cl A ad0 refs0 (pc + 3) (lv) (r) (M) (cs) (ss)) : mq_G p l e R s m args below meth c Q nL E D cl A ad0 refs0 (pc) (lv) (.inl y :: .inl x :: r) (M) (cs) (ss) :=
  fun H locs ls ad refs hB hl hvl hvs => lv_icmp_lt C.1 C.2.1 hd ht (fun q => kt q H locs ls ad refs hB hl hvl (mq_vs_tl (mq_vs_tl hvs))) (fun q => kf q H locs ls ad refs hB hl hvl (mq_vs_tl (mq_vs_tl hvs)))
theorem mq_g_icmp_ge (C : mq_C p s m args c cc nL own Ts D cl tys A X) {off : Int} (hd : decode cc pc = .ok (.if_icmp .ge off, 3)) (ht : (pc : Int) + off = (tgt : Int)) (kt : ¬ x < y → mq_G p l e R s m args below meth c Q nL E D cl A ad0 refs0 (tgt) (lv) (r) (M) (cs) (ss)) (kf : x < y → mq_G p l e R s m args below meth c Q nL E D cl A ad0 refs0 (pc + 3) (lv) (r) (M) (cs) (ss)) : mq_G p l e R s m args below meth c Q nL E D cl A ad0 refs0 (pc) (lv) (.inl y :: .inl x :: r) (M) (cs) (ss) :=
  fun H locs ls ad refs hB hl hvl hvs => lv_icmp_ge C.1 C.2.1 hd ht (fun q => kt (Int32.not_lt.mpr q) H locs ls ad refs hB hl hvl (mq_vs_tl (mq_vs_tl hvs))) (fun q => kf (Int32.not_le.mp q) H locs ls ad refs hB hl hvl (mq_vs_tl (mq_vs_tl hvs)))
theorem mq_g_icmp_gt (C : mq_C p s m args c cc nL own Ts D cl tys A X) {off : Int} (hd : decode cc pc = .ok (.if_icmp .gt off, 3)) (ht : (pc : Int) + off = (tgt : Int)) (kt : y < x → mq_G p l e R s m args below meth c Q nL E D cl A ad0 refs0 (tgt) (lv) (r) (M) (cs) (ss)) (kf : ¬ y < x → mq_G p l e R s m args below meth c Q nL E D cl A ad0 refs0 (pc + 3) (lv) (r) (M) (cs) (ss)) : mq_G p l e R s m args below meth c Q nL E D cl A ad0 refs0 (pc) (lv) (.inl y :: .inl x :: r) (M) (cs) (ss) :=
  fun H locs ls ad refs hB hl hvl hvs => lv_icmp_gt C.1 C.2.1 hd ht (fun q => kt q H locs ls ad refs hB hl hvl (mq_vs_tl (mq_vs_tl hvs))) (fun q => kf q H locs ls ad refs hB hl hvl (mq_vs_tl (mq_vs_tl hvs)))
theorem mq_g_icmp_le (C : mq_C p s m args c cc nL own Ts D cl tys A X) {off : Int} (hd : decode cc pc = .ok (.if_icmp .le off, 3)) (ht : (pc : Int) + off = (tgt : Int)) (kt : ¬ y < x → mq_G p l e R s m args below meth c Q nL E D cl A ad0 refs0 (tgt) (lv) (r) (M) (cs) (ss)) (kf : y < x → mq_G p l e R s m args below meth c Q nL E D cl A ad0 refs0 (pc + 3) (lv) (r) (M) (cs) (ss)) : mq_G p l e R s m args below meth c Q nL E D cl A ad0 refs0 (pc) (lv) (.inl y :: .inl x :: r) (M) (cs) (ss) :=
  fun H locs ls ad refs hB hl hvl hvs => lv_icmp_le C.1 C.2.1 hd ht (fun q => kt (Int32.not_lt.mpr q) H locs ls ad refs hB hl hvl (mq_vs_tl (mq_vs_tl hvs))) (fun q => kf (Int32.not_le.mp q) H locs ls ad refs hB hl hvl (mq_vs_tl (mq_vs_tl hvs)))
theorem mq_ad_inj {ad : Nat × Nat → Nat} {refs : List (Nat × Nat)} {H : Heap} {locs : List Loc} (hB : mq_B E D cl A s ad0 refs0 ad refs M H locs) {u w : mRf} (hu : ∀ r, u = some r → r ∈ refs) (hw : ∀ r, w = some r → r ∈ refs) (h : u.map ad = w.map ad) : u = w := by
  rcases u with _ | u <;> rcases w with _ | w
  · rfl
  · cases h
  · cases h
  · rw [mq_injr hB.2.1 (hu u rfl) (hw w rfl) (Option.some.inj h)]
theorem mq_g_ifnull_0 (C : mq_C p s m args c cc nL own Ts D cl tys A X) {off : Int} (hd : decode cc pc = .ok (.ifnull off, 3)) (ht : (pc : Int) + off = (tgt : Int)) (k : mq_G p l e R s m args below meth c Q nL E D cl A ad0 refs0 (tgt) (lv) (r) (M) (cs) (ss)) : mq_G p l e R s m args below meth c Q nL E D cl A ad0 refs0 (pc) (lv) (.inr (.inl none) :: r) (M) (cs) (ss) :=
  fun H locs ls ad refs hB hl hvl hvs => lv_ifnullN C.1 C.2.1 hd ht (k H locs ls ad refs hB hl hvl (mq_vs_tl hvs))
theorem mq_g_ifnull_1 (C : mq_C p s m args c cc nL own Ts D cl tys A X) {q : Nat × Nat} {off : Int} (hd : decode cc pc = .ok (.ifnull off, 3)) (k : mq_G p l e R s m args below meth c Q nL E D cl A ad0 refs0 (pc + 3) (lv) (r) (M) (cs) (ss)) : mq_G p l e R s m args below meth c Q nL E D cl A ad0 refs0 (pc) (lv) (.inr (.inl (some q)) :: r) (M) (cs) (ss) :=
  fun H locs ls ad refs hB hl hvl hvs => lv_ifnull C.1 C.2.1 hd (k H locs ls ad refs hB hl hvl (mq_vs_tl hvs))
theorem mq_g_ifnonnull_0 (C : mq_C p s m args c cc nL own Ts D cl tys A X) {off : Int} (hd : decode cc pc = .ok (.ifnonnull off, 3)) (k : mq_G p l e R s m args below meth c Q nL E D cl A ad0 refs0 (pc + 3) (lv) (r) (M) (cs) (ss)) : mq_G p l e R s m args below meth c Q nL E D cl A ad0 refs0 (pc) (lv) (.inr (.inl none) :: r) (M) (cs) (ss) :=
  fun H locs ls ad refs hB hl hvl hvs => lv_ifnonnullN C.1 C.2.1 hd (k H locs ls ad refs hB hl hvl (mq_vs_tl hvs))
theorem mq_g_ifnonnull_1 (C : mq_C p s m args c cc nL own Ts D cl tys A X) {q : Nat × Nat} {off : Int} (hd : decode cc pc = .ok (.ifnonnull off, 3)) (ht : (pc : Int) + off = (tgt : Int)) (k : mq_G p l e R s m args below meth c Q nL E D cl A ad0 refs0 (tgt) (lv) (r) (M) (cs) (ss)) : mq_G p l e R s m args below meth c Q nL E D cl A ad0 refs0 (pc) (lv) (.inr (.inl (some q)) :: r) (M) (cs) (ss) :=
  fun H locs ls ad refs hB hl hvl hvs => lv_ifnonnull C.1 C.2.1 hd ht (k H locs ls ad refs hB hl hvl (mq_vs_tl hvs))
theorem mq_g_ldc2 (C : mq_C p s m args c cc nL own Ts D cl tys A X) {ix : Nat} {z : Int64} (hd : decode cc pc = .ok (.ldc2_w ix, 3)) (hv : Jvm.Cond.constantLong own ix z ∈ Ts) (k : mq_G p l e R s m args below meth c Q nL E D cl A ad0 refs0 (pc + 3) (lv) (.inr (.inr z) :: r) (M) (cs) (ss)) : mq_G p l e R s m args below meth c Q nL E D cl A ad0 refs0 (pc) (lv) (r) (M) (cs) (ss) :=
  fun H locs ls ad refs hB hl hvl hvs => lv_ldc2 C.1 C.2.1 C.2.2.2.1 (C.2.2.2.2.1 _ hv) hd (k H locs ls ad refs hB hl hvl (mq_vs_long hvs))
theorem mq_g_land (C : mq_C p s m args c cc nL own Ts D cl tys A X) {x y : Int64} (hd : decode cc pc = .ok (.land, 1)) (k : mq_G p l e R s m args below meth c Q nL E D cl A ad0 refs0 (pc + 1) (lv) (.inr (.inr (x &&& y)) :: r) (M) (cs) (ss)) : mq_G p l e R s m args below meth c Q nL E D cl A ad0 refs0 (pc) (lv) (.inr (.inr y) :: .inr (.inr x) :: r) (M) (cs) (ss) :=
  fun H locs ls ad refs hB hl hvl hvs => lv_land C.1 C.2.1 hd (k H locs ls ad refs hB hl hvl (mq_vs_long (mq_vs_tl (mq_vs_tl hvs))))
end MQG
end
section
/-! Fields and arrays of the machine, over the JVM's. -/
section MQM
variable {p : Program} {l : Launch} {e : Env} {R : Room} {s : State} {m : MethodId} {args : Array Value} {below : List Frame} {meth : Method} {c : Code} {Q : State → Prop}
variable {cc : ByteArray} {nL : Nat} {own : String} {Ts : List Cond} {D : va_G} {cl : List vw_C} {tys : List (ClassId × FieldType)} {A : Nat → Prop} {X : State → Prop} {E : mEv} {ad0 : Nat × Nat → Nat} {refs0 : List (Nat × Nat)}
variable {pc tgt i k b ix ci N n t0 : Nat} {lv : List (Nat × mLV)} {r : List mAV} {M : mMm} {cs ss : Nat} {x y : Int32} {q : Nat × Nat} {C1 : String} {T : u_T}
theorem mq_in (h9 : (E.1 999).1 = 9) {refs : List (Nat × Nat)} {t : Nat × Nat × Nat} (hv : mq_vr refs q) (ht : E.1 q.1 = t) (h : t.1 ≠ 9) : q ∈ refs := by
  rcases hv with hv | hv
  · exact hv
  · subst hv
    exact absurd (by rw [← ht]; exact h9) h
theorem mq_cvt {w w' : va_W} {H1 : Heap} (h : w = w') (hP : va_P D cl w H1) (hD : va_D A w) : va_P D cl w' H1 ∧ va_D A w' := by
  subst h; exact ⟨hP, hD⟩
theorem mq_ce0 {ad : Nat × Nat → Nat} (hk : E.1 q.1 = (0, ci, N)) : mq_ce E ad M q = .inr (ci, (List.range N).map (mq_fv E ad M q)) := by
  simp only [mq_ce, hk]
theorem mq_ceS {ad : Nat × Nat → Nat} {t : Nat} (ht : t = 1 ∨ t = 4 ∨ t = 5) (hk : E.1 q.1 = (t, ci, N)) : mq_ce E ad M q = .inl (E.2.2 t, (N, .inl (M.2.1 q.1 q.2))) := by
  rcases ht with rfl | rfl | rfl <;> simp only [mq_ce, hk]
theorem mq_ce2 {ad : Nat × Nat → Nat} (hk : E.1 q.1 = (2, ci, N)) : mq_ce E ad M q = .inl (E.2.2 2, (N, .inr (.inl (M.2.2.2 q.1 q.2)))) := by
  simp only [mq_ce, hk]
theorem mq_ce3 {ad : Nat × Nat → Nat} (hk : E.1 q.1 = (3, ci, N)) : mq_ce E ad M q = .inl (E.2.2 (100 + ci), (N, .inr (.inr (.inr (.inr (fun j => (M.2.2.1 q.1 q.2 j).map ad)))))) := by
  simp only [mq_ce, hk]
theorem mq_g_get0 (C : mq_C p s m args c cc nL own Ts D cl tys A X) (h9 : (E.1 999).1 = 9) (hk : E.1 q.1 = (0, ci, N)) (hc : cl[ci]? = some (C1, T, N)) (hin : ∀ w ∈ u_ws C1 T N, w ∈ Ts) (hb : b < N) (hr : E.2.1 ci b = false) (hlink : Jvm.Cond.fieldLink own ix (T b).1 (T b).2.1 (T b).2.2.1 ∈ Ts) (hd : decode cc pc = .ok (.getfield ix, 3))
    (kk : mq_G p l e R s m args below meth c Q nL E D cl A ad0 refs0 (pc + 3) lv (.inl (M.2.1 q.1 q.2 b) :: r) M cs ss) : mq_G p l e R s m args below meth c Q nL E D cl A ad0 refs0 pc lv (.inr (.inl (some q)) :: r) M cs ss := by
  intro H locs ls ad refs hB hl hvl hvs
  have hm : q ∈ refs := mq_in h9 (hvs q List.mem_cons_self) hk (Nat.ne_of_beq_eq_false rfl)
  obtain ⟨j, hj⟩ := List.getElem?_of_mem hm
  have he := mq_W_at (E := E) (ad := ad) (M := M) hj
  rw [mq_ce0 hk] at he
  refine va_get (v := .int (M.2.1 q.1 q.2 b)) C.1 C.2.1 C.2.2.2.2.1 hin C.2.2.2.1 C.2.2.2.2.2.1 hB.1 j he hc b hb (C.2.2.2.2.1 _ hlink) (fun _ h => h) ?_ hd (kk H locs ls ad refs hB hl hvl (mq_vs_int (mq_vs_tl hvs)))
  rw [mq_range_at hb]
  simp only [mq_fv, hk, hr, Bool.false_eq_true, if_false]
theorem mq_g_get1 (C : mq_C p s m args c cc nL own Ts D cl tys A X) (h9 : (E.1 999).1 = 9) (hk : E.1 q.1 = (0, ci, N)) (hc : cl[ci]? = some (C1, T, N)) (hin : ∀ w ∈ u_ws C1 T N, w ∈ Ts) (hb : b < N) (hr : E.2.1 ci b = true) (hlink : Jvm.Cond.fieldLink own ix (T b).1 (T b).2.1 (T b).2.2.1 ∈ Ts) (hd : decode cc pc = .ok (.getfield ix, 3))
    (kk : mq_G p l e R s m args below meth c Q nL E D cl A ad0 refs0 (pc + 3) lv (.inr (.inl (M.2.2.1 q.1 q.2 b)) :: r) M cs ss) : mq_G p l e R s m args below meth c Q nL E D cl A ad0 refs0 pc lv (.inr (.inl (some q)) :: r) M cs ss := by
  intro H locs ls ad refs hB hl hvl hvs
  have hm : q ∈ refs := mq_in h9 (hvs q List.mem_cons_self) hk (Nat.ne_of_beq_eq_false rfl)
  obtain ⟨j, hj⟩ := List.getElem?_of_mem hm
  have he := mq_W_at (E := E) (ad := ad) (M := M) hj
  rw [mq_ce0 hk] at he
  refine va_get (v := va_rf ((M.2.2.1 q.1 q.2 b).map ad)) C.1 C.2.1 C.2.2.2.2.1 hin C.2.2.2.1 C.2.2.2.2.2.1 hB.1 j he hc b hb (C.2.2.2.2.1 _ hlink) (fun _ h => h) ?_ hd (kk H locs ls ad refs hB hl hvl (mq_vs_cons (mq_vs_tl hvs) (fun r' e => ?_)))
  · rw [mq_range_at hb]
    simp only [mq_fv, hk, hr, if_true]
  · exact Or.inl (hB.2.2.2.1.2 q hm b (by rw [hk]; exact hb) r' (by injection e with e; injection e))
/-- the world behind a write to the ints of one cell -/
theorem mq_B_up {ad : Nat × Nat → Nat} {refs : List (Nat × Nat)} {H H1 : Heap} {locs locs1 : List Loc} {M' : mMm} (hB : mq_B E D cl A s ad0 refs0 ad refs M H locs) (h1 : M'.1 = M.1) (h2 : ∀ r, r ∈ refs → ∀ j, j < (E.1 r.1).2.2 → ∀ r', M'.2.2.1 r.1 r.2 j = some r' → r' ∈ refs) (hP : va_P D cl (mq_W E ad refs M') H1) (hD : va_D A (mq_W E ad refs M')) (hS : va_S A s.heap H1 locs1) : mq_B E D cl A s ad0 refs0 ad refs M' H1 locs1 :=
  ⟨hP, hD, hS, ⟨fun r => by rw [h1]; exact hB.2.2.2.1.1 r, h2⟩, hB.2.2.2.2.1, hB.2.2.2.2.2⟩
theorem mq_g_put0 (C : mq_C p s m args c cc nL own Ts D cl tys A X) (h9 : (E.1 999).1 = 9) (hk : E.1 q.1 = (0, ci, N)) (hc : cl[ci]? = some (C1, T, N)) (hin : ∀ w ∈ u_ws C1 T N, w ∈ Ts) (ty0 : Nat → FieldType) (hty : ∀ k, k < N → parseFieldDescriptor (T k).2.2.1 = some (ty0 k)) (hnm : ∀ a, a < N → ∀ b, b < N → a ≠ b → (T a).2.1 ≠ (T b).2.1) (hb : b < N) (hr : E.2.1 ci b = false) (hlink : Jvm.Cond.fieldLink own ix (T b).1 (T b).2.1 (T b).2.2.1 ∈ Ts) (hfin : (T b).2.2.2 = false ∨ ((T b).2.2.2 = true ∧ meth.name = "<init>" ∧ (T b).1 = own)) (hn : narrow (ty0 b) (.int x) = .int x) (hft : fits (ty0 b) (.int x) = true) (hd : decode cc pc = .ok (.putfield ix, 3))
    (kk : mq_G p l e R s m args below meth c Q nL E D cl A ad0 refs0 (pc + 3) lv r (M.1, mq_up M.2.1 q.1 q.2 b x, M.2.2) cs ss) : mq_G p l e R s m args below meth c Q nL E D cl A ad0 refs0 pc lv (.inl x :: .inr (.inl (some q)) :: r) M cs ss := by
  intro H locs ls ad refs hB hl hvl hvs
  have hm : q ∈ refs := mq_in h9 (hvs q (List.mem_cons_of_mem _ List.mem_cons_self)) hk (Nat.ne_of_beq_eq_false rfl)
  obtain ⟨j, hj⟩ := List.getElem?_of_mem hm
  have he := mq_W_at (E := E) (ad := ad) (M := M) hj
  rw [mq_ce0 hk] at he
  have hset : (mq_W E ad refs M).set j (ad q, .inr (ci, ((List.range N).map (mq_fv E ad M q)).set b (.int x))) = mq_W E ad refs (M.1, mq_up M.2.1 q.1 q.2 b x, M.2.2) := by
    refine mq_W_set hB.2.1 hj (fun r' hr' => mq_ce_eq (mq_up_ne (by exact hr')) rfl rfl) ?_
    rw [mq_ce0 hk, mq_range_set hb]
    congr 2
    apply List.map_congr_left
    intro j' _
    by_cases hjb : j' = b
    · subst hjb
      simp only [mq_fv, hk, hr, Bool.false_eq_true, if_false, if_true, mq_up_at]
    · simp only [mq_fv, mq_up_at, hjb, if_false]
  rcases hfin with hfin | ⟨hfin, hin2, hdecl⟩
  · refine va_put (ty := ty0 b) C.1 C.2.1 C.2.2.2.2.1 hin ty0 hty hnm C.2.2.2.1 C.2.2.2.2.2.1 hB.1 hB.2.1 hB.2.2.1 j he hc b hb (C.2.2.2.2.1 _ hlink) (fun _ h => h) hfin (hty b hb) hn hft (by simpa using hb) hd (fun H1 locs1 hP hD hS => ?_)
    obtain ⟨hP, hD⟩ := mq_cvt hset hP hD
    exact kk H1 locs1 ls ad refs (mq_B_up hB rfl hB.2.2.2.1.2 hP hD hS) hl hvl (mq_vs_tl (mq_vs_tl hvs))
  · refine va_putF (ty := ty0 b) C.1 C.2.1 C.2.2.2.2.1 hin ty0 hty hnm C.2.2.2.1 C.2.2.2.2.2.1 hB.1 hB.2.1 hB.2.2.1 j he hc b hb (C.2.2.2.2.1 _ hlink) (fun _ h => h) hfin hin2 hdecl (hty b hb) hn hft (by simpa using hb) hd (fun H1 locs1 hP hD hS => ?_)
    obtain ⟨hP, hD⟩ := mq_cvt hset hP hD
    exact kk H1 locs1 ls ad refs (mq_B_up hB rfl hB.2.2.2.1.2 hP hD hS) hl hvl (mq_vs_tl (mq_vs_tl hvs))
theorem mq_V_up {refs : List (Nat × Nat)} {w : mRf} (hV : mq_V E M refs) (hw : ∀ r, w = some r → r ∈ refs) : ∀ r, r ∈ refs → ∀ j, j < (E.1 r.1).2.2 → ∀ r', mq_up M.2.2.1 q.1 q.2 b w r.1 r.2 j = some r' → r' ∈ refs := by
  intro r hr j hj r' h
  unfold mq_up at h
  split at h
  · exact hw r' h
  · exact hV.2 r hr j hj r' h
theorem mq_g_put1 (C : mq_C p s m args c cc nL own Ts D cl tys A X) (h9 : (E.1 999).1 = 9) {w : mRf} (hw9 : w ≠ some mq_sr) (hk : E.1 q.1 = (0, ci, N)) (hc : cl[ci]? = some (C1, T, N)) (hin : ∀ w ∈ u_ws C1 T N, w ∈ Ts) (ty0 : Nat → FieldType) (hty : ∀ k, k < N → parseFieldDescriptor (T k).2.2.1 = some (ty0 k)) (hnm : ∀ a, a < N → ∀ b, b < N → a ≠ b → (T a).2.1 ≠ (T b).2.1) (hb : b < N) (hr : E.2.1 ci b = true) (hlink : Jvm.Cond.fieldLink own ix (T b).1 (T b).2.1 (T b).2.2.1 ∈ Ts) (hfin : (T b).2.2.2 = false ∨ ((T b).2.2.2 = true ∧ meth.name = "<init>" ∧ (T b).1 = own)) (hrt : (∃ n, ty0 b = .object n) ∨ ∃ t, ty0 b = .array t) (hd : decode cc pc = .ok (.putfield ix, 3))
    (kk : mq_G p l e R s m args below meth c Q nL E D cl A ad0 refs0 (pc + 3) lv r (M.1, M.2.1, mq_up M.2.2.1 q.1 q.2 b w, M.2.2.2) cs ss) : mq_G p l e R s m args below meth c Q nL E D cl A ad0 refs0 pc lv (.inr (.inl w) :: .inr (.inl (some q)) :: r) M cs ss := by
  intro H locs ls ad refs hB hl hvl hvs
  have hm : q ∈ refs := mq_in h9 (hvs q (List.mem_cons_of_mem _ List.mem_cons_self)) hk (Nat.ne_of_beq_eq_false rfl)
  have hw : ∀ r, w = some r → r ∈ refs := fun r' h => by
    subst h
    rcases hvs r' List.mem_cons_self with h | h
    · exact h
    · exact absurd (by rw [h]) hw9
  obtain ⟨j, hj⟩ := List.getElem?_of_mem hm
  have he := mq_W_at (E := E) (ad := ad) (M := M) hj
  rw [mq_ce0 hk] at he
  have hset : (mq_W E ad refs M).set j (ad q, .inr (ci, ((List.range N).map (mq_fv E ad M q)).set b (va_rf (w.map ad)))) = mq_W E ad refs (M.1, M.2.1, mq_up M.2.2.1 q.1 q.2 b w, M.2.2.2) := by
    refine mq_W_set hB.2.1 hj (fun r' hr' => mq_ce_eq rfl (mq_up_ne (by exact hr')) rfl) ?_
    rw [mq_ce0 hk, mq_range_set hb]
    congr 2
    apply List.map_congr_left
    intro j' _
    by_cases hjb : j' = b
    · subst hjb
      simp only [mq_fv, hk, hr, if_true, mq_up_at]
    · simp only [mq_fv, mq_up_at, hjb, if_false]
  have hn : narrow (ty0 b) (va_rf (w.map ad)) = va_rf (w.map ad) := by
    rcases hrt with ⟨n, h⟩ | ⟨n, h⟩ <;> rw [h] <;> rcases w with _ | w <;> rfl
  have hft : fits (ty0 b) (va_rf (w.map ad)) = true := by
    rcases hrt with ⟨n, h⟩ | ⟨n, h⟩ <;> rw [h] <;> rcases w with _ | w <;> rfl
  rcases hfin with hfin | ⟨hfin, hin2, hdecl⟩
  · refine va_put (ty := ty0 b) C.1 C.2.1 C.2.2.2.2.1 hin ty0 hty hnm C.2.2.2.1 C.2.2.2.2.2.1 hB.1 hB.2.1 hB.2.2.1 j he hc b hb (C.2.2.2.2.1 _ hlink) (fun _ h => h) hfin (hty b hb) hn hft (by simpa using hb) hd (fun H1 locs1 hP hD hS => ?_)
    obtain ⟨hP, hD⟩ := mq_cvt hset hP hD
    exact kk H1 locs1 ls ad refs (mq_B_up hB rfl (mq_V_up hB.2.2.2.1 hw) hP hD hS) hl hvl (mq_vs_tl (mq_vs_tl hvs))
  · refine va_putF (ty := ty0 b) C.1 C.2.1 C.2.2.2.2.1 hin ty0 hty hnm C.2.2.2.1 C.2.2.2.2.2.1 hB.1 hB.2.1 hB.2.2.1 j he hc b hb (C.2.2.2.2.1 _ hlink) (fun _ h => h) hfin hin2 hdecl (hty b hb) hn hft (by simpa using hb) hd (fun H1 locs1 hP hD hS => ?_)
    obtain ⟨hP, hD⟩ := mq_cvt hset hP hD
    exact kk H1 locs1 ls ad refs (mq_B_up hB rfl (mq_V_up hB.2.2.2.1 hw) hP hD hS) hl hvl (mq_vs_tl (mq_vs_tl hvs))
/-! arrays -/
theorem mq_g_iald (C : mq_C p s m args c cc nL own Ts D cl tys A X) (h9 : (E.1 999).1 = 9) (hk : E.1 q.1 = (1, ci, N)) (ht : tys[t0]? = some (E.2.2 1, .int)) (hi : vp_in x N) (hd : decode cc pc = .ok (.iaload, 1))
    (kk : mq_G p l e R s m args below meth c Q nL E D cl A ad0 refs0 (pc + 1) lv (.inl (M.2.1 q.1 q.2 x.toNatClampNeg) :: r) M cs ss) : mq_G p l e R s m args below meth c Q nL E D cl A ad0 refs0 pc lv (.inl x :: .inr (.inl (some q)) :: r) M cs ss := by
  intro H locs ls ad refs hB hl hvl hvs
  have hm : q ∈ refs := mq_in h9 (hvs q (List.mem_cons_of_mem _ List.mem_cons_self)) hk (Nat.ne_of_beq_eq_false rfl)
  obtain ⟨j, hj⟩ := List.getElem?_of_mem hm
  have he := mq_W_at (E := E) (ad := ad) (M := M) hj
  rw [mq_ceS (.inl rfl) hk] at he
  exact va_iald C.1 C.2.1 C.2.2.2.2.2.1 hB.1 j t0 he ht hi hd (kk H locs ls ad refs hB hl hvl (mq_vs_int (mq_vs_tl (mq_vs_tl hvs))))
theorem mq_g_bald (C : mq_C p s m args c cc nL own Ts D cl tys A X) (h9 : (E.1 999).1 = 9) (hk : E.1 q.1 = (4, ci, N)) (ht : tys[t0]? = some (E.2.2 4, .byte)) (hi : vp_in x N) (hd : decode cc pc = .ok (.baload, 1))
    (kk : mq_G p l e R s m args below meth c Q nL E D cl A ad0 refs0 (pc + 1) lv (.inl (M.2.1 q.1 q.2 x.toNatClampNeg) :: r) M cs ss) : mq_G p l e R s m args below meth c Q nL E D cl A ad0 refs0 pc lv (.inl x :: .inr (.inl (some q)) :: r) M cs ss := by
  intro H locs ls ad refs hB hl hvl hvs
  have hm : q ∈ refs := mq_in h9 (hvs q (List.mem_cons_of_mem _ List.mem_cons_self)) hk (Nat.ne_of_beq_eq_false rfl)
  obtain ⟨j, hj⟩ := List.getElem?_of_mem hm
  have he := mq_W_at (E := E) (ad := ad) (M := M) hj
  rw [mq_ceS (.inr (.inl rfl)) hk] at he
  exact va_bald C.1 C.2.1 C.2.2.2.2.2.1 hB.1 j t0 he ht hi hd (kk H locs ls ad refs hB hl hvl (mq_vs_int (mq_vs_tl (mq_vs_tl hvs))))
theorem mq_g_zald (C : mq_C p s m args c cc nL own Ts D cl tys A X) (h9 : (E.1 999).1 = 9) (hk : E.1 q.1 = (5, ci, N)) (ht : tys[t0]? = some (E.2.2 5, .boolean)) (hi : vp_in x N) (hd : decode cc pc = .ok (.baload, 1))
    (kk : mq_G p l e R s m args below meth c Q nL E D cl A ad0 refs0 (pc + 1) lv (.inl (M.2.1 q.1 q.2 x.toNatClampNeg) :: r) M cs ss) : mq_G p l e R s m args below meth c Q nL E D cl A ad0 refs0 pc lv (.inl x :: .inr (.inl (some q)) :: r) M cs ss := by
  intro H locs ls ad refs hB hl hvl hvs
  have hm : q ∈ refs := mq_in h9 (hvs q (List.mem_cons_of_mem _ List.mem_cons_self)) hk (Nat.ne_of_beq_eq_false rfl)
  obtain ⟨j, hj⟩ := List.getElem?_of_mem hm
  have he := mq_W_at (E := E) (ad := ad) (M := M) hj
  rw [mq_ceS (.inr (.inr rfl)) hk] at he
  exact va_zald C.1 C.2.1 C.2.2.2.2.2.1 hB.1 j t0 he ht hi hd (kk H locs ls ad refs hB hl hvl (mq_vs_int (mq_vs_tl (mq_vs_tl hvs))))
theorem mq_g_lald (C : mq_C p s m args c cc nL own Ts D cl tys A X) (h9 : (E.1 999).1 = 9) (hk : E.1 q.1 = (2, ci, N)) (ht : tys[t0]? = some (E.2.2 2, .long)) (hi : vp_in x N) (hd : decode cc pc = .ok (.laload, 1))
    (kk : mq_G p l e R s m args below meth c Q nL E D cl A ad0 refs0 (pc + 1) lv (.inr (.inr (M.2.2.2 q.1 q.2 x.toNatClampNeg)) :: r) M cs ss) : mq_G p l e R s m args below meth c Q nL E D cl A ad0 refs0 pc lv (.inl x :: .inr (.inl (some q)) :: r) M cs ss := by
  intro H locs ls ad refs hB hl hvl hvs
  have hm : q ∈ refs := mq_in h9 (hvs q (List.mem_cons_of_mem _ List.mem_cons_self)) hk (Nat.ne_of_beq_eq_false rfl)
  obtain ⟨j, hj⟩ := List.getElem?_of_mem hm
  have he := mq_W_at (E := E) (ad := ad) (M := M) hj
  rw [mq_ce2 hk] at he
  exact va_lald C.1 C.2.1 C.2.2.2.2.2.1 hB.1 j t0 he ht hi hd (kk H locs ls ad refs hB hl hvl (mq_vs_long (mq_vs_tl (mq_vs_tl hvs))))
theorem mq_g_aald (C : mq_C p s m args c cc nL own Ts D cl tys A X) (h9 : (E.1 999).1 = 9) (hk : E.1 q.1 = (3, ci, N)) (ht : tys[t0]? = some (E.2.2 (100 + ci), .object C1)) (hi : vp_in x N) (hd : decode cc pc = .ok (.aaload, 1))
    (kk : mq_G p l e R s m args below meth c Q nL E D cl A ad0 refs0 (pc + 1) lv (.inr (.inl (M.2.2.1 q.1 q.2 x.toNatClampNeg)) :: r) M cs ss) : mq_G p l e R s m args below meth c Q nL E D cl A ad0 refs0 pc lv (.inl x :: .inr (.inl (some q)) :: r) M cs ss := by
  intro H locs ls ad refs hB hl hvl hvs
  have hm : q ∈ refs := mq_in h9 (hvs q (List.mem_cons_of_mem _ List.mem_cons_self)) hk (Nat.ne_of_beq_eq_false rfl)
  obtain ⟨j, hj⟩ := List.getElem?_of_mem hm
  have he := mq_W_at (E := E) (ad := ad) (M := M) hj
  rw [mq_ce3 hk] at he
  have hlt : x.toNatClampNeg < N := Nat.not_le.mp fun z => hi (Or.inr z)
  exact va_aldq C.1 C.2.1 C.2.2.2.2.2.1 hB.1 j t0 he ht hi hd (kk H locs ls ad refs hB hl hvl (mq_vs_cons (mq_vs_tl (mq_vs_tl hvs)) (fun r' e => Or.inl (hB.2.2.2.1.2 q hm _ (by rw [hk]; exact hlt) r' (by injection e with e; injection e)))))
theorem mq_g_iast (C : mq_C p s m args c cc nL own Ts D cl tys A X) (h9 : (E.1 999).1 = 9) (hk : E.1 q.1 = (1, ci, N)) (ht : tys[t0]? = some (E.2.2 1, .int)) (hi : vp_in y N) (hd : decode cc pc = .ok (.iastore, 1))
    (kk : mq_G p l e R s m args below meth c Q nL E D cl A ad0 refs0 (pc + 1) lv r (M.1, mq_up M.2.1 q.1 q.2 y.toNatClampNeg x, M.2.2) cs ss) : mq_G p l e R s m args below meth c Q nL E D cl A ad0 refs0 pc lv (.inl x :: .inl y :: .inr (.inl (some q)) :: r) M cs ss := by
  intro H locs ls ad refs hB hl hvl hvs
  have hm : q ∈ refs := mq_in h9 (hvs q (List.mem_cons_of_mem _ (List.mem_cons_of_mem _ List.mem_cons_self))) hk (Nat.ne_of_beq_eq_false rfl)
  obtain ⟨j, hj⟩ := List.getElem?_of_mem hm
  have he := mq_W_at (E := E) (ad := ad) (M := M) hj
  rw [mq_ceS (.inl rfl) hk] at he
  refine va_iast C.1 C.2.1 C.2.2.2.2.2.1 hB.1 hB.2.1 hB.2.2.1 j t0 he ht hi hd (fun H1 locs1 hP hD hS => ?_)
  have hset : (mq_W E ad refs M).set j (ad q, .inl (E.2.2 1, N, .inl (upd (M.2.1 q.1 q.2) y.toNatClampNeg x))) = mq_W E ad refs (M.1, mq_up M.2.1 q.1 q.2 y.toNatClampNeg x, M.2.2) := by
    refine mq_W_set hB.2.1 hj (fun r' hr' => mq_ce_eq (mq_up_ne (by exact hr')) rfl rfl) ?_
    rw [mq_ceS (.inl rfl) hk]
    simp only [mq_up_at]
    rfl
  obtain ⟨hP, hD⟩ := mq_cvt hset hP hD
  exact kk H1 locs1 ls ad refs (mq_B_up hB rfl hB.2.2.2.1.2 hP hD hS) hl hvl (mq_vs_tl (mq_vs_tl (mq_vs_tl hvs)))
theorem mq_g_bast (C : mq_C p s m args c cc nL own Ts D cl tys A X) (h9 : (E.1 999).1 = 9) (hk : E.1 q.1 = (4, ci, N)) (ht : tys[t0]? = some (E.2.2 4, .byte)) (hi : vp_in y N) (hd : decode cc pc = .ok (.bastore, 1))
    (kk : mq_G p l e R s m args below meth c Q nL E D cl A ad0 refs0 (pc + 1) lv r (M.1, mq_up M.2.1 q.1 q.2 y.toNatClampNeg x.toInt8.toInt32, M.2.2) cs ss) : mq_G p l e R s m args below meth c Q nL E D cl A ad0 refs0 pc lv (.inl x :: .inl y :: .inr (.inl (some q)) :: r) M cs ss := by
  intro H locs ls ad refs hB hl hvl hvs
  have hm : q ∈ refs := mq_in h9 (hvs q (List.mem_cons_of_mem _ (List.mem_cons_of_mem _ List.mem_cons_self))) hk (Nat.ne_of_beq_eq_false rfl)
  obtain ⟨j, hj⟩ := List.getElem?_of_mem hm
  have he := mq_W_at (E := E) (ad := ad) (M := M) hj
  rw [mq_ceS (.inr (.inl rfl)) hk] at he
  refine va_bast C.1 C.2.1 C.2.2.2.2.2.1 hB.1 hB.2.1 hB.2.2.1 j t0 he ht hi hd (fun H1 locs1 hP hD hS => ?_)
  have hset : (mq_W E ad refs M).set j (ad q, .inl (E.2.2 4, N, .inl (upd (M.2.1 q.1 q.2) y.toNatClampNeg x.toInt8.toInt32))) = mq_W E ad refs (M.1, mq_up M.2.1 q.1 q.2 y.toNatClampNeg x.toInt8.toInt32, M.2.2) := by
    refine mq_W_set hB.2.1 hj (fun r' hr' => mq_ce_eq (mq_up_ne (by exact hr')) rfl rfl) ?_
    rw [mq_ceS (.inr (.inl rfl)) hk]
    simp only [mq_up_at]
    rfl
  rw [vp_nar_byte] at hP hD
  obtain ⟨hP, hD⟩ := mq_cvt hset hP hD
  exact kk H1 locs1 ls ad refs (mq_B_up hB rfl hB.2.2.2.1.2 hP hD hS) hl hvl (mq_vs_tl (mq_vs_tl (mq_vs_tl hvs)))
theorem mq_g_zast (C : mq_C p s m args c cc nL own Ts D cl tys A X) (h9 : (E.1 999).1 = 9) (hk : E.1 q.1 = (5, ci, N)) (ht : tys[t0]? = some (E.2.2 5, .boolean)) (hi : vp_in y N) (hx : x = 0 ∨ x = 1) (hd : decode cc pc = .ok (.bastore, 1))
    (kk : mq_G p l e R s m args below meth c Q nL E D cl A ad0 refs0 (pc + 1) lv r (M.1, mq_up M.2.1 q.1 q.2 y.toNatClampNeg x, M.2.2) cs ss) : mq_G p l e R s m args below meth c Q nL E D cl A ad0 refs0 pc lv (.inl x :: .inl y :: .inr (.inl (some q)) :: r) M cs ss := by
  intro H locs ls ad refs hB hl hvl hvs
  have hm : q ∈ refs := mq_in h9 (hvs q (List.mem_cons_of_mem _ (List.mem_cons_of_mem _ List.mem_cons_self))) hk (Nat.ne_of_beq_eq_false rfl)
  obtain ⟨j, hj⟩ := List.getElem?_of_mem hm
  have he := mq_W_at (E := E) (ad := ad) (M := M) hj
  rw [mq_ceS (.inr (.inr rfl)) hk] at he
  refine va_zast C.1 C.2.1 C.2.2.2.2.2.1 hB.1 hB.2.1 hB.2.2.1 j t0 he ht hi hd (fun H1 locs1 hP hD hS => ?_)
  have hset : (mq_W E ad refs M).set j (ad q, .inl (E.2.2 5, N, .inl (upd (M.2.1 q.1 q.2) y.toNatClampNeg x))) = mq_W E ad refs (M.1, mq_up M.2.1 q.1 q.2 y.toNatClampNeg x, M.2.2) := by
    refine mq_W_set hB.2.1 hj (fun r' hr' => mq_ce_eq (mq_up_ne (by exact hr')) rfl rfl) ?_
    rw [mq_ceS (.inr (.inr rfl)) hk]
    simp only [mq_up_at]
    rfl
  have hnx : vp_nar .boolean x = x := by rcases hx with rfl | rfl <;> rfl
  rw [hnx] at hP hD
  obtain ⟨hP, hD⟩ := mq_cvt hset hP hD
  exact kk H1 locs1 ls ad refs (mq_B_up hB rfl hB.2.2.2.1.2 hP hD hS) hl hvl (mq_vs_tl (mq_vs_tl (mq_vs_tl hvs)))
theorem mq_g_last (C : mq_C p s m args c cc nL own Ts D cl tys A X) (h9 : (E.1 999).1 = 9) {z : Int64} (hk : E.1 q.1 = (2, ci, N)) (ht : tys[t0]? = some (E.2.2 2, .long)) (hi : vp_in y N) (hd : decode cc pc = .ok (.lastore, 1))
    (kk : mq_G p l e R s m args below meth c Q nL E D cl A ad0 refs0 (pc + 1) lv r (M.1, M.2.1, M.2.2.1, mq_up M.2.2.2 q.1 q.2 y.toNatClampNeg z) cs ss) : mq_G p l e R s m args below meth c Q nL E D cl A ad0 refs0 pc lv (.inr (.inr z) :: .inl y :: .inr (.inl (some q)) :: r) M cs ss := by
  intro H locs ls ad refs hB hl hvl hvs
  have hm : q ∈ refs := mq_in h9 (hvs q (List.mem_cons_of_mem _ (List.mem_cons_of_mem _ List.mem_cons_self))) hk (Nat.ne_of_beq_eq_false rfl)
  obtain ⟨j, hj⟩ := List.getElem?_of_mem hm
  have he := mq_W_at (E := E) (ad := ad) (M := M) hj
  rw [mq_ce2 hk] at he
  refine va_last C.1 C.2.1 C.2.2.2.2.2.1 hB.1 hB.2.1 hB.2.2.1 j t0 he ht hi hd (fun H1 locs1 hP hD hS => ?_)
  have hset : (mq_W E ad refs M).set j (ad q, .inl (E.2.2 2, N, .inr (.inl (vp_updL (M.2.2.2 q.1 q.2) y.toNatClampNeg z)))) = mq_W E ad refs (M.1, M.2.1, M.2.2.1, mq_up M.2.2.2 q.1 q.2 y.toNatClampNeg z) := by
    refine mq_W_set hB.2.1 hj (fun r' hr' => mq_ce_eq rfl rfl (mq_up_ne (by exact hr'))) ?_
    rw [mq_ce2 hk]
    simp only [mq_up_at]
    rfl
  obtain ⟨hP, hD⟩ := mq_cvt hset hP hD
  exact kk H1 locs1 ls ad refs (mq_B_up hB rfl hB.2.2.2.1.2 hP hD hS) hl hvl (mq_vs_tl (mq_vs_tl (mq_vs_tl hvs)))
theorem mq_g_aast (C : mq_C p s m args c cc nL own Ts D cl tys A X) (h9 : (E.1 999).1 = 9) {w : Nat × Nat} {N1 : Nat} (hk : E.1 q.1 = (3, ci, N)) (hkw : E.1 w.1 = (0, ci, N1)) (hc : cl[ci]? = some (C1, T, N1)) (ht : tys[t0]? = some (E.2.2 (100 + ci), .object C1)) (hi : vp_in y N) (hd : decode cc pc = .ok (.aastore, 1))
    (kk : mq_G p l e R s m args below meth c Q nL E D cl A ad0 refs0 (pc + 1) lv r (M.1, M.2.1, mq_up M.2.2.1 q.1 q.2 y.toNatClampNeg (some w), M.2.2.2) cs ss) : mq_G p l e R s m args below meth c Q nL E D cl A ad0 refs0 pc lv (.inr (.inl (some w)) :: .inl y :: .inr (.inl (some q)) :: r) M cs ss := by
  intro H locs ls ad refs hB hl hvl hvs
  have hm : q ∈ refs := mq_in h9 (hvs q (List.mem_cons_of_mem _ (List.mem_cons_of_mem _ List.mem_cons_self))) hk (Nat.ne_of_beq_eq_false rfl)
  have hmw : w ∈ refs := mq_in h9 (hvs w List.mem_cons_self) hkw (Nat.ne_of_beq_eq_false rfl)
  obtain ⟨j, hj⟩ := List.getElem?_of_mem hm
  obtain ⟨jw, hjw⟩ := List.getElem?_of_mem hmw
  have he := mq_W_at (E := E) (ad := ad) (M := M) hj
  have hew := mq_W_at (E := E) (ad := ad) (M := M) hjw
  rw [mq_ce3 hk] at he
  rw [mq_ce0 hkw] at hew
  refine va_astq (r := (C1, T, N1)) C.1 C.2.1 C.2.2.2.2.2.1 hB.1 hB.2.1 hB.2.2.1 j t0 jw ci he ht hew hc hi hd (fun H1 locs1 hP hD hS => ?_)
  have hset : (mq_W E ad refs M).set j (ad q, .inl (E.2.2 (100 + ci), N, .inr (.inr (.inr (.inr (va_up (fun j => (M.2.2.1 q.1 q.2 j).map ad) y.toNatClampNeg (some (ad w)))))))) = mq_W E ad refs (M.1, M.2.1, mq_up M.2.2.1 q.1 q.2 y.toNatClampNeg (some w), M.2.2.2) := by
    refine mq_W_set hB.2.1 hj (fun r' hr' => mq_ce_eq rfl (mq_up_ne (by exact hr')) rfl) ?_
    rw [mq_ce3 hk]
    congr 7
    funext j'
    by_cases hjb : j' = y.toNatClampNeg
    · simp only [mq_up_at, va_up, hjb, if_true, Option.map_some]
    · simp only [mq_up_at, va_up, hjb, if_false]
  obtain ⟨hP, hD⟩ := mq_cvt hset hP hD
  exact kk H1 locs1 ls ad refs (mq_B_up hB rfl (mq_V_up hB.2.2.2.1 (fun r' h => by cases h; exact hmw)) hP hD hS) hl hvl (mq_vs_tl (mq_vs_tl (mq_vs_tl hvs)))
theorem mq_g_alen {cA : ClassId} {ty : FieldType} {z : vp_A} (C : mq_C p s m args c cc nL own Ts D cl tys A X) (h9 : (E.1 999).1 = 9) {t : Nat × Nat × Nat} (hk : E.1 q.1 = t) (h9' : t.1 ≠ 9) (hz : ∀ ad, mq_ce E ad M q = .inl (cA, z)) (hz1 : z.1 = t.2.2) (ht : tys[t0]? = some (cA, ty)) (hd : decode cc pc = .ok (.arraylength, 1))
    (kk : mq_G p l e R s m args below meth c Q nL E D cl A ad0 refs0 (pc + 1) lv (.inl (Int32.ofNat t.2.2) :: r) M cs ss) : mq_G p l e R s m args below meth c Q nL E D cl A ad0 refs0 pc lv (.inr (.inl (some q)) :: r) M cs ss := by
  intro H locs ls ad refs hB hl hvl hvs
  have hm : q ∈ refs := mq_in h9 (hvs q List.mem_cons_self) hk h9'
  obtain ⟨j, hj⟩ := List.getElem?_of_mem hm
  have he := mq_W_at (E := E) (ad := ad) (M := M) hj
  rw [hz ad] at he
  exact va_alen C.1 C.2.1 C.2.2.2.2.2.1 hB.1 j t0 he ht (by rw [hz1]) hd (kk H locs ls ad refs hB hl hvl (mq_vs_int (mq_vs_tl hvs)))
end MQM
end
section
/-! Ends and calls of the machine, over the JVM's. -/
/-- how a method ends: its answer, the memory behind it at the old places, and new cells behind those -/
def mq_Qc (E : mEv) (D : va_G) (cl : List vw_C) (tys : List (ClassId × FieldType)) (A : Nat → Prop) (ad0 : Nat × Nat → Nat) (refs0 : List (Nat × Nat)) (rv : Option mLV) (M' : mMm) : Array Value → State → Outcome → State → Prop := fun _ st oc t =>
  (∃ (ad : Nat × Nat → Nat) (refs : List (Nat × Nat)), oc = .returned (rv.map (mq_cl ad)) ∧ (∀ r, r ∈ refs0 → r ∈ refs) ∧ (∀ r, mq_vr refs0 r → ad r = ad0 r) ∧ va_P D cl (mq_W E ad refs M') t.heap ∧ va_K D cl tys t ∧ va_D A (mq_W E ad refs M') ∧ mq_V E M' refs ∧ ∀ r, rv = some (.inr (some r)) → mq_vr refs r) ∧ va_F A st t
/-- how it starts -/
def mq_Pc (X : State → Prop) (E : mEv) (D : va_G) (cl : List vw_C) (tys : List (ClassId × FieldType)) (sz : Nat) (ad : Nat × Nat → Nat) (refs : List (Nat × Nat)) (as : List mLV) (M : mMm) : Array Value → State → Prop :=
  va_Pc (as.map (mq_cl ad)) (fun U => U.heap.size = sz ∧ va_P D cl (mq_W E ad refs M) U.heap ∧ va_K D cl tys U ∧ va_D (fun _ => True) (mq_W E ad refs M) ∧ X U)
/-- a method's contract at these arguments and this memory -/
def mq_Met (l : Launch) (X : State → Prop) (E : mEv) (D : va_G) (cl : List vw_C) (tys : List (ClassId × FieldType)) (y : MethodName) (ws : List Cond) (rm : Room) (mc ms : Nat) (as : List mLV) (M : mMm) (rv : Option mLV) (M' : mMm) : Prop :=
  ∀ (ad : Nat × Nat → Nat) (refs : List (Nat × Nat)) (sz : Nat), mq_V E M refs → (∀ r, (.inr (some r) : mLV) ∈ as → mq_vr refs r) → Met l y ws rm (mq_Pc X E D cl tys sz ad refs as M) (mq_Qc E D cl tys (va_A (mq_W E ad refs M) sz) ad refs rv M') mc ms (va_A (mq_W E ad refs M) sz)
theorem mq_blind {X : State → Prop} (hX : ∀ u U : State, u.WarmedH U.vm → X u → X U) {E : mEv} {D : va_G} {cl : List vw_C} {tys : List (ClassId × FieldType)} {sz : Nat} {ad : Nat × Nat → Nat} {refs : List (Nat × Nat)} {as : List mLV} {M : mMm} : FrameBlind (mq_Pc X E D cl tys sz ad refs as M) := by
  intro a U g mk q
  obtain ⟨q0, q1, qP, qK, qD, qX⟩ := q
  exact ⟨q0, q1, qP, va_K.moved (u := U) (U := U.calling g mk a) (Vm.Alike.refl U.vm) qK, qD, hX U _ (State.WarmedH.refl U) qX⟩
theorem mq_pop_spec : ∀ (n : Nat) (st : List mAV) (acc as : List mLV) (r : List mAV), mq_pop n st acc = some (as, r) → ∃ pre : List mLV, as = pre ++ acc ∧ pre.length = n ∧ st = (pre.map mq_toA).reverse ++ r
  | 0, st, acc, as, r, h => by
    simp only [mq_pop, Option.some.injEq, Prod.mk.injEq] at h
    exact ⟨[], by rw [← h.1]; rfl, rfl, by rw [← h.2]; rfl⟩
  | n + 1, [], acc, as, r, h => by simp [mq_pop] at h
  | n + 1, .inl x :: st, acc, as, r, h => by
    simp only [mq_pop] at h
    obtain ⟨pre, h1, h2, h3⟩ := mq_pop_spec n st _ as r h
    refine ⟨pre ++ [.inl x], by rw [h1]; simp, by simp [h2], by rw [h3]; simp [mq_toA]⟩
  | n + 1, .inr (.inl q) :: st, acc, as, r, h => by
    simp only [mq_pop] at h
    obtain ⟨pre, h1, h2, h3⟩ := mq_pop_spec n st _ as r h
    refine ⟨pre ++ [.inr q], by rw [h1]; simp, by simp [h2], by rw [h3]; simp [mq_toA]⟩
  | n + 1, .inr (.inr z) :: st, acc, as, r, h => by simp [mq_pop] at h
theorem mq_pop_st {n : Nat} {st r : List mAV} {as : List mLV} (h : mq_pop n st [] = some (as, r)) : as.length = n ∧ st = (as.map mq_toA).reverse ++ r := by
  obtain ⟨pre, h1, h2, h3⟩ := mq_pop_spec n st [] as r h
  rw [List.append_nil] at h1
  subst h1
  exact ⟨h2, h3⟩
section MQC
variable {p : Program} {l : Launch} {e : Env} {R : Room} {s : State} {m : MethodId} {args : Array Value} {below : List Frame} {meth : Method} {c : Code} {Q : State → Prop}
variable {cc : ByteArray} {nL : Nat} {own : String} {Ts : List Cond} {D : va_G} {cl : List vw_C} {tys : List (ClassId × FieldType)} {A : Nat → Prop} {X : State → Prop} {E : mEv} {ad0 : Nat × Nat → Nat} {refs0 : List (Nat × Nat)}
variable {pc tgt i k b ix ci N n t0 : Nat} {lv : List (Nat × mLV)} {r st : List mAV} {M M' : mMm} {cs ss mc ms : Nat} {x y : Int32} {q : Nat × Nat} {rv : Option mLV}
theorem mq_r_int (C : mq_C p s m args c cc nL own Ts D cl tys A X) {ty : FieldType} (hr : meth.sig.returnType = some ty) (hn : narrow ty (.int x) = .int x) (hlocks : meth.locks = false) (hcs : cs ≤ mc) (hss : ss ≤ ms) (hd : decode cc pc = .ok (.ireturn, 1)) :
    mq_G p l e R s m args below meth c (MQ below (mq_Qc E D cl tys A ad0 refs0 (some (.inl x)) M) args s mc ms A) nL E D cl A ad0 refs0 pc lv [.inl x] M cs ss := by
  intro H locs ls ad refs hB hl hvl hvs
  refine W.widen hcs hss ?_
  exact W.zret C.1 C.2.1 hr hn (fun t ht hW => ⟨⟨ad, refs, rfl, hB.2.2.2.2.1, hB.2.2.2.2.2, by rw [ht]; exact hB.1, va_K.moved hW.alike C.2.2.2.2.2.1, hB.2.1, hB.2.2.2.1, fun r h => by cases h⟩, hB.2.2.1.F ht⟩) hB.2.2.1.2.2 hd hlocks
theorem mq_r_void (C : mq_C p s m args c cc nL own Ts D cl tys A X) (hr : meth.sig.returnType = none) (hlocks : meth.locks = false) (hcs : cs ≤ mc) (hss : ss ≤ ms) (hd : decode cc pc = .ok (.return_, 1)) :
    mq_G p l e R s m args below meth c (MQ below (mq_Qc E D cl tys A ad0 refs0 none M) args s mc ms A) nL E D cl A ad0 refs0 pc lv [] M cs ss := by
  intro H locs ls ad refs hB hl hvl hvs
  refine W.widen hcs hss ?_
  exact W.vret C.1 C.2.1 hr (fun t ht hW => ⟨⟨ad, refs, rfl, hB.2.2.2.2.1, hB.2.2.2.2.2, by rw [ht]; exact hB.1, va_K.moved hW.alike C.2.2.2.2.2.1, hB.2.1, hB.2.2.2.1, fun r h => by cases h⟩, hB.2.2.1.F ht⟩) hB.2.2.1.2.2 hd hlocks
theorem mq_r_ref (C : mq_C p s m args c cc nL own Ts D cl tys A X) {w : mRf} {ty : FieldType} (hr : meth.sig.returnType = some ty) (hrt : (∃ n, ty = .object n) ∨ ∃ t, ty = .array t) (hlocks : meth.locks = false) (hcs : cs ≤ mc) (hss : ss ≤ ms) (hd : decode cc pc = .ok (.areturn, 1)) :
    mq_G p l e R s m args below meth c (MQ below (mq_Qc E D cl tys A ad0 refs0 (some (.inr w)) M) args s mc ms A) nL E D cl A ad0 refs0 pc lv [.inr (.inl w)] M cs ss := by
  intro H locs ls ad refs hB hl hvl hvs
  refine W.widen hcs hss ?_
  exact W.aret C.1 C.2.1 hr hrt (va_rf_or _) (fun t ht hW => ⟨⟨ad, refs, rfl, hB.2.2.2.2.1, hB.2.2.2.2.2, by rw [ht]; exact hB.1, va_K.moved hW.alike C.2.2.2.2.2.1, hB.2.1, hB.2.2.2.1, fun r h => by cases h; exact hvs _ List.mem_cons_self⟩, hB.2.2.1.F ht⟩) hB.2.2.1.2.2 hd hlocks
/-- behind a call -/
theorem mq_callg {H H0 : Heap} {locs : List Loc} {cells slots : Nat} {ls : Array Slot} {rest st0 : List Value} {a : Array Value} {A0 A1 : Nat → Prop} {free : Addr → Prop} {ad : Nat × Nat → Nat} {refs : List (Nat × Nat)} (hr : va_Run p l e R s m args below meth c H locs cells slots mc ms (F0 m pc ls st0) rest (mq_Qc E D cl tys A1 ad refs rv M' a) free) (hS : va_S A0 H0 H locs) (hA : ∀ q, q < H.size → A1 q → A0 q) (hf : ∀ q, free q → A0 q)
    (kk : ∀ (ad' : Nat × Nat → Nat) (refs' : List (Nat × Nat)) (t : State) (H1 : Heap) (locs1 : List Loc), t.heap = H1 → s.vm.Alike t.vm → (∀ r, r ∈ refs → r ∈ refs') → (∀ r, mq_vr refs r → ad' r = ad r) → va_P D cl (mq_W E ad' refs' M') H1 → va_D A1 (mq_W E ad' refs' M') → mq_V E M' refs' → (∀ r, rv = some (.inr (some r)) → mq_vr refs' r) → H.size ≤ H1.size → va_S A0 H0 H1 locs1 → W p l e R s m args below meth c H1 locs1 (cells + mc) (slots + ms) Q (F0 m (pc + 3) ls ((rv.map (mq_cl ad')).toList ++ rest))) : W p l e R s m args below meth c H locs cells slots Q (F0 m pc ls st0) := by
  intro T hT X
  obtain ⟨v, st₀, t, T', L, h0, X', hL, e1, e2, ⟨⟨ad', refs', hv, g1, g2, g3, g4, g5, g6, g7⟩, hz, hk⟩, st⟩ := hr T hT X
  injection hv with hv
  subst hv
  rw [h0] at hz hk
  obtain ⟨t2, a1, b1⟩ := kk ad' refs' t T'.heap (locs ++ L) e1.symm (by rw [← e2]; exact X'.warmed.alike) g1 g2 (by rw [e1]; exact g3) g5 g6 g7 (by rw [e1]; exact hz)
    ⟨Nat.le_trans hS.1 (by rw [e1]; exact hz), fun q h1 h2 => by rw [e1, hk q (Nat.lt_of_lt_of_le h1 hS.1) (fun z => h2 (hA q (Nat.lt_of_lt_of_le h1 hS.1) z))]; exact hS.2.1 q h1 h2, fun q hq => by
      rcases List.mem_append.mp hq with h | h
      · exact hS.2.2 q h
      · exact hf _ (hL q h)⟩ T' rfl X'
  exact ⟨t2, st t2 a1, b1⟩
theorem mq_lm_ad {ad ad' : Nat × Nat → Nat} {refs : List (Nat × Nat)} (h : ∀ r, mq_vr refs r → ad' r = ad r) (hv : mq_vl refs lv) : mq_lm ad' lv = mq_lm ad lv := by
  unfold mq_lm
  apply List.map_congr_left
  intro z hz
  obtain ⟨i, v⟩ := z
  rcases v with x | (_ | w)
  · rfl
  · rfl
  · have e := h w (hv i w hz)
    simp only [mq_cl, Option.map_some, e]
theorem mq_st_ad {ad ad' : Nat × Nat → Nat} {refs : List (Nat × Nat)} (h : ∀ r, mq_vr refs r → ad' r = ad r) (hv : mq_vs refs st) : st.map (mq_cv ad') = st.map (mq_cv ad) := by
  apply List.map_congr_left
  intro z hz
  rcases z with x | ((_ | w) | x)
  · rfl
  · rfl
  · have e := h w (hv w hz)
    simp only [mq_cv, Option.map_some, e]
  · rfl
theorem mq_psh_map (ad : Nat × Nat → Nat) : (mq_psh rv r).map (mq_cv ad) = (rv.map (mq_cl ad)).toList ++ r.map (mq_cv ad) := by
  rcases rv with _ | v
  · rfl
  · simp only [mq_psh, List.map_cons, mq_cv_toA, Option.map_some, Option.toList_some, List.singleton_append]
theorem mq_vr_mono {refs refs' : List (Nat × Nat)} (h : ∀ r, r ∈ refs → r ∈ refs') {w : Nat × Nat} (hw : mq_vr refs w) : mq_vr refs' w := hw.imp (h w) id
/-- a call's row out of its run at every place -/
theorem mq_g_call (C : mq_C p s m args c cc nL own Ts D cl tys A X) {as : List mLV} (hpop : mq_pop b st [] = some (as, r))
    (hrun : ∀ (H : Heap) (locs : List Loc) (ls : Array Slot) (ad : Nat × Nat → Nat) (refs : List (Nat × Nat)), mq_B E D cl A s ad0 refs0 ad refs M H locs → lv_has ls nL (mq_lm ad lv) → (∀ r, (.inr (some r) : mLV) ∈ as → mq_vr refs r) → ∃ av : Array Value, va_Run p l e R s m args below meth c H locs cs ss mc ms (F0 m pc ls ((as.map (mq_cl ad)).reverse ++ r.map (mq_cv ad))) (r.map (mq_cv ad)) (mq_Qc E D cl tys (va_A (mq_W E ad refs M) H.size) ad refs rv M' av) (va_A (mq_W E ad refs M) H.size))
    (kk : mq_G p l e R s m args below meth c Q nL E D cl A ad0 refs0 (pc + 3) lv (mq_psh rv r) M' (cs + mc) (ss + ms)) : mq_G p l e R s m args below meth c Q nL E D cl A ad0 refs0 pc lv st M cs ss := by
  intro H locs ls ad refs hB hl hvl hvs
  obtain ⟨hlen, hst⟩ := mq_pop_st hpop
  have hva : ∀ w, (.inr (some w) : mLV) ∈ as → mq_vr refs w := fun w hw => hvs w (by
    rw [hst]
    exact List.mem_append_left _ (List.mem_reverse.mpr (List.mem_map.mpr ⟨_, hw, rfl⟩)))
  have hvr : mq_vs refs r := fun w hw => hvs w (by rw [hst]; exact List.mem_append_right _ hw)
  obtain ⟨av, hR⟩ := hrun H locs ls ad refs hB hl hva
  have hmap : st.map (mq_cv ad) = (as.map (mq_cl ad)).reverse ++ r.map (mq_cv ad) := by
    rw [hst, List.map_append, List.map_reverse, List.map_map]
    congr 2
    apply List.map_congr_left
    intro v _
    exact mq_cv_toA ad v
  rw [hmap]
  have hAA : ∀ q, va_A (mq_W E ad refs M) H.size q → A q := by
    intro q hq
    rcases hq with ⟨k, e, hk⟩ | hq
    · exact hB.2.1.2 k _ hk
    · exact C.2.2.2.2.2.2.1 q (Nat.le_trans hB.2.2.1.1 hq)
  refine mq_callg hR hB.2.2.1 (fun q _ h => hAA q h) hAA (fun ad' refs' t H1 locs1 ht hvm hsub had hP hD hV hrv hz hS => ?_)
  have hw := kk H1 locs1 ls ad' refs' ⟨hP, hD.weaken (fun _ _ _ h => hAA _ h), hS, hV, fun w hw => hsub w (hB.2.2.2.2.1 w hw), fun w hw => (had w (mq_vr_mono hB.2.2.2.2.1 hw)).trans (hB.2.2.2.2.2 w hw)⟩ (by rw [mq_lm_ad had hvl]; exact hl) (fun i w h => mq_vr_mono hsub (hvl i w h)) (by
    intro w hw
    rcases rv with _ | v
    · exact mq_vr_mono hsub (hvr w hw)
    · rcases List.mem_cons.mp hw with h | h
      · refine hrv w ?_
        rcases v with x | u
        · cases h
        · simp only [mq_toA, Sum.inr.injEq, Sum.inl.injEq] at h
          rw [← h]
      · exact mq_vr_mono hsub (hvr w h))
  rw [mq_psh_map, mq_st_ad had hvr] at hw
  exact hw
/-- what a callee's start asks, at the call -/
theorem mq_pre {H : Heap} {locs : List Loc} {ad : Nat × Nat → Nat} {refs : List (Nat × Nat)} {as : List mLV} (C : mq_C p s m args c cc nL own Ts D cl tys A X) (hB : mq_B E D cl A s ad0 refs0 ad refs M H locs) : ∀ U : State, U.heap = H → s.WarmedH U.vm → mq_Pc X E D cl tys H.size ad refs as M (as.map (mq_cl ad)).toArray U :=
  fun U hU hW => ⟨rfl, by rw [hU], by rw [hU]; exact hB.1, va_K.moved hW.alike C.2.2.2.2.2.1, hB.2.1.weaken (fun _ _ _ _ => trivial), C.2.2.2.2.2.2.2.2 s U hW C.2.2.2.2.2.2.2.1⟩
theorem mq_sum (ad : Nat × Nat → Nat) : ∀ r : List mAV, ((r.map (mq_cv ad)).map fun v => v.category).sum ≤ 2 * r.length
  | [] => Nat.le_refl _
  | v :: r => by
    have h := mq_sum ad r
    have hc : (mq_cv ad v).category ≤ 2 := by rcases lv_cat (mq_cv ad v) with h | h <;> omega
    simp only [List.map_cons, List.sum_cons, List.length_cons]
    omega
theorem mq_room {ad : Nat × Nat → Nat} {ls : Array Slot} {st0 : List Value} (h : r.length ≤ 4) : 2 * (F0 m pc ls st0).monitorRoom + ((r.map (mq_cv ad)).map fun v => v.category).sum ≤ 8 := lv_room (by have := mq_sum ad r; omega)
variable {yM : MethodName} {bytes : ByteArray} {maxL nA : Nat} {ret : Option FieldType} {ws : List Cond} {rm : Room} {C1 : String} {qC : vw_C} {as : List mLV}
theorem mq_g_callV (C : mq_C p s m args c cc nL own Ts D cl tys A X) (h9 : (E.1 999).1 = 9) (hpop : mq_pop b st [] = some (.inr (some q) :: as, r)) (hk : E.1 q.1 = (0, ci, N)) (hc : cl[ci]? = some qC) (hM : mq_Met l X E D cl tys yM ws rm mc ms (.inr (some q) :: as) M rv M') (cw : CallW R s args own qC.1 ix yM bytes maxL ret ws rm mc ms nA) (hn : as.length = nA) (hr4 : r.length ≤ 4) (hf : cs + mc ≤ R.cells ∧ ss + ms ≤ R.slots) (hd : decode cc pc = .ok (.invokevirtual ix, 3))
    (kk : mq_G p l e R s m args below meth c Q nL E D cl A ad0 refs0 (pc + 3) lv (mq_psh rv r) M' (cs + mc) (ss + ms)) : mq_G p l e R s m args below meth c Q nL E D cl A ad0 refs0 pc lv st M cs ss := by
  refine mq_g_call C hpop (fun H locs ls ad refs hB hl hva => ⟨(Value.ref (ad q) :: as.map (mq_cl ad)).toArray, ?_⟩) kk
  have hm : q ∈ refs := mq_in h9 (hva q List.mem_cons_self) hk (Nat.ne_of_beq_eq_false rfl)
  obtain ⟨j, hj⟩ := List.getElem?_of_mem hm
  have he := mq_W_at (E := E) (ad := ad) (M := M) hj
  rw [mq_ce0 hk] at he
  have hstk : (((.inr (some q) : mLV) :: as).map (mq_cl ad)).reverse ++ r.map (mq_cv ad) = (as.map (mq_cl ad)).reverse ++ .ref (ad q) :: r.map (mq_cv ad) := by
    rw [List.map_cons, List.reverse_cons, List.append_assoc]; rfl
  exact va_runV (b := ad q) (As := as.map (mq_cl ad)) (nL := nL) ⟨C.1, C.2.1, C.2.2.1, C.2.2.2.1, C.2.2.2.2.1⟩ (hM ad refs H.size hB.2.2.2.1 hva) cw ⟨mq_blind C.2.2.2.2.2.2.2.2, va_recv C.2.2.2.2.2.1 hB.1 hc he, mq_pre C hB⟩ rfl (by rw [List.length_map, hn]) hl.1 hstk (mq_room hr4) hd hf
theorem mq_g_callS (C : mq_C p s m args c cc nL own Ts D cl tys A X) (hpop : mq_pop b st [] = some (as, r)) (hM : mq_Met l X E D cl tys yM ws rm mc ms as M rv M') (cw : CallB R s args own ix yM bytes maxL ret ws rm mc ms nA ∧ (Jvm.Cond.static yM).before args s = true) (hn : as.length = nA) (hr4 : r.length ≤ 4) (hf : cs + mc ≤ R.cells ∧ ss + ms ≤ R.slots) (hd : decode cc pc = .ok (.invokestatic ix, 3))
    (kk : mq_G p l e R s m args below meth c Q nL E D cl A ad0 refs0 (pc + 3) lv (mq_psh rv r) M' (cs + mc) (ss + ms)) : mq_G p l e R s m args below meth c Q nL E D cl A ad0 refs0 pc lv st M cs ss := by
  refine mq_g_call C hpop (fun H locs ls ad refs hB hl hva => ⟨(as.map (mq_cl ad)).toArray, ?_⟩) kk
  exact va_runS (As := as.map (mq_cl ad)) (nL := nL) ⟨C.1, C.2.1, C.2.2.1, C.2.2.2.1, C.2.2.2.2.1⟩ (hM ad refs H.size hB.2.2.2.1 hva) cw ⟨mq_blind C.2.2.2.2.2.2.2.2, mq_pre C hB⟩ rfl (by rw [List.length_map, hn]) hl.1 rfl (mq_room hr4) hd hf
theorem mq_g_callI (C : mq_C p s m args c cc nL own Ts D cl tys A X) (hpop : mq_pop b st [] = some (.inr (some q) :: as, r)) (hM : mq_Met l X E D cl tys yM ws rm mc ms (.inr (some q) :: as) M rv M') (cw : CallB R s args own ix yM bytes maxL none ws rm mc ms nA ∧ yM.name = "<init>" ∧ (Jvm.Cond.instanceMethod yM).before args s = true) (hn : as.length = nA) (hr4 : r.length ≤ 4) (hf : cs + mc ≤ R.cells ∧ ss + ms ≤ R.slots) (hd : decode cc pc = .ok (.invokespecial ix, 3))
    (kk : mq_G p l e R s m args below meth c Q nL E D cl A ad0 refs0 (pc + 3) lv (mq_psh rv r) M' (cs + mc) (ss + ms)) : mq_G p l e R s m args below meth c Q nL E D cl A ad0 refs0 pc lv st M cs ss := by
  refine mq_g_call C hpop (fun H locs ls ad refs hB hl hva => ⟨(Value.ref (ad q) :: as.map (mq_cl ad)).toArray, ?_⟩) kk
  have hstk : (((.inr (some q) : mLV) :: as).map (mq_cl ad)).reverse ++ r.map (mq_cv ad) = (as.map (mq_cl ad)).reverse ++ .ref (ad q) :: r.map (mq_cv ad) := by
    rw [List.map_cons, List.reverse_cons, List.append_assoc]; rfl
  exact va_runI (b := ad q) (As := as.map (mq_cl ad)) (nL := nL) ⟨C.1, C.2.1, C.2.2.1, C.2.2.2.1, C.2.2.2.2.1⟩ (hM ad refs H.size hB.2.2.2.1 hva) cw ⟨mq_blind C.2.2.2.2.2.2.2.2, mq_pre C hB⟩ rfl (by rw [List.length_map, hn]) hl.1 hstk (mq_room hr4) hd hf
theorem mq_g_callSN {host : String} (C : mq_C p s m args c cc nL own Ts D cl tys A X) (hpop : mq_pop b st [] = some (as, r)) (hM : mq_Met l X E D cl tys yM ws rm mc ms as M rv M') (cw : va_CN R s args own ix yM host bytes maxL ret ws rm mc ms nA ∧ (Jvm.Cond.static yM).before args s = true) (hn : as.length = nA) (hr4 : r.length ≤ 4) (hf : cs + mc ≤ R.cells ∧ ss + ms ≤ R.slots) (hd : decode cc pc = .ok (.invokestatic ix, 3))
    (kk : mq_G p l e R s m args below meth c Q nL E D cl A ad0 refs0 (pc + 3) lv (mq_psh rv r) M' (cs + mc) (ss + ms)) : mq_G p l e R s m args below meth c Q nL E D cl A ad0 refs0 pc lv st M cs ss := by
  refine mq_g_call C hpop (fun H locs ls ad refs hB hl hva => ⟨(as.map (mq_cl ad)).toArray, ?_⟩) kk
  exact va_runSN (As := as.map (mq_cl ad)) (nL := nL) ⟨C.1, C.2.1, C.2.2.1, C.2.2.2.1, C.2.2.2.2.1⟩ (hM ad refs H.size hB.2.2.2.1 hva) ⟨cw.1, cw.2, trivial⟩ ⟨mq_blind C.2.2.2.2.2.2.2.2, mq_pre C hB⟩ rfl (by rw [List.length_map, hn]) hl.1 rfl (mq_room hr4) hd hf
theorem mq_g_callIN {host : String} (C : mq_C p s m args c cc nL own Ts D cl tys A X) (hpop : mq_pop b st [] = some (.inr (some q) :: as, r)) (hM : mq_Met l X E D cl tys yM ws rm mc ms (.inr (some q) :: as) M rv M') (cw : va_CN R s args own ix yM host bytes maxL none ws rm mc ms nA ∧ yM.name = "<init>" ∧ (Jvm.Cond.instanceMethod yM).before args s = true) (hn : as.length = nA) (hr4 : r.length ≤ 4) (hf : cs + mc ≤ R.cells ∧ ss + ms ≤ R.slots) (hd : decode cc pc = .ok (.invokespecial ix, 3))
    (kk : mq_G p l e R s m args below meth c Q nL E D cl A ad0 refs0 (pc + 3) lv (mq_psh rv r) M' (cs + mc) (ss + ms)) : mq_G p l e R s m args below meth c Q nL E D cl A ad0 refs0 pc lv st M cs ss := by
  refine mq_g_call C hpop (fun H locs ls ad refs hB hl hva => ⟨(Value.ref (ad q) :: as.map (mq_cl ad)).toArray, ?_⟩) kk
  have hstk : (((.inr (some q) : mLV) :: as).map (mq_cl ad)).reverse ++ r.map (mq_cv ad) = (as.map (mq_cl ad)).reverse ++ .ref (ad q) :: r.map (mq_cv ad) := by
    rw [List.map_cons, List.reverse_cons, List.append_assoc]; rfl
  exact va_runIN (b := ad q) (As := as.map (mq_cl ad)) (nL := nL) ⟨C.1, C.2.1, C.2.2.1, C.2.2.2.1, C.2.2.2.2.1⟩ (hM ad refs H.size hB.2.2.2.1 hva) cw ⟨mq_blind C.2.2.2.2.2.2.2.2, mq_pre C hB⟩ rfl (by rw [List.length_map, hn]) hl.1 hstk (mq_room hr4) hd hf
theorem mq_g_obj (C : mq_C p s m args c cc nL own Ts D cl tys A X) (hlink : Jvm.Cond.methodLink own ix objectInit ∈ Ts) (hinst : Jvm.Cond.instanceMethod objectInit ∈ Ts) (hcode : Jvm.Cond.code objectInit ⟨#[0xb1]⟩ 1 none ∈ Ts) (hr4 : r.length ≤ 4) (hR : 1 ≤ R.frames ∧ 20 ≤ R.locals) (hd : decode cc pc = .ok (.invokespecial ix, 3))
    (kk : mq_G p l e R s m args below meth c Q nL E D cl A ad0 refs0 (pc + 3) lv r M cs ss) : mq_G p l e R s m args below meth c Q nL E D cl A ad0 refs0 pc lv (.inr (.inl (some q)) :: r) M cs ss := by
  intro H locs ls ad refs hB hl hvl hvs
  refine W.objInit (rest := r.map (mq_cv ad)) (a := ad q) C.1 C.2.1 C.2.2.2.1 (C.2.2.2.2.1 _ hlink) (C.2.2.2.2.1 _ hinst) (C.2.2.2.2.1 _ hcode) rfl (by rw [C.2.2.1]; exact hl.1) rfl hd hR.1 (by have := mq_room (m := m) (pc := pc) (ad := ad) (ls := ls) (st0 := []) hr4; show 2 * 0 + _ + 12 ≤ _; have h2 : 2 * 0 + ((r.map (mq_cv ad)).map fun v => v.category).sum ≤ 8 := this; omega) ?_
  exact W.eq (g2 := F0 m (pc + 3) ls (r.map (mq_cv ad))) rfl (kk H locs ls ad refs hB hl hvl (mq_vs_tl hvs))
theorem mq_g_min (C : mq_C p s m args c cc nL own Ts D cl tys A X) (h1 : Jvm.Cond.methodLink own ix Lib.Math.min.name ∈ Ts) (h2 : Jvm.Cond.static Lib.Math.min.name ∈ Ts) (h3 : Jvm.Cond.initialized "java/lang/Math" ∈ Ts) (h4 : Jvm.Cond.code Lib.Math.min.name Lib.Math.min.code 2 (some .int) ∈ Ts) (hr4 : r.length ≤ 4) (hR : 1 ≤ R.frames ∧ 21 ≤ R.locals) (hf : cs ≤ R.cells ∧ ss ≤ R.slots) (hd : decode cc pc = .ok (.invokestatic ix, 3))
    (kk : mq_G p l e R s m args below meth c Q nL E D cl A ad0 refs0 (pc + 3) lv (.inl (if y < x then y else x) :: r) M cs ss) : mq_G p l e R s m args below meth c Q nL E D cl A ad0 refs0 pc lv (.inl y :: .inl x :: r) M cs ss := by
  intro H locs ls ad refs hB hl hvl hvs
  exact va_mmin (rest := r.map (mq_cv ad)) C.1 C.2.1 (by rw [C.2.2.1]; exact hl.1.symm) C.2.2.2.1 (C.2.2.2.2.1 _ h1) (C.2.2.2.2.1 _ h2) (C.2.2.2.2.1 _ h3) (C.2.2.2.2.1 _ h4) hR.1 (by have := mq_sum ad r; omega) hf.1 hf.2 hd (kk H locs ls ad refs hB hl hvl (mq_vs_int (mq_vs_tl (mq_vs_tl hvs))))
theorem mq_g_sld (C : mq_C p s m args c cc nL own Ts D cl tys A X) {L : Nat} {xs : Nat → Int32} (hX : va_X (ad0 mq_sr) L xs s s.heap ∧ ad0 mq_sr < s.heap.size ∧ ¬ A (ad0 mq_sr)) (hi : vp_in x L) (hd : decode cc pc = .ok (.iaload, 1))
    (kk : mq_G p l e R s m args below meth c Q nL E D cl A ad0 refs0 (pc + 1) lv (.inl (xs x.toNatClampNeg) :: r) M cs ss) : mq_G p l e R s m args below meth c Q nL E D cl A ad0 refs0 pc lv (.inl x :: .inr (.inl (some mq_sr)) :: r) M cs ss := by
  intro H locs ls ad refs hB hl hvl hvs
  have had : ad mq_sr = ad0 mq_sr := hB.2.2.2.2.2 mq_sr (Or.inr rfl)
  have h := va_sld (ls := ls) (rest := r.map (mq_cv ad)) C.1 C.2.1 hX.1 hX.2.1 hX.2.2 hB.2.2.1 hi hd (kk H locs ls ad refs hB hl hvl (mq_vs_int (mq_vs_tl (mq_vs_tl hvs))))
  rw [← had] at h
  exact h
theorem mq_g_slen (C : mq_C p s m args c cc nL own Ts D cl tys A X) {L : Nat} {xs : Nat → Int32} (hX : va_X (ad0 mq_sr) L xs s s.heap ∧ ad0 mq_sr < s.heap.size ∧ ¬ A (ad0 mq_sr)) (hd : decode cc pc = .ok (.arraylength, 1))
    (kk : mq_G p l e R s m args below meth c Q nL E D cl A ad0 refs0 (pc + 1) lv (.inl (Int32.ofNat L) :: r) M cs ss) : mq_G p l e R s m args below meth c Q nL E D cl A ad0 refs0 pc lv (.inr (.inl (some mq_sr)) :: r) M cs ss := by
  intro H locs ls ad refs hB hl hvl hvs
  have had : ad mq_sr = ad0 mq_sr := hB.2.2.2.2.2 mq_sr (Or.inr rfl)
  have h := va_slen (ls := ls) (rest := r.map (mq_cv ad)) C.1 C.2.1 hX.1 hX.2.1 hX.2.2 hB.2.2.1 hd (kk H locs ls ad refs hB hl hvl (mq_vs_int (mq_vs_tl hvs)))
  rw [← had] at h
  exact h
end MQC
end
section
/-! New cells. -/
section MQN
variable {p : Program} {l : Launch} {e : Env} {R : Room} {s : State} {m : MethodId} {args : Array Value} {below : List Frame} {meth : Method} {c : Code} {Q : State → Prop}
variable {cc : ByteArray} {nL : Nat} {own : String} {Ts : List Cond} {D : va_G} {cl : List vw_C} {tys : List (ClassId × FieldType)} {A : Nat → Prop} {X : State → Prop} {E : mEv} {ad0 : Nat × Nat → Nat} {refs0 : List (Nat × Nat)}
variable {pc k ix ci N t0 : Nat} {lv : List (Nat × mLV)} {r : List mAV} {M : mMm} {cs ss : Nat} {C1 : String} {T : u_T}
def mq_nad (ad : Nat × Nat → Nat) (z : Nat × Nat) (q0 : Nat) : Nat × Nat → Nat := fun r => if r = z then q0 else ad r
theorem mq_nad_ne {ad : Nat × Nat → Nat} {z w : Nat × Nat} {q0 : Nat} (h : w ≠ z) : mq_nad ad z q0 w = ad w := if_neg h
theorem mq_nad_at {ad : Nat × Nat → Nat} {z : Nat × Nat} {q0 : Nat} : mq_nad ad z q0 z = q0 := if_pos rfl
theorem mq_fresh {refs : List (Nat × Nat)} (hV : mq_V E M refs) : (k, M.1 k) ∉ refs := fun h => Nat.lt_irrefl _ ((hV.1 _).mp h)
theorem mq_B_new {ad : Nat × Nat → Nat} {refs : List (Nat × Nat)} {H H1 : Heap} {locs locs1 : List Loc} {q0 : Nat} {e0 : va_E} (hB : mq_B E D cl A s ad0 refs0 ad refs M H locs) (hne : k ≠ 999) (hP : va_P D cl (mq_W E ad refs M ++ [(q0, e0)]) H1) (hD : va_D A (mq_W E ad refs M ++ [(q0, e0)])) (hS : va_S A s.heap H1 locs1) (he : mq_ce E (mq_nad ad (k, M.1 k) q0) (mq_new M k) (k, M.1 k) = e0) :
    mq_B E D cl A s ad0 refs0 (mq_nad ad (k, M.1 k) q0) (refs ++ [(k, M.1 k)]) (mq_new M k) H1 locs1 := by
  have hfr := mq_fresh (k := k) hB.2.2.2.1
  have hnr : ∀ w, w ∈ refs → w ≠ (k, M.1 k) := fun w hw h => hfr (h ▸ hw)
  have hlen : (mq_W E ad refs M).length = refs.length := by rw [mq_W, List.length_map]
  refine ⟨?_, ?_, hS, ⟨?_, ?_⟩, ?_, ?_⟩
  · intro j z hz
    obtain ⟨w, hw, rfl⟩ := mq_W_inv hz
    by_cases hj : j < refs.length
    · rw [List.getElem?_append_left hj] at hw
      have hwm := List.mem_of_getElem? hw
      have h0 := hP j (ad w, mq_ce E ad M w) (by rw [List.getElem?_append_left (by rw [hlen]; exact hj)]; exact mq_W_at hw)
      rw [mq_nad_ne (hnr w hwm)]
      refine mq_at_congr (fun j' _ => ?_) (fun j' hj' => ?_) (fun j' _ => ?_) h0
      · exact congrFun (mq_cr_ne (hnr w hwm)) j'
      · have e1 : (mq_new M k).2.2.1 w.1 w.2 j' = M.2.2.1 w.1 w.2 j' := congrFun (mq_cr_ne (hnr w hwm)) j'
        rw [e1]
        cases h1 : M.2.2.1 w.1 w.2 j' with
        | none => rfl
        | some u => simp only [Option.map_some, mq_nad_ne (hnr u (hB.2.2.2.1.2 w hwm j' hj' u h1))]
      · exact congrFun (mq_cr_ne (hnr w hwm)) j'
    · rw [List.getElem?_append_right (by omega)] at hw
      have hz0 : j - refs.length < 1 := (List.getElem?_eq_some_iff.mp hw).1
      have hj0 : j = refs.length := by omega
      subst hj0
      rw [Nat.sub_self] at hw
      cases hw
      have h0 := hP refs.length (q0, e0) (by rw [List.getElem?_append_right (by omega), hlen, Nat.sub_self]; rfl)
      rw [mq_nad_at, he]
      exact h0
  · refine mq_D_same hD ?_
    rw [mq_W_fst, List.map_append, List.map_append, mq_W_fst]
    congr 1
    · exact List.map_congr_left (fun w hw => mq_nad_ne (hnr w hw))
    · simp only [List.map_cons, List.map_nil, mq_nad_at]
  · intro w
    rw [List.mem_append, List.mem_singleton, hB.2.2.2.1.1 w]
    obtain ⟨w1, w2⟩ := w
    by_cases hw : w1 = k
    · subst hw
      simp only [mq_new, if_true, Prod.mk.injEq, true_and]
      omega
    · simp only [mq_new, hw, if_false, Prod.mk.injEq, false_and, or_false]
  · intro w hw j hj u hu
    by_cases hwz : w = (k, M.1 k)
    · subst hwz
      have e1 : (mq_new M k).2.2.1 k (M.1 k) j = none := congrFun mq_cr_at j
      rw [e1] at hu
      cases hu
    · have e1 : (mq_new M k).2.2.1 w.1 w.2 j = M.2.2.1 w.1 w.2 j := congrFun (mq_cr_ne hwz) j
      rw [e1] at hu
      rcases List.mem_append.mp hw with h | h
      · exact List.mem_append_left _ (hB.2.2.2.1.2 w h j hj u hu)
      · exact absurd (List.mem_singleton.mp h) hwz
  · exact fun w hw => List.mem_append_left _ (hB.2.2.2.2.1 w hw)
  · intro w hw
    rcases hw with hw | hw
    · rw [mq_nad_ne (hnr w (hB.2.2.2.2.1 w hw))]
      exact hB.2.2.2.2.2 w (Or.inl hw)
    · rw [mq_nad_ne (by rw [hw]; intro h; exact hne (Prod.mk.inj h).1.symm)]
      exact hB.2.2.2.2.2 w (Or.inr hw)
theorem mq_new_lm {ad : Nat × Nat → Nat} {refs : List (Nat × Nat)} {q0 : Nat} (hV : mq_V E M refs) (hne : k ≠ 999) : ∀ w, mq_vr refs w → mq_nad ad (k, M.1 k) q0 w = ad w := by
  intro w hw
  rcases hw with hw | hw
  · exact mq_nad_ne (fun h => mq_fresh hV (h ▸ hw))
  · exact mq_nad_ne (by rw [hw]; intro h; exact hne (Prod.mk.inj h).1.symm)
/-- the walk goes on with the new cell -/
theorem mq_new_go {ad : Nat × Nat → Nat} {refs : List (Nat × Nat)} {H H1 : Heap} {locs locs1 : List Loc} {ls : Array Slot} {q0 : Nat} {e0 : va_E} {cs' ss' pc' : Nat} (hB : mq_B E D cl A s ad0 refs0 ad refs M H locs) (hl : lv_has ls nL (mq_lm ad lv)) (hvl : mq_vl refs lv) (hvs : mq_vs refs r) (hne : k ≠ 999) (hP : va_P D cl (mq_W E ad refs M ++ [(q0, e0)]) H1) (hD : va_D A (mq_W E ad refs M ++ [(q0, e0)])) (hS : va_S A s.heap H1 locs1) (he : mq_ce E (mq_nad ad (k, M.1 k) q0) (mq_new M k) (k, M.1 k) = e0)
    (kk : mq_G p l e R s m args below meth c Q nL E D cl A ad0 refs0 pc' lv (.inr (.inl (some (k, M.1 k))) :: r) (mq_new M k) cs' ss') : W p l e R s m args below meth c H1 locs1 cs' ss' Q (F0 m pc' ls (.ref q0 :: r.map (mq_cv ad))) := by
  have had := mq_new_lm (ad := ad) (q0 := q0) hB.2.2.2.1 hne
  have hsub : ∀ w, w ∈ refs → w ∈ refs ++ [(k, M.1 k)] := fun w hw => List.mem_append_left _ hw
  have h := kk H1 locs1 ls (mq_nad ad (k, M.1 k) q0) (refs ++ [(k, M.1 k)]) (mq_B_new hB hne hP hD hS he) (by rw [mq_lm_ad had hvl]; exact hl) (fun i w h => (hvl i w h).imp (hsub w) id) (by
    refine mq_vs_cons (fun w hw => (hvs w hw).imp (hsub w) id) (fun w hw => ?_)
    injection hw with hw
    injection hw with hw
    injection hw with hw
    rw [← hw]
    exact Or.inl (List.mem_append_right _ List.mem_cons_self))
  rw [List.map_cons, mq_st_ad had hvs] at h
  have e1 : mq_cv (mq_nad ad (k, M.1 k) q0) (.inr (.inl (some (k, M.1 k)))) = .ref q0 := by
    show Value.ref (mq_nad ad (k, M.1 k) q0 (k, M.1 k)) = _
    rw [mq_nad_at]
  rw [e1] at h
  exact h
theorem mq_g_new (C : mq_C p s m args c cc nL own Ts D cl tys A X) (hne : k ≠ 999) (hk : E.1 k = (0, ci, N)) (hc : cl[ci]? = some (C1, T, N)) (hin : ∀ w ∈ u_ws C1 T N, w ∈ Ts) (ty0 : Nat → FieldType) (hty : ∀ k, k < N → parseFieldDescriptor (T k).2.2.1 = some (ty0 k)) (hdf : ∀ j, j < N → defaultValue (ty0 j) = if E.2.1 ci j then .null else .int 0) (hcl : Jvm.Cond.classLink own ix C1 ∈ Ts) (hins : Jvm.Cond.instantiable C1 N ∈ Ts) (hini : Jvm.Cond.initialized C1 ∈ Ts) (hf : cs + 1 ≤ R.cells ∧ ss + N ≤ R.slots) (hd : decode cc pc = .ok (.new ix, 3))
    (kk : mq_G p l e R s m args below meth c Q nL E D cl A ad0 refs0 (pc + 3) lv (.inr (.inl (some (k, M.1 k))) :: r) (mq_new M k) (cs + 1) (ss + N)) : mq_G p l e R s m args below meth c Q nL E D cl A ad0 refs0 pc lv r M cs ss := by
  intro H locs ls ad refs hB hl hvl hvs
  refine va_new (fs := (List.range N).map (fun j => if E.2.1 ci j then .null else .int 0)) C.1 C.2.1 C.2.2.2.2.1 hin ty0 hty C.2.2.2.1 (C.2.2.2.2.1 _ hcl) (C.2.2.2.2.1 _ hins) (C.2.2.2.2.1 _ hini) C.2.2.2.2.2.1 hB.1 hB.2.1 hB.2.2.1 C.2.2.2.2.2.2.1 hc (fun j hj => ?_) hf.1 hf.2 hd (fun q0 H1 hP hD hS => ?_)
  · rw [hdf j hj, vp_V, List.getD_eq_getElem?_getD, mq_range_at hj]; rfl
  · refine mq_new_go hB hl hvl hvs hne hP hD hS ?_ kk
    rw [mq_ce0 (q := (k, M.1 k)) hk]
    congr 2
    apply List.map_congr_left
    intro j _
    have e1 : (mq_new M k).2.2.1 k (M.1 k) j = none := congrFun mq_cr_at j
    have e2 : (mq_new M k).2.1 k (M.1 k) j = 0 := congrFun mq_cr_at j
    simp only [mq_fv, hk, e1, e2, Option.map_none]
    rfl
theorem mq_g_newi (C : mq_C p s m args c cc nL own Ts D cl tys A X) (hne : k ≠ 999) (hk : E.1 k = (1, ci, N)) (ht : tys[t0]? = some (E.2.2 1, .int)) (hN : N ≤ 65536) (harr : Jvm.Cond.arrayClass .int ∈ Ts) (hf : cs + 1 ≤ R.cells ∧ ss + N ≤ R.slots) (hd : decode cc pc = .ok (.newarray .int, 2))
    (kk : mq_G p l e R s m args below meth c Q nL E D cl A ad0 refs0 (pc + 2) lv (.inr (.inl (some (k, M.1 k))) :: r) (mq_new M k) (cs + 1) (ss + N)) : mq_G p l e R s m args below meth c Q nL E D cl A ad0 refs0 pc lv (.inl (Int32.ofNat N) :: r) M cs ss := by
  intro H locs ls ad refs hB hl hvl hvs
  have h31 : N < 2 ^ 31 := by omega
  refine va_newa (atype := .int) (ty := .int) (n := Int32.ofNat N) (N' := N) (a0 := (N, .inl (fun _ => 0))) C.1 C.2.1 (C.2.2.2.2.1 _ harr) rfl C.2.2.2.2.2.1 hB.1 hB.2.1 hB.2.2.1 C.2.2.2.2.2.2.1 (fun _ => rfl) (nI_pos h31) (nI_clamp h31) (by show N * 4 ≤ _; omega) hf.1 hf.2 hd (fun q0 cA H1 hK' hP hD hS => ?_)
  have hcA : cA = E.2.2 1 := by
    have h1 := (hK'.2 tys.length (cA, .int) (by rw [List.getElem?_append_right (Nat.le_refl _), Nat.sub_self]; rfl)).2
    have h2 := (C.2.2.2.2.2.1.2 t0 _ ht).2
    exact Option.some.inj (h1.symm.trans h2)
  subst hcA
  refine mq_new_go hB hl (by exact hvl) (mq_vs_tl hvs) hne hP hD hS ?_ kk
  rw [mq_ceS (q := (k, M.1 k)) (.inl rfl) hk]
  have e2 : (mq_new M k).2.1 k (M.1 k) = fun _ => 0 := mq_cr_at
  rw [e2]
theorem mq_g_newb (C : mq_C p s m args c cc nL own Ts D cl tys A X) (hne : k ≠ 999) (hk : E.1 k = (4, ci, N)) (ht : tys[t0]? = some (E.2.2 4, .byte)) (hN : N ≤ 65536) (harr : Jvm.Cond.arrayClass .byte ∈ Ts) (hf : cs + 1 ≤ R.cells ∧ ss + N ≤ R.slots) (hd : decode cc pc = .ok (.newarray .byte, 2))
    (kk : mq_G p l e R s m args below meth c Q nL E D cl A ad0 refs0 (pc + 2) lv (.inr (.inl (some (k, M.1 k))) :: r) (mq_new M k) (cs + 1) (ss + N)) : mq_G p l e R s m args below meth c Q nL E D cl A ad0 refs0 pc lv (.inl (Int32.ofNat N) :: r) M cs ss := by
  intro H locs ls ad refs hB hl hvl hvs
  have h31 : N < 2 ^ 31 := by omega
  refine va_newa (atype := .byte) (ty := .byte) (n := Int32.ofNat N) (N' := N) (a0 := (N, .inl (fun _ => 0))) C.1 C.2.1 (C.2.2.2.2.1 _ harr) rfl C.2.2.2.2.2.1 hB.1 hB.2.1 hB.2.2.1 C.2.2.2.2.2.2.1 (fun _ => rfl) (nI_pos h31) (nI_clamp h31) (by show N * 1 ≤ _; omega) hf.1 hf.2 hd (fun q0 cA H1 hK' hP hD hS => ?_)
  have hcA : cA = E.2.2 4 := by
    have h1 := (hK'.2 tys.length (cA, .byte) (by rw [List.getElem?_append_right (Nat.le_refl _), Nat.sub_self]; rfl)).2
    have h2 := (C.2.2.2.2.2.1.2 t0 _ ht).2
    exact Option.some.inj (h1.symm.trans h2)
  subst hcA
  refine mq_new_go hB hl (by exact hvl) (mq_vs_tl hvs) hne hP hD hS ?_ kk
  rw [mq_ceS (q := (k, M.1 k)) (.inr (.inl rfl)) hk]
  have e2 : (mq_new M k).2.1 k (M.1 k) = fun _ => 0 := mq_cr_at
  rw [e2]
theorem mq_g_newz (C : mq_C p s m args c cc nL own Ts D cl tys A X) (hne : k ≠ 999) (hk : E.1 k = (5, ci, N)) (ht : tys[t0]? = some (E.2.2 5, .boolean)) (hN : N ≤ 65536) (harr : Jvm.Cond.arrayClass .boolean ∈ Ts) (hf : cs + 1 ≤ R.cells ∧ ss + N ≤ R.slots) (hd : decode cc pc = .ok (.newarray .boolean, 2))
    (kk : mq_G p l e R s m args below meth c Q nL E D cl A ad0 refs0 (pc + 2) lv (.inr (.inl (some (k, M.1 k))) :: r) (mq_new M k) (cs + 1) (ss + N)) : mq_G p l e R s m args below meth c Q nL E D cl A ad0 refs0 pc lv (.inl (Int32.ofNat N) :: r) M cs ss := by
  intro H locs ls ad refs hB hl hvl hvs
  have h31 : N < 2 ^ 31 := by omega
  refine va_newa (atype := .boolean) (ty := .boolean) (n := Int32.ofNat N) (N' := N) (a0 := (N, .inl (fun _ => 0))) C.1 C.2.1 (C.2.2.2.2.1 _ harr) rfl C.2.2.2.2.2.1 hB.1 hB.2.1 hB.2.2.1 C.2.2.2.2.2.2.1 (fun _ => rfl) (nI_pos h31) (nI_clamp h31) (by show N * 1 ≤ _; omega) hf.1 hf.2 hd (fun q0 cA H1 hK' hP hD hS => ?_)
  have hcA : cA = E.2.2 5 := by
    have h1 := (hK'.2 tys.length (cA, .boolean) (by rw [List.getElem?_append_right (Nat.le_refl _), Nat.sub_self]; rfl)).2
    have h2 := (C.2.2.2.2.2.1.2 t0 _ ht).2
    exact Option.some.inj (h1.symm.trans h2)
  subst hcA
  refine mq_new_go hB hl (by exact hvl) (mq_vs_tl hvs) hne hP hD hS ?_ kk
  rw [mq_ceS (q := (k, M.1 k)) (.inr (.inr rfl)) hk]
  have e2 : (mq_new M k).2.1 k (M.1 k) = fun _ => 0 := mq_cr_at
  rw [e2]
theorem mq_g_newl (C : mq_C p s m args c cc nL own Ts D cl tys A X) (hne : k ≠ 999) (hk : E.1 k = (2, ci, N)) (ht : tys[t0]? = some (E.2.2 2, .long)) (hN : N ≤ 65536) (harr : Jvm.Cond.arrayClass .long ∈ Ts) (hf : cs + 1 ≤ R.cells ∧ ss + N ≤ R.slots) (hd : decode cc pc = .ok (.newarray .long, 2))
    (kk : mq_G p l e R s m args below meth c Q nL E D cl A ad0 refs0 (pc + 2) lv (.inr (.inl (some (k, M.1 k))) :: r) (mq_new M k) (cs + 1) (ss + N)) : mq_G p l e R s m args below meth c Q nL E D cl A ad0 refs0 pc lv (.inl (Int32.ofNat N) :: r) M cs ss := by
  intro H locs ls ad refs hB hl hvl hvs
  have h31 : N < 2 ^ 31 := by omega
  refine va_newa (atype := .long) (ty := .long) (n := Int32.ofNat N) (N' := N) (a0 := (N, .inr (.inl (fun _ => 0)))) C.1 C.2.1 (C.2.2.2.2.1 _ harr) rfl C.2.2.2.2.2.1 hB.1 hB.2.1 hB.2.2.1 C.2.2.2.2.2.2.1 (fun _ => rfl) (nI_pos h31) (nI_clamp h31) (by show N * 8 ≤ _; omega) hf.1 hf.2 hd (fun q0 cA H1 hK' hP hD hS => ?_)
  have hcA : cA = E.2.2 2 := by
    have h1 := (hK'.2 tys.length (cA, .long) (by rw [List.getElem?_append_right (Nat.le_refl _), Nat.sub_self]; rfl)).2
    have h2 := (C.2.2.2.2.2.1.2 t0 _ ht).2
    exact Option.some.inj (h1.symm.trans h2)
  subst hcA
  refine mq_new_go hB hl (by exact hvl) (mq_vs_tl hvs) hne hP hD hS ?_ kk
  rw [mq_ce2 (q := (k, M.1 k)) hk]
  have e2 : (mq_new M k).2.2.2 k (M.1 k) = fun _ => 0 := mq_cr_at
  rw [e2]
theorem mq_g_newq (C : mq_C p s m args c cc nL own Ts D cl tys A X) (hne : k ≠ 999) (hk : E.1 k = (3, ci, N)) (ht : tys[t0]? = some (E.2.2 (100 + ci), .object C1)) (hN : N ≤ 65536) (hcl : Jvm.Cond.classLink own ix C1 ∈ Ts) (hao : va_AO C1 s) (hf : cs + 1 ≤ R.cells ∧ ss + N ≤ R.slots) (hd : decode cc pc = .ok (.anewarray ix, 3))
    (kk : mq_G p l e R s m args below meth c Q nL E D cl A ad0 refs0 (pc + 3) lv (.inr (.inl (some (k, M.1 k))) :: r) (mq_new M k) (cs + 1) (ss + N)) : mq_G p l e R s m args below meth c Q nL E D cl A ad0 refs0 pc lv (.inl (Int32.ofNat N) :: r) M cs ss := by
  intro H locs ls ad refs hB hl hvl hvs
  have h31 : N < 2 ^ 31 := by omega
  refine va_newq (n := Int32.ofNat N) (N' := N) C.1 C.2.1 C.2.2.2.1 (C.2.2.2.2.1 _ hcl) hao C.2.2.2.2.2.1 hB.1 hB.2.1 hB.2.2.1 C.2.2.2.2.2.2.1 (nI_pos h31) (nI_clamp h31) (by omega) hf.1 hf.2 hd (fun q0 cA H1 hK' hP hD hS => ?_)
  have hcA : cA = E.2.2 (100 + ci) := by
    have h1 := (hK'.2 tys.length (cA, .object C1) (by rw [List.getElem?_append_right (Nat.le_refl _), Nat.sub_self]; rfl)).2
    have h2 := (C.2.2.2.2.2.1.2 t0 _ ht).2
    obtain ⟨_, _, _, _, _, h1⟩ := h1
    obtain ⟨_, _, _, _, _, h2⟩ := h2
    exact Option.some.inj (h1.symm.trans h2)
  subst hcA
  refine mq_new_go hB hl (by exact hvl) (mq_vs_tl hvs) hne hP hD hS ?_ kk
  rw [mq_ce3 (q := (k, M.1 k)) hk]
  have e2 : (mq_new M k).2.2.1 k (M.1 k) = fun _ => none := mq_cr_at
  rw [e2]
  rfl
end MQN
end
section
/-! THE MACHINE IS RIGHT: what it answers, the JVM does. -/
def mq_len : ClassFile.Instr → Nat
  | .bipush _ => 2
  | .ldc _ => 2
  | .iload _ => 2
  | .aload _ => 2
  | .istore _ => 2
  | .astore _ => 2
  | .newarray _ => 2
  | .sipush _ => 3
  | .ldc2_w _ => 3
  | .iinc _ _ => 3
  | .goto _ => 3
  | .ifCond _ _ => 3
  | .if_icmp _ _ => 3
  | .if_acmp _ _ => 3
  | .ifnull _ => 3
  | .ifnonnull _ => 3
  | .getfield _ => 3
  | .putfield _ => 3
  | .new _ => 3
  | .anewarray _ => 3
  | .invokespecial _ => 3
  | .invokevirtual _ => 3
  | .invokestatic _ => 3
  | _ => 1
/-- a class of the world: its table, its words -/
def mq_okc (Ts : List Cond) (cl : List vw_C) (E : mEv) (k : Nat) (C1 : String) (T : u_T) (N : Nat) (ty0 : Nat → FieldType) : Prop :=
  E.1 k = (0, k, N) ∧ cl[k]? = some (C1, T, N) ∧ (∀ w ∈ u_ws C1 T N, w ∈ Ts) ∧ (∀ j, j < N → parseFieldDescriptor (T j).2.2.1 = some (ty0 j)) ∧ (∀ a, a < N → ∀ b, b < N → a ≠ b → (T a).2.1 ≠ (T b).2.1) ∧ ∀ j, j < N → defaultValue (ty0 j) = if E.2.1 k j then .null else .int 0
/-- a field that an instruction names: c = 0 an int, 1 a reference, 2 a boolean -/
def mq_okf (own : String) (Ts : List Cond) (cl : List vw_C) (E : mEv) (k b c ix : Nat) (P : Bool → String → Prop) : Prop :=
  ∃ (C1 : String) (T : u_T) (N : Nat) (ty0 : Nat → FieldType), mq_okc Ts cl E k C1 T N ty0 ∧ b < N ∧ Jvm.Cond.fieldLink own ix (T b).1 (T b).2.1 (T b).2.2.1 ∈ Ts ∧ P (T b).2.2.2 (T b).1 ∧
    (match c with
     | 0 => E.2.1 k b = false ∧ ty0 b = .int
     | 1 => E.2.1 k b = true ∧ ((∃ n, ty0 b = .object n) ∨ ∃ t, ty0 b = .array t)
     | 2 => E.2.1 k b = false ∧ ty0 b = .boolean
     | _ => False)
/-- the callees: names, codes, words -/
abbrev mCe : Type := (Nat → MethodName) × (Nat → ByteArray) × (Nat → Nat) × (Nat → Option FieldType) × List Cond
def mq_ws (Z : mCe) (a : Nat) : List Cond := .code (Z.1 a) (Z.2.1 a) (Z.2.2.1 a) (Z.2.2.2.1 a) :: Z.2.2.2.2
def mq_rm (mx : Nat → Nat × Nat × Nat) (d a : Nat) : Room := { frames := d, cells := (mx a).1, slots := (mx a).2.1, locals := 37 * d }
/-- what every call asks of the tables -/
def mq_okk (Ts : List Cond) (Z : mCe) (a nA : Nat) (L : Prop) : Prop :=
  GoodIn Ts (mq_ws Z a) ∧ Jvm.Cond.initialized (Z.1 a).cls ∈ Ts ∧ L ∧ ((Z.1 a).cls ≠ "java/lang/invoke/MethodHandle" ∧ (Z.1 a).cls ≠ "java/lang/invoke/VarHandle" ∧ (parseMethodDescriptor (Z.1 a).desc).map (fun d => d.parameters.length) = some nA) ∧ Z.2.2.1 a ≤ 18
/-- what a row asks of the tables, its bytes apart -/
def mq_ext (nL : Nat) (own : String) (Ts : List Cond) (cl : List vw_C) (tys : List (ClassId × FieldType)) (E : mEv) (Z : mCe) (mx : Nat → Nat × Nat × Nat) (ini : Bool) (rt : Option FieldType) (X : State → Prop) : mEn → Prop
  | (pc, ins, _, a, b, c, v) =>
    match ins with
    | .iconst n => Int32.ofInt n = v
    | .bipush n => (Int8.ofInt n).toInt32 = v
    | .sipush n => (Int16.ofInt n).toInt32 = v
    | .ldc ix => Jvm.Cond.constant own ix v ∈ Ts
    | .ldc2_w ix => Jvm.Cond.constantLong own ix (Int64.ofNat a) ∈ Ts
    | .istore i => i < nL
    | .istore_n i => i.val < nL
    | .astore i => i < nL
    | .astore_n i => i.val < nL
    | .iinc i n => i < nL ∧ Int32.ofInt n = v
    | .goto off => (pc : Int) + off = (a : Int)
    | .ifCond _ off => (pc : Int) + off = (a : Int)
    | .if_icmp _ off => (pc : Int) + off = (a : Int)
    | .ifnull off => (pc : Int) + off = (a : Int)
    | .ifnonnull off => (pc : Int) + off = (a : Int)
    | .getfield ix => mq_okf own Ts cl E a b c ix (fun _ _ => True)
    | .putfield ix => mq_okf own Ts cl E a b c ix (fun f o => f = false ∨ (f = true ∧ ini = true ∧ o = own))
    | .new ix => (E.1 a).1 = 0 → a ≠ 999 ∧ ∃ (C1 : String) (T : u_T) (N : Nat) (ty0 : Nat → FieldType), mq_okc Ts cl E a C1 T N ty0 ∧ Jvm.Cond.classLink own ix C1 ∈ Ts ∧ Jvm.Cond.instantiable C1 N ∈ Ts ∧ Jvm.Cond.initialized C1 ∈ Ts
    | .newarray t => a ≠ 999 ∧ (E.1 a).2.2 ≤ 65536 ∧ ((t = .int ∧ (E.1 a).1 = 1 ∧ Jvm.Cond.arrayClass .int ∈ Ts) ∨ (t = .long ∧ (E.1 a).1 = 2 ∧ Jvm.Cond.arrayClass .long ∈ Ts) ∨ (t = .byte ∧ (E.1 a).1 = 4 ∧ Jvm.Cond.arrayClass .byte ∈ Ts) ∨ (t = .boolean ∧ (E.1 a).1 = 5 ∧ Jvm.Cond.arrayClass .boolean ∈ Ts))
    | .anewarray ix => a ≠ 999 ∧ (E.1 a).2.2 ≤ 65536 ∧ (E.1 a).1 = 3 ∧ ∃ (C1 : String) (t0 : Nat), tys[t0]? = some (E.2.2 (100 + (E.1 a).2.1), FieldType.object C1) ∧ Jvm.Cond.classLink own ix C1 ∈ Ts ∧ ∀ s : State, X s → va_AO C1 s
    | .invokespecial ix => (match a with
      | 0 => b = 1 ∧ Jvm.Cond.methodLink own ix objectInit ∈ Ts ∧ Jvm.Cond.instanceMethod objectInit ∈ Ts ∧ Jvm.Cond.code objectInit ⟨#[0xb1]⟩ 1 none ∈ Ts
      | a + 1 => ∃ nA, b = nA + 1 ∧ mq_okk Ts Z a nA (Jvm.Cond.methodLink own ix (Z.1 a) ∈ Ts ∨ ∃ host, ∀ s : State, X s → va_Nw (.methodLinkNest own ix (Z.1 a) host) s) ∧ (Z.1 a).name = "<init>" ∧ Jvm.Cond.instanceMethod (Z.1 a) ∈ Ts ∧ Z.2.2.2.1 a = none)
    | .invokevirtual ix => ∃ nA qC, b = nA + 1 ∧ mq_okk Ts Z a nA (Jvm.Cond.methodLink own ix (Z.1 a) ∈ Ts) ∧ Jvm.Cond.instanceMethod (Z.1 a) ∈ Ts ∧ cl[(mx a).2.2]? = some qC ∧ Jvm.Cond.selects qC.1 (Z.1 a) (Z.1 a) ∈ Ts
    | .invokestatic ix => (match c with
      | 7 => Jvm.Cond.methodLink own ix Lib.Math.min.name ∈ Ts ∧ Jvm.Cond.static Lib.Math.min.name ∈ Ts ∧ Jvm.Cond.initialized "java/lang/Math" ∈ Ts ∧ Jvm.Cond.code Lib.Math.min.name Lib.Math.min.code 2 (some .int) ∈ Ts
      | 8 => True
      | _ => mq_okk Ts Z a b (Jvm.Cond.methodLink own ix (Z.1 a) ∈ Ts ∨ ∃ host, ∀ s : State, X s → va_Nw (.methodLinkNest own ix (Z.1 a) host) s) ∧ Jvm.Cond.static (Z.1 a) ∈ Ts)
    | .ireturn => (rt = some .boolean ∧ c = 2) ∨ rt = some .int
    | .areturn => ∃ ty, rt = some ty ∧ ((∃ n, ty = .object n) ∨ ∃ t, ty = .array t)
    | .return_ => rt = none
    | _ => True
/-- a row of a method's code is as the class file and the tables have it -/
def mq_ok (cc : ByteArray) (nL : Nat) (own : String) (Ts : List Cond) (cl : List vw_C) (tys : List (ClassId × FieldType)) (E : mEv) (Z : mCe) (sw : Nat → List (Int32 × Nat)) (mx : Nat → Nat × Nat × Nat) (ini : Bool) (rt : Option FieldType) (X : State → Prop) : mEn → Prop
  | (pc, ins, nx, a, b, c, v) =>
    match ins with
    | .tableswitch d lo hi offs => ∃ len, decode cc pc = .ok (.tableswitch d lo hi offs, len) ∧ (∀ x : Int32, (x.toInt < lo ∨ hi < x.toInt) → mq_swt x a (sw b) = a ∧ (pc : Int) + d = (a : Int)) ∧ ∀ x : Int32, ¬ x.toInt < lo → ¬ hi < x.toInt → ∃ off, offs[(x.toInt - lo).toNat]? = some off ∧ (pc : Int) + off = (mq_swt x a (sw b) : Nat)
    | .lookupswitch d ps => ∃ len, decode cc pc = .ok (.lookupswitch d ps, len) ∧ (ps.toList.zip (ps.toList.drop 1)).all (fun (a, next) => a.1 < next.1) = true ∧ ∀ x : Int32, (pc : Int) + Op.lookupswitch.offset ps.toList d x.toInt = (mq_swt x a (sw b) : Nat)
    | ins => (decode cc pc = .ok (ins, mq_len ins) ∧ nx = pc + mq_len ins) ∧
      mq_ext nL own Ts cl tys E Z mx ini rt X (pc, ins, nx, a, b, c, v)
theorem mq_lk_spec {pc : Nat} {en : mEn} : ∀ {code : List mEn}, mq_lk pc code = some en → en.1 = pc ∧ en ∈ code
  | [], h => by cases h
  | e :: r, h => by
    unfold mq_lk at h
    split at h
    · rename_i hq
      cases h
      exact ⟨hq, List.mem_cons_self⟩
    · obtain ⟨h1, h2⟩ := mq_lk_spec h
      exact ⟨h1, List.mem_cons_of_mem _ h2⟩
section MQX
variable {p : Program} {l : Launch} {e : Env} {R : Room} {s : State} {m : MethodId} {args : Array Value} {below : List Frame} {meth : Method} {c : Code} {Q : State → Prop}
variable {cc : ByteArray} {nL : Nat} {own : String} {Ts : List Cond} {D : va_G} {cl : List vw_C} {tys : List (ClassId × FieldType)} {A : Nat → Prop} {X : State → Prop} {E : mEv} {ad0 : Nat × Nat → Nat} {refs0 : List (Nat × Nat)}
variable {Z : mCe} {sw : Nat → List (Int32 × Nat)} {hn : Nat → Nat → Option Nat} {mx : Nat → Nat × Nat × Nat} {call : Nat → List mLV → mMm → mRs} {code : List mEn} {lim : Nat × Nat × Nat} {scr : Option (Nat × (Nat → Int32))} {ini : Bool} {rt : Option FieldType} {d : Nat} {res : (Option mLV ⊕ Nat) × mMm}
theorem mq_callB {a nA ix : Nat} {L : Prop} (C : mq_C p s m args c cc nL own Ts D cl tys A X) (hR : d + 1 ≤ R.frames ∧ 37 * (d + 1) ≤ R.locals ∧ lim.1 ≤ R.cells ∧ lim.2.1 ≤ R.slots) (hk : mq_okk Ts Z a nA L) (hl : Jvm.Cond.methodLink own ix (Z.1 a) ∈ Ts) : CallB R s args own ix (Z.1 a) (Z.2.1 a) (Z.2.2.1 a) (Z.2.2.2.1 a) (mq_ws Z a) (mq_rm mx d a) (mx a).1 (mx a).2.1 nA :=
  callB_of nA C.2.2.2.2.1 hk.1 rfl rfl rfl (C.2.2.2.2.1 _ hk.2.1) (C.2.2.2.2.1 _ hl) hk.2.2.2.1 ⟨by show d + 1 ≤ R.frames; omega, by show 8 + (Z.2.2.1 a + 11) + 37 * d ≤ R.locals; have := hk.2.2.2.2; omega⟩
theorem mq_callN {a nA ix : Nat} {L : Prop} {host : String} (C : mq_C p s m args c cc nL own Ts D cl tys A X) (hR : d + 1 ≤ R.frames ∧ 37 * (d + 1) ≤ R.locals ∧ lim.1 ≤ R.cells ∧ lim.2.1 ≤ R.slots) (hk : mq_okk Ts Z a nA L) (hl : va_Nw (.methodLinkNest own ix (Z.1 a) host) s) : va_CN R s args own ix (Z.1 a) host (Z.2.1 a) (Z.2.2.1 a) (Z.2.2.2.1 a) (mq_ws Z a) (mq_rm mx d a) (mx a).1 (mx a).2.1 nA :=
  va_cnB nA C.2.2.2.2.1 hk.1 rfl rfl rfl hl (C.2.2.2.2.1 _ hk.2.1) hk.2.2.2.1 ⟨by show d + 1 ≤ R.frames; omega, by show 8 + (Z.2.2.1 a + 11) + 37 * d ≤ R.locals; have := hk.2.2.2.2; omega⟩
set_option maxHeartbeats 4000000 in
set_option maxRecDepth 100000 in
theorem mq_main (C : mq_C p s m args c cc nL own Ts D cl tys A X) (h9 : (E.1 999).1 = 9) (hini : ini = true → meth.name = "<init>") {tI tL tB tZ : Nat} (htI : tys[tI]? = some (E.2.2 1, .int)) (htL : tys[tL]? = some (E.2.2 2, .long)) (htB : tys[tB]? = some (E.2.2 4, .byte)) (htZ : tys[tZ]? = some (E.2.2 5, .boolean))
    (htQ : ∀ k, (E.1 k).1 = 3 → ∃ (C1 : String) (T : u_T) (N t0 : Nat), E.1 (E.1 k).2.1 = (0, (E.1 k).2.1, N) ∧ cl[(E.1 k).2.1]? = some (C1, T, N) ∧ tys[t0]? = some (E.2.2 (100 + (E.1 k).2.1), .object C1))
    (htO : ∀ k, (E.1 k).1 = 0 → (E.1 k).2.1 = k)
    (hok : ∀ en ∈ code, mq_ok cc nL own Ts cl tys E Z sw mx ini rt X en)
    (hcall : ∀ a as M rv M', call a as M = some (.inl rv, M') → mq_Met l X E D cl tys (Z.1 a) (mq_ws Z a) (mq_rm mx d a) (mx a).1 (mx a).2.1 as M rv M')
    (hR : d + 1 ≤ R.frames ∧ 37 * (d + 1) ≤ R.locals ∧ lim.1 ≤ R.cells ∧ lim.2.1 ≤ R.slots)
    (hscr : ∀ w, scr = some w → va_X (ad0 mq_sr) w.1 w.2 s s.heap ∧ ad0 mq_sr < s.heap.size ∧ ¬ A (ad0 mq_sr))
    (hcat : ∀ pc ix nx a b sc v, (pc, ClassFile.Instr.invokevirtual ix, nx, a, b, sc, v) ∈ code → ∀ lv st M cs ss q as r x M' hp, mq_pop b st [] = some (.inr (some q) :: as, r) → (E.1 q.1).1 = 0 → (E.1 q.1).2.1 = (mx a).2.2 → r.length ≤ 4 → cs + (mx a).1 ≤ lim.1 → ss + (mx a).2.1 ≤ lim.2.1 → call a (.inr (some q) :: as) M = some (.inr x, M') → hn sc x = some hp → mq_G p l e R s m args below meth c Q nL E D cl A ad0 refs0 hp lv [] M' (cs + (mx a).1) (ss + (mx a).2.1) → mq_G p l e R s m args below meth c Q nL E D cl A ad0 refs0 pc lv st M cs ss)
    (hcw : ∀ pc ix nx a b v, (pc, ClassFile.Instr.invokestatic ix, nx, a, b, 8, v) ∈ code → ∀ lv st M cs ss as r w M', mq_pop b st [] = some (as, r) → r.length ≤ 4 → cs + (mx a).1 ≤ lim.1 → ss + (mx a).2.1 ≤ lim.2.1 → call a as M = some (.inl w, M') → mq_G p l e R s m args below meth c Q nL E D cl A ad0 refs0 (pc + 3) lv (mq_psh w r) M' (cs + (mx a).1) (ss + (mx a).2.1) → mq_G p l e R s m args below meth c Q nL E D cl A ad0 refs0 pc lv st M cs ss)
    (hri : ∀ pc lv x M cs ss, decode cc pc = .ok (.ireturn, 1) → ((rt = some .boolean ∧ (x = 0 ∨ x = 1)) ∨ rt = some .int) → res = (.inl (some (.inl x)), M) → cs ≤ lim.1 → ss ≤ lim.2.1 → mq_G p l e R s m args below meth c Q nL E D cl A ad0 refs0 pc lv [.inl x] M cs ss)
    (hra : ∀ pc lv w M cs ss, decode cc pc = .ok (.areturn, 1) → (∃ ty, rt = some ty ∧ ((∃ n, ty = .object n) ∨ ∃ t, ty = .array t)) → res = (.inl (some (.inr w)), M) → cs ≤ lim.1 → ss ≤ lim.2.1 → mq_G p l e R s m args below meth c Q nL E D cl A ad0 refs0 pc lv [.inr (.inl w)] M cs ss)
    (hrv : ∀ pc lv M cs ss, decode cc pc = .ok (.return_, 1) → rt = none → res = (.inl none, M) → cs ≤ lim.1 → ss ≤ lim.2.1 → mq_G p l e R s m args below meth c Q nL E D cl A ad0 refs0 pc lv [] M cs ss)
    (hth : ∀ en ∈ code, ∀ ix, en.2.1 = .new ix → (E.1 en.2.2.2.1).1 = 8 → ∀ lv M cs ss, res = (.inr (E.1 en.2.2.2.1).2.1, M) → cs + 1 ≤ lim.1 → ss + (E.1 en.2.2.2.1).2.2 ≤ lim.2.1 → mq_G p l e R s m args below meth c Q nL E D cl A ad0 refs0 en.1 lv [] M cs ss) :
    ∀ (f pc : Nat) (lv : List (Nat × mLV)) (st : List mAV) (M : mMm) (cs ss : Nat), cs ≤ lim.1 → ss ≤ lim.2.1 → mq_loop E.1 sw hn mx call code lim scr f pc lv st M cs ss = some res → mq_G p l e R s m args below meth c Q nL E D cl A ad0 refs0 pc lv st M cs ss := by
  intro f
  induction f with
  | zero => intro pc lv st M cs ss _ _ h; cases h
  | succ f ih =>
    intro pc lv st M cs ss hcs hss h0
    have h : mq_st E.1 sw hn mx call code lim scr (mq_loop E.1 sw hn mx call code lim scr f) pc lv st M cs ss = some res := h0
    clear h0
    unfold mq_st at h
    cases hlk : mq_lk pc code with
    | none => rw [hlk] at h; cases h
    | some en =>
      rw [hlk] at h
      obtain ⟨pc', ins, nx, a, b, sc, v⟩ := en
      obtain ⟨hpc, hmem⟩ := mq_lk_spec hlk
      have hpc : pc' = pc := hpc
      subst hpc
      have ok := hok _ hmem
      clear hlk
      cases ins
      all_goals dsimp only at h
      all_goals first | (cases h; done) | skip
      case iadd =>
        obtain ⟨⟨hd, hnx⟩, -⟩ := ok
        subst hnx
        split at h
        · exact mq_g_iadd C hd (ih _ _ _ _ _ _ hcs hss h)
        · cases h
      case isub =>
        obtain ⟨⟨hd, hnx⟩, -⟩ := ok
        subst hnx
        split at h
        · exact mq_g_isub C hd (ih _ _ _ _ _ _ hcs hss h)
        · cases h
      case imul =>
        obtain ⟨⟨hd, hnx⟩, -⟩ := ok
        subst hnx
        split at h
        · exact mq_g_imul C hd (ih _ _ _ _ _ _ hcs hss h)
        · cases h
      case iand =>
        obtain ⟨⟨hd, hnx⟩, -⟩ := ok
        subst hnx
        split at h
        · exact mq_g_iand C hd (ih _ _ _ _ _ _ hcs hss h)
        · cases h
      case ior =>
        obtain ⟨⟨hd, hnx⟩, -⟩ := ok
        subst hnx
        split at h
        · exact mq_g_ior C hd (ih _ _ _ _ _ _ hcs hss h)
        · cases h
      case ixor =>
        obtain ⟨⟨hd, hnx⟩, -⟩ := ok
        subst hnx
        split at h
        · exact mq_g_ixor C hd (ih _ _ _ _ _ _ hcs hss h)
        · cases h
      case ishl =>
        obtain ⟨⟨hd, hnx⟩, -⟩ := ok
        subst hnx
        split at h
        · exact mq_g_ishl C hd (ih _ _ _ _ _ _ hcs hss h)
        · cases h
      case ishr =>
        obtain ⟨⟨hd, hnx⟩, -⟩ := ok
        subst hnx
        split at h
        · exact mq_g_ishr C hd (ih _ _ _ _ _ _ hcs hss h)
        · cases h
      case iushr =>
        obtain ⟨⟨hd, hnx⟩, -⟩ := ok
        subst hnx
        split at h
        · exact mq_g_iushr C hd (ih _ _ _ _ _ _ hcs hss h)
        · cases h
      case irem =>
        obtain ⟨⟨hd, hnx⟩, -⟩ := ok
        subst hnx
        split at h
        · split at h
          · cases h
          · rename_i hne
            exact mq_g_irem C hd hne (ih _ _ _ _ _ _ hcs hss h)
        · cases h
      case idiv =>
        obtain ⟨⟨hd, hnx⟩, -⟩ := ok
        subst hnx
        split at h
        · split at h
          · cases h
          · rename_i hne
            exact mq_g_idiv C hd hne (ih _ _ _ _ _ _ hcs hss h)
        · cases h
      case ineg =>
        obtain ⟨⟨hd, hnx⟩, -⟩ := ok
        subst hnx
        split at h
        · exact mq_g_ineg C hd (ih _ _ _ _ _ _ hcs hss h)
        · cases h
      case i2b =>
        obtain ⟨⟨hd, hnx⟩, -⟩ := ok
        subst hnx
        split at h
        · exact mq_g_i2b C hd (ih _ _ _ _ _ _ hcs hss h)
        · cases h
      case i2s =>
        obtain ⟨⟨hd, hnx⟩, -⟩ := ok
        subst hnx
        split at h
        · exact mq_g_i2s C hd (ih _ _ _ _ _ _ hcs hss h)
        · cases h
      case i2c =>
        obtain ⟨⟨hd, hnx⟩, -⟩ := ok
        subst hnx
        split at h
        · exact mq_g_i2c C hd (ih _ _ _ _ _ _ hcs hss h)
        · cases h
      case i2l =>
        obtain ⟨⟨hd, hnx⟩, -⟩ := ok
        subst hnx
        split at h
        · exact mq_g_i2l C hd (ih _ _ _ _ _ _ hcs hss h)
        · cases h
      case lcmp =>
        obtain ⟨⟨hd, hnx⟩, -⟩ := ok
        subst hnx
        split at h
        · exact mq_g_lcmp C hd (ih _ _ _ _ _ _ hcs hss h)
        · cases h
      case iconst n =>
        obtain ⟨⟨hd, hnx⟩, he⟩ := ok
        subst hnx
        exact mq_g_iconst C hd he (ih _ _ _ _ _ _ hcs hss h)
      case bipush n =>
        obtain ⟨⟨hd, hnx⟩, he⟩ := ok
        subst hnx
        exact mq_g_bipush C hd he (ih _ _ _ _ _ _ hcs hss h)
      case sipush n =>
        obtain ⟨⟨hd, hnx⟩, he⟩ := ok
        subst hnx
        exact mq_g_sipush C hd he (ih _ _ _ _ _ _ hcs hss h)
      case ldc n =>
        obtain ⟨⟨hd, hnx⟩, he⟩ := ok
        subst hnx
        exact mq_g_ldc C hd he (ih _ _ _ _ _ _ hcs hss h)
      case aconst_null =>
        obtain ⟨⟨hd, hnx⟩, -⟩ := ok
        subst hnx
        exact mq_g_null C hd (ih _ _ _ _ _ _ hcs hss h)
      case iload n =>
        obtain ⟨⟨hd, hnx⟩, -⟩ := ok
        subst hnx
        split at h
        · rename_i hi
          exact mq_g_iload C hd hi (ih _ _ _ _ _ _ hcs hss h)
        · cases h
      case iload_n n =>
        obtain ⟨⟨hd, hnx⟩, -⟩ := ok
        subst hnx
        split at h
        · rename_i hi
          exact mq_g_iload_n C hd hi (ih _ _ _ _ _ _ hcs hss h)
        · cases h
      case aload n =>
        obtain ⟨⟨hd, hnx⟩, -⟩ := ok
        subst hnx
        split at h
        · rename_i hi
          exact mq_g_aload C hd hi (ih _ _ _ _ _ _ hcs hss h)
        · cases h
      case aload_n n =>
        obtain ⟨⟨hd, hnx⟩, -⟩ := ok
        subst hnx
        split at h
        · rename_i hi
          exact mq_g_aload_n C hd hi (ih _ _ _ _ _ _ hcs hss h)
        · cases h
      case istore n =>
        obtain ⟨⟨hd, hnx⟩, he⟩ := ok
        subst hnx
        split at h
        · exact mq_g_istore C hd he (ih _ _ _ _ _ _ hcs hss h)
        · cases h
      case istore_n n =>
        obtain ⟨⟨hd, hnx⟩, he⟩ := ok
        subst hnx
        split at h
        · exact mq_g_istore_n C hd he (ih _ _ _ _ _ _ hcs hss h)
        · cases h
      case astore n =>
        obtain ⟨⟨hd, hnx⟩, he⟩ := ok
        subst hnx
        split at h
        · exact mq_g_astore C hd he (ih _ _ _ _ _ _ hcs hss h)
        · cases h
      case astore_n n =>
        obtain ⟨⟨hd, hnx⟩, he⟩ := ok
        subst hnx
        split at h
        · exact mq_g_astore_n C hd he (ih _ _ _ _ _ _ hcs hss h)
        · cases h
      case iinc i n =>
        obtain ⟨⟨hd, hnx⟩, he⟩ := ok
        subst hnx
        split at h
        · rename_i hi
          exact mq_g_iinc C hd he.2 hi he.1 (ih _ _ _ _ _ _ hcs hss h)
        · cases h
      case dup =>
        obtain ⟨⟨hd, hnx⟩, -⟩ := ok
        subst hnx
        split at h
        · split at h
          · rename_i hv
            exact mq_g_dup C hd hv (ih _ _ _ _ _ _ hcs hss h)
          · cases h
        · cases h
      case pop =>
        obtain ⟨⟨hd, hnx⟩, -⟩ := ok
        subst hnx
        split at h
        · split at h
          · rename_i hv
            exact mq_g_pop C hd hv (ih _ _ _ _ _ _ hcs hss h)
          · cases h
        · cases h
      case dup_x1 =>
        obtain ⟨⟨hd, hnx⟩, -⟩ := ok
        subst hnx
        split at h
        · split at h
          · rename_i hv hw
            exact mq_g_dup_x1 C hd hv hw (ih _ _ _ _ _ _ hcs hss h)
          · cases h
        · cases h
      case dup2 =>
        obtain ⟨⟨hd, hnx⟩, -⟩ := ok
        subst hnx
        split at h
        · split at h
          · rename_i hv hw
            exact mq_g_dup2 C hd hv hw (ih _ _ _ _ _ _ hcs hss h)
          · cases h
        · cases h
      case dup_x2 =>
        obtain ⟨⟨hd, hnx⟩, -⟩ := ok
        subst hnx
        split at h
        · split at h
          · rename_i hv hw hz
            exact mq_g_dup_x2 C hd hv hw hz (ih _ _ _ _ _ _ hcs hss h)
          · cases h
        · cases h
      case goto off =>
        obtain ⟨⟨hd, -⟩, he⟩ := ok
        exact mq_g_goto C hd he (ih _ _ _ _ _ _ hcs hss h)
      case ifCond cnd off =>
        obtain ⟨⟨hd, hnx⟩, he⟩ := ok
        subst hnx
        split at h
        · cases cnd
          all_goals dsimp only at h
          · refine mq_g_if_eq C hd he (fun q => ?_) (fun q => ?_)
            · exact ih _ _ _ _ _ _ hcs hss (by rw [if_pos q] at h; exact h)
            · exact ih _ _ _ _ _ _ hcs hss (by rw [if_neg q] at h; exact h)
          · refine mq_g_if_ne C hd he (fun q => ?_) (fun q => ?_)
            · exact ih _ _ _ _ _ _ hcs hss (by rw [if_neg q] at h; exact h)
            · exact ih _ _ _ _ _ _ hcs hss (by rw [if_pos q] at h; exact h)
          · refine mq_g_if_lt C hd he (fun q => ?_) (fun q => ?_)
            · exact ih _ _ _ _ _ _ hcs hss (by rw [if_pos q] at h; exact h)
            · exact ih _ _ _ _ _ _ hcs hss (by rw [if_neg q] at h; exact h)
          · refine mq_g_if_ge C hd he (fun q => ?_) (fun q => ?_)
            · exact ih _ _ _ _ _ _ hcs hss (by rw [if_neg q] at h; exact h)
            · exact ih _ _ _ _ _ _ hcs hss (by rw [if_pos q] at h; exact h)
          · refine mq_g_if_gt C hd he (fun q => ?_) (fun q => ?_)
            · exact ih _ _ _ _ _ _ hcs hss (by rw [if_pos q] at h; exact h)
            · exact ih _ _ _ _ _ _ hcs hss (by rw [if_neg q] at h; exact h)
          · refine mq_g_if_le C hd he (fun q => ?_) (fun q => ?_)
            · exact ih _ _ _ _ _ _ hcs hss (by rw [if_neg q] at h; exact h)
            · exact ih _ _ _ _ _ _ hcs hss (by rw [if_pos q] at h; exact h)
        · cases h
      case if_icmp cnd off =>
        obtain ⟨⟨hd, hnx⟩, he⟩ := ok
        subst hnx
        split at h
        · cases cnd
          all_goals dsimp only at h
          · refine mq_g_icmp_eq C hd he (fun q => ?_) (fun q => ?_)
            · exact ih _ _ _ _ _ _ hcs hss (by rw [if_pos q] at h; exact h)
            · exact ih _ _ _ _ _ _ hcs hss (by rw [if_neg q] at h; exact h)
          · refine mq_g_icmp_ne C hd he (fun q => ?_) (fun q => ?_)
            · exact ih _ _ _ _ _ _ hcs hss (by rw [if_neg q] at h; exact h)
            · exact ih _ _ _ _ _ _ hcs hss (by rw [if_pos q] at h; exact h)
          · refine mq_g_icmp_lt C hd he (fun q => ?_) (fun q => ?_)
            · exact ih _ _ _ _ _ _ hcs hss (by rw [if_pos q] at h; exact h)
            · exact ih _ _ _ _ _ _ hcs hss (by rw [if_neg q] at h; exact h)
          · refine mq_g_icmp_ge C hd he (fun q => ?_) (fun q => ?_)
            · exact ih _ _ _ _ _ _ hcs hss (by rw [if_neg q] at h; exact h)
            · exact ih _ _ _ _ _ _ hcs hss (by rw [if_pos q] at h; exact h)
          · refine mq_g_icmp_gt C hd he (fun q => ?_) (fun q => ?_)
            · exact ih _ _ _ _ _ _ hcs hss (by rw [if_pos q] at h; exact h)
            · exact ih _ _ _ _ _ _ hcs hss (by rw [if_neg q] at h; exact h)
          · refine mq_g_icmp_le C hd he (fun q => ?_) (fun q => ?_)
            · exact ih _ _ _ _ _ _ hcs hss (by rw [if_neg q] at h; exact h)
            · exact ih _ _ _ _ _ _ hcs hss (by rw [if_pos q] at h; exact h)
        · cases h
      case ifnull off =>
        obtain ⟨⟨hd, hnx⟩, he⟩ := ok
        subst hnx
        split at h
        · exact mq_g_ifnull_0 C hd he (ih _ _ _ _ _ _ hcs hss h)
        · exact mq_g_ifnull_1 C hd (ih _ _ _ _ _ _ hcs hss h)
        · cases h
      case ifnonnull off =>
        obtain ⟨⟨hd, hnx⟩, he⟩ := ok
        subst hnx
        split at h
        · exact mq_g_ifnonnull_0 C hd (ih _ _ _ _ _ _ hcs hss h)
        · exact mq_g_ifnonnull_1 C hd he (ih _ _ _ _ _ _ hcs hss h)
        · cases h
      case lookupswitch df ps =>
        obtain ⟨len, hd, hp, hx⟩ := ok
        split at h
        · rename_i x r
          have k := ih _ _ _ _ _ _ hcs hss h
          intro H locs ls ad refs hB hl hvl hvs
          exact lv_lookup C.1 C.2.1 hd hp rfl (hx x) (k H locs ls ad refs hB hl hvl (mq_vs_tl hvs))
        · cases h
      case tableswitch df lo hi offs =>
        obtain ⟨len, hd, ho, hx⟩ := ok
        split at h
        · rename_i x r
          have k := ih _ _ _ _ _ _ hcs hss h
          intro H locs ls ad refs hB hl hvl hvs
          have k := k H locs ls ad refs hB hl hvl (mq_vs_tl hvs)
          by_cases h1 : x.toInt < lo
          · exact lv_tableOut C.1 C.2.1 hd (Or.inl h1) (by rw [(ho x (Or.inl h1)).1]; exact (ho x (Or.inl h1)).2) k
          · by_cases h2 : hi < x.toInt
            · exact lv_tableOut C.1 C.2.1 hd (Or.inr h2) (by rw [(ho x (Or.inr h2)).1]; exact (ho x (Or.inr h2)).2) k
            · obtain ⟨off, h3, h4⟩ := hx x h1 h2
              exact lv_tableIn C.1 C.2.1 hd h1 h2 h3 h4 k
        · cases h
      case getfield ix =>
        obtain ⟨⟨hd, hnx⟩, he⟩ := ok
        subst hnx
        obtain ⟨C1, T, N, ty0, ⟨k1, k2, k3, k4, k5, k6⟩, hb, hlink, -, hsort⟩ := he
        split at h
        · rename_i q r
          split at h
          · rename_i hqa
            have hk : E.1 q.1 = (0, a, N) := by rw [hqa]; exact k1
            split at h
            · exact mq_g_get1 C h9 hk k2 k3 hb hsort.1 hlink hd (ih _ _ _ _ _ _ hcs hss h)
            · rename_i hne
              match sc, hsort, hne, h with
              | 0, hsort, _, h => exact mq_g_get0 C h9 hk k2 k3 hb hsort.1 hlink hd (ih _ _ _ _ _ _ hcs hss h)
              | 1, _, hne, _ => exact absurd rfl hne
              | 2, hsort, _, h => exact mq_g_get0 C h9 hk k2 k3 hb hsort.1 hlink hd (ih _ _ _ _ _ _ hcs hss h)
              | n + 3, hsort, _, _ => exact hsort.elim
          · cases h
        · cases h
      case putfield ix =>
        obtain ⟨⟨hd, hnx⟩, he⟩ := ok
        subst hnx
        obtain ⟨C1, T, N, ty0, ⟨k1, k2, k3, k4, k5, k6⟩, hb, hlink, hfin, hsort⟩ := he
        have hfin : (T b).2.2.2 = false ∨ ((T b).2.2.2 = true ∧ meth.name = "<init>" ∧ (T b).1 = own) := hfin.imp id (fun z => ⟨z.1, hini z.2.1, z.2.2⟩)
        split at h
        · rename_i x q r
          split at h
          · rename_i hqa
            have hk : E.1 q.1 = (0, a, N) := by rw [hqa]; exact k1
            match sc, hsort, h with
            | 0, hsort, h => exact mq_g_put0 C h9 hk k2 k3 ty0 k4 k5 hb hsort.1 hlink hfin (by rw [hsort.2]; rfl) (by rw [hsort.2]; rfl) hd (ih _ _ _ _ _ _ hcs hss h)
            | 1, _, h => cases h
            | 2, hsort, h =>
              have h : (if x = 0 ∨ x = 1 then _ else none) = some res := h
              split at h
              · rename_i hx
                exact mq_g_put0 C h9 hk k2 k3 ty0 k4 k5 hb hsort.1 hlink hfin (by rw [hsort.2]; rcases hx with rfl | rfl <;> rfl) (by rw [hsort.2]; rcases hx with rfl | rfl <;> rfl) hd (ih _ _ _ _ _ _ hcs hss h)
              · cases h
            | n + 3, hsort, _ => exact hsort.elim
          · cases h
        · rename_i w q r
          split at h
          · rename_i hqa
            have hk : E.1 q.1 = (0, a, N) := by rw [hqa]; exact k1
            match sc, hsort, h with
            | 0, _, h => cases h
            | 1, hsort, h =>
              have h : (if w = some mq_sr then none else _) = some res := h
              split at h
              · cases h
              · rename_i hw9
                exact mq_g_put1 C h9 hw9 hk k2 k3 ty0 k4 k5 hb hsort.1 hlink hfin hsort.2 hd (ih _ _ _ _ _ _ hcs hss h)
            | 2, _, h => cases h
            | n + 3, hsort, _ => exact hsort.elim
          · cases h
        · cases h
      case arraylength =>
        obtain ⟨⟨hd, hnx⟩, -⟩ := ok
        subst hnx
        split at h
        · rename_i q r
          split at h
          · rename_i ht
            exact mq_g_alen (z := ((E.1 q.1).2.2, .inl (M.2.1 q.1 q.2))) C h9 rfl (by rw [ht]; decide) (fun ad => mq_ceS (ci := (E.1 q.1).2.1) (.inl rfl) (by rw [← ht])) rfl htI hd (ih _ _ _ _ _ _ hcs hss h)
          · rename_i ht
            obtain ⟨C1, T, N, t0, -, hcl, ht0⟩ := htQ q.1 ht
            intro H locs ls ad refs hB hl hvl hvs
            have hm : q ∈ refs := mq_in h9 (hvs q List.mem_cons_self) rfl (by rw [ht]; decide)
            obtain ⟨j, hj⟩ := List.getElem?_of_mem hm
            have he := mq_W_at (E := E) (ad := ad) (M := M) hj
            rw [mq_ce3 (q := q) (ci := (E.1 q.1).2.1) (N := (E.1 q.1).2.2) (by rw [← ht])] at he
            exact va_alen C.1 C.2.1 C.2.2.2.2.2.1 hB.1 j t0 he ht0 rfl hd ((ih _ _ _ _ _ _ hcs hss h) H locs ls ad refs hB hl hvl (mq_vs_int (mq_vs_tl hvs)))
          · split at h
            · rename_i hq
              subst hq
              split at h
              · rename_i w hw
                exact mq_g_slen C (hscr _ rfl) hd (ih _ _ _ _ _ _ hcs hss h)
              · cases h
            · cases h
          · cases h
        · cases h
      case iaload =>
        obtain ⟨⟨hd, hnx⟩, -⟩ := ok
        subst hnx
        split at h
        · rename_i i q r
          split at h
          · rename_i ht
            split at h
            · cases h
            · rename_i hin
              exact mq_g_iald (ci := (E.1 q.1).2.1) (N := (E.1 q.1).2.2) C h9 (by rw [← ht]) htI hin hd (ih _ _ _ _ _ _ hcs hss h)
          · split at h
            · rename_i hq
              subst hq
              split at h
              · rename_i w hw
                split at h
                · cases h
                · rename_i hin
                  exact mq_g_sld C (hscr _ rfl) hin hd (ih _ _ _ _ _ _ hcs hss h)
              · cases h
            · cases h
          · cases h
        · cases h
      case baload =>
        obtain ⟨⟨hd, hnx⟩, -⟩ := ok
        subst hnx
        split at h
        · rename_i i q r
          split at h
          · rename_i ht
            split at h
            · cases h
            · rename_i hin
              exact mq_g_bald (ci := (E.1 q.1).2.1) (N := (E.1 q.1).2.2) C h9 (by rw [← ht]) htB hin hd (ih _ _ _ _ _ _ hcs hss h)
          · rename_i ht
            split at h
            · cases h
            · rename_i hin
              exact mq_g_zald (ci := (E.1 q.1).2.1) (N := (E.1 q.1).2.2) C h9 (by rw [← ht]) htZ hin hd (ih _ _ _ _ _ _ hcs hss h)
          · cases h
        · cases h
      case bastore =>
        obtain ⟨⟨hd, hnx⟩, -⟩ := ok
        subst hnx
        split at h
        · rename_i x i q r
          split at h
          · rename_i ht
            split at h
            · cases h
            · rename_i hin
              exact mq_g_bast (ci := (E.1 q.1).2.1) (N := (E.1 q.1).2.2) C h9 (by rw [← ht]) htB hin hd (ih _ _ _ _ _ _ hcs hss h)
          · rename_i ht
            split at h
            · cases h
            · rename_i hin
              split at h
              · rename_i hx
                exact mq_g_zast (ci := (E.1 q.1).2.1) (N := (E.1 q.1).2.2) C h9 (by rw [← ht]) htZ hin hx hd (ih _ _ _ _ _ _ hcs hss h)
              · cases h
          · cases h
        · cases h
      case ldc2_w n =>
        obtain ⟨⟨hd, hnx⟩, he⟩ := ok
        subst hnx
        exact mq_g_ldc2 C hd he (ih _ _ _ _ _ _ hcs hss h)
      case land =>
        obtain ⟨⟨hd, hnx⟩, -⟩ := ok
        subst hnx
        split at h
        · exact mq_g_land C hd (ih _ _ _ _ _ _ hcs hss h)
        · cases h
      case laload =>
        obtain ⟨⟨hd, hnx⟩, -⟩ := ok
        subst hnx
        split at h
        · rename_i i q r
          split at h
          · rename_i ht
            split at h
            · cases h
            · rename_i hin
              exact mq_g_lald (ci := (E.1 q.1).2.1) (N := (E.1 q.1).2.2) C h9 (by rw [← ht]) htL hin hd (ih _ _ _ _ _ _ hcs hss h)
          · cases h
        · cases h
      case aaload =>
        obtain ⟨⟨hd, hnx⟩, -⟩ := ok
        subst hnx
        split at h
        · rename_i i q r
          split at h
          · rename_i ht
            obtain ⟨C1, T, N, t0, -, hcl, ht0⟩ := htQ q.1 ht
            split at h
            · cases h
            · rename_i hin
              exact mq_g_aald (ci := (E.1 q.1).2.1) (N := (E.1 q.1).2.2) C h9 (by rw [← ht]) ht0 hin hd (ih _ _ _ _ _ _ hcs hss h)
          · cases h
        · cases h
      case iastore =>
        obtain ⟨⟨hd, hnx⟩, -⟩ := ok
        subst hnx
        split at h
        · rename_i x i q r
          split at h
          · rename_i ht
            split at h
            · cases h
            · rename_i hin
              exact mq_g_iast (ci := (E.1 q.1).2.1) (N := (E.1 q.1).2.2) C h9 (by rw [← ht]) htI hin hd (ih _ _ _ _ _ _ hcs hss h)
          · cases h
        · cases h
      case lastore =>
        obtain ⟨⟨hd, hnx⟩, -⟩ := ok
        subst hnx
        split at h
        · rename_i x i q r
          split at h
          · rename_i ht
            split at h
            · cases h
            · rename_i hin
              exact mq_g_last (ci := (E.1 q.1).2.1) (N := (E.1 q.1).2.2) C h9 (by rw [← ht]) htL hin hd (ih _ _ _ _ _ _ hcs hss h)
          · cases h
        · cases h
      case aastore =>
        obtain ⟨⟨hd, hnx⟩, -⟩ := ok
        subst hnx
        split at h
        · rename_i y i q r
          split at h
          · rename_i ht
            obtain ⟨C1, T, N, t0, hkc, hcl, ht0⟩ := htQ q.1 ht
            split at h
            · cases h
            · rename_i hin
              split at h
              · rename_i hy
                have hyk : y.1 = (E.1 q.1).2.1 := (htO y.1 hy.1).symm.trans hy.2
                exact mq_g_aast (ci := (E.1 q.1).2.1) (N := (E.1 q.1).2.2) C h9 (by rw [← ht]) (by rw [hyk]; exact hkc) hcl ht0 hin hd (ih _ _ _ _ _ _ hcs hss h)
              · cases h
          · cases h
        · cases h
      case new ix =>
        have hth := hth _ hmem ix rfl
        obtain ⟨⟨hd, hnx⟩, he⟩ := ok
        subst hnx
        split at h
        · rename_i hlim
          split at h
          · rename_i ht
            obtain ⟨hne, C1, T, N, ty0, ⟨k1, k2, k3, k4, k5, k6⟩, j1, j2, j3⟩ := he ht
            rw [k1] at hlim h
            exact mq_g_new C hne k1 k2 k3 ty0 k4 k6 j1 j2 j3 ⟨Nat.le_trans hlim.1 hR.2.2.1, Nat.le_trans hlim.2 hR.2.2.2⟩ hd (ih _ _ _ _ _ _ hlim.1 hlim.2 h)
          · rename_i ht
            split at h
            · cases h
              exact hth ht lv M cs ss rfl hlim.1 hlim.2
            · cases h
          · cases h
        · cases h
      case newarray t =>
        obtain ⟨⟨hd, hnx⟩, he⟩ := ok
        subst hnx
        obtain ⟨hne, hN, hs⟩ := he
        split at h
        · rename_i n r
          split at h
          · rename_i hlim
            obtain ⟨hn0, hlim⟩ := hlim
            subst hn0
            rcases hs with ⟨rfl, h1, h2⟩ | ⟨rfl, h1, h2⟩ | ⟨rfl, h1, h2⟩ | ⟨rfl, h1, h2⟩
            · exact mq_g_newi (ci := (E.1 a).2.1) C hne (by rw [← h1]) htI hN h2 ⟨Nat.le_trans hlim.1 hR.2.2.1, Nat.le_trans hlim.2 hR.2.2.2⟩ hd (ih _ _ _ _ _ _ hlim.1 hlim.2 h)
            · exact mq_g_newl (ci := (E.1 a).2.1) C hne (by rw [← h1]) htL hN h2 ⟨Nat.le_trans hlim.1 hR.2.2.1, Nat.le_trans hlim.2 hR.2.2.2⟩ hd (ih _ _ _ _ _ _ hlim.1 hlim.2 h)
            · exact mq_g_newb (ci := (E.1 a).2.1) C hne (by rw [← h1]) htB hN h2 ⟨Nat.le_trans hlim.1 hR.2.2.1, Nat.le_trans hlim.2 hR.2.2.2⟩ hd (ih _ _ _ _ _ _ hlim.1 hlim.2 h)
            · exact mq_g_newz (ci := (E.1 a).2.1) C hne (by rw [← h1]) htZ hN h2 ⟨Nat.le_trans hlim.1 hR.2.2.1, Nat.le_trans hlim.2 hR.2.2.2⟩ hd (ih _ _ _ _ _ _ hlim.1 hlim.2 h)
          · cases h
        · cases h
      case anewarray ix =>
        obtain ⟨⟨hd, hnx⟩, he⟩ := ok
        subst hnx
        obtain ⟨hne, hN, h1, C1, t0, ht0, hcl, hao⟩ := he
        split at h
        · rename_i n r
          split at h
          · rename_i hlim
            obtain ⟨hn0, hlim⟩ := hlim
            subst hn0
            exact mq_g_newq (ci := (E.1 a).2.1) C hne (by rw [← h1]) ht0 hN hcl (hao s C.2.2.2.2.2.2.2.1) ⟨Nat.le_trans hlim.1 hR.2.2.1, Nat.le_trans hlim.2 hR.2.2.2⟩ hd (ih _ _ _ _ _ _ hlim.1 hlim.2 h)
          · cases h
        · cases h
      case invokespecial ix =>
        obtain ⟨⟨hd, hnx⟩, he⟩ := ok
        subst hnx
        split at h
        · rename_i q as r hpop
          split at h
          · rename_i hr4
            cases a with
            | zero =>
              obtain ⟨hb, e1, e2, e3⟩ := he
              subst hb
              obtain ⟨hlen, hst⟩ := mq_pop_st hpop
              have has : as = [] := by simpa using hlen
              subst has
              have hst : st = .inr (.inl (some q)) :: r := hst
              subst hst
              exact mq_g_obj C e1 e2 e3 hr4 ⟨by have := hR.1; omega, by have := hR.2.1; omega⟩ hd (ih _ _ _ _ _ _ hcs hss h)
            | succ a =>
              obtain ⟨nA, hb, hk, hnm, hinst, hret⟩ := he
              dsimp only at h
              split at h
              · rename_i hlim
                split at h
                · rename_i w M' hc
                  obtain ⟨hlen, hst⟩ := mq_pop_st hpop
                  have hlen' : as.length = nA := by simp only [List.length_cons] at hlen; omega
                  have hf : cs + (mx a).1 ≤ R.cells ∧ ss + (mx a).2.1 ≤ R.slots := ⟨Nat.le_trans hlim.1 hR.2.2.1, Nat.le_trans hlim.2 hR.2.2.2⟩
                  rcases hk.2.2.1 with hl | ⟨host, hl⟩
                  · have hB := mq_callB (mx := mx) C hR hk hl
                    rw [hret] at hB
                    exact mq_g_callI C hpop (hcall _ _ _ _ _ hc) ⟨hB, hnm, C.2.2.2.2.1 _ hinst⟩ hlen' hr4 hf hd (ih _ _ _ _ _ _ hlim.1 hlim.2 h)
                  · have hB := mq_callN (mx := mx) C hR hk (hl s C.2.2.2.2.2.2.2.1)
                    rw [hret] at hB
                    exact mq_g_callIN C hpop (hcall _ _ _ _ _ hc) ⟨hB, hnm, C.2.2.2.2.1 _ hinst⟩ hlen' hr4 hf hd (ih _ _ _ _ _ _ hlim.1 hlim.2 h)
                · cases h
              · cases h
          · cases h
        · cases h
      case invokevirtual ix =>
        obtain ⟨⟨hd, hnx⟩, he⟩ := ok
        subst hnx
        obtain ⟨nA, qC, hb, hk, hinst, hqC, hsel⟩ := he
        split at h
        · rename_i q as r hpop
          split at h
          · rename_i hlim
            obtain ⟨t1, t2, hr4, hlim⟩ := hlim
            split at h
            · rename_i w M' hc
              obtain ⟨hlen, hst⟩ := mq_pop_st hpop
              exact mq_g_callV (ci := (E.1 q.1).2.1) (N := (E.1 q.1).2.2) C h9 hpop (by rw [← t1]) (by rw [t2]; exact hqC) (hcall _ _ _ _ _ hc) ⟨mq_callB C hR hk hk.2.2.1, C.2.2.2.2.1 _ hinst, C.2.2.2.2.1 _ hsel⟩ (by simp only [List.length_cons] at hlen; omega) hr4 ⟨Nat.le_trans hlim.1 hR.2.2.1, Nat.le_trans hlim.2 hR.2.2.2⟩ hd (ih _ _ _ _ _ _ hlim.1 hlim.2 h)
            · rename_i x M' hc
              split at h
              · rename_i hp hhp
                exact hcat _ _ _ _ _ _ _ hmem _ _ _ _ _ _ _ _ _ _ _ hpop t1 t2 hr4 hlim.1 hlim.2 hc hhp (ih _ _ _ _ _ _ hlim.1 hlim.2 h)
              · cases h
            · cases h
          · cases h
        · cases h
      case invokestatic ix =>
        obtain ⟨⟨hd, hnx⟩, he⟩ := ok
        subst hnx
        split at h
        · obtain ⟨e1, e2, e3, e4⟩ := he
          split at h
          · split at h
            · rename_i hr4
              exact mq_g_min C e1 e2 e3 e4 hr4 ⟨by have := hR.1; omega, by have := hR.2.1; omega⟩ ⟨Nat.le_trans hcs hR.2.2.1, Nat.le_trans hss hR.2.2.2⟩ hd (ih _ _ _ _ _ _ hcs hss h)
            · cases h
          · cases h
        · rename_i hne7
          split at h
          · rename_i as r hpop
            split at h
            · rename_i hlim
              obtain ⟨hr4, hlim⟩ := hlim
              split at h
              · rename_i w M' hc
                obtain ⟨hlen, hst⟩ := mq_pop_st hpop
                by_cases h8 : sc = 8
                · subst h8
                  exact hcw _ _ _ _ _ _ hmem _ _ _ _ _ _ _ _ _ hpop hr4 hlim.1 hlim.2 hc (ih _ _ _ _ _ _ hlim.1 hlim.2 h)
                · have he : mq_okk Ts Z a b (Jvm.Cond.methodLink own ix (Z.1 a) ∈ Ts ∨ ∃ host, ∀ s : State, X s → va_Nw (.methodLinkNest own ix (Z.1 a) host) s) ∧ Jvm.Cond.static (Z.1 a) ∈ Ts := by
                    unfold mq_ext at he
                    dsimp only at he
                    split at he
                    · exact absurd rfl hne7
                    · exact absurd rfl h8
                    · exact he
                  obtain ⟨hk, hstt⟩ := he
                  have hf : cs + (mx a).1 ≤ R.cells ∧ ss + (mx a).2.1 ≤ R.slots := ⟨Nat.le_trans hlim.1 hR.2.2.1, Nat.le_trans hlim.2 hR.2.2.2⟩
                  rcases hk.2.2.1 with hl | ⟨host, hl⟩
                  · exact mq_g_callS C hpop (hcall _ _ _ _ _ hc) ⟨mq_callB C hR hk hl, C.2.2.2.2.1 _ hstt⟩ hlen hr4 hf hd (ih _ _ _ _ _ _ hlim.1 hlim.2 h)
                  · exact mq_g_callSN C hpop (hcall _ _ _ _ _ hc) ⟨mq_callN C hR hk (hl s C.2.2.2.2.2.2.2.1), C.2.2.2.2.1 _ hstt⟩ hlen hr4 hf hd (ih _ _ _ _ _ _ hlim.1 hlim.2 h)
              · cases h
            · cases h
          · cases h
      case ireturn =>
        obtain ⟨⟨hd, -⟩, he⟩ := ok
        split at h
        · rename_i x
          split at h
          · split at h
            · rename_i hx
              cases h
              exact hri _ _ _ _ _ _ hd (he.imp (fun z => ⟨z.1, hx⟩) id) rfl hcs hss
            · cases h
          · rename_i hne
            cases h
            exact hri _ _ _ _ _ _ hd (he.imp (fun z => absurd z.2 hne) id) rfl hcs hss
        · cases h
      case areturn =>
        obtain ⟨⟨hd, -⟩, he⟩ := ok
        split at h
        · cases h
          exact hra _ _ _ _ _ _ hd he rfl hcs hss
        · cases h
      case return_ =>
        obtain ⟨⟨hd, -⟩, he⟩ := ok
        split at h
        · cases h
          exact hrv _ _ _ _ _ hd he rfl hcs hss
        · cases h
end MQX
end
section
/-! Every method by its number: what the machine answers at depth d is its contract. -/
theorem mq_lv_args (ad : Nat × Nat → Nat) : ∀ (as : List mLV) (i : Nat), lv_args i (as.map (mq_cl ad)) = mq_lm ad (mq_en i as)
  | [], _ => rfl
  | v :: r, i => by
    have h := mq_lv_args ad r (i + 1)
    simp only [List.map_cons, lv_args, mq_cl_cat, mq_en, mq_lm] at h ⊢
    rw [if_neg (by decide), h]
theorem mq_sl_len (ad : Nat × Nat → Nat) : ∀ as : List mLV, (lg_sl (as.map (mq_cl ad))).length = as.length
  | [] => rfl
  | v :: r => by
    have h := mq_sl_len ad r
    simp only [lg_sl, List.map_cons, List.flatMap_cons, mq_cl_cat, List.length_append, List.length_cons] at h ⊢
    rw [if_neg (by decide), h]
    simp only [List.length_cons, List.length_nil]
    omega
theorem mq_en_mem {as : List mLV} {v : mLV} : ∀ {i j : Nat}, (j, v) ∈ mq_en i as → v ∈ as := by
  induction as with
  | nil => intro i j h; cases h
  | cons w r ih =>
    intro i j h
    rcases List.mem_cons.mp h with h | h
    · rw [(Prod.mk.inj h).2]; exact List.mem_cons_self
    · exact List.mem_cons_of_mem _ (ih h)
/-- a method's own rows are in order -/
def mq_okm (cl : List vw_C) (tys : List (ClassId × FieldType)) (E : mEv) (Z : mCe) (sw : Nat → List (Int32 × Nat)) (mx : Nat → Nat × Nat × Nat) (X : State → Prop) (mi : Nat) (code : List mEn) : Prop :=
  plainName (Z.1 mi).cls = true ∧ (code.all fun en => en.2.2.2.2.2.1 != 8) = true ∧ ∀ en ∈ code, mq_ok (Z.2.1 mi) (Z.2.2.1 mi) (Z.1 mi).cls (mq_ws Z mi) cl tys E Z sw mx (decide ((Z.1 mi).name = "<init>")) (Z.2.2.2.1 mi) X en
set_option maxHeartbeats 4000000 in
theorem mq_sound {l : Launch} {E : mEv} {D : va_G} {cl : List vw_C} {tys : List (ClassId × FieldType)} {Z : mCe} {sw : Nat → List (Int32 × Nat)} {hn : Nat → Nat → Option Nat} {mx : Nat → Nat × Nat × Nat} {X : State → Prop} {cd : Nat → List mEn} {F : Nat}
    (hXs : ∀ u U : State, u.WarmedH U.vm → X u → X U) (h9 : (E.1 999).1 = 9) {tI tL tB tZ : Nat} (htI : tys[tI]? = some (E.2.2 1, .int)) (htL : tys[tL]? = some (E.2.2 2, .long)) (htB : tys[tB]? = some (E.2.2 4, .byte)) (htZ : tys[tZ]? = some (E.2.2 5, .boolean))
    (htQ : ∀ k, (E.1 k).1 = 3 → ∃ (C1 : String) (T : u_T) (N t0 : Nat), E.1 (E.1 k).2.1 = (0, (E.1 k).2.1, N) ∧ cl[(E.1 k).2.1]? = some (C1, T, N) ∧ tys[t0]? = some (E.2.2 (100 + (E.1 k).2.1), .object C1))
    (htO : ∀ k, (E.1 k).1 = 0 → (E.1 k).2.1 = k) (hnh : ∀ q w, hn q w = none)
    (hok : ∀ mi, cd mi ≠ [] → mq_okm cl tys E Z sw mx X mi (cd mi)) :
    ∀ (d mi : Nat) (as : List mLV) (M : mMm) (rv : Option mLV) (M' : mMm), mq_ex E.1 sw hn mx Z.2.2.1 cd F d mi as M = some (.inl rv, M') → mq_Met l X E D cl tys (Z.1 mi) (mq_ws Z mi) (mq_rm mx d mi) (mx mi).1 (mx mi).2.1 as M rv M' := by
  intro d
  induction d with
  | zero => intro mi as M rv M' h; cases h
  | succ d ih =>
    intro mi as M rv M' h ad refs sz hV hva
    have h : (if as.length ≤ Z.2.2.1 mi then mq_loop E.1 sw hn mx (mq_ex E.1 sw hn mx Z.2.2.1 cd F d) (cd mi) (mx mi) none F 0 (mq_en 0 as) [] M 0 0 else none) = some (.inl rv, M') := h
    split at h
    · rename_i hlen
      have hne : cd mi ≠ [] := by
        intro h0
        rw [h0] at h
        cases F with
        | zero => cases h
        | succ f => cases h
      obtain ⟨hpl, hno8, hrows⟩ := hok mi hne
      refine Met.ofW (cc := Z.2.1 mi) (maxL := Z.2.2.1 mi) (ret := Z.2.2.2.1 mi) hpl rfl ?_
      intro p e s m args below meth c s₁ B hml hv
      obtain ⟨rfl, hsz, hP, hK, hD0, hX⟩ := hv
      have hr := B.returns
      have hts := atoms_spec (ws := mq_ws Z mi) B.pre
      have hown : s.vm.findClass (Z.1 mi).cls = some m.cls := findClass_of_methodNamed B.named
      have hlocks := B.notSynchronized
      have hname : meth.name = (Z.1 mi).name := (name_of_methodNamed B.named B.method).1
      subst hsz
      have hD := hD0.self (sz := s.heap.size)
      have C : mq_C p s m (as.map (mq_cl ad)).toArray c (Z.2.1 mi) (Z.2.2.1 mi) (Z.1 mi).cls (mq_ws Z mi) D cl tys (va_A (mq_W E ad refs M) s.heap.size) X := ⟨B.exec, B.bytes, hml, hown, hts, hK, fun q h => Or.inr h, hX, hXs⟩
      have hl := lv_entry (as.map (mq_cl ad)) (n := Z.2.2.1 mi) (by rw [mq_sl_len]; exact hlen)
      rw [lg_entry_eq]
      generalize (lg_sl (as.map (mq_cl ad)) ++ List.replicate (Z.2.2.1 mi - (lg_sl (as.map (mq_cl ad))).length) Slot.unset).toArray = ls at hl ⊢
      rw [mq_lv_args] at hl
      exact mq_main (res := (.inl rv, M')) (rt := Z.2.2.2.1 mi) (lim := mx mi) (d := d) C h9 (fun hi => by rw [hname]; exact of_decide_eq_true hi) htI htL htB htZ htQ htO hrows (fun a as M rv M' h => ih a as M rv M' h) ⟨Nat.le_refl _, Nat.le_refl _, Nat.le_refl _, Nat.le_refl _⟩ (fun w h => by cases h) (fun pc ix nx a b sc v _ lv st M cs ss q as r x M' hp _ _ _ _ _ _ _ hh => by rw [hnh] at hh; cases hh)
        (fun pc ix nx a b v hm lv st M cs ss as r w M' _ _ _ _ _ _ => by have h8 := List.all_eq_true.mp hno8 _ hm; cases h8)
        (fun pc lv x M1 cs ss hd hb he hcs hss => by
          cases he
          rcases hb with ⟨hb, hx⟩ | hb
          · exact mq_r_int C (ty := .boolean) (hr.trans hb) (by rcases hx with rfl | rfl <;> rfl) hlocks hcs hss hd
          · exact mq_r_int C (ty := .int) (hr.trans hb) rfl hlocks hcs hss hd)
        (fun pc lv w M1 cs ss hd hb he hcs hss => by
          cases he
          obtain ⟨ty, hb, hty⟩ := hb
          exact mq_r_ref C (ty := ty) (hr.trans hb) hty hlocks hcs hss hd)
        (fun pc lv M1 cs ss hd hb he hcs hss => by
          cases he
          exact mq_r_void C (hr.trans hb) hlocks hcs hss hd)
        (fun en _ ix _ _ lv M1 cs ss he _ _ => by cases he)
        F 0 (mq_en 0 as) [] M 0 0 (Nat.zero_le _) (Nat.zero_le _) h s.heap [] ls ad refs ⟨hP, hD, va_S.rf, hV, fun _ h => h, fun _ _ => rfl⟩ hl (fun i r h => hva r (mq_en_mem h)) (fun r h => by cases h)
    · cases h
end
section
/-! A method's rows, by program: its bytes decoded at once, the rest row by row. -/
def mq_swok (pc : Nat) : Int → List (Int32 × Nat) → List Int → Prop
  | _, [], [] => True
  | lo, q :: P, o :: os => q.1.toInt = lo ∧ (pc : Int) + o = (q.2 : Int) ∧ mq_swok pc (lo + 1) P os
  | _, _, _ => False
def mq_lsok (pc : Nat) : List (Int32 × Nat) → List (Int × Int) → Prop
  | [], [] => True
  | q :: P, o :: os => q.1.toInt = o.1 ∧ (pc : Int) + o.2 = (q.2 : Int) ∧ mq_lsok pc P os
  | _, _ => False
theorem mq_swok_out {pc a : Nat} {x : Int32} : ∀ {P : List (Int32 × Nat)} {lo : Int} {os : List Int}, mq_swok pc lo P os → (x.toInt < lo ∨ lo + P.length ≤ x.toInt) → mq_swt x a P = a
  | [], _, [], _, _ => rfl
  | [], _, _ :: _, h, _ => h.elim
  | _ :: _, _, [], h, _ => h.elim
  | q :: P, lo, o :: os, h, hx => by
    obtain ⟨h1, h2, h3⟩ := h
    have hne : ¬ x = q.1 := by
      intro e
      rw [e, h1] at hx
      simp only [List.length_cons] at hx
      omega
    unfold mq_swt
    rw [if_neg hne]
    exact mq_swok_out h3 (by simp only [List.length_cons] at hx; omega)
theorem mq_swok_in {pc a : Nat} {x : Int32} : ∀ {P : List (Int32 × Nat)} {lo : Int} {os : List Int}, mq_swok pc lo P os → lo ≤ x.toInt → x.toInt < lo + P.length → ∃ off, os[(x.toInt - lo).toNat]? = some off ∧ (pc : Int) + off = (mq_swt x a P : Nat)
  | [], lo, _, _, h1, h2 => by simp only [List.length_nil] at h2; omega
  | _ :: _, _, [], h, _, _ => h.elim
  | q :: P, lo, o :: os, h, h1, h2 => by
    obtain ⟨g1, g2, g3⟩ := h
    by_cases e : x = q.1
    · refine ⟨o, ?_, ?_⟩
      · rw [e, g1, Int.sub_self]; rfl
      · unfold mq_swt
        rw [if_pos e]
        exact g2
    · have hlt : lo < x.toInt := by
        rcases Int.lt_or_eq_of_le h1 with h | h
        · exact h
        · exact absurd (Int32.toInt_inj.mp (by rw [g1, ← h])) e
      obtain ⟨off, k1, k2⟩ := mq_swok_in (a := a) (x := x) g3 (by omega) (by simp only [List.length_cons] at h2; omega)
      refine ⟨off, ?_, ?_⟩
      · have e2 : (x.toInt - lo).toNat = (x.toInt - (lo + 1)).toNat + 1 := by omega
        rw [e2, List.getElem?_cons_succ]
        exact k1
      · unfold mq_swt
        rw [if_neg e]
        exact k2
theorem mq_lsok_at {pc a : Nat} {d : Int} {x : Int32} (hd : (pc : Int) + d = (a : Int)) : ∀ {P : List (Int32 × Nat)} {os : List (Int × Int)}, mq_lsok pc P os → (pc : Int) + Op.lookupswitch.offset os d x.toInt = (mq_swt x a P : Nat)
  | [], [], _ => hd
  | [], _ :: _, h => h.elim
  | _ :: _, [], h => h.elim
  | q :: P, (k, o) :: os, h => by
    obtain ⟨g1, g2, g3⟩ := h
    unfold mq_swt
    rw [Op.lookupswitch.offset_cons]
    by_cases e : x = q.1
    · rw [if_pos (by rw [e]; exact g1.symm), if_pos e]
      exact g2
    · rw [if_neg (fun z => e (Int32.toInt_inj.mp (by rw [g1]; exact z.symm))), if_neg e]
      exact mq_lsok_at hd g3
def mq_okx (nL : Nat) (own : String) (Ts : List Cond) (cl : List vw_C) (tys : List (ClassId × FieldType)) (E : mEv) (Z : mCe) (sw : Nat → List (Int32 × Nat)) (mx : Nat → Nat × Nat × Nat) (ini : Bool) (rt : Option FieldType) (X : State → Prop) : mEn → Prop
  | (pc, ins, nx, a, b, c, v) =>
    match ins with
    | .tableswitch d lo hi offs => (pc : Int) + d = (a : Int) ∧ hi + 1 = lo + (sw b).length ∧ mq_swok pc lo (sw b) offs.toList
    | .lookupswitch d ps => (pc : Int) + d = (a : Int) ∧ (ps.toList.zip (ps.toList.drop 1)).all (fun (a, next) => a.1 < next.1) = true ∧ mq_lsok pc (sw b) ps.toList
    | ins => nx = pc + mq_len ins ∧ mq_ext nL own Ts cl tys E Z mx ini rt X (pc, ins, nx, a, b, c, v)
def mq_all (P : mEn → Prop) : List mEn → Prop
  | [] => True
  | e :: r => P e ∧ mq_all P r
theorem mq_all_mem {P : mEn → Prop} : ∀ {l : List mEn}, mq_all P l → ∀ e ∈ l, P e
  | [], _, e, h => by cases h
  | w :: r, hp, e, h => by
    rcases List.mem_cons.mp h with h | h
    · rw [h]; exact hp.1
    · exact mq_all_mem hp.2 e h
set_option maxHeartbeats 4000000 in
set_option maxRecDepth 100000 in
theorem mq_ok_of {cc : ByteArray} {nL : Nat} {own : String} {Ts : List Cond} {cl : List vw_C} {tys : List (ClassId × FieldType)} {E : mEv} {Z : mCe} {sw : Nat → List (Int32 × Nat)} {mx : Nat → Nat × Nat × Nat} {ini : Bool} {rt : Option FieldType} {X : State → Prop} {code : List mEn}
    (hd : ∀ en ∈ code, decode cc en.1 = .ok (en.2.1, en.2.2.1 - en.1)) (hx : mq_all (mq_okx nL own Ts cl tys E Z sw mx ini rt X) code) : ∀ en ∈ code, mq_ok cc nL own Ts cl tys E Z sw mx ini rt X en := by
  intro en hen
  have h1 := hd en hen
  have h2 := mq_all_mem hx en hen
  obtain ⟨pc, ins, nx, a, b, c, v⟩ := en
  dsimp only at h1
  cases ins
  case tableswitch d lo hi offs =>
    obtain ⟨g1, g2, g3⟩ := h2
    refine ⟨_, h1, fun x hx => ⟨mq_swok_out g3 (by omega), g1⟩, fun x k1 k2 => ?_⟩
    obtain ⟨off, e1, e2⟩ := mq_swok_in (a := a) (x := x) g3 (by omega) (by omega)
    exact ⟨off, by rw [← Array.getElem?_toList]; exact e1, e2⟩
  case lookupswitch d ps =>
    obtain ⟨g1, g2, g3⟩ := h2
    exact ⟨_, h1, g2, fun x => mq_lsok_at g1 g3⟩
  all_goals
    obtain ⟨g1, g2⟩ := h2
    refine ⟨⟨?_, g1⟩, g2⟩
    rw [g1, Nat.add_sub_cancel_left] at h1
    exact h1
end
